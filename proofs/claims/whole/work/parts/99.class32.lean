set_option maxRecDepth 100000 in
set_option maxHeartbeats 4000000 in
theorem b_pass {G : xG} {σ : xS} {x m : Nat} {X Y bd : Nat → Int32} {hi : Int32} {rr : Nat} {nr nb ns np nn nt na dy : Nat} {t : xT} (hB : BK G σ x m X Y bd hi rr nr nb ns np nn nt t) (hK : OK X nr nb t ns np nn nt na dy) (hW : okW X) (hPa9 : okPt X) (n : Int32) : CI G yX6_pass cX6_pass 3 (some .int) 7 0 0 [.ref x, .int n] σ (fun z σ1 => z = (v_pass X t nr nb dy n).1 ∧ ST G σ1 x m (v_pass X t nr nb dy n).2 Y bd hi rr ∧ hi9 X (v_pass X t nr nb dy n).2 ∧ OffB x σ σ1) := by
  refine Met.ofX (by decide +kernel) (Nat.le_of_ble_eq_true rfl) (fun μ Xc hQ hnm => ?_)
  have Xc : xC G μ cX6_pass 3 RX6 (some .int) 7 0 0 := Xc
  obtain ⟨hSA, ⟨hgA, hgO⟩, hxm, hms, ⟨Fx, Ax, hx, hF7⟩, ⟨tw, htw, hXn⟩, ⟨F5, T5, A5, hP5⟩, ⟨Fp, Tp, Ap, hPp, hRP⟩, ⟨Fg, Tg, Ag, hPg⟩, ⟨Fa, Ta, Aa, hPa, hFa1, hAa⟩, hBI⟩ := id hB
  obtain ⟨htw1, htw2, htw3⟩ := id htw
  obtain ⟨hG, hT, hS, hPl, hNo, hTa, hA, hJ, hR, hD⟩ := id hK
  have hr4 := hG.r4
  have hb7 := hG.b7
  have hs6 := hS.1
  have hp8 := hPl.1
  have hn8 := hNo.1
  have ht100 := hTa.1
  have ha5 := hA.1
  have hdy := hD.1
  have hd0 := hD.2
  have ht13 : tw ≠ x + 13 := by omega
  have hb8 : ns ≤ 6 ∧ np ≤ 8 ∧ nn ≤ 8 ∧ nt ≤ 100 := ⟨hs6, hp8, hn8, ht100⟩
  show Ev G μ 3 0 0 0 [(0, .ref x), (1, .int n)] [] σ
  obtain ⟨Fw1, Tw1, Aw1, hBw1, htw1⟩ := id hXn
  have hWw1 := hBw1.2.1
  refine e_iload_n (pc := 0) Xc (dT hX6_pass 0 rfl) 1 rfl ?_
  refine cl_X6_165 (pc := 1) (k := 0) (n := 0) (S := []) Xc (c6_isDays n) (dT hX6_pass 1 rfl) rfl (Nat.le_of_ble_eq_true rfl) (Nat.le_of_ble_eq_true rfl) (Nat.le_of_ble_eq_true rfl) rfl (Nat.le_of_ble_eq_true rfl) (fun r2 σ3 hq4 => ?_)
  obtain ⟨r2e, r2s⟩ := hq4
  have r2e := r2e.symm; subst r2e; have r2s := r2s.symm; subst r2s
  refine e_if_ne (tgt := 10) (pc := 4) Xc (dT hX6_pass 2 rfl) rfl (fun c4 => ?_) (fun c4 => ?_)
  · skip
    obtain ⟨kn_, hkn_, rfl⟩ := in_N (w := n) (n := 40) (by omega) (by have hcc := c4; simp only [bI_0, bI_1, Bool.not_eq_true, Bool.not_eq_false] at hcc; exact hcc)
    have hc_kn_ : cl (nI kn_) = kn_ := cl_nI (by omega)
    refine e_aload_n (pc := 10) Xc (dT hX6_pass 5 rfl) 0 rfl ?_
    refine gf_X6_12 (pc := 11) Xc (dT hX6_pass 6 rfl) hx.o rfl ?_
    refine e_refv (b := x + 1) rfl ?_
    refine gf_X6_139 (pc := 14) Xc (dT hX6_pass 7 rfl) hBw1.1.o rfl ?_
    refine e_val (y := X 0) hWw1.day ?_
    refine e_val (y := nI dy) hD.2 ?_
    refine e_iload_n (pc := 17) Xc (dT hX6_pass 8 rfl) 1 rfl ?_
    refine e_iaddN (a := dy) (b := kn_) (pc := 18) Xc (dT hX6_pass 9 rfl) ?_
    refine e_sipush (v := 9999) (pc := 19) Xc (dT hX6_pass 10 rfl) rfl ?_
    refine e_icmp_leN (x := dy + kn_) (y := 9999) (tgt := 28) (pc := 22) Xc (dT hX6_pass 11 rfl) rfl (by omega) (by omega) (fun c22 => ?_) (fun c22 => ?_)
    · skip
      have hnl_ : ¬ 9999 < dy + kn_ := by omega
      refine e_aload_n (pc := 28) Xc (dT hX6_pass 14 rfl) 0 rfl ?_
      refine gf_X6_12 (pc := 29) Xc (dT hX6_pass 15 rfl) hx.o rfl ?_
      refine e_refv (b := x + 1) rfl ?_
      refine cl_X6_155 (pc := 32) (k := 0) (n := 0) (S := []) Xc hBw1.1.o (c5_learnAnew ⟨Fw1, Tw1, Aw1, hBw1, htw1⟩ (by omega : dy ≤ 20000) hd0) (dT hX6_pass 16 rfl) rfl (Nat.le_of_ble_eq_true rfl) (Nat.le_of_ble_eq_true rfl) (Nat.le_of_ble_eq_true rfl) rfl (Nat.le_of_ble_eq_true rfl) (fun σ6 hq7 => ?_)
      obtain ⟨hT8, ho9⟩ := hq7
      have hP10 := hx.off ho9 (by omega)
      have hP11 := hP5.off ho9 (by omega)
      have hP12 := hPp.off ho9 (by omega)
      have hP13 := hPg.off ho9 (by omega)
      have hP14 := hPa.off ho9 (by omega)
      obtain ⟨lnw15, hXw15, hdlw15, hd0w15, hbtw15⟩ := id hT8
      obtain ⟨Fw15, Tw15, Aw15, hBw15, htw15⟩ := id hXw15
      have hWw15 := hBw15.2.1
      refine e_iconst (v := 0) (pc := 35) Xc (dT hX6_pass 17 rfl) rfl ?_
      refine e_istore_n (L' := [(2, .int 0), (0, .ref x), (1, .int (nI kn_))]) (pc := 36) Xc (dT hX6_pass 18 rfl) (by decide) rfl ?_
      have lp37 : ∀ (n37 : Nat) (d_ : Nat) (σ2 : xS), kn_ - d_ < n37 → (d_ ≤ kn_) → (WL σ2 (x + 1) tw (daysF X t nr nb d_).2 nr nb t (dy + d_)) → (Off (x + 1) σ6 σ2) → Ev G μ 3 0 0 37 [(0, .ref x), (1, .int (nI kn_)), (2, .int (nI d_))] [] σ2 := by
        intro n37
        induction n37 with
        | zero => intro d_ σ2 hn; exact absurd hn (Nat.not_lt_zero _)
        | succ n37 ih37 =>
          intro d_ σ2 hn37 hd_ hT2 hO2
          have hP16 := hP10.off hO2 (by omega)
          have hP17 := hP11.off hO2 (by omega)
          have hP18 := hP12.off hO2 (by omega)
          have hP19 := hP13.off hO2 (by omega)
          have hP20 := hP14.off hO2 (by omega)
          obtain ⟨lnw21, hXw21, hdlw21, hd0w21, hbtw21⟩ := id hT2
          obtain ⟨Fw21, Tw21, Aw21, hBw21, htw21⟩ := id hXw21
          have hWw21 := hBw21.2.1
          refine e_iload_n (pc := 37) Xc (dT hX6_pass 19 rfl) 2 rfl ?_
          refine e_iload_n (pc := 38) Xc (dT hX6_pass 20 rfl) 1 rfl ?_
          refine e_icmp_geN (x := d_) (y := kn_) (tgt := 56) (pc := 39) Xc (dT hX6_pass 21 rfl) rfl (by omega) (by omega) (fun c39 => ?_) (fun c39 => ?_)
          · skip
            refine e_aload_n (pc := 56) Xc (dT hX6_pass 28 rfl) 0 rfl ?_
            refine gf_X6_12 (pc := 57) Xc (dT hX6_pass 29 rfl) hP16.o rfl ?_
            refine e_refv (b := x + 1) rfl ?_
            refine gf_X6_139 (pc := 60) Xc (dT hX6_pass 30 rfl) hBw21.1.o rfl ?_
            refine e_val (y := ((daysF X t nr nb d_).2) 0) hWw21.day ?_
            refine e_iret (pc := 63) Xc hQ (dT hX6_pass 31 rfl) (Nat.le_refl _) (Nat.le_refl _) ?_
            have hde_ : d_ = kn_ := by omega
            subst hde_
            have h19_ : (daysF X t nr nb d_).2 19 = X 19 := days_hi hr4 (by omega) d_
            have hz : v_pass X t nr nb dy (nI d_) = ((daysF X t nr nb d_).2 0, (daysF X t nr nb d_).2) := by
              try simp only [bI_0, bI_1, Bool.not_eq_true, Bool.not_eq_false] at c4 c22 c39
              first | (simp [v_pass, c4, c22, c39, hc_kn_, hnl_]; done) | (clear hB hK hSA hx hXn hP5 hPp hRP hPg hPa hBI hG hT hS hPl hNo hTa hA hJ hR hD hQ Xc; simp_all [v_pass]; done)
            obtain ⟨hk1_, hk2_⟩ := OK.low hK hW (fun j hj => days_hi hr4 (by omega) d_) (days_ok hG hT d_).1 (days_ok hG hT d_).2 (hJ.days hr4 d_) ⟨by omega, days_day hd0 d_⟩
            have ex_ : ∀ j, 44 ≤ j → ((daysF X t nr nb d_).2) j = X j := (fun j hj => days_hi hr4 (by omega) d_)
            obtain ⟨hb_, ho_⟩ := BK.world (X' := (daysF X t nr nb d_).2) hB hs6 hp8 hn8 ht100 (ho9.tr hO2) ⟨tw, htw.sz (Nat.le_of_eq (ho9.tr hO2).sz.symm), (WX.stale ⟨Fw21, Tw21, Aw21, hBw21, htw21⟩)⟩ (fun j hj _ => ex_ j hj)
            rw [hz]
            dsimp only
            exact ⟨rfl, ⟨nr, nb, ns, np, nn, nt, na, dy + d_, t, hb_, hk1_, hk2_, hPa9.cg (h19_) (fun j hj => ex_ j (by omega))⟩, fun j hj => ex_ j (by omega), ho_⟩
          · skip
            refine e_aload_n (pc := 42) Xc (dT hX6_pass 22 rfl) 0 rfl ?_
            refine gf_X6_12 (pc := 43) Xc (dT hX6_pass 23 rfl) hP16.o rfl ?_
            refine e_refv (b := x + 1) rfl ?_
            refine cl_X6_168 (pc := 46) (k := 0) (n := 0) (S := []) Xc hBw21.1.o (c5_goDay ⟨lnw21, ⟨Fw21, Tw21, Aw21, hBw21, htw21⟩, hdlw21, hd0w21, hbtw21⟩ (by omega)) (dT hX6_pass 24 rfl) rfl (Nat.le_of_ble_eq_true rfl) (Nat.le_of_ble_eq_true rfl) (Nat.le_of_ble_eq_true rfl) rfl (Nat.le_of_ble_eq_true rfl) (fun r22 σ23 hq24 => ?_)
            obtain ⟨r22e, hT25, ho26⟩ := hq24
            have hP27 := hP16.off ho26 (by omega)
            have hP28 := hP17.off ho26 (by omega)
            have hP29 := hP18.off ho26 (by omega)
            have hP30 := hP19.off ho26 (by omega)
            have hP31 := hP20.off ho26 (by omega)
            obtain ⟨lnw32, hXw32, hdlw32, hd0w32, hbtw32⟩ := id hT25
            obtain ⟨Fw32, Tw32, Aw32, hBw32, htw32⟩ := id hXw32
            have hWw32 := hBw32.2.1
            refine e_pop (pc := 49) Xc (dT hX6_pass 25 rfl) rfl ?_
            refine e_iincN (a := d_) (b := 1) (L' := [(2, .int (nI (d_ + 1))), (0, .ref x), (1, .int (nI kn_))]) (pc := 50) Xc (dT hX6_pass 26 rfl) 2 rfl rfl (by decide) rfl ?_
            refine e_goto (tgt := 37) (pc := 53) Xc (dT hX6_pass 27 rfl) rfl ?_
            refine Ev.pick (L' := [(0, .ref x), (1, .int (nI kn_)), (2, .int (nI (d_ + 1)))]) [1, 2, 0] rfl ?_
            exact ih37 (d_ + 1) σ23 (by omega) (by omega) (⟨lnw32, ⟨Fw32, Tw32, Aw32, hBw32, htw32⟩, hdlw32, hd0w32, hbtw32⟩) (hO2.tr ho26)
      refine Ev.pick (L' := [(0, .ref x), (1, .int (nI kn_)), (2, .int 0)]) [1, 2, 0] rfl ?_
      exact lp37 ((kn_ - 0) + 1) 0 σ6 (Nat.lt_succ_self _) (Nat.zero_le _) (⟨lnw15, ⟨Fw15, Tw15, Aw15, hBw15, htw15⟩, hdlw15, hd0w15, hbtw15⟩) Off.rf
    · skip
      have hnl_ : 9999 < dy + kn_ := by omega
      refine e_bipush (v := -3) (pc := 25) Xc (dT hX6_pass 12 rfl) rfl ?_
      refine e_iret (pc := 27) Xc hQ (dT hX6_pass 13 rfl) (Nat.le_refl _) (Nat.le_refl _) ?_
      have hz : v_pass X t nr nb dy (nI kn_) = ((-3), X) := by
        try simp only [bI_0, bI_1, Bool.not_eq_true, Bool.not_eq_false] at c4 c22
        first | (simp [v_pass, c4, c22, hc_kn_, hnl_]; done) | (clear hB hK hSA hx hXn hP5 hPp hRP hPg hPa hBI hG hT hS hPl hNo hTa hA hJ hR hD hQ Xc; simp_all [v_pass]; done)
      rw [hz]
      exact ⟨rfl, ⟨nr, nb, ns, np, nn, nt, na, dy, t, hB, hK, hW, hPa9⟩, hi9.rf, OffB.rf⟩
  · skip
    refine e_bipush (v := -2) (pc := 7) Xc (dT hX6_pass 3 rfl) rfl ?_
    refine e_iret (pc := 9) Xc hQ (dT hX6_pass 4 rfl) (Nat.le_refl _) (Nat.le_refl _) ?_
    have hz : v_pass X t nr nb dy n = ((-2), X) := by
      try simp only [bI_0, bI_1, Bool.not_eq_true, Bool.not_eq_false] at c4
      first | (simp [v_pass, c4]; done) | (clear hB hK hSA hx hXn hP5 hPp hRP hPg hPa hBI hG hT hS hPl hNo hTa hA hJ hR hD hQ Xc; simp_all [v_pass]; done)
    rw [hz]
    exact ⟨rfl, ⟨nr, nb, ns, np, nn, nt, na, dy, t, hB, hK, hW, hPa9⟩, hi9.rf, OffB.rf⟩
set_option maxRecDepth 100000 in
set_option maxHeartbeats 4000000 in
theorem b_lend {G : xG} {σ : xS} {x m : Nat} {X Y bd : Nat → Int32} {hi : Int32} {rr : Nat} {nr nb ns np nn nt na dy : Nat} {t : xT} (hB : BK G σ x m X Y bd hi rr nr nb ns np nn nt t) (hK : OK X nr nb t ns np nn nt na dy) (hW : okW X) (hPa9 : okPt X) (v : Int32) (b : Int32) : CI G yX6_lend cX6_lend 5 (some .int) 2 0 0 [.ref x, .int v, .int b] σ (fun z σ1 => z = (v_lend X nr nb v b).1 ∧ ST G σ1 x m (v_lend X nr nb v b).2 Y bd hi rr ∧ hi9 X (v_lend X nr nb v b).2 ∧ OffB x σ σ1) := by
  refine Met.ofX (by decide +kernel) (Nat.le_of_ble_eq_true rfl) (fun μ Xc hQ hnm => ?_)
  have Xc : xC G μ cX6_lend 5 RX6 (some .int) 2 0 0 := Xc
  obtain ⟨hSA, ⟨hgA, hgO⟩, hxm, hms, ⟨Fx, Ax, hx, hF7⟩, ⟨tw, htw, hXn⟩, ⟨F5, T5, A5, hP5⟩, ⟨Fp, Tp, Ap, hPp, hRP⟩, ⟨Fg, Tg, Ag, hPg⟩, ⟨Fa, Ta, Aa, hPa, hFa1, hAa⟩, hBI⟩ := id hB
  obtain ⟨htw1, htw2, htw3⟩ := id htw
  obtain ⟨hG, hT, hS, hPl, hNo, hTa, hA, hJ, hR, hD⟩ := id hK
  have hr4 := hG.r4
  have hb7 := hG.b7
  have hs6 := hS.1
  have hp8 := hPl.1
  have hn8 := hNo.1
  have ht100 := hTa.1
  have ha5 := hA.1
  have hdy := hD.1
  have hd0 := hD.2
  have ht13 : tw ≠ x + 13 := by omega
  have hb8 : ns ≤ 6 ∧ np ≤ 8 ∧ nn ≤ 8 ∧ nt ≤ 100 := ⟨hs6, hp8, hn8, ht100⟩
  show Ev G μ 5 0 0 0 [(0, .ref x), (1, .int v), (2, .int b)] [] σ
  obtain ⟨Fw1, Tw1, Aw1, hBw1, htw1⟩ := id hXn
  have hWw1 := hBw1.2.1
  refine e_aload_n (pc := 0) Xc (dT hX6_lend 0 rfl) 0 rfl ?_
  refine gf_X6_12 (pc := 1) Xc (dT hX6_lend 1 rfl) hx.o rfl ?_
  refine e_refv (b := x + 1) rfl ?_
  refine e_iload_n (pc := 4) Xc (dT hX6_lend 2 rfl) 1 rfl ?_
  refine cl_X6_99 (pc := 5) (k := 0) (n := 0) (S := []) Xc hBw1.1.o (c5_isReader hBw1 v) (dT hX6_lend 3 rfl) rfl (Nat.le_of_ble_eq_true rfl) (Nat.le_of_ble_eq_true rfl) (Nat.le_of_ble_eq_true rfl) rfl (Nat.le_of_ble_eq_true rfl) (fun r2 σ3 hq4 => ?_)
  obtain ⟨r2e, r2s⟩ := hq4
  have r2e := r2e.symm; subst r2e; have r2s := r2s.symm; subst r2s
  refine e_if_eq (tgt := 27) (pc := 8) Xc (dT hX6_lend 4 rfl) rfl (fun c8 => ?_) (fun c8 => ?_)
  · skip
    refine e_iconst (v := -1) (pc := 27) Xc (dT hX6_lend 13 rfl) rfl ?_
    refine e_iret (pc := 28) Xc hQ (dT hX6_lend 14 rfl) (Nat.le_refl _) (Nat.le_refl _) ?_
    have hz : v_lend X nr nb v b = ((-1), X) := by
      try simp only [bI_0, bI_1, Bool.not_eq_true, Bool.not_eq_false] at c8
      first | (simp [v_lend, c8]; done) | (clear hB hK hSA hx hXn hP5 hPp hRP hPg hPa hBI hG hT hS hPl hNo hTa hA hJ hR hD hQ Xc; simp_all [v_lend]; done)
    rw [hz]
    exact ⟨rfl, ⟨nr, nb, ns, np, nn, nt, na, dy, t, hB, hK, hW, hPa9⟩, hi9.rf, OffB.rf⟩
  · skip
    obtain ⟨q, hq, rfl⟩ := inF_nat (v := v) (n := nr) (by omega) (by simpa [bI_0, bI_1] using c8)
    have hc_q : cl (nI q) = q := cl_nI (by omega)
    refine e_iload_n (pc := 11) Xc (dT hX6_lend 5 rfl) 2 rfl ?_
    refine e_iconst (v := -1) (pc := 12) Xc (dT hX6_lend 6 rfl) rfl ?_
    refine e_icmp_eq (tgt := 29) (pc := 13) Xc (dT hX6_lend 7 rfl) rfl (fun c13 => ?_) (fun c13 => ?_)
    · skip
      subst c13
      refine e_iload_n (pc := 29) Xc (dT hX6_lend 15 rfl) 2 rfl ?_
      refine e_iconst (v := -1) (pc := 30) Xc (dT hX6_lend 16 rfl) rfl ?_
      refine e_icmp_ne (tgt := 39) (pc := 31) Xc (dT hX6_lend 17 rfl) rfl (fun c31 => ?_) (fun c31 => ?_)
      · skip
        exact absurd c31 (by decide)
      · skip
        refine e_bipush (v := -5) (pc := 34) Xc (dT hX6_lend 18 rfl) rfl ?_
        refine e_goto (tgt := 47) (pc := 36) Xc (dT hX6_lend 19 rfl) rfl ?_
        refine e_istore_n (L' := [(3, .int (-5)), (0, .ref x), (1, .int (nI q)), (2, .int (-1))]) (pc := 47) Xc (dT hX6_lend 24 rfl) (by decide) rfl ?_
        refine e_iload_n (pc := 48) Xc (dT hX6_lend 25 rfl) 0 rfl ?_
        refine e_bipush (v := -5) (pc := 49) Xc (dT hX6_lend 26 rfl) rfl ?_
        refine e_icmp_eq (tgt := 62) (pc := 51) Xc (dT hX6_lend 27 rfl) rfl (fun c51 => ?_) (fun c51 => ?_)
        · skip
          refine e_aload_n (pc := 62) Xc (dT hX6_lend 33 rfl) 1 rfl ?_
          refine gf_X6_12 (pc := 63) Xc (dT hX6_lend 34 rfl) hx.o rfl ?_
          refine e_refv (b := x + 1) rfl ?_
          refine gf_X6_113 (pc := 66) Xc (dT hX6_lend 35 rfl) hBw1.1.o rfl ?_
          refine e_iload_n (pc := 69) Xc (dT hX6_lend 36 rfl) 2 rfl ?_
          refine cl_X6_106 (pc := 70) (k := 0) (n := 0) (S := []) Xc (c_get hBw1.1.a4 (by decide) (by decide) q (by omega)) (dT hX6_lend 37 rfl) rfl (Nat.le_of_ble_eq_true rfl) (Nat.le_of_ble_eq_true rfl) (Nat.le_of_ble_eq_true rfl) rfl (Nat.le_of_ble_eq_true rfl) (fun r5 σ6 hq7 => ?_)
          obtain ⟨r5e, r5s⟩ := hq7
          have r5e := r5e.symm; subst r5e; have r5s := r5s.symm; subst r5s
          refine e_val (y := orN (X (1 + q))) (hWw1.2.2.2.1 q (by omega)) ?_
          refine e_istore (L' := [(4, .int (orN (X (1 + q)))), (3, .int (-5)), (0, .ref x), (1, .int (nI q)), (2, .int (-1))]) (pc := 73) Xc (dT hX6_lend 38 rfl) (by decide) rfl ?_
          refine e_aload_n (pc := 75) Xc (dT hX6_lend 39 rfl) 2 rfl ?_
          refine gf_X6_12 (pc := 76) Xc (dT hX6_lend 40 rfl) hx.o rfl ?_
          refine e_refv (b := x + 1) rfl ?_
          refine gf_X6_113 (pc := 79) Xc (dT hX6_lend 41 rfl) hBw1.1.o rfl ?_
          refine e_iload_n (pc := 82) Xc (dT hX6_lend 42 rfl) 3 rfl ?_
          refine e_iload_n (pc := 83) Xc (dT hX6_lend 43 rfl) 4 rfl ?_
          refine e_iconst (v := -1) (pc := 84) Xc (dT hX6_lend 44 rfl) rfl ?_
          refine e_icmp_ne (tgt := 93) (pc := 85) Xc (dT hX6_lend 45 rfl) rfl (fun c85 => ?_) (fun c85 => ?_)
          · skip
            exact absurd c85 (by decide)
          · skip
            refine e_bipush (v := -5) (pc := 88) Xc (dT hX6_lend 46 rfl) rfl ?_
            refine e_goto (tgt := 94) (pc := 90) Xc (dT hX6_lend 47 rfl) rfl ?_
            refine cl_X6_60 (pc := 94) (k := 0) (n := 0) (S := []) Xc (c_put hBw1.1.a4 (by decide) q (by omega) (-5)) (dT hX6_lend 49 rfl) rfl (Nat.le_of_ble_eq_true rfl) (Nat.le_of_ble_eq_true rfl) (Nat.le_of_ble_eq_true rfl) rfl (Nat.le_of_ble_eq_true rfl) (fun σ9 hq10 => ?_)
            subst hq10
            refine Ev.gen (fun z => PX5 z (x + 1) Fw1 Tw1 (upA Aw1 4 (upd (Aw1 4) q (-5)))) (hBw1.1.wa4 (g := (upd (Aw1 4) q (-5)))) Off.set (fun σ11 hP12 ho13 => ?_)
            have hP14 := hx.off ho13 (by omega)
            have hP15 := hP5.off ho13 (by omega)
            have hP16 := hPp.off ho13 (by omega)
            have hP17 := hPg.off ho13 (by omega)
            have hP18 := hPa.off ho13 (by omega)
            refine e_iload (pc := 97) Xc (dT hX6_lend 50 rfl) 0 rfl ?_
            refine e_iret (pc := 99) Xc hQ (dT hX6_lend 51 rfl) (Nat.le_refl _) (Nat.le_refl _) ?_
            have h19_ : (upd X (1 + q) (-1)) 19 = X 19 := upd_n (by omega)
            have hz : v_lend X nr nb (nI q) (-1) = (orN (X (1 + q)), (upd X (1 + q) (-1))) := by
              try simp only [bI_0, bI_1, Bool.not_eq_true, Bool.not_eq_false] at c8 c31 c51 c85
              first | (simp [v_lend, c8, c31, c51, c85, hc_q]; done) | (clear hB hK hSA hx hXn hP5 hPp hRP hPg hPa hBI hG hT hS hPl hNo hTa hA hJ hR hD hQ Xc; simp_all [v_lend]; done)
            obtain ⟨hk1_, hk2_⟩ := OK.low hK hW (fun j hj => upd_n (by omega)) (hG.upd_has hq (Or.inl rfl)) (hT.upd (by omega)) (okJ.upd hJ (fun _ _ _ _ => rfl)) ⟨hdy, (upd_n (by omega)).trans hd0⟩
            have ex_ : ∀ j, 44 ≤ j → (upd X (1 + q) (-1)) j = X j := (fun j hj => upd_n (by omega))
            obtain ⟨hb_, ho_⟩ := BK.world (X' := (upd X (1 + q) (-1))) hB hs6 hp8 hn8 ht100 ho13 ⟨tw, htw.sz (Nat.le_of_eq ho13.sz.symm), ⟨_, Tw1, _, ⟨hP12, (by have h_ := hWw1.set_has (r := q) (v := (-1)) (by omega); rw [show orN (-1) = -5 from rfl] at h_; exact h_), hBw1.2.2.1.off ho13 (by rw [htw1]; omega), (by rw [htw1]; omega), (hG.upd_has hq (Or.inl rfl)), (hT.upd (by omega))⟩, htw1⟩⟩ (fun j hj _ => ex_ j hj)
            rw [hz]
            dsimp only
            exact ⟨rfl, ⟨nr, nb, ns, np, nn, nt, na, dy, t, hb_, hk1_, hk2_, hPa9.cg (h19_) (fun j hj => ex_ j (by omega))⟩, fun j hj => ex_ j (by omega), ho_⟩
        · skip
          exact absurd c51 (by decide)
    · skip
      refine e_aload_n (pc := 16) Xc (dT hX6_lend 8 rfl) 0 rfl ?_
      refine gf_X6_12 (pc := 17) Xc (dT hX6_lend 9 rfl) hx.o rfl ?_
      refine e_refv (b := x + 1) rfl ?_
      refine e_iload_n (pc := 20) Xc (dT hX6_lend 10 rfl) 2 rfl ?_
      refine cl_X6_126 (pc := 21) (k := 0) (n := 0) (S := []) Xc hBw1.1.o (c5_isBook hBw1 b) (dT hX6_lend 11 rfl) rfl (Nat.le_of_ble_eq_true rfl) (Nat.le_of_ble_eq_true rfl) (Nat.le_of_ble_eq_true rfl) rfl (Nat.le_of_ble_eq_true rfl) (fun r19 σ20 hq21 => ?_)
      obtain ⟨r19e, r19s⟩ := hq21
      have r19e := r19e.symm; subst r19e; have r19s := r19s.symm; subst r19s
      refine e_if_ne (tgt := 29) (pc := 24) Xc (dT hX6_lend 12 rfl) rfl (fun c24 => ?_) (fun c24 => ?_)
      · skip
        obtain ⟨p, hp, rfl⟩ := inF_nat (v := b) (n := nb) (by omega) (by simpa [bI_0, bI_1] using c24)
        have hc_p : cl (nI p) = p := cl_nI (by omega)
        refine e_iload_n (pc := 29) Xc (dT hX6_lend 15 rfl) 2 rfl ?_
        refine e_iconst (v := -1) (pc := 30) Xc (dT hX6_lend 16 rfl) rfl ?_
        refine e_icmp_ne (tgt := 39) (pc := 31) Xc (dT hX6_lend 17 rfl) rfl (fun c31 => ?_) (fun c31 => ?_)
        · skip
          refine e_aload_n (pc := 39) Xc (dT hX6_lend 20 rfl) 0 rfl ?_
          refine gf_X6_12 (pc := 40) Xc (dT hX6_lend 21 rfl) hx.o rfl ?_
          refine e_refv (b := x + 1) rfl ?_
          refine e_iload_n (pc := 43) Xc (dT hX6_lend 22 rfl) 2 rfl ?_
          refine cl_X6_133 (pc := 44) (k := 0) (n := 0) (S := []) Xc hBw1.1.o (c5_holder hBw1 p (by omega)) (dT hX6_lend 23 rfl) rfl (Nat.le_of_ble_eq_true rfl) (Nat.le_of_ble_eq_true rfl) (Nat.le_of_ble_eq_true rfl) rfl (Nat.le_of_ble_eq_true rfl) (fun r22 σ23 hq24 => ?_)
          obtain ⟨r22e, r22s⟩ := hq24
          have r22e := r22e.symm; subst r22e; have r22s := r22s.symm; subst r22s
          refine e_istore_n (L' := [(3, .int (orN (holdF X nr (nI p)))), (0, .ref x), (1, .int (nI q)), (2, .int (nI p))]) (pc := 47) Xc (dT hX6_lend 24 rfl) (by decide) rfl ?_
          refine e_iload_n (pc := 48) Xc (dT hX6_lend 25 rfl) 0 rfl ?_
          refine e_bipush (v := -5) (pc := 49) Xc (dT hX6_lend 26 rfl) rfl ?_
          refine e_icmp_eq (tgt := 62) (pc := 51) Xc (dT hX6_lend 27 rfl) rfl (fun c51 => ?_) (fun c51 => ?_)
          · skip
            have hh1_ : holdF X nr (nI p) = -1 := (hold_5 hr4).mp c51
            have hho_ : holdF X nr (nI p) = -1 ∨ holdF X nr (nI p) = nI q := Or.inl hh1_
            refine e_aload_n (pc := 62) Xc (dT hX6_lend 33 rfl) 1 rfl ?_
            refine gf_X6_12 (pc := 63) Xc (dT hX6_lend 34 rfl) hx.o rfl ?_
            refine e_refv (b := x + 1) rfl ?_
            refine gf_X6_113 (pc := 66) Xc (dT hX6_lend 35 rfl) hBw1.1.o rfl ?_
            refine e_iload_n (pc := 69) Xc (dT hX6_lend 36 rfl) 2 rfl ?_
            refine cl_X6_106 (pc := 70) (k := 0) (n := 0) (S := []) Xc (c_get hBw1.1.a4 (by decide) (by decide) q (by omega)) (dT hX6_lend 37 rfl) rfl (Nat.le_of_ble_eq_true rfl) (Nat.le_of_ble_eq_true rfl) (Nat.le_of_ble_eq_true rfl) rfl (Nat.le_of_ble_eq_true rfl) (fun r25 σ26 hq27 => ?_)
            obtain ⟨r25e, r25s⟩ := hq27
            have r25e := r25e.symm; subst r25e; have r25s := r25s.symm; subst r25s
            refine e_val (y := orN (X (1 + q))) (hWw1.2.2.2.1 q (by omega)) ?_
            refine e_istore (L' := [(4, .int (orN (X (1 + q)))), (3, .int (orN (holdF X nr (nI p)))), (0, .ref x), (1, .int (nI q)), (2, .int (nI p))]) (pc := 73) Xc (dT hX6_lend 38 rfl) (by decide) rfl ?_
            refine e_aload_n (pc := 75) Xc (dT hX6_lend 39 rfl) 2 rfl ?_
            refine gf_X6_12 (pc := 76) Xc (dT hX6_lend 40 rfl) hx.o rfl ?_
            refine e_refv (b := x + 1) rfl ?_
            refine gf_X6_113 (pc := 79) Xc (dT hX6_lend 41 rfl) hBw1.1.o rfl ?_
            refine e_iload_n (pc := 82) Xc (dT hX6_lend 42 rfl) 3 rfl ?_
            refine e_iload_n (pc := 83) Xc (dT hX6_lend 43 rfl) 4 rfl ?_
            refine e_iconst (v := -1) (pc := 84) Xc (dT hX6_lend 44 rfl) rfl ?_
            refine e_icmp_ne (tgt := 93) (pc := 85) Xc (dT hX6_lend 45 rfl) rfl (fun c85 => ?_) (fun c85 => ?_)
            · skip
              refine e_iload_n (pc := 93) Xc (dT hX6_lend 48 rfl) 4 rfl ?_
              refine cl_X6_60 (pc := 94) (k := 0) (n := 0) (S := []) Xc (c_put hBw1.1.a4 (by decide) q (by omega) (nI p)) (dT hX6_lend 49 rfl) rfl (Nat.le_of_ble_eq_true rfl) (Nat.le_of_ble_eq_true rfl) (Nat.le_of_ble_eq_true rfl) rfl (Nat.le_of_ble_eq_true rfl) (fun σ29 hq30 => ?_)
              subst hq30
              refine Ev.gen (fun z => PX5 z (x + 1) Fw1 Tw1 (upA Aw1 4 (upd (Aw1 4) q (nI p)))) (hBw1.1.wa4 (g := (upd (Aw1 4) q (nI p)))) Off.set (fun σ31 hP32 ho33 => ?_)
              have hP34 := hx.off ho33 (by omega)
              have hP35 := hP5.off ho33 (by omega)
              have hP36 := hPp.off ho33 (by omega)
              have hP37 := hPg.off ho33 (by omega)
              have hP38 := hPa.off ho33 (by omega)
              refine e_iload (pc := 97) Xc (dT hX6_lend 50 rfl) 0 rfl ?_
              refine e_iret (pc := 99) Xc hQ (dT hX6_lend 51 rfl) (Nat.le_refl _) (Nat.le_refl _) ?_
              have h19_ : (upd X (1 + q) (nI p)) 19 = X 19 := upd_n (by omega)
              have hm_p : ¬ nI p = -1 := nI_nm1 (by omega)
              have hz : v_lend X nr nb (nI q) (nI p) = (orN (X (1 + q)), (upd X (1 + q) (nI p))) := by
                try simp only [bI_0, bI_1, Bool.not_eq_true, Bool.not_eq_false] at c8 c13 c24 c31 c51 c85
                first | (simp [v_lend, c8, c13, c24, c31, c51, c85, hc_q, hc_p, hh1_, hm_p]; done) | (clear hB hK hSA hx hXn hP5 hPp hRP hPg hPa hBI hG hT hS hPl hNo hTa hA hJ hR hD hQ Xc; simp_all [v_lend]; done)
              obtain ⟨hk1_, hk2_⟩ := OK.low hK hW (fun j hj => upd_n (by omega)) (hG.upd_has hq (Or.inr ⟨p, hp, rfl⟩)) (hT.upd (by omega)) (okJ.lend hJ hr4 hq hho_) ⟨hdy, (upd_n (by omega)).trans hd0⟩
              have ex_ : ∀ j, 44 ≤ j → (upd X (1 + q) (nI p)) j = X j := (fun j hj => upd_n (by omega))
              obtain ⟨hb_, ho_⟩ := BK.world (X' := (upd X (1 + q) (nI p))) hB hs6 hp8 hn8 ht100 ho33 ⟨tw, htw.sz (Nat.le_of_eq ho33.sz.symm), ⟨_, Tw1, _, ⟨hP32, (by have h_ := hWw1.set_has (r := q) (v := (nI p)) (by omega); rw [orN_nI (by omega)] at h_; exact h_), hBw1.2.2.1.off ho33 (by rw [htw1]; omega), (by rw [htw1]; omega), (hG.upd_has hq (Or.inr ⟨p, hp, rfl⟩)), (hT.upd (by omega))⟩, htw1⟩⟩ (fun j hj _ => ex_ j hj)
              rw [hz]
              dsimp only
              exact ⟨rfl, ⟨nr, nb, ns, np, nn, nt, na, dy, t, hb_, hk1_, hk2_, hPa9.cg (h19_) (fun j hj => ex_ j (by omega))⟩, fun j hj => ex_ j (by omega), ho_⟩
            · skip
              exact absurd c85 (nI_nm1 (by omega))
          · skip
            have hh1_ : ¬ holdF X nr (nI p) = -1 := fun e_ => c51 ((hold_5 hr4).mpr e_)
            refine e_iload_n (pc := 54) Xc (dT hX6_lend 28 rfl) 0 rfl ?_
            refine e_iload_n (pc := 55) Xc (dT hX6_lend 29 rfl) 2 rfl ?_
            refine e_icmp_eq (tgt := 62) (pc := 56) Xc (dT hX6_lend 30 rfl) rfl (fun c56 => ?_) (fun c56 => ?_)
            · skip
              have hh2_ : holdF X nr (nI p) = nI q := (hold_q hr4 hq).mp c56
              have hho_ : holdF X nr (nI p) = -1 ∨ holdF X nr (nI p) = nI q := Or.inr hh2_
              refine e_aload_n (pc := 62) Xc (dT hX6_lend 33 rfl) 1 rfl ?_
              refine gf_X6_12 (pc := 63) Xc (dT hX6_lend 34 rfl) hx.o rfl ?_
              refine e_refv (b := x + 1) rfl ?_
              refine gf_X6_113 (pc := 66) Xc (dT hX6_lend 35 rfl) hBw1.1.o rfl ?_
              refine e_iload_n (pc := 69) Xc (dT hX6_lend 36 rfl) 2 rfl ?_
              refine cl_X6_106 (pc := 70) (k := 0) (n := 0) (S := []) Xc (c_get hBw1.1.a4 (by decide) (by decide) q (by omega)) (dT hX6_lend 37 rfl) rfl (Nat.le_of_ble_eq_true rfl) (Nat.le_of_ble_eq_true rfl) (Nat.le_of_ble_eq_true rfl) rfl (Nat.le_of_ble_eq_true rfl) (fun r39 σ40 hq41 => ?_)
              obtain ⟨r39e, r39s⟩ := hq41
              have r39e := r39e.symm; subst r39e; have r39s := r39s.symm; subst r39s
              refine e_val (y := orN (X (1 + q))) (hWw1.2.2.2.1 q (by omega)) ?_
              refine e_istore (L' := [(4, .int (orN (X (1 + q)))), (3, .int (orN (holdF X nr (nI p)))), (0, .ref x), (1, .int (nI q)), (2, .int (nI p))]) (pc := 73) Xc (dT hX6_lend 38 rfl) (by decide) rfl ?_
              refine e_aload_n (pc := 75) Xc (dT hX6_lend 39 rfl) 2 rfl ?_
              refine gf_X6_12 (pc := 76) Xc (dT hX6_lend 40 rfl) hx.o rfl ?_
              refine e_refv (b := x + 1) rfl ?_
              refine gf_X6_113 (pc := 79) Xc (dT hX6_lend 41 rfl) hBw1.1.o rfl ?_
              refine e_iload_n (pc := 82) Xc (dT hX6_lend 42 rfl) 3 rfl ?_
              refine e_iload_n (pc := 83) Xc (dT hX6_lend 43 rfl) 4 rfl ?_
              refine e_iconst (v := -1) (pc := 84) Xc (dT hX6_lend 44 rfl) rfl ?_
              refine e_icmp_ne (tgt := 93) (pc := 85) Xc (dT hX6_lend 45 rfl) rfl (fun c85 => ?_) (fun c85 => ?_)
              · skip
                refine e_iload_n (pc := 93) Xc (dT hX6_lend 48 rfl) 4 rfl ?_
                refine cl_X6_60 (pc := 94) (k := 0) (n := 0) (S := []) Xc (c_put hBw1.1.a4 (by decide) q (by omega) (nI p)) (dT hX6_lend 49 rfl) rfl (Nat.le_of_ble_eq_true rfl) (Nat.le_of_ble_eq_true rfl) (Nat.le_of_ble_eq_true rfl) rfl (Nat.le_of_ble_eq_true rfl) (fun σ43 hq44 => ?_)
                subst hq44
                refine Ev.gen (fun z => PX5 z (x + 1) Fw1 Tw1 (upA Aw1 4 (upd (Aw1 4) q (nI p)))) (hBw1.1.wa4 (g := (upd (Aw1 4) q (nI p)))) Off.set (fun σ45 hP46 ho47 => ?_)
                have hP48 := hx.off ho47 (by omega)
                have hP49 := hP5.off ho47 (by omega)
                have hP50 := hPp.off ho47 (by omega)
                have hP51 := hPg.off ho47 (by omega)
                have hP52 := hPa.off ho47 (by omega)
                refine e_iload (pc := 97) Xc (dT hX6_lend 50 rfl) 0 rfl ?_
                refine e_iret (pc := 99) Xc hQ (dT hX6_lend 51 rfl) (Nat.le_refl _) (Nat.le_refl _) ?_
                have h19_ : (upd X (1 + q) (nI p)) 19 = X 19 := upd_n (by omega)
                have hm_p : ¬ nI p = -1 := nI_nm1 (by omega)
                have hz : v_lend X nr nb (nI q) (nI p) = (orN (X (1 + q)), (upd X (1 + q) (nI p))) := by
                  try simp only [bI_0, bI_1, Bool.not_eq_true, Bool.not_eq_false] at c8 c13 c24 c31 c51 c56 c85
                  first | (simp [v_lend, c8, c13, c24, c31, c51, c56, c85, hc_q, hc_p, hh1_, hh2_, hm_p]; done) | (clear hB hK hSA hx hXn hP5 hPp hRP hPg hPa hBI hG hT hS hPl hNo hTa hA hJ hR hD hQ Xc; simp_all [v_lend]; done)
                obtain ⟨hk1_, hk2_⟩ := OK.low hK hW (fun j hj => upd_n (by omega)) (hG.upd_has hq (Or.inr ⟨p, hp, rfl⟩)) (hT.upd (by omega)) (okJ.lend hJ hr4 hq hho_) ⟨hdy, (upd_n (by omega)).trans hd0⟩
                have ex_ : ∀ j, 44 ≤ j → (upd X (1 + q) (nI p)) j = X j := (fun j hj => upd_n (by omega))
                obtain ⟨hb_, ho_⟩ := BK.world (X' := (upd X (1 + q) (nI p))) hB hs6 hp8 hn8 ht100 ho47 ⟨tw, htw.sz (Nat.le_of_eq ho47.sz.symm), ⟨_, Tw1, _, ⟨hP46, (by have h_ := hWw1.set_has (r := q) (v := (nI p)) (by omega); rw [orN_nI (by omega)] at h_; exact h_), hBw1.2.2.1.off ho47 (by rw [htw1]; omega), (by rw [htw1]; omega), (hG.upd_has hq (Or.inr ⟨p, hp, rfl⟩)), (hT.upd (by omega))⟩, htw1⟩⟩ (fun j hj _ => ex_ j hj)
                rw [hz]
                dsimp only
                exact ⟨rfl, ⟨nr, nb, ns, np, nn, nt, na, dy, t, hb_, hk1_, hk2_, hPa9.cg (h19_) (fun j hj => ex_ j (by omega))⟩, fun j hj => ex_ j (by omega), ho_⟩
              · skip
                exact absurd c85 (nI_nm1 (by omega))
            · skip
              have hh2_ : ¬ holdF X nr (nI p) = nI q := fun e_ => c56 ((hold_q hr4 hq).mpr e_)
              refine e_bipush (v := -3) (pc := 59) Xc (dT hX6_lend 31 rfl) rfl ?_
              refine e_iret (pc := 61) Xc hQ (dT hX6_lend 32 rfl) (Nat.le_refl _) (Nat.le_refl _) ?_
              have hm_p : ¬ nI p = -1 := nI_nm1 (by omega)
              have hz : v_lend X nr nb (nI q) (nI p) = ((-3), X) := by
                try simp only [bI_0, bI_1, Bool.not_eq_true, Bool.not_eq_false] at c8 c13 c24 c31 c51 c56
                first | (simp [v_lend, c8, c13, c24, c31, c51, c56, hc_q, hc_p, hh1_, hh2_, hm_p]; done) | (clear hB hK hSA hx hXn hP5 hPp hRP hPg hPa hBI hG hT hS hPl hNo hTa hA hJ hR hD hQ Xc; simp_all [v_lend]; done)
              rw [hz]
              exact ⟨rfl, ⟨nr, nb, ns, np, nn, nt, na, dy, t, hB, hK, hW, hPa9⟩, hi9.rf, OffB.rf⟩
        · skip
          exact absurd c31 (nI_nm1 (by omega))
      · skip
        refine e_iconst (v := -1) (pc := 27) Xc (dT hX6_lend 13 rfl) rfl ?_
        refine e_iret (pc := 28) Xc hQ (dT hX6_lend 14 rfl) (Nat.le_refl _) (Nat.le_refl _) ?_
        have hz : v_lend X nr nb (nI q) b = ((-1), X) := by
          try simp only [bI_0, bI_1, Bool.not_eq_true, Bool.not_eq_false] at c8 c13 c24
          first | (simp [v_lend, c8, c13, c24, hc_q]; done) | (clear hB hK hSA hx hXn hP5 hPp hRP hPg hPa hBI hG hT hS hPl hNo hTa hA hJ hR hD hQ Xc; simp_all [v_lend]; done)
        rw [hz]
        exact ⟨rfl, ⟨nr, nb, ns, np, nn, nt, na, dy, t, hB, hK, hW, hPa9⟩, hi9.rf, OffB.rf⟩
set_option maxRecDepth 100000 in
set_option maxHeartbeats 4000000 in
theorem b_act {G : xG} {σ : xS} {x m : Nat} {X Y bd : Nat → Int32} {hi : Int32} {rr : Nat} {nr nb ns np nn nt na dy : Nat} {t : xT} (hB : BK G σ x m X Y bd hi rr nr nb ns np nn nt t) (hK : OK X nr nb t ns np nn nt na dy) (hW : okW X) (hPa9 : okPt X) (v a xx : Int32) : CI G yX6_act cX6_act 4 (some .int) 9 0 0 [.ref x, .int v, .int a, .int xx] σ (fun z σ1 => z = (v_act X bd nr v a xx).1 ∧ ST G σ1 x m X Y (v_act X bd nr v a xx).2.2 hi (v_act X bd nr v a xx).2.1 ∧ OffB x σ σ1) := by
  refine Met.ofX (by decide +kernel) (Nat.le_of_ble_eq_true rfl) (fun μ Xc hQ hnm => ?_)
  have Xc : xC G μ cX6_act 4 RX6 (some .int) 9 0 0 := Xc
  obtain ⟨hSA, ⟨hgA, hgO⟩, hxm, hms, ⟨Fx, Ax, hx, hF7⟩, ⟨tw, htw, hXn⟩, ⟨F5, T5, A5, hP5⟩, ⟨Fp, Tp, Ap, hPp, hRP⟩, ⟨Fg, Tg, Ag, hPg⟩, ⟨Fa, Ta, Aa, hPa, hFa1, hAa⟩, hBI⟩ := id hB
  obtain ⟨htw1, htw2, htw3⟩ := id htw
  obtain ⟨hG, hT, hS, hPl, hNo, hTa, hA, hJ, hR, hD⟩ := id hK
  have hr4 := hG.r4
  have hb7 := hG.b7
  have hs6 := hS.1
  have hp8 := hPl.1
  have hn8 := hNo.1
  have ht100 := hTa.1
  have ha5 := hA.1
  have hdy := hD.1
  have hd0 := hD.2
  have ht13 : tw ≠ x + 13 := by omega
  have hb8 : ns ≤ 6 ∧ np ≤ 8 ∧ nn ≤ 8 ∧ nt ≤ 100 := ⟨hs6, hp8, hn8, ht100⟩
  show Ev G μ 4 0 0 0 [(0, .ref x), (1, .int v), (2, .int a), (3, .int xx)] [] σ
  obtain ⟨Fw21, Tw21, Aw21, hBw21, htw21⟩ := id hXn
  have hWw21 := hBw21.2.1
  refine e_aload_n (pc := 0) Xc (dT hX6_act 0 rfl) 0 rfl ?_
  refine gf_X6_44 (pc := 1) Xc (dT hX6_act 1 rfl) hx.o rfl ?_
  refine e_refv (b := x + 58) rfl ?_
  refine e_iconst (v := 0) (pc := 4) Xc (dT hX6_act 2 rfl) rfl ?_
  refine pf_X6_284 (fs' := olX0 (x + 58) (upd Fa 1 0) Ta) (pc := 5) Xc (dT hX6_act 3 rfl) hPa.o (Nat.le_of_ble_eq_true rfl) rfl ?_
  refine Ev.gen (fun z => PX0 z (x + 58) (upd Fa 1 0) Ta Aa) (hPa.wf1 (x := 0)) Off.set (fun σ22 hP23 ho24 => ?_)
  have hP25 := hx.off ho24 (by omega)
  have hP26 := hP5.off ho24 (by omega)
  have hP27 := hPp.off ho24 (by omega)
  have hP28 := hPg.off ho24 (by omega)
  have hB29 := hBw21.off ho24 (by omega) (by rw [htw21]; omega)
  refine e_aload_n (pc := 8) Xc (dT hX6_act 4 rfl) 0 rfl ?_
  refine gf_X6_12 (pc := 9) Xc (dT hX6_act 5 rfl) hP25.o rfl ?_
  refine e_refv (b := x + 1) rfl ?_
  refine e_iload_n (pc := 12) Xc (dT hX6_act 6 rfl) 1 rfl ?_
  refine cl_X6_99 (pc := 13) (k := 0) (n := 0) (S := []) Xc hB29.1.o (c5_isReader hB29 v) (dT hX6_act 7 rfl) rfl (Nat.le_of_ble_eq_true rfl) (Nat.le_of_ble_eq_true rfl) (Nat.le_of_ble_eq_true rfl) rfl (Nat.le_of_ble_eq_true rfl) (fun r30 σ31 hq32 => ?_)
  obtain ⟨r30e, r30s⟩ := hq32
  have r30e := r30e.symm; subst r30e; have r30s := r30s.symm; subst r30s
  refine e_if_eq (tgt := 28) (pc := 16) Xc (dT hX6_act 8 rfl) rfl (fun c16 => ?_) (fun c16 => ?_)
  · skip
    refine e_iconst (v := 0) (pc := 28) Xc (dT hX6_act 14 rfl) rfl ?_
    refine e_iret (pc := 29) Xc hQ (dT hX6_act 15 rfl) (Nat.le_refl _) (Nat.le_refl _) ?_
    have hz : v_act X bd nr v a xx = (0, (0, bd)) := by
      try simp only [bI_0, bI_1, Bool.not_eq_true, Bool.not_eq_false] at c16
      first | (simp [v_act, c16]; done) | (clear hB hK hSA hx hXn hP5 hPp hRP hPg hPa hBI hG hT hS hPl hNo hTa hA hJ hR hD hQ Xc; simp_all [v_act]; done)
    obtain ⟨hb_, ho_⟩ := BK.actsc (bd' := bd) (rr' := 0) hB ho24 ⟨_, _, _, hP23, upd_s, hAa⟩
    rw [hz]
    dsimp only
    exact ⟨rfl, ⟨nr, nb, ns, np, nn, nt, na, dy, t, hb_, hK, hW, hPa9⟩, ho_⟩
  · skip
    obtain ⟨q, hq, rfl⟩ := inF_nat (v := v) (n := nr) (by omega) (by simpa [bI_0, bI_1] using c16)
    have hc_q : cl (nI q) = q := cl_nI (by omega)
    refine e_iload_n (pc := 19) Xc (dT hX6_act 9 rfl) 2 rfl ?_
    refine e_if_lt (tgt := 28) (pc := 20) Xc (dT hX6_act 10 rfl) rfl (fun c20 => ?_) (fun c20 => ?_)
    · skip
      have hin_a : inF a 0 2 = false := by
        have k20_ := c20
        simp only [Int32.lt_iff_toInt_lt, Int32.le_iff_toInt_le] at k20_
        have l0_ : (0 : Int32).toInt = 0 := by decide
        have l2_ : (2 : Int32).toInt = 2 := by decide
        have l3_ : (3 : Int32).toInt = 3 := by decide
        rw [inF_ff]
        omega
      refine e_iconst (v := 0) (pc := 28) Xc (dT hX6_act 14 rfl) rfl ?_
      refine e_iret (pc := 29) Xc hQ (dT hX6_act 15 rfl) (Nat.le_refl _) (Nat.le_refl _) ?_
      have hz : v_act X bd nr (nI q) a xx = (0, (0, bd)) := by
        try simp only [bI_0, bI_1, Bool.not_eq_true, Bool.not_eq_false] at c16 c20
        first | (simp [v_act, c16, c20, hc_q, hin_a]; done) | (clear hB hK hSA hx hXn hP5 hPp hRP hPg hPa hBI hG hT hS hPl hNo hTa hA hJ hR hD hQ Xc; simp_all [v_act]; done)
      obtain ⟨hb_, ho_⟩ := BK.actsc (bd' := bd) (rr' := 0) hB ho24 ⟨_, _, _, hP23, upd_s, hAa⟩
      rw [hz]
      dsimp only
      exact ⟨rfl, ⟨nr, nb, ns, np, nn, nt, na, dy, t, hb_, hK, hW, hPa9⟩, ho_⟩
    · skip
      refine e_iload_n (pc := 23) Xc (dT hX6_act 11 rfl) 2 rfl ?_
      refine e_iconst (v := 2) (pc := 24) Xc (dT hX6_act 12 rfl) rfl ?_
      refine e_icmp_le (tgt := 30) (pc := 25) Xc (dT hX6_act 13 rfl) rfl (fun c25 => ?_) (fun c25 => ?_)
      · skip
        have hin_a : inF a 0 2 = true := by
          have k20_ := c20
          have k25_ := c25
          simp only [Int32.lt_iff_toInt_lt, Int32.le_iff_toInt_le] at k20_ k25_
          have l0_ : (0 : Int32).toInt = 0 := by decide
          have l2_ : (2 : Int32).toInt = 2 := by decide
          have l3_ : (3 : Int32).toInt = 3 := by decide
          rw [inF_iff]
          omega
        obtain ⟨a_, ha_, rfl⟩ := in_N (w := a) (n := 2) (by omega) hin_a
        have hc_a_ : cl (nI a_) = a_ := cl_nI (by omega)
        refine e_aload_n (pc := 30) Xc (dT hX6_act 16 rfl) 0 rfl ?_
        refine gf_X6_44 (pc := 31) Xc (dT hX6_act 17 rfl) hP25.o rfl ?_
        refine e_refv (b := x + 58) rfl ?_
        refine e_iload_n (pc := 34) Xc (dT hX6_act 18 rfl) 1 rfl ?_
        refine e_aload_n (pc := 35) Xc (dT hX6_act 19 rfl) 0 rfl ?_
        refine gf_X6_12 (pc := 36) Xc (dT hX6_act 20 rfl) hP25.o rfl ?_
        refine e_refv (b := x + 1) rfl ?_
        refine gf_X6_103 (pc := 39) Xc (dT hX6_act 21 rfl) hB29.1.o rfl ?_
        refine e_iload_n (pc := 42) Xc (dT hX6_act 22 rfl) 1 rfl ?_
        refine cl_X6_106 (pc := 43) (k := 0) (n := 0) (S := [.int (nI q), .ref (x + 58)]) Xc (c_get hB29.1.a2 (by decide) (by decide) q (by omega)) (dT hX6_act 23 rfl) rfl (Nat.le_of_ble_eq_true rfl) (Nat.le_of_ble_eq_true rfl) (Nat.le_of_ble_eq_true rfl) rfl (Nat.le_of_ble_eq_true rfl) (fun r33 σ34 hq35 => ?_)
        obtain ⟨r33e, r33s⟩ := hq35
        have r33e := r33e.symm; subst r33e; have r33s := r33s.symm; subst r33s
        refine e_val (y := X (20 + q)) (hWw21.2.1 q (by omega)) ?_
        refine e_aload_n (pc := 46) Xc (dT hX6_act 24 rfl) 0 rfl ?_
        refine gf_X6_12 (pc := 47) Xc (dT hX6_act 25 rfl) hP25.o rfl ?_
        refine e_refv (b := x + 1) rfl ?_
        refine gf_X6_110 (pc := 50) Xc (dT hX6_act 26 rfl) hB29.1.o rfl ?_
        refine e_iload_n (pc := 53) Xc (dT hX6_act 27 rfl) 1 rfl ?_
        refine cl_X6_106 (pc := 54) (k := 0) (n := 0) (S := [.int (X (20 + q)), .int (nI q), .ref (x + 58)]) Xc (c_get hB29.1.a3 (by decide) (by decide) q (by omega)) (dT hX6_act 28 rfl) rfl (Nat.le_of_ble_eq_true rfl) (Nat.le_of_ble_eq_true rfl) (Nat.le_of_ble_eq_true rfl) rfl (Nat.le_of_ble_eq_true rfl) (fun r36 σ37 hq38 => ?_)
        obtain ⟨r36e, r36s⟩ := hq38
        have r36e := r36e.symm; subst r36e; have r36s := r36s.symm; subst r36s
        refine e_val (y := X (24 + q)) (hWw21.2.2.1 q (by omega)) ?_
        refine e_iload_n (pc := 57) Xc (dT hX6_act 29 rfl) 2 rfl ?_
        refine e_iload_n (pc := 58) Xc (dT hX6_act 30 rfl) 3 rfl ?_
        obtain ⟨kk_, hkk_, hkke_⟩ := hG.2.2.2.2.1 q hq
        have ha3_ : a_ = 0 ∨ a_ = 1 ∨ a_ = 2 := by omega
        rcases ha3_ with rfl | rfl | rfl
        · skip
          rw [hkke_]
          have hin2_ : inF 0 0 2 = true := by decide
          refine cl_X6_287 (pc := 59) (k := 0) (n := 0) (S := []) Xc hP23.o (c0_doneBy0 (rr := 0) hP23 upd_s hAa (hSA.off ho24 (by omega) (by omega)) (by omega) (by omega) hkk_ (nI q) (X (24 + q)) xx) (dT hX6_act 31 rfl) rfl (Nat.le_of_ble_eq_true rfl) (Nat.le_of_ble_eq_true rfl) (Nat.le_of_ble_eq_true rfl) rfl (Nat.le_of_ble_eq_true rfl) (fun r39 σ40 hq41 => ?_)
          obtain ⟨r39e, hAX42, ho43⟩ := hq41
          have r39e := r39e.symm; subst r39e
          have hP44 := hP25.off ho43 (by omega)
          have hP45 := hP26.off ho43 (by omega)
          have hP46 := hP27.off ho43 (by omega)
          have hP47 := hP28.off ho43 (by omega)
          have hB48 := hB29.off ho43 (by omega) (by rw [htw21]; omega)
          refine e_iret (pc := 62) Xc hQ (dT hX6_act 32 rfl) (Nat.le_refl _) (Nat.le_refl _) ?_
          have hz : v_act X bd nr (nI q) 0 xx = rdA (nI kk_) (nI q) (0, bd) xx := by
            try simp only [bI_0, bI_1, Bool.not_eq_true, Bool.not_eq_false] at c16 c20 c25
            first | (simp [v_act, c16, c20, c25, hc_q, hkke_, hin2_]; done) | (clear hB hK hSA hx hXn hP5 hPp hRP hPg hPa hBI hG hT hS hPl hNo hTa hA hJ hR hD hQ Xc; simp_all [v_act]; done)
          obtain ⟨Fz, Tz, Az, hPz, hFz1, -, -, -, hAz⟩ := hAX42
          obtain ⟨hb_, ho_⟩ := BK.actsc (bd' := (rdA (nI kk_) (nI q) (0, bd) xx).2.2) (rr' := (rdA (nI kk_) (nI q) (0, bd) xx).2.1) hB (ho24.tr ho43) ⟨_, _, _, hPz, hFz1, hAz⟩
          have hz : v_act X bd nr (nI q) (nI 0) xx = rdA (nI kk_) (nI q) (0, bd) xx := hz
          rw [hz]
          exact ⟨rfl, ⟨nr, nb, ns, np, nn, nt, na, dy, t, hb_, hK, hW, hPa9⟩, ho_⟩
        · skip
          rw [hkke_]
          have hin2_ : inF 1 0 2 = true := by decide
          refine cl_X6_287 (pc := 59) (k := 0) (n := 0) (S := []) Xc hP23.o (c0_doneBy1 (rr := 0) hP23 upd_s hAa (hSA.off ho24 (by omega) (by omega)) (by omega) (by omega) hkk_ (nI q) (X (24 + q)) xx) (dT hX6_act 31 rfl) rfl (Nat.le_of_ble_eq_true rfl) (Nat.le_of_ble_eq_true rfl) (Nat.le_of_ble_eq_true rfl) rfl (Nat.le_of_ble_eq_true rfl) (fun r49 σ50 hq51 => ?_)
          obtain ⟨r49e, hAX52, ho53⟩ := hq51
          have r49e := r49e.symm; subst r49e
          have hP54 := hP25.off ho53 (by omega)
          have hP55 := hP26.off ho53 (by omega)
          have hP56 := hP27.off ho53 (by omega)
          have hP57 := hP28.off ho53 (by omega)
          have hB58 := hB29.off ho53 (by omega) (by rw [htw21]; omega)
          refine e_iret (pc := 62) Xc hQ (dT hX6_act 32 rfl) (Nat.le_refl _) (Nat.le_refl _) ?_
          have hz : v_act X bd nr (nI q) 1 xx = brA (nI kk_) (nI q) (X (24 + q)) (0, bd) xx := by
            try simp only [bI_0, bI_1, Bool.not_eq_true, Bool.not_eq_false] at c16 c20 c25
            first | (simp [v_act, c16, c20, c25, hc_q, hkke_, hin2_]; done) | (clear hB hK hSA hx hXn hP5 hPp hRP hPg hPa hBI hG hT hS hPl hNo hTa hA hJ hR hD hQ Xc; simp_all [v_act]; done)
          obtain ⟨Fz, Tz, Az, hPz, hFz1, -, -, -, hAz⟩ := hAX52
          obtain ⟨hb_, ho_⟩ := BK.actsc (bd' := (brA (nI kk_) (nI q) (X (24 + q)) (0, bd) xx).2.2) (rr' := (brA (nI kk_) (nI q) (X (24 + q)) (0, bd) xx).2.1) hB (ho24.tr ho53) ⟨_, _, _, hPz, hFz1, hAz⟩
          have hz : v_act X bd nr (nI q) (nI 1) xx = brA (nI kk_) (nI q) (X (24 + q)) (0, bd) xx := hz
          rw [hz]
          exact ⟨rfl, ⟨nr, nb, ns, np, nn, nt, na, dy, t, hb_, hK, hW, hPa9⟩, ho_⟩
        · skip
          rw [hkke_]
          have hin2_ : inF 2 0 2 = true := by decide
          refine cl_X6_287 (pc := 59) (k := 0) (n := 0) (S := []) Xc hP23.o (c0_doneBy2 (rr := 0) hP23 upd_s hAa (hSA.off ho24 (by omega) (by omega)) (by omega) (by omega) hkk_ (nI q) (X (24 + q)) xx) (dT hX6_act 31 rfl) rfl (Nat.le_of_ble_eq_true rfl) (Nat.le_of_ble_eq_true rfl) (Nat.le_of_ble_eq_true rfl) rfl (Nat.le_of_ble_eq_true rfl) (fun r59 σ60 hq61 => ?_)
          obtain ⟨r59e, hAX62, ho63⟩ := hq61
          have r59e := r59e.symm; subst r59e
          have hP64 := hP25.off ho63 (by omega)
          have hP65 := hP26.off ho63 (by omega)
          have hP66 := hP27.off ho63 (by omega)
          have hP67 := hP28.off ho63 (by omega)
          have hB68 := hB29.off ho63 (by omega) (by rw [htw21]; omega)
          refine e_iret (pc := 62) Xc hQ (dT hX6_act 32 rfl) (Nat.le_refl _) (Nat.le_refl _) ?_
          have hz : v_act X bd nr (nI q) 2 xx = teA (nI kk_) (nI q) (X (24 + q)) (0, bd) xx := by
            try simp only [bI_0, bI_1, Bool.not_eq_true, Bool.not_eq_false] at c16 c20 c25
            first | (simp [v_act, c16, c20, c25, hc_q, hkke_, hin2_]; done) | (clear hB hK hSA hx hXn hP5 hPp hRP hPg hPa hBI hG hT hS hPl hNo hTa hA hJ hR hD hQ Xc; simp_all [v_act]; done)
          obtain ⟨Fz, Tz, Az, hPz, hFz1, -, -, -, hAz⟩ := hAX62
          obtain ⟨hb_, ho_⟩ := BK.actsc (bd' := (teA (nI kk_) (nI q) (X (24 + q)) (0, bd) xx).2.2) (rr' := (teA (nI kk_) (nI q) (X (24 + q)) (0, bd) xx).2.1) hB (ho24.tr ho63) ⟨_, _, _, hPz, hFz1, hAz⟩
          have hz : v_act X bd nr (nI q) (nI 2) xx = teA (nI kk_) (nI q) (X (24 + q)) (0, bd) xx := hz
          rw [hz]
          exact ⟨rfl, ⟨nr, nb, ns, np, nn, nt, na, dy, t, hb_, hK, hW, hPa9⟩, ho_⟩
      · skip
        have hin_a : inF a 0 2 = false := by
          have k20_ := c20
          have k25_ := c25
          simp only [Int32.lt_iff_toInt_lt, Int32.le_iff_toInt_le] at k20_ k25_
          have l0_ : (0 : Int32).toInt = 0 := by decide
          have l2_ : (2 : Int32).toInt = 2 := by decide
          have l3_ : (3 : Int32).toInt = 3 := by decide
          rw [inF_ff]
          omega
        refine e_iconst (v := 0) (pc := 28) Xc (dT hX6_act 14 rfl) rfl ?_
        refine e_iret (pc := 29) Xc hQ (dT hX6_act 15 rfl) (Nat.le_refl _) (Nat.le_refl _) ?_
        have hz : v_act X bd nr (nI q) a xx = (0, (0, bd)) := by
          try simp only [bI_0, bI_1, Bool.not_eq_true, Bool.not_eq_false] at c16 c20 c25
          first | (simp [v_act, c16, c20, c25, hc_q, hin_a]; done) | (clear hB hK hSA hx hXn hP5 hPp hRP hPg hPa hBI hG hT hS hPl hNo hTa hA hJ hR hD hQ Xc; simp_all [v_act]; done)
        obtain ⟨hb_, ho_⟩ := BK.actsc (bd' := bd) (rr' := 0) hB ho24 ⟨_, _, _, hP23, upd_s, hAa⟩
        rw [hz]
        dsimp only
        exact ⟨rfl, ⟨nr, nb, ns, np, nn, nt, na, dy, t, hb_, hK, hW, hPa9⟩, ho_⟩
