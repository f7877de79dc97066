set_option maxRecDepth 100000 in
set_option maxHeartbeats 4000000 in
theorem b_feed {G : xG} {σ : xS} {x m : Nat} {X Y bd : Nat → Int32} {hi : Int32} {rr : Nat} {nr nb ns np nn nt na dy : Nat} {t : xT} (hB : BK G σ x m X Y bd hi rr nr nb ns np nn nt t) (hK : OK X nr nb t ns np nn nt na dy) (hW : okW X) (hPa9 : okPt X) (s : Int32) : CI G yX6_feed cX6_feed 2 (some .int) 1 0 0 [.ref x, .int s] σ (fun z σ1 => z = (v_feed X nt s).1 ∧ ST G σ1 x m (v_feed X nt s).2 Y bd hi rr ∧ hi9 X (v_feed X nt s).2 ∧ OffB x σ σ1) := by
  refine Met.ofX (by decide +kernel) (Nat.le_of_ble_eq_true rfl) (fun μ Xc hQ hnm => ?_)
  have Xc : xC G μ cX6_feed 2 RX6 (some .int) 1 0 0 := Xc
  obtain ⟨hSA, ⟨hgA, hgO⟩, hxm, hms, ⟨Fx, Ax, hx, hF7⟩, ⟨tw, htw, hXn⟩, ⟨F5, T5, A5, hP5⟩, ⟨Fp, Tp, Ap, hPp, hRP⟩, ⟨Fg, Tg, Ag, hPg⟩, ⟨Fa, Ta, Aa, hPa, hFa1, hAa⟩, hBI⟩ := id hB
  obtain ⟨htw1, htw2, htw3⟩ := id htw
  obtain ⟨hG, hT, hS, hPl, hNo, hTa, hA, hJ, hR, hD⟩ := id hK
  have hr4 := hG.r4
  have hb7 := hG.b7
  have hs6 := hS.1
  have hp8 := hPl.1
  have hn8 := hNo.1
  have ht100 := hTa.1
  have ha5 := hA.1
  have hdy := hD.1
  have hd0 := hD.2
  have ht13 : tw ≠ x + 13 := by omega
  have hb8 : ns ≤ 6 ∧ np ≤ 8 ∧ nn ≤ 8 ∧ nt ≤ 100 := ⟨hs6, hp8, hn8, ht100⟩
  show Ev G μ 2 0 0 0 [(0, .ref x), (1, .int s)] [] σ
  obtain ⟨Fw1, Tw1, Aw1, hBw1, htw1⟩ := id hXn
  have hWw1 := hBw1.2.1
  refine e_iload_n (pc := 0) Xc (dT hX6_feed 0 rfl) 1 rfl ?_
  refine e_if_lt (tgt := 10) (pc := 1) Xc (dT hX6_feed 1 rfl) rfl (fun c1 => ?_) (fun c1 => ?_)
  · skip
    have hin_s : inF s 0 127 = false := by
      have k1_ := c1
      simp only [Int32.lt_iff_toInt_lt, Int32.le_iff_toInt_le] at k1_
      have l0_ : (0 : Int32).toInt = 0 := by decide
      have l127_ : (127 : Int32).toInt = 127 := by decide
      have l128_ : (128 : Int32).toInt = 128 := by decide
      rw [inF_ff]
      omega
    refine e_bipush (v := -2) (pc := 10) Xc (dT hX6_feed 5 rfl) rfl ?_
    refine e_iret (pc := 12) Xc hQ (dT hX6_feed 6 rfl) (Nat.le_refl _) (Nat.le_refl _) ?_
    have hz : v_feed X nt s = ((-2), X) := by
      try simp only [bI_0, bI_1, Bool.not_eq_true, Bool.not_eq_false] at c1
      first | (simp [v_feed, c1, hin_s]; done) | (clear hB hK hSA hx hXn hP5 hPp hRP hPg hPa hBI hG hT hS hPl hNo hTa hA hJ hR hD hQ Xc; simp_all [v_feed]; done)
    rw [hz]
    exact ⟨rfl, ⟨nr, nb, ns, np, nn, nt, na, dy, t, hB, hK, hW, hPa9⟩, hi9.rf, OffB.rf⟩
  · skip
    refine e_iload_n (pc := 4) Xc (dT hX6_feed 2 rfl) 1 rfl ?_
    refine e_bipush (v := 127) (pc := 5) Xc (dT hX6_feed 3 rfl) rfl ?_
    refine e_icmp_le (tgt := 13) (pc := 7) Xc (dT hX6_feed 4 rfl) rfl (fun c7 => ?_) (fun c7 => ?_)
    · skip
      have hin_s : inF s 0 127 = true := by
        have k1_ := c1
        have k7_ := c7
        simp only [Int32.lt_iff_toInt_lt, Int32.le_iff_toInt_le] at k1_ k7_
        have l0_ : (0 : Int32).toInt = 0 := by decide
        have l127_ : (127 : Int32).toInt = 127 := by decide
        have l128_ : (128 : Int32).toInt = 128 := by decide
        rw [inF_iff]
        omega
      obtain ⟨c, hc, rfl⟩ := in_N (w := s) (n := 127) (by omega) hin_s
      have hc_c : cl (nI c) = c := cl_nI (by omega)
      refine e_aload_n (pc := 13) Xc (dT hX6_feed 7 rfl) 0 rfl ?_
      refine gf_X6_27 (pc := 14) Xc (dT hX6_feed 8 rfl) hx.o rfl ?_
      refine e_refv (b := x + 37) rfl ?_
      refine gf_X6_52 (pc := 17) Xc (dT hX6_feed 9 rfl) hPp.o rfl ?_
      refine e_val (y := nI nt) hRP.1 ?_
      refine e_bipush (v := 100) (pc := 20) Xc (dT hX6_feed 10 rfl) rfl ?_
      refine e_icmp_ltN (x := nt) (y := 100) (tgt := 28) (pc := 22) Xc (dT hX6_feed 11 rfl) rfl (by omega) (by omega) (fun c22 => ?_) (fun c22 => ?_)
      · skip
        have hnt_ : ¬ nt = 100 := by omega
        refine e_aload_n (pc := 28) Xc (dT hX6_feed 14 rfl) 0 rfl ?_
        refine gf_X6_27 (pc := 29) Xc (dT hX6_feed 15 rfl) hx.o rfl ?_
        refine e_refv (b := x + 37) rfl ?_
        refine gf_X6_56 (pc := 32) Xc (dT hX6_feed 16 rfl) hPp.o rfl ?_
        refine e_aload_n (pc := 35) Xc (dT hX6_feed 17 rfl) 0 rfl ?_
        refine gf_X6_27 (pc := 36) Xc (dT hX6_feed 18 rfl) hx.o rfl ?_
        refine e_refv (b := x + 37) rfl ?_
        refine gf_X6_52 (pc := 39) Xc (dT hX6_feed 19 rfl) hPp.o rfl ?_
        refine e_val (y := nI nt) hRP.1 ?_
        refine e_iload_n (pc := 42) Xc (dT hX6_feed 20 rfl) 1 rfl ?_
        refine cl_X6_60 (pc := 43) (k := 0) (n := 0) (S := []) Xc (c_put hPp.a1 (by decide) nt (by omega) (nI c)) (dT hX6_feed 21 rfl) rfl (Nat.le_of_ble_eq_true rfl) (Nat.le_of_ble_eq_true rfl) (Nat.le_of_ble_eq_true rfl) rfl (Nat.le_of_ble_eq_true rfl) (fun σ3 hq4 => ?_)
        subst hq4
        refine Ev.gen (fun z => PX2 z (x + 37) Fp Tp (upA Ap 1 (upd (Ap 1) nt (nI c)))) (hPp.wa1 (g := (upd (Ap 1) nt (nI c)))) Off.set (fun σ5 hP6 ho7 => ?_)
        have hP8 := hx.off ho7 (by omega)
        have hP9 := hP5.off ho7 (by omega)
        have hP10 := hPg.off ho7 (by omega)
        have hP11 := hPa.off ho7 (by omega)
        have hB12 := hBw1.off ho7 (by omega) (by rw [htw1]; omega)
        refine e_aload_n (pc := 46) Xc (dT hX6_feed 22 rfl) 0 rfl ?_
        refine gf_X6_27 (pc := 47) Xc (dT hX6_feed 23 rfl) hP8.o rfl ?_
        refine e_refv (b := x + 37) rfl ?_
        refine e_dup (pc := 50) Xc (dT hX6_feed 24 rfl) rfl ?_
        refine gf_X6_52 (pc := 51) Xc (dT hX6_feed 25 rfl) hP6.o rfl ?_
        refine e_val (y := nI nt) hRP.1 ?_
        refine e_iconst (v := 1) (pc := 54) Xc (dT hX6_feed 26 rfl) rfl ?_
        refine e_iaddN (a := nt) (b := 1) (pc := 55) Xc (dT hX6_feed 27 rfl) ?_
        refine pf_X6_52 (fs' := olX2 (x + 37) (upd Fp 8 (nI (nt + 1))) Tp) (pc := 56) Xc (dT hX6_feed 28 rfl) hP6.o (Nat.le_of_ble_eq_true rfl) rfl ?_
        refine Ev.gen (fun z => PX2 z (x + 37) (upd Fp 8 (nI (nt + 1))) Tp (upA Ap 1 (upd (Ap 1) nt (nI c)))) (hP6.wf8 (x := nI (nt + 1))) Off.set (fun σ13 hP14 ho15 => ?_)
        have hP16 := hP8.off ho15 (by omega)
        have hP17 := hP9.off ho15 (by omega)
        have hP18 := hP10.off ho15 (by omega)
        have hP19 := hP11.off ho15 (by omega)
        have hB20 := hB12.off ho15 (by omega) (by rw [htw1]; omega)
        refine e_aload_n (pc := 59) Xc (dT hX6_feed 29 rfl) 0 rfl ?_
        refine gf_X6_27 (pc := 60) Xc (dT hX6_feed 30 rfl) hP16.o rfl ?_
        refine e_refv (b := x + 37) rfl ?_
        refine gf_X6_52 (pc := 63) Xc (dT hX6_feed 31 rfl) hP14.o rfl ?_
        refine e_val (y := nI (nt + 1)) rfl ?_
        refine e_iret (pc := 66) Xc hQ (dT hX6_feed 32 rfl) (Nat.le_refl _) (Nat.le_refl _) ?_
        have hz : v_feed X nt (nI c) = (nI (nt + 1), (upd (upd X (94 + nt) (nI c)) 18 (nI (nt + 1)))) := by
          try simp only [bI_0, bI_1, Bool.not_eq_true, Bool.not_eq_false] at c1 c7 c22
          first | (simp [v_feed, c1, c7, c22, hin_s, hc_c, hnt_]; done) | (clear hB hK hSA hx hXn hP5 hPp hRP hPg hPa hBI hG hT hS hPl hNo hTa hA hJ hR hD hQ Xc; simp_all [v_feed]; done)
        obtain ⟨hb_, ho_⟩ := hB.paps (X' := (upd (upd X (94 + nt) (nI c)) 18 (nI (nt + 1)))) (ho7.tr ho15) ⟨_, _, _, hP14, hRP.feed hs6 hp8 hn8 (by omega)⟩ (fun j hj => by rw [inW] at hj; rw [upd_n (by omega), upd_n (by omega)])
        obtain ⟨hk1_, hk2_⟩ := OK.feed hK hW (by omega) hc
        rw [hz]
        dsimp only
        exact ⟨rfl, ⟨nr, nb, ns, np, nn, nt + 1, na, dy, t, hb_, hk1_, hk2_, hPa9.cg (by rw [upd_n (by omega), upd_n (by omega)]) (fun j hj => by rw [upd_n (by omega), upd_n (by omega)])⟩, fun j hj => by rw [upd_n (by omega), upd_n (by omega)], ho_⟩
      · skip
        have hnt_ : nt = 100 := by omega
        refine e_bipush (v := -4) (pc := 25) Xc (dT hX6_feed 12 rfl) rfl ?_
        refine e_iret (pc := 27) Xc hQ (dT hX6_feed 13 rfl) (Nat.le_refl _) (Nat.le_refl _) ?_
        have hz : v_feed X nt (nI c) = ((-4), X) := by
          try simp only [bI_0, bI_1, Bool.not_eq_true, Bool.not_eq_false] at c1 c7 c22
          first | (simp [v_feed, c1, c7, c22, hin_s, hc_c, hnt_]; done) | (clear hB hK hSA hx hXn hP5 hPp hRP hPg hPa hBI hG hT hS hPl hNo hTa hA hJ hR hD hQ Xc; simp_all [v_feed]; done)
        rw [hz]
        exact ⟨rfl, ⟨nr, nb, ns, np, nn, nt, na, dy, t, hB, hK, hW, hPa9⟩, hi9.rf, OffB.rf⟩
    · skip
      have hin_s : inF s 0 127 = false := by
        have k1_ := c1
        have k7_ := c7
        simp only [Int32.lt_iff_toInt_lt, Int32.le_iff_toInt_le] at k1_ k7_
        have l0_ : (0 : Int32).toInt = 0 := by decide
        have l127_ : (127 : Int32).toInt = 127 := by decide
        have l128_ : (128 : Int32).toInt = 128 := by decide
        rw [inF_ff]
        omega
      refine e_bipush (v := -2) (pc := 10) Xc (dT hX6_feed 5 rfl) rfl ?_
      refine e_iret (pc := 12) Xc hQ (dT hX6_feed 6 rfl) (Nat.le_refl _) (Nat.le_refl _) ?_
      have hz : v_feed X nt s = ((-2), X) := by
        try simp only [bI_0, bI_1, Bool.not_eq_true, Bool.not_eq_false] at c1 c7
        first | (simp [v_feed, c1, c7, hin_s]; done) | (clear hB hK hSA hx hXn hP5 hPp hRP hPg hPa hBI hG hT hS hPl hNo hTa hA hJ hR hD hQ Xc; simp_all [v_feed]; done)
      rw [hz]
      exact ⟨rfl, ⟨nr, nb, ns, np, nn, nt, na, dy, t, hB, hK, hW, hPa9⟩, hi9.rf, OffB.rf⟩
set_option maxRecDepth 100000 in
set_option maxHeartbeats 4000000 in
theorem b_see {G : xG} {σ : xS} {x m : Nat} {X Y bd : Nat → Int32} {hi : Int32} {rr : Nat} {nr nb ns np nn nt na dy : Nat} {t : xT} (hB : BK G σ x m X Y bd hi rr nr nb ns np nn nt t) (hK : OK X nr nb t ns np nn nt na dy) (hW : okW X) (hPa9 : okPt X) (b : Int32) (d : Int32) (is : Int32) : CI G yX6_see cX6_see 4 (some .int) 2 0 0 [.ref x, .int b, .int d, .int is] σ (fun z σ1 => z = (v_see X nb ns b d is).1 ∧ ST G σ1 x m (v_see X nb ns b d is).2 Y bd hi rr ∧ hi9 X (v_see X nb ns b d is).2 ∧ OffB x σ σ1) := by
  refine Met.ofX (by decide +kernel) (Nat.le_of_ble_eq_true rfl) (fun μ Xc hQ hnm => ?_)
  have Xc : xC G μ cX6_see 4 RX6 (some .int) 2 0 0 := Xc
  obtain ⟨hSA, ⟨hgA, hgO⟩, hxm, hms, ⟨Fx, Ax, hx, hF7⟩, ⟨tw, htw, hXn⟩, ⟨F5, T5, A5, hP5⟩, ⟨Fp, Tp, Ap, hPp, hRP⟩, ⟨Fg, Tg, Ag, hPg⟩, ⟨Fa, Ta, Aa, hPa, hFa1, hAa⟩, hBI⟩ := id hB
  obtain ⟨htw1, htw2, htw3⟩ := id htw
  obtain ⟨hG, hT, hS, hPl, hNo, hTa, hA, hJ, hR, hD⟩ := id hK
  have hr4 := hG.r4
  have hb7 := hG.b7
  have hs6 := hS.1
  have hp8 := hPl.1
  have hn8 := hNo.1
  have ht100 := hTa.1
  have ha5 := hA.1
  have hdy := hD.1
  have hd0 := hD.2
  have ht13 : tw ≠ x + 13 := by omega
  have hb8 : ns ≤ 6 ∧ np ≤ 8 ∧ nn ≤ 8 ∧ nt ≤ 100 := ⟨hs6, hp8, hn8, ht100⟩
  show Ev G μ 4 0 0 0 [(0, .ref x), (1, .int b), (2, .int d), (3, .int is)] [] σ
  obtain ⟨Fw1, Tw1, Aw1, hBw1, htw1⟩ := id hXn
  have hWw1 := hBw1.2.1
  refine e_iload_n (pc := 0) Xc (dT hX6_see 0 rfl) 1 rfl ?_
  refine e_iconst (v := -1) (pc := 1) Xc (dT hX6_see 1 rfl) rfl ?_
  refine e_icmp_ne (tgt := 15) (pc := 2) Xc (dT hX6_see 2 rfl) rfl (fun c2 => ?_) (fun c2 => ?_)
  · skip
    refine e_aload_n (pc := 15) Xc (dT hX6_see 9 rfl) 0 rfl ?_
    refine gf_X6_12 (pc := 16) Xc (dT hX6_see 10 rfl) hx.o rfl ?_
    refine e_refv (b := x + 1) rfl ?_
    refine e_iload_n (pc := 19) Xc (dT hX6_see 11 rfl) 1 rfl ?_
    refine cl_X6_126 (pc := 20) (k := 0) (n := 0) (S := []) Xc hBw1.1.o (c5_isBook hBw1 b) (dT hX6_see 12 rfl) rfl (Nat.le_of_ble_eq_true rfl) (Nat.le_of_ble_eq_true rfl) (Nat.le_of_ble_eq_true rfl) rfl (Nat.le_of_ble_eq_true rfl) (fun r2 σ3 hq4 => ?_)
    obtain ⟨r2e, r2s⟩ := hq4
    have r2e := r2e.symm; subst r2e; have r2s := r2s.symm; subst r2s
    refine e_if_ne (tgt := 28) (pc := 23) Xc (dT hX6_see 13 rfl) rfl (fun c23 => ?_) (fun c23 => ?_)
    · skip
      obtain ⟨p, hp, rfl⟩ := inF_nat (v := b) (n := nb) (by omega) (by simpa [bI_0, bI_1] using c23)
      have hc_p : cl (nI p) = p := cl_nI (by omega)
      have hm_p : ¬ nI p = -1 := nI_nm1 (by omega)
      refine e_iload_n (pc := 28) Xc (dT hX6_see 16 rfl) 2 rfl ?_
      refine e_if_lt (tgt := 38) (pc := 29) Xc (dT hX6_see 17 rfl) rfl (fun c29 => ?_) (fun c29 => ?_)
      · skip
        have hin_d : inF d 0 20 = false := by
          have k29_ := c29
          simp only [Int32.lt_iff_toInt_lt, Int32.le_iff_toInt_le] at k29_
          have l0_ : (0 : Int32).toInt = 0 := by decide
          have l20_ : (20 : Int32).toInt = 20 := by decide
          have l21_ : (21 : Int32).toInt = 21 := by decide
          rw [inF_ff]
          omega
        refine e_bipush (v := -2) (pc := 38) Xc (dT hX6_see 21 rfl) rfl ?_
        refine e_iret (pc := 40) Xc hQ (dT hX6_see 22 rfl) (Nat.le_refl _) (Nat.le_refl _) ?_
        have hz : v_see X nb ns (nI p) d is = ((-2), X) := by
          try simp only [bI_0, bI_1, Bool.not_eq_true, Bool.not_eq_false] at c2 c23 c29
          first | (simp [v_see, c2, c23, c29, hc_p, hm_p, hin_d]; done) | (clear hB hK hSA hx hXn hP5 hPp hRP hPg hPa hBI hG hT hS hPl hNo hTa hA hJ hR hD hQ Xc; simp_all [v_see]; done)
        rw [hz]
        exact ⟨rfl, ⟨nr, nb, ns, np, nn, nt, na, dy, t, hB, hK, hW, hPa9⟩, hi9.rf, OffB.rf⟩
      · skip
        refine e_iload_n (pc := 32) Xc (dT hX6_see 18 rfl) 2 rfl ?_
        refine e_bipush (v := 20) (pc := 33) Xc (dT hX6_see 19 rfl) rfl ?_
        refine e_icmp_le (tgt := 41) (pc := 35) Xc (dT hX6_see 20 rfl) rfl (fun c35 => ?_) (fun c35 => ?_)
        · skip
          have hin_d : inF d 0 20 = true := by
            have k29_ := c29
            have k35_ := c35
            simp only [Int32.lt_iff_toInt_lt, Int32.le_iff_toInt_le] at k29_ k35_
            have l0_ : (0 : Int32).toInt = 0 := by decide
            have l20_ : (20 : Int32).toInt = 20 := by decide
            have l21_ : (21 : Int32).toInt = 21 := by decide
            rw [inF_iff]
            omega
          obtain ⟨d_, hd_, rfl⟩ := in_N (w := d) (n := 20) (by omega) hin_d
          have hc_d_ : cl (nI d_) = d_ := cl_nI (by omega)
          refine e_aload_n (pc := 41) Xc (dT hX6_see 23 rfl) 0 rfl ?_
          refine gf_X6_27 (pc := 42) Xc (dT hX6_see 24 rfl) hx.o rfl ?_
          refine e_refv (b := x + 37) rfl ?_
          refine gf_X6_231 (pc := 45) Xc (dT hX6_see 25 rfl) hPp.o rfl ?_
          refine e_val (y := nI ns) hRP.2.1 ?_
          refine e_bipush (v := 6) (pc := 48) Xc (dT hX6_see 26 rfl) rfl ?_
          refine e_icmp_ltN (x := ns) (y := 6) (tgt := 56) (pc := 50) Xc (dT hX6_see 27 rfl) rfl (by omega) (by omega) (fun c50 => ?_) (fun c50 => ?_)
          · skip
            have hns_ : ¬ ns = 6 := by omega
            refine e_aload_n (pc := 56) Xc (dT hX6_see 30 rfl) 0 rfl ?_
            refine gf_X6_27 (pc := 57) Xc (dT hX6_see 31 rfl) hx.o rfl ?_
            refine e_refv (b := x + 37) rfl ?_
            refine gf_X6_234 (pc := 60) Xc (dT hX6_see 32 rfl) hPp.o rfl ?_
            refine e_aload_n (pc := 63) Xc (dT hX6_see 33 rfl) 0 rfl ?_
            refine gf_X6_27 (pc := 64) Xc (dT hX6_see 34 rfl) hx.o rfl ?_
            refine e_refv (b := x + 37) rfl ?_
            refine gf_X6_231 (pc := 67) Xc (dT hX6_see 35 rfl) hPp.o rfl ?_
            refine e_val (y := nI ns) hRP.2.1 ?_
            refine e_iload_n (pc := 70) Xc (dT hX6_see 36 rfl) 1 rfl ?_
            refine cl_X6_60 (pc := 71) (k := 0) (n := 0) (S := []) Xc (c_put hPp.a2 (by decide) ns (by omega) (nI p)) (dT hX6_see 37 rfl) rfl (Nat.le_of_ble_eq_true rfl) (Nat.le_of_ble_eq_true rfl) (Nat.le_of_ble_eq_true rfl) rfl (Nat.le_of_ble_eq_true rfl) (fun σ6 hq7 => ?_)
            subst hq7
            refine Ev.gen (fun z => PX2 z (x + 37) Fp Tp (upA Ap 2 (upd (Ap 2) ns (nI p)))) (hPp.wa2 (g := (upd (Ap 2) ns (nI p)))) Off.set (fun σ8 hP9 ho10 => ?_)
            have hP11 := hx.off ho10 (by omega)
            have hP12 := hP5.off ho10 (by omega)
            have hP13 := hPg.off ho10 (by omega)
            have hP14 := hPa.off ho10 (by omega)
            have hB15 := hBw1.off ho10 (by omega) (by rw [htw1]; omega)
            refine e_aload_n (pc := 74) Xc (dT hX6_see 38 rfl) 0 rfl ?_
            refine gf_X6_27 (pc := 75) Xc (dT hX6_see 39 rfl) hP11.o rfl ?_
            refine e_refv (b := x + 37) rfl ?_
            refine gf_X6_237 (pc := 78) Xc (dT hX6_see 40 rfl) hP9.o rfl ?_
            refine e_aload_n (pc := 81) Xc (dT hX6_see 41 rfl) 0 rfl ?_
            refine gf_X6_27 (pc := 82) Xc (dT hX6_see 42 rfl) hP11.o rfl ?_
            refine e_refv (b := x + 37) rfl ?_
            refine gf_X6_231 (pc := 85) Xc (dT hX6_see 43 rfl) hP9.o rfl ?_
            refine e_val (y := nI ns) hRP.2.1 ?_
            refine e_iload_n (pc := 88) Xc (dT hX6_see 44 rfl) 2 rfl ?_
            refine cl_X6_60 (pc := 89) (k := 0) (n := 0) (S := []) Xc (c_put hP9.a3 (by decide) ns (by omega) (nI d_)) (dT hX6_see 45 rfl) rfl (Nat.le_of_ble_eq_true rfl) (Nat.le_of_ble_eq_true rfl) (Nat.le_of_ble_eq_true rfl) rfl (Nat.le_of_ble_eq_true rfl) (fun σ17 hq18 => ?_)
            subst hq18
            refine Ev.gen (fun z => PX2 z (x + 37) Fp Tp (upA (upA Ap 2 (upd (Ap 2) ns (nI p))) 3 (upd (Ap 3) ns (nI d_)))) (hP9.wa3 (g := (upd (Ap 3) ns (nI d_)))) Off.set (fun σ19 hP20 ho21 => ?_)
            have hP22 := hP11.off ho21 (by omega)
            have hP23 := hP12.off ho21 (by omega)
            have hP24 := hP13.off ho21 (by omega)
            have hP25 := hP14.off ho21 (by omega)
            have hB26 := hB15.off ho21 (by omega) (by rw [htw1]; omega)
            refine e_aload_n (pc := 92) Xc (dT hX6_see 46 rfl) 0 rfl ?_
            refine gf_X6_27 (pc := 93) Xc (dT hX6_see 47 rfl) hP22.o rfl ?_
            refine e_refv (b := x + 37) rfl ?_
            refine gf_X6_240 (pc := 96) Xc (dT hX6_see 48 rfl) hP20.o rfl ?_
            refine e_aload_n (pc := 99) Xc (dT hX6_see 49 rfl) 0 rfl ?_
            refine gf_X6_27 (pc := 100) Xc (dT hX6_see 50 rfl) hP22.o rfl ?_
            refine e_refv (b := x + 37) rfl ?_
            refine gf_X6_231 (pc := 103) Xc (dT hX6_see 51 rfl) hP20.o rfl ?_
            refine e_val (y := nI ns) hRP.2.1 ?_
            refine e_iload_n (pc := 106) Xc (dT hX6_see 52 rfl) 3 rfl ?_
            refine e_if_eq (tgt := 114) (pc := 107) Xc (dT hX6_see 53 rfl) rfl (fun c107 => ?_) (fun c107 => ?_)
            · skip
              refine e_iconst (v := 0) (pc := 114) Xc (dT hX6_see 56 rfl) rfl ?_
              refine cl_X6_60 (pc := 115) (k := 0) (n := 0) (S := []) Xc (c_put hP20.a4 (by decide) ns (by omega) 0) (dT hX6_see 57 rfl) rfl (Nat.le_of_ble_eq_true rfl) (Nat.le_of_ble_eq_true rfl) (Nat.le_of_ble_eq_true rfl) rfl (Nat.le_of_ble_eq_true rfl) (fun σ28 hq29 => ?_)
              subst hq29
              refine Ev.gen (fun z => PX2 z (x + 37) Fp Tp (upA (upA (upA Ap 2 (upd (Ap 2) ns (nI p))) 3 (upd (Ap 3) ns (nI d_))) 4 (upd (Ap 4) ns 0))) (hP20.wa4 (g := (upd (Ap 4) ns 0))) Off.set (fun σ30 hP31 ho32 => ?_)
              have hP33 := hP22.off ho32 (by omega)
              have hP34 := hP23.off ho32 (by omega)
              have hP35 := hP24.off ho32 (by omega)
              have hP36 := hP25.off ho32 (by omega)
              have hB37 := hB26.off ho32 (by omega) (by rw [htw1]; omega)
              refine e_aload_n (pc := 118) Xc (dT hX6_see 58 rfl) 0 rfl ?_
              refine gf_X6_27 (pc := 119) Xc (dT hX6_see 59 rfl) hP33.o rfl ?_
              refine e_refv (b := x + 37) rfl ?_
              refine e_dup (pc := 122) Xc (dT hX6_see 60 rfl) rfl ?_
              refine gf_X6_231 (pc := 123) Xc (dT hX6_see 61 rfl) hP31.o rfl ?_
              refine e_val (y := nI ns) hRP.2.1 ?_
              refine e_iconst (v := 1) (pc := 126) Xc (dT hX6_see 62 rfl) rfl ?_
              refine e_iaddN (a := ns) (b := 1) (pc := 127) Xc (dT hX6_see 63 rfl) ?_
              refine pf_X6_231 (fs' := olX2 (x + 37) (upd Fp 9 (nI (ns + 1))) Tp) (pc := 128) Xc (dT hX6_see 64 rfl) hP31.o (Nat.le_of_ble_eq_true rfl) rfl ?_
              refine Ev.gen (fun z => PX2 z (x + 37) (upd Fp 9 (nI (ns + 1))) Tp (upA (upA (upA Ap 2 (upd (Ap 2) ns (nI p))) 3 (upd (Ap 3) ns (nI d_))) 4 (upd (Ap 4) ns 0))) (hP31.wf9 (x := nI (ns + 1))) Off.set (fun σ38 hP39 ho40 => ?_)
              have hP41 := hP33.off ho40 (by omega)
              have hP42 := hP34.off ho40 (by omega)
              have hP43 := hP35.off ho40 (by omega)
              have hP44 := hP36.off ho40 (by omega)
              have hB45 := hB37.off ho40 (by omega) (by rw [htw1]; omega)
              refine e_aload_n (pc := 131) Xc (dT hX6_see 65 rfl) 0 rfl ?_
              refine gf_X6_27 (pc := 132) Xc (dT hX6_see 66 rfl) hP41.o rfl ?_
              refine e_refv (b := x + 37) rfl ?_
              refine gf_X6_231 (pc := 135) Xc (dT hX6_see 67 rfl) hP39.o rfl ?_
              refine e_val (y := nI (ns + 1)) rfl ?_
              refine e_iret (pc := 138) Xc hQ (dT hX6_see 68 rfl) (Nat.le_refl _) (Nat.le_refl _) ?_
              have hz : v_see X nb ns (nI p) (nI d_) is = (nI (ns + 1), (upd (upd (upd (upd X (44 + ns) (nI p)) (50 + ns) (nI d_)) (56 + ns) 0) 15 (nI (ns + 1)))) := by
                try simp only [bI_0, bI_1, Bool.not_eq_true, Bool.not_eq_false] at c2 c23 c29 c35 c50 c107
                first | (simp [v_see, c2, c23, c29, c35, c50, c107, hc_p, hm_p, hin_d, hc_d_, hns_]; done) | (clear hB hK hSA hx hXn hP5 hPp hRP hPg hPa hBI hG hT hS hPl hNo hTa hA hJ hR hD hQ Xc; simp_all [v_see]; done)
              obtain ⟨hb_, ho_⟩ := hB.paps (X' := (upd (upd (upd (upd X (44 + ns) (nI p)) (50 + ns) (nI d_)) (56 + ns) 0) 15 (nI (ns + 1)))) (((ho10.tr ho21).tr ho32).tr ho40) ⟨_, _, _, hP39, hRP.see (by omega) hp8 hn8 ht100⟩ (fun j hj => by rw [inW] at hj; rw [upd_n (by omega), upd_n (by omega), upd_n (by omega), upd_n (by omega)])
              obtain ⟨hk1_, hk2_⟩ := OK.see hK hW (by omega) hp hd_ (Or.inl rfl)
              rw [hz]
              dsimp only
              exact ⟨rfl, ⟨nr, nb, ns + 1, np, nn, nt, na, dy, t, hb_, hk1_, hk2_, hPa9.cg (by rw [upd_n (by omega), upd_n (by omega), upd_n (by omega), upd_n (by omega)]) (fun j hj => by rw [upd_n (by omega), upd_n (by omega), upd_n (by omega), upd_n (by omega)])⟩, fun j hj => by rw [upd_n (by omega), upd_n (by omega), upd_n (by omega), upd_n (by omega)], ho_⟩
            · skip
              refine e_iconst (v := 1) (pc := 110) Xc (dT hX6_see 54 rfl) rfl ?_
              refine e_goto (tgt := 115) (pc := 111) Xc (dT hX6_see 55 rfl) rfl ?_
              refine cl_X6_60 (pc := 115) (k := 0) (n := 0) (S := []) Xc (c_put hP20.a4 (by decide) ns (by omega) 1) (dT hX6_see 57 rfl) rfl (Nat.le_of_ble_eq_true rfl) (Nat.le_of_ble_eq_true rfl) (Nat.le_of_ble_eq_true rfl) rfl (Nat.le_of_ble_eq_true rfl) (fun σ47 hq48 => ?_)
              subst hq48
              refine Ev.gen (fun z => PX2 z (x + 37) Fp Tp (upA (upA (upA Ap 2 (upd (Ap 2) ns (nI p))) 3 (upd (Ap 3) ns (nI d_))) 4 (upd (Ap 4) ns 1))) (hP20.wa4 (g := (upd (Ap 4) ns 1))) Off.set (fun σ49 hP50 ho51 => ?_)
              have hP52 := hP22.off ho51 (by omega)
              have hP53 := hP23.off ho51 (by omega)
              have hP54 := hP24.off ho51 (by omega)
              have hP55 := hP25.off ho51 (by omega)
              have hB56 := hB26.off ho51 (by omega) (by rw [htw1]; omega)
              refine e_aload_n (pc := 118) Xc (dT hX6_see 58 rfl) 0 rfl ?_
              refine gf_X6_27 (pc := 119) Xc (dT hX6_see 59 rfl) hP52.o rfl ?_
              refine e_refv (b := x + 37) rfl ?_
              refine e_dup (pc := 122) Xc (dT hX6_see 60 rfl) rfl ?_
              refine gf_X6_231 (pc := 123) Xc (dT hX6_see 61 rfl) hP50.o rfl ?_
              refine e_val (y := nI ns) hRP.2.1 ?_
              refine e_iconst (v := 1) (pc := 126) Xc (dT hX6_see 62 rfl) rfl ?_
              refine e_iaddN (a := ns) (b := 1) (pc := 127) Xc (dT hX6_see 63 rfl) ?_
              refine pf_X6_231 (fs' := olX2 (x + 37) (upd Fp 9 (nI (ns + 1))) Tp) (pc := 128) Xc (dT hX6_see 64 rfl) hP50.o (Nat.le_of_ble_eq_true rfl) rfl ?_
              refine Ev.gen (fun z => PX2 z (x + 37) (upd Fp 9 (nI (ns + 1))) Tp (upA (upA (upA Ap 2 (upd (Ap 2) ns (nI p))) 3 (upd (Ap 3) ns (nI d_))) 4 (upd (Ap 4) ns 1))) (hP50.wf9 (x := nI (ns + 1))) Off.set (fun σ57 hP58 ho59 => ?_)
              have hP60 := hP52.off ho59 (by omega)
              have hP61 := hP53.off ho59 (by omega)
              have hP62 := hP54.off ho59 (by omega)
              have hP63 := hP55.off ho59 (by omega)
              have hB64 := hB56.off ho59 (by omega) (by rw [htw1]; omega)
              refine e_aload_n (pc := 131) Xc (dT hX6_see 65 rfl) 0 rfl ?_
              refine gf_X6_27 (pc := 132) Xc (dT hX6_see 66 rfl) hP60.o rfl ?_
              refine e_refv (b := x + 37) rfl ?_
              refine gf_X6_231 (pc := 135) Xc (dT hX6_see 67 rfl) hP58.o rfl ?_
              refine e_val (y := nI (ns + 1)) rfl ?_
              refine e_iret (pc := 138) Xc hQ (dT hX6_see 68 rfl) (Nat.le_refl _) (Nat.le_refl _) ?_
              have hz : v_see X nb ns (nI p) (nI d_) is = (nI (ns + 1), (upd (upd (upd (upd X (44 + ns) (nI p)) (50 + ns) (nI d_)) (56 + ns) 1) 15 (nI (ns + 1)))) := by
                try simp only [bI_0, bI_1, Bool.not_eq_true, Bool.not_eq_false] at c2 c23 c29 c35 c50 c107
                first | (simp [v_see, c2, c23, c29, c35, c50, c107, hc_p, hm_p, hin_d, hc_d_, hns_]; done) | (clear hB hK hSA hx hXn hP5 hPp hRP hPg hPa hBI hG hT hS hPl hNo hTa hA hJ hR hD hQ Xc; simp_all [v_see]; done)
              obtain ⟨hb_, ho_⟩ := hB.paps (X' := (upd (upd (upd (upd X (44 + ns) (nI p)) (50 + ns) (nI d_)) (56 + ns) 1) 15 (nI (ns + 1)))) (((ho10.tr ho21).tr ho51).tr ho59) ⟨_, _, _, hP58, hRP.see (by omega) hp8 hn8 ht100⟩ (fun j hj => by rw [inW] at hj; rw [upd_n (by omega), upd_n (by omega), upd_n (by omega), upd_n (by omega)])
              obtain ⟨hk1_, hk2_⟩ := OK.see hK hW (by omega) hp hd_ (Or.inr rfl)
              rw [hz]
              dsimp only
              exact ⟨rfl, ⟨nr, nb, ns + 1, np, nn, nt, na, dy, t, hb_, hk1_, hk2_, hPa9.cg (by rw [upd_n (by omega), upd_n (by omega), upd_n (by omega), upd_n (by omega)]) (fun j hj => by rw [upd_n (by omega), upd_n (by omega), upd_n (by omega), upd_n (by omega)])⟩, fun j hj => by rw [upd_n (by omega), upd_n (by omega), upd_n (by omega), upd_n (by omega)], ho_⟩
          · skip
            have hns_ : ns = 6 := by omega
            refine e_bipush (v := -4) (pc := 53) Xc (dT hX6_see 28 rfl) rfl ?_
            refine e_iret (pc := 55) Xc hQ (dT hX6_see 29 rfl) (Nat.le_refl _) (Nat.le_refl _) ?_
            have hz : v_see X nb ns (nI p) (nI d_) is = ((-4), X) := by
              try simp only [bI_0, bI_1, Bool.not_eq_true, Bool.not_eq_false] at c2 c23 c29 c35 c50
              first | (simp [v_see, c2, c23, c29, c35, c50, hc_p, hm_p, hin_d, hc_d_, hns_]; done) | (clear hB hK hSA hx hXn hP5 hPp hRP hPg hPa hBI hG hT hS hPl hNo hTa hA hJ hR hD hQ Xc; simp_all [v_see]; done)
            rw [hz]
            exact ⟨rfl, ⟨nr, nb, ns, np, nn, nt, na, dy, t, hB, hK, hW, hPa9⟩, hi9.rf, OffB.rf⟩
        · skip
          have hin_d : inF d 0 20 = false := by
            have k29_ := c29
            have k35_ := c35
            simp only [Int32.lt_iff_toInt_lt, Int32.le_iff_toInt_le] at k29_ k35_
            have l0_ : (0 : Int32).toInt = 0 := by decide
            have l20_ : (20 : Int32).toInt = 20 := by decide
            have l21_ : (21 : Int32).toInt = 21 := by decide
            rw [inF_ff]
            omega
          refine e_bipush (v := -2) (pc := 38) Xc (dT hX6_see 21 rfl) rfl ?_
          refine e_iret (pc := 40) Xc hQ (dT hX6_see 22 rfl) (Nat.le_refl _) (Nat.le_refl _) ?_
          have hz : v_see X nb ns (nI p) d is = ((-2), X) := by
            try simp only [bI_0, bI_1, Bool.not_eq_true, Bool.not_eq_false] at c2 c23 c29 c35
            first | (simp [v_see, c2, c23, c29, c35, hc_p, hm_p, hin_d]; done) | (clear hB hK hSA hx hXn hP5 hPp hRP hPg hPa hBI hG hT hS hPl hNo hTa hA hJ hR hD hQ Xc; simp_all [v_see]; done)
          rw [hz]
          exact ⟨rfl, ⟨nr, nb, ns, np, nn, nt, na, dy, t, hB, hK, hW, hPa9⟩, hi9.rf, OffB.rf⟩
    · skip
      refine e_iconst (v := -1) (pc := 26) Xc (dT hX6_see 14 rfl) rfl ?_
      refine e_iret (pc := 27) Xc hQ (dT hX6_see 15 rfl) (Nat.le_refl _) (Nat.le_refl _) ?_
      have hz : v_see X nb ns b d is = ((-1), X) := by
        try simp only [bI_0, bI_1, Bool.not_eq_true, Bool.not_eq_false] at c2 c23
        first | (simp [v_see, c2, c23]; done) | (clear hB hK hSA hx hXn hP5 hPp hRP hPg hPa hBI hG hT hS hPl hNo hTa hA hJ hR hD hQ Xc; simp_all [v_see]; done)
      rw [hz]
      exact ⟨rfl, ⟨nr, nb, ns, np, nn, nt, na, dy, t, hB, hK, hW, hPa9⟩, hi9.rf, OffB.rf⟩
  · skip
    refine e_aload_n (pc := 5) Xc (dT hX6_see 3 rfl) 0 rfl ?_
    refine gf_X6_27 (pc := 6) Xc (dT hX6_see 4 rfl) hx.o rfl ?_
    refine e_refv (b := x + 37) rfl ?_
    refine e_iconst (v := 0) (pc := 9) Xc (dT hX6_see 5 rfl) rfl ?_
    refine pf_X6_231 (fs' := olX2 (x + 37) (upd Fp 9 0) Tp) (pc := 10) Xc (dT hX6_see 6 rfl) hPp.o (Nat.le_of_ble_eq_true rfl) rfl ?_
    refine Ev.gen (fun z => PX2 z (x + 37) (upd Fp 9 0) Tp Ap) (hPp.wf9 (x := 0)) Off.set (fun σ65 hP66 ho67 => ?_)
    have hP68 := hx.off ho67 (by omega)
    have hP69 := hP5.off ho67 (by omega)
    have hP70 := hPg.off ho67 (by omega)
    have hP71 := hPa.off ho67 (by omega)
    have hB72 := hBw1.off ho67 (by omega) (by rw [htw1]; omega)
    refine e_iconst (v := 0) (pc := 13) Xc (dT hX6_see 7 rfl) rfl ?_
    refine e_iret (pc := 14) Xc hQ (dT hX6_see 8 rfl) (Nat.le_refl _) (Nat.le_refl _) ?_
    have hz : v_see X nb ns b d is = (0, (upd X 15 0)) := by
      try simp only [bI_0, bI_1, Bool.not_eq_true, Bool.not_eq_false] at c2
      first | (simp [v_see, c2]; done) | (clear hB hK hSA hx hXn hP5 hPp hRP hPg hPa hBI hG hT hS hPl hNo hTa hA hJ hR hD hQ Xc; simp_all [v_see]; done)
    obtain ⟨hb_, ho_⟩ := hB.paps (X' := (upd X 15 0)) ho67 ⟨_, _, _, hP66, hRP.see0 hp8 hn8 ht100⟩ (fun j hj => by rw [inW] at hj; rw [upd_n (by omega)])
    obtain ⟨hk1_, hk2_⟩ := OK.see0 hK hW
    rw [hz]
    dsimp only
    exact ⟨rfl, ⟨nr, nb, 0, np, nn, nt, na, dy, t, hb_, hk1_, hk2_, hPa9.cg (by rw [upd_n (by omega)]) (fun j hj => by rw [upd_n (by omega)])⟩, fun j hj => by rw [upd_n (by omega)], ho_⟩
set_option maxRecDepth 100000 in
set_option maxHeartbeats 4000000 in
theorem b_plan {G : xG} {σ : xS} {x m : Nat} {X Y bd : Nat → Int32} {hi : Int32} {rr : Nat} {nr nb ns np nn nt na dy : Nat} {t : xT} (hB : BK G σ x m X Y bd hi rr nr nb ns np nn nt t) (hK : OK X nr nb t ns np nn nt na dy) (hW : okW X) (hPa9 : okPt X) (w : Int32) (v : Int32) : CI G yX6_plan cX6_plan 3 (some .int) 2 0 0 [.ref x, .int w, .int v] σ (fun z σ1 => z = (v_plan X nr np w v).1 ∧ ST G σ1 x m (v_plan X nr np w v).2 Y bd hi rr ∧ hi9 X (v_plan X nr np w v).2 ∧ OffB x σ σ1) := by
  refine Met.ofX (by decide +kernel) (Nat.le_of_ble_eq_true rfl) (fun μ Xc hQ hnm => ?_)
  have Xc : xC G μ cX6_plan 3 RX6 (some .int) 2 0 0 := Xc
  obtain ⟨hSA, ⟨hgA, hgO⟩, hxm, hms, ⟨Fx, Ax, hx, hF7⟩, ⟨tw, htw, hXn⟩, ⟨F5, T5, A5, hP5⟩, ⟨Fp, Tp, Ap, hPp, hRP⟩, ⟨Fg, Tg, Ag, hPg⟩, ⟨Fa, Ta, Aa, hPa, hFa1, hAa⟩, hBI⟩ := id hB
  obtain ⟨htw1, htw2, htw3⟩ := id htw
  obtain ⟨hG, hT, hS, hPl, hNo, hTa, hA, hJ, hR, hD⟩ := id hK
  have hr4 := hG.r4
  have hb7 := hG.b7
  have hs6 := hS.1
  have hp8 := hPl.1
  have hn8 := hNo.1
  have ht100 := hTa.1
  have ha5 := hA.1
  have hdy := hD.1
  have hd0 := hD.2
  have ht13 : tw ≠ x + 13 := by omega
  have hb8 : ns ≤ 6 ∧ np ≤ 8 ∧ nn ≤ 8 ∧ nt ≤ 100 := ⟨hs6, hp8, hn8, ht100⟩
  show Ev G μ 3 0 0 0 [(0, .ref x), (1, .int w), (2, .int v)] [] σ
  obtain ⟨Fw1, Tw1, Aw1, hBw1, htw1⟩ := id hXn
  have hWw1 := hBw1.2.1
  refine e_iload_n (pc := 0) Xc (dT hX6_plan 0 rfl) 1 rfl ?_
  refine e_iconst (v := -1) (pc := 1) Xc (dT hX6_plan 1 rfl) rfl ?_
  refine e_icmp_ne (tgt := 15) (pc := 2) Xc (dT hX6_plan 2 rfl) rfl (fun c2 => ?_) (fun c2 => ?_)
  · skip
    refine e_iload_n (pc := 15) Xc (dT hX6_plan 9 rfl) 1 rfl ?_
    refine e_if_lt (tgt := 40) (pc := 16) Xc (dT hX6_plan 10 rfl) rfl (fun c16 => ?_) (fun c16 => ?_)
    · skip
      have hin_w : inF w 0 3 = false := by
        have k16_ := c16
        simp only [Int32.lt_iff_toInt_lt, Int32.le_iff_toInt_le] at k16_
        have l0_ : (0 : Int32).toInt = 0 := by decide
        have l3_ : (3 : Int32).toInt = 3 := by decide
        have l4_ : (4 : Int32).toInt = 4 := by decide
        rw [inF_ff]
        omega
      refine e_iconst (v := -1) (pc := 40) Xc (dT hX6_plan 22 rfl) rfl ?_
      refine e_iret (pc := 41) Xc hQ (dT hX6_plan 23 rfl) (Nat.le_refl _) (Nat.le_refl _) ?_
      have hz : v_plan X nr np w v = ((-1), X) := by
        try simp only [bI_0, bI_1, Bool.not_eq_true, Bool.not_eq_false] at c2 c16
        first | (simp [v_plan, c2, c16, hin_w]; done) | (clear hB hK hSA hx hXn hP5 hPp hRP hPg hPa hBI hG hT hS hPl hNo hTa hA hJ hR hD hQ Xc; simp_all [v_plan]; done)
      rw [hz]
      exact ⟨rfl, ⟨nr, nb, ns, np, nn, nt, na, dy, t, hB, hK, hW, hPa9⟩, hi9.rf, OffB.rf⟩
    · skip
      refine e_iload_n (pc := 19) Xc (dT hX6_plan 11 rfl) 1 rfl ?_
      refine e_iconst (v := 3) (pc := 20) Xc (dT hX6_plan 12 rfl) rfl ?_
      refine e_icmp_gt (tgt := 40) (pc := 21) Xc (dT hX6_plan 13 rfl) rfl (fun c21 => ?_) (fun c21 => ?_)
      · skip
        have hin_w : inF w 0 3 = false := by
          have k16_ := c16
          have k21_ := c21
          simp only [Int32.lt_iff_toInt_lt, Int32.le_iff_toInt_le] at k16_ k21_
          have l0_ : (0 : Int32).toInt = 0 := by decide
          have l3_ : (3 : Int32).toInt = 3 := by decide
          have l4_ : (4 : Int32).toInt = 4 := by decide
          rw [inF_ff]
          omega
        refine e_iconst (v := -1) (pc := 40) Xc (dT hX6_plan 22 rfl) rfl ?_
        refine e_iret (pc := 41) Xc hQ (dT hX6_plan 23 rfl) (Nat.le_refl _) (Nat.le_refl _) ?_
        have hz : v_plan X nr np w v = ((-1), X) := by
          try simp only [bI_0, bI_1, Bool.not_eq_true, Bool.not_eq_false] at c2 c16 c21
          first | (simp [v_plan, c2, c16, c21, hin_w]; done) | (clear hB hK hSA hx hXn hP5 hPp hRP hPg hPa hBI hG hT hS hPl hNo hTa hA hJ hR hD hQ Xc; simp_all [v_plan]; done)
        rw [hz]
        exact ⟨rfl, ⟨nr, nb, ns, np, nn, nt, na, dy, t, hB, hK, hW, hPa9⟩, hi9.rf, OffB.rf⟩
      · skip
        have hin_w : inF w 0 3 = true := by
          have k16_ := c16
          have k21_ := c21
          simp only [Int32.lt_iff_toInt_lt, Int32.le_iff_toInt_le] at k16_ k21_
          have l0_ : (0 : Int32).toInt = 0 := by decide
          have l3_ : (3 : Int32).toInt = 3 := by decide
          have l4_ : (4 : Int32).toInt = 4 := by decide
          rw [inF_iff]
          omega
        obtain ⟨w_, hw_, rfl⟩ := in_N (w := w) (n := 3) (by omega) hin_w
        have hc_w_ : cl (nI w_) = w_ := cl_nI (by omega)
        refine e_iload_n (pc := 24) Xc (dT hX6_plan 14 rfl) 1 rfl ?_
        refine e_iconst (v := 3) (pc := 25) Xc (dT hX6_plan 15 rfl) rfl ?_
        refine e_icmp_eqN (x := w_) (y := 3) (tgt := 42) (pc := 26) Xc (dT hX6_plan 16 rfl) rfl (by omega) (by omega) (fun c26 => ?_) (fun c26 => ?_)
        · skip
          have hw3_ : ¬ nI w_ < 3 := by rw [c26]; decide
          have hm_w_ : ¬ nI w_ = -1 := nI_nm1 (by omega)
          refine e_aload_n (pc := 42) Xc (dT hX6_plan 24 rfl) 0 rfl ?_
          refine gf_X6_27 (pc := 43) Xc (dT hX6_plan 25 rfl) hx.o rfl ?_
          refine e_refv (b := x + 37) rfl ?_
          refine gf_X6_263 (pc := 46) Xc (dT hX6_plan 26 rfl) hPp.o rfl ?_
          refine e_val (y := nI np) hRP.2.2.1 ?_
          refine e_bipush (v := 8) (pc := 49) Xc (dT hX6_plan 27 rfl) rfl ?_
          refine e_icmp_ltN (x := np) (y := 8) (tgt := 57) (pc := 51) Xc (dT hX6_plan 28 rfl) rfl (by omega) (by omega) (fun c51 => ?_) (fun c51 => ?_)
          · skip
            have hnp_ : ¬ np = 8 := by omega
            refine e_aload_n (pc := 57) Xc (dT hX6_plan 31 rfl) 0 rfl ?_
            refine gf_X6_27 (pc := 58) Xc (dT hX6_plan 32 rfl) hx.o rfl ?_
            refine e_refv (b := x + 37) rfl ?_
            refine gf_X6_266 (pc := 61) Xc (dT hX6_plan 33 rfl) hPp.o rfl ?_
            refine e_aload_n (pc := 64) Xc (dT hX6_plan 34 rfl) 0 rfl ?_
            refine gf_X6_27 (pc := 65) Xc (dT hX6_plan 35 rfl) hx.o rfl ?_
            refine e_refv (b := x + 37) rfl ?_
            refine gf_X6_263 (pc := 68) Xc (dT hX6_plan 36 rfl) hPp.o rfl ?_
            refine e_val (y := nI np) hRP.2.2.1 ?_
            refine e_iload_n (pc := 71) Xc (dT hX6_plan 37 rfl) 1 rfl ?_
            refine cl_X6_60 (pc := 72) (k := 0) (n := 0) (S := []) Xc (c_put hPp.a5 (by decide) np (by omega) (nI w_)) (dT hX6_plan 38 rfl) rfl (Nat.le_of_ble_eq_true rfl) (Nat.le_of_ble_eq_true rfl) (Nat.le_of_ble_eq_true rfl) rfl (Nat.le_of_ble_eq_true rfl) (fun σ3 hq4 => ?_)
            subst hq4
            refine Ev.gen (fun z => PX2 z (x + 37) Fp Tp (upA Ap 5 (upd (Ap 5) np (nI w_)))) (hPp.wa5 (g := (upd (Ap 5) np (nI w_)))) Off.set (fun σ5 hP6 ho7 => ?_)
            have hP8 := hx.off ho7 (by omega)
            have hP9 := hP5.off ho7 (by omega)
            have hP10 := hPg.off ho7 (by omega)
            have hP11 := hPa.off ho7 (by omega)
            have hB12 := hBw1.off ho7 (by omega) (by rw [htw1]; omega)
            refine e_aload_n (pc := 75) Xc (dT hX6_plan 39 rfl) 0 rfl ?_
            refine gf_X6_27 (pc := 76) Xc (dT hX6_plan 40 rfl) hP8.o rfl ?_
            refine e_refv (b := x + 37) rfl ?_
            refine gf_X6_269 (pc := 79) Xc (dT hX6_plan 41 rfl) hP6.o rfl ?_
            refine e_aload_n (pc := 82) Xc (dT hX6_plan 42 rfl) 0 rfl ?_
            refine gf_X6_27 (pc := 83) Xc (dT hX6_plan 43 rfl) hP8.o rfl ?_
            refine e_refv (b := x + 37) rfl ?_
            refine gf_X6_263 (pc := 86) Xc (dT hX6_plan 44 rfl) hP6.o rfl ?_
            refine e_val (y := nI np) hRP.2.2.1 ?_
            refine e_iload_n (pc := 89) Xc (dT hX6_plan 45 rfl) 2 rfl ?_
            refine cl_X6_60 (pc := 90) (k := 0) (n := 0) (S := []) Xc (c_put hP6.a6 (by decide) np (by omega) v) (dT hX6_plan 46 rfl) rfl (Nat.le_of_ble_eq_true rfl) (Nat.le_of_ble_eq_true rfl) (Nat.le_of_ble_eq_true rfl) rfl (Nat.le_of_ble_eq_true rfl) (fun σ14 hq15 => ?_)
            subst hq15
            refine Ev.gen (fun z => PX2 z (x + 37) Fp Tp (upA (upA Ap 5 (upd (Ap 5) np (nI w_))) 6 (upd (Ap 6) np v))) (hP6.wa6 (g := (upd (Ap 6) np v))) Off.set (fun σ16 hP17 ho18 => ?_)
            have hP19 := hP8.off ho18 (by omega)
            have hP20 := hP9.off ho18 (by omega)
            have hP21 := hP10.off ho18 (by omega)
            have hP22 := hP11.off ho18 (by omega)
            have hB23 := hB12.off ho18 (by omega) (by rw [htw1]; omega)
            refine e_aload_n (pc := 93) Xc (dT hX6_plan 47 rfl) 0 rfl ?_
            refine gf_X6_27 (pc := 94) Xc (dT hX6_plan 48 rfl) hP19.o rfl ?_
            refine e_refv (b := x + 37) rfl ?_
            refine e_dup (pc := 97) Xc (dT hX6_plan 49 rfl) rfl ?_
            refine gf_X6_263 (pc := 98) Xc (dT hX6_plan 50 rfl) hP17.o rfl ?_
            refine e_val (y := nI np) hRP.2.2.1 ?_
            refine e_iconst (v := 1) (pc := 101) Xc (dT hX6_plan 51 rfl) rfl ?_
            refine e_iaddN (a := np) (b := 1) (pc := 102) Xc (dT hX6_plan 52 rfl) ?_
            refine pf_X6_263 (fs' := olX2 (x + 37) (upd Fp 10 (nI (np + 1))) Tp) (pc := 103) Xc (dT hX6_plan 53 rfl) hP17.o (Nat.le_of_ble_eq_true rfl) rfl ?_
            refine Ev.gen (fun z => PX2 z (x + 37) (upd Fp 10 (nI (np + 1))) Tp (upA (upA Ap 5 (upd (Ap 5) np (nI w_))) 6 (upd (Ap 6) np v))) (hP17.wf10 (x := nI (np + 1))) Off.set (fun σ24 hP25 ho26 => ?_)
            have hP27 := hP19.off ho26 (by omega)
            have hP28 := hP20.off ho26 (by omega)
            have hP29 := hP21.off ho26 (by omega)
            have hP30 := hP22.off ho26 (by omega)
            have hB31 := hB23.off ho26 (by omega) (by rw [htw1]; omega)
            refine e_aload_n (pc := 106) Xc (dT hX6_plan 54 rfl) 0 rfl ?_
            refine gf_X6_27 (pc := 107) Xc (dT hX6_plan 55 rfl) hP27.o rfl ?_
            refine e_refv (b := x + 37) rfl ?_
            refine gf_X6_263 (pc := 110) Xc (dT hX6_plan 56 rfl) hP25.o rfl ?_
            refine e_val (y := nI (np + 1)) rfl ?_
            refine e_iret (pc := 113) Xc hQ (dT hX6_plan 57 rfl) (Nat.le_refl _) (Nat.le_refl _) ?_
            have hz : v_plan X nr np (nI w_) v = (nI (np + 1), (upd (upd (upd X (62 + np) (nI w_)) (70 + np) v) 16 (nI (np + 1)))) := by
              try simp only [bI_0, bI_1, Bool.not_eq_true, Bool.not_eq_false] at c2 c16 c21 c26 c51
              first | (simp [v_plan, c2, c16, c21, c26, c51, hin_w, hc_w_, hw3_, hm_w_, hnp_]; done) | (clear hB hK hSA hx hXn hP5 hPp hRP hPg hPa hBI hG hT hS hPl hNo hTa hA hJ hR hD hQ Xc; simp_all [v_plan]; done)
            obtain ⟨hb_, ho_⟩ := hB.paps (X' := (upd (upd (upd X (62 + np) (nI w_)) (70 + np) v) 16 (nI (np + 1)))) ((ho7.tr ho18).tr ho26) ⟨_, _, _, hP25, hRP.plan hs6 (by omega) hn8 ht100⟩ (fun j hj => by rw [inW] at hj; rw [upd_n (by omega), upd_n (by omega), upd_n (by omega)])
            obtain ⟨hk1_, hk2_⟩ := OK.plan hK hW (by omega) hw_ (fun e_ => absurd e_ (by omega))
            rw [hz]
            dsimp only
            exact ⟨rfl, ⟨nr, nb, ns, np + 1, nn, nt, na, dy, t, hb_, hk1_, hk2_, hPa9.cg (by rw [upd_n (by omega), upd_n (by omega), upd_n (by omega)]) (fun j hj => by rw [upd_n (by omega), upd_n (by omega), upd_n (by omega)])⟩, fun j hj => by rw [upd_n (by omega), upd_n (by omega), upd_n (by omega)], ho_⟩
          · skip
            have hnp_ : np = 8 := by omega
            refine e_bipush (v := -4) (pc := 54) Xc (dT hX6_plan 29 rfl) rfl ?_
            refine e_iret (pc := 56) Xc hQ (dT hX6_plan 30 rfl) (Nat.le_refl _) (Nat.le_refl _) ?_
            have hz : v_plan X nr np (nI w_) v = ((-4), X) := by
              try simp only [bI_0, bI_1, Bool.not_eq_true, Bool.not_eq_false] at c2 c16 c21 c26 c51
              first | (simp [v_plan, c2, c16, c21, c26, c51, hin_w, hc_w_, hw3_, hm_w_, hnp_]; done) | (clear hB hK hSA hx hXn hP5 hPp hRP hPg hPa hBI hG hT hS hPl hNo hTa hA hJ hR hD hQ Xc; simp_all [v_plan]; done)
            rw [hz]
            exact ⟨rfl, ⟨nr, nb, ns, np, nn, nt, na, dy, t, hB, hK, hW, hPa9⟩, hi9.rf, OffB.rf⟩
        · skip
          have hw3_ : nI w_ < 3 := by
            rw [Int32.lt_iff_toInt_lt, nI_toInt (by omega)]
            have l3_ : (3 : Int32).toInt = 3 := by decide
            omega
          have hm_w_ : ¬ nI w_ = -1 := nI_nm1 (by omega)
          refine e_aload_n (pc := 29) Xc (dT hX6_plan 17 rfl) 0 rfl ?_
          refine gf_X6_12 (pc := 30) Xc (dT hX6_plan 18 rfl) hx.o rfl ?_
          refine e_refv (b := x + 1) rfl ?_
          refine e_iload_n (pc := 33) Xc (dT hX6_plan 19 rfl) 2 rfl ?_
          refine cl_X6_99 (pc := 34) (k := 0) (n := 0) (S := []) Xc hBw1.1.o (c5_isReader hBw1 v) (dT hX6_plan 20 rfl) rfl (Nat.le_of_ble_eq_true rfl) (Nat.le_of_ble_eq_true rfl) (Nat.le_of_ble_eq_true rfl) rfl (Nat.le_of_ble_eq_true rfl) (fun r32 σ33 hq34 => ?_)
          obtain ⟨r32e, r32s⟩ := hq34
          have r32e := r32e.symm; subst r32e; have r32s := r32s.symm; subst r32s
          refine e_if_ne (tgt := 42) (pc := 37) Xc (dT hX6_plan 21 rfl) rfl (fun c37 => ?_) (fun c37 => ?_)
          · skip
            obtain ⟨q, hq, rfl⟩ := inF_nat (v := v) (n := nr) (by omega) (by simpa [bI_0, bI_1] using c37)
            have hc_q : cl (nI q) = q := cl_nI (by omega)
            refine e_aload_n (pc := 42) Xc (dT hX6_plan 24 rfl) 0 rfl ?_
            refine gf_X6_27 (pc := 43) Xc (dT hX6_plan 25 rfl) hx.o rfl ?_
            refine e_refv (b := x + 37) rfl ?_
            refine gf_X6_263 (pc := 46) Xc (dT hX6_plan 26 rfl) hPp.o rfl ?_
            refine e_val (y := nI np) hRP.2.2.1 ?_
            refine e_bipush (v := 8) (pc := 49) Xc (dT hX6_plan 27 rfl) rfl ?_
            refine e_icmp_ltN (x := np) (y := 8) (tgt := 57) (pc := 51) Xc (dT hX6_plan 28 rfl) rfl (by omega) (by omega) (fun c51 => ?_) (fun c51 => ?_)
            · skip
              have hnp_ : ¬ np = 8 := by omega
              refine e_aload_n (pc := 57) Xc (dT hX6_plan 31 rfl) 0 rfl ?_
              refine gf_X6_27 (pc := 58) Xc (dT hX6_plan 32 rfl) hx.o rfl ?_
              refine e_refv (b := x + 37) rfl ?_
              refine gf_X6_266 (pc := 61) Xc (dT hX6_plan 33 rfl) hPp.o rfl ?_
              refine e_aload_n (pc := 64) Xc (dT hX6_plan 34 rfl) 0 rfl ?_
              refine gf_X6_27 (pc := 65) Xc (dT hX6_plan 35 rfl) hx.o rfl ?_
              refine e_refv (b := x + 37) rfl ?_
              refine gf_X6_263 (pc := 68) Xc (dT hX6_plan 36 rfl) hPp.o rfl ?_
              refine e_val (y := nI np) hRP.2.2.1 ?_
              refine e_iload_n (pc := 71) Xc (dT hX6_plan 37 rfl) 1 rfl ?_
              refine cl_X6_60 (pc := 72) (k := 0) (n := 0) (S := []) Xc (c_put hPp.a5 (by decide) np (by omega) (nI w_)) (dT hX6_plan 38 rfl) rfl (Nat.le_of_ble_eq_true rfl) (Nat.le_of_ble_eq_true rfl) (Nat.le_of_ble_eq_true rfl) rfl (Nat.le_of_ble_eq_true rfl) (fun σ36 hq37 => ?_)
              subst hq37
              refine Ev.gen (fun z => PX2 z (x + 37) Fp Tp (upA Ap 5 (upd (Ap 5) np (nI w_)))) (hPp.wa5 (g := (upd (Ap 5) np (nI w_)))) Off.set (fun σ38 hP39 ho40 => ?_)
              have hP41 := hx.off ho40 (by omega)
              have hP42 := hP5.off ho40 (by omega)
              have hP43 := hPg.off ho40 (by omega)
              have hP44 := hPa.off ho40 (by omega)
              have hB45 := hBw1.off ho40 (by omega) (by rw [htw1]; omega)
              refine e_aload_n (pc := 75) Xc (dT hX6_plan 39 rfl) 0 rfl ?_
              refine gf_X6_27 (pc := 76) Xc (dT hX6_plan 40 rfl) hP41.o rfl ?_
              refine e_refv (b := x + 37) rfl ?_
              refine gf_X6_269 (pc := 79) Xc (dT hX6_plan 41 rfl) hP39.o rfl ?_
              refine e_aload_n (pc := 82) Xc (dT hX6_plan 42 rfl) 0 rfl ?_
              refine gf_X6_27 (pc := 83) Xc (dT hX6_plan 43 rfl) hP41.o rfl ?_
              refine e_refv (b := x + 37) rfl ?_
              refine gf_X6_263 (pc := 86) Xc (dT hX6_plan 44 rfl) hP39.o rfl ?_
              refine e_val (y := nI np) hRP.2.2.1 ?_
              refine e_iload_n (pc := 89) Xc (dT hX6_plan 45 rfl) 2 rfl ?_
              refine cl_X6_60 (pc := 90) (k := 0) (n := 0) (S := []) Xc (c_put hP39.a6 (by decide) np (by omega) (nI q)) (dT hX6_plan 46 rfl) rfl (Nat.le_of_ble_eq_true rfl) (Nat.le_of_ble_eq_true rfl) (Nat.le_of_ble_eq_true rfl) rfl (Nat.le_of_ble_eq_true rfl) (fun σ47 hq48 => ?_)
              subst hq48
              refine Ev.gen (fun z => PX2 z (x + 37) Fp Tp (upA (upA Ap 5 (upd (Ap 5) np (nI w_))) 6 (upd (Ap 6) np (nI q)))) (hP39.wa6 (g := (upd (Ap 6) np (nI q)))) Off.set (fun σ49 hP50 ho51 => ?_)
              have hP52 := hP41.off ho51 (by omega)
              have hP53 := hP42.off ho51 (by omega)
              have hP54 := hP43.off ho51 (by omega)
              have hP55 := hP44.off ho51 (by omega)
              have hB56 := hB45.off ho51 (by omega) (by rw [htw1]; omega)
              refine e_aload_n (pc := 93) Xc (dT hX6_plan 47 rfl) 0 rfl ?_
              refine gf_X6_27 (pc := 94) Xc (dT hX6_plan 48 rfl) hP52.o rfl ?_
              refine e_refv (b := x + 37) rfl ?_
              refine e_dup (pc := 97) Xc (dT hX6_plan 49 rfl) rfl ?_
              refine gf_X6_263 (pc := 98) Xc (dT hX6_plan 50 rfl) hP50.o rfl ?_
              refine e_val (y := nI np) hRP.2.2.1 ?_
              refine e_iconst (v := 1) (pc := 101) Xc (dT hX6_plan 51 rfl) rfl ?_
              refine e_iaddN (a := np) (b := 1) (pc := 102) Xc (dT hX6_plan 52 rfl) ?_
              refine pf_X6_263 (fs' := olX2 (x + 37) (upd Fp 10 (nI (np + 1))) Tp) (pc := 103) Xc (dT hX6_plan 53 rfl) hP50.o (Nat.le_of_ble_eq_true rfl) rfl ?_
              refine Ev.gen (fun z => PX2 z (x + 37) (upd Fp 10 (nI (np + 1))) Tp (upA (upA Ap 5 (upd (Ap 5) np (nI w_))) 6 (upd (Ap 6) np (nI q)))) (hP50.wf10 (x := nI (np + 1))) Off.set (fun σ57 hP58 ho59 => ?_)
              have hP60 := hP52.off ho59 (by omega)
              have hP61 := hP53.off ho59 (by omega)
              have hP62 := hP54.off ho59 (by omega)
              have hP63 := hP55.off ho59 (by omega)
              have hB64 := hB56.off ho59 (by omega) (by rw [htw1]; omega)
              refine e_aload_n (pc := 106) Xc (dT hX6_plan 54 rfl) 0 rfl ?_
              refine gf_X6_27 (pc := 107) Xc (dT hX6_plan 55 rfl) hP60.o rfl ?_
              refine e_refv (b := x + 37) rfl ?_
              refine gf_X6_263 (pc := 110) Xc (dT hX6_plan 56 rfl) hP58.o rfl ?_
              refine e_val (y := nI (np + 1)) rfl ?_
              refine e_iret (pc := 113) Xc hQ (dT hX6_plan 57 rfl) (Nat.le_refl _) (Nat.le_refl _) ?_
              have hz : v_plan X nr np (nI w_) (nI q) = (nI (np + 1), (upd (upd (upd X (62 + np) (nI w_)) (70 + np) (nI q)) 16 (nI (np + 1)))) := by
                try simp only [bI_0, bI_1, Bool.not_eq_true, Bool.not_eq_false] at c2 c16 c21 c26 c37 c51
                first | (simp [v_plan, c2, c16, c21, c26, c37, c51, hin_w, hc_w_, hw3_, hm_w_, hc_q, hnp_]; done) | (clear hB hK hSA hx hXn hP5 hPp hRP hPg hPa hBI hG hT hS hPl hNo hTa hA hJ hR hD hQ Xc; simp_all [v_plan]; done)
              obtain ⟨hb_, ho_⟩ := hB.paps (X' := (upd (upd (upd X (62 + np) (nI w_)) (70 + np) (nI q)) 16 (nI (np + 1)))) ((ho40.tr ho51).tr ho59) ⟨_, _, _, hP58, hRP.plan hs6 (by omega) hn8 ht100⟩ (fun j hj => by rw [inW] at hj; rw [upd_n (by omega), upd_n (by omega), upd_n (by omega)])
              obtain ⟨hk1_, hk2_⟩ := OK.plan hK hW (by omega) hw_ (fun _ => ⟨q, hq, rfl⟩)
              rw [hz]
              dsimp only
              exact ⟨rfl, ⟨nr, nb, ns, np + 1, nn, nt, na, dy, t, hb_, hk1_, hk2_, hPa9.cg (by rw [upd_n (by omega), upd_n (by omega), upd_n (by omega)]) (fun j hj => by rw [upd_n (by omega), upd_n (by omega), upd_n (by omega)])⟩, fun j hj => by rw [upd_n (by omega), upd_n (by omega), upd_n (by omega)], ho_⟩
            · skip
              have hnp_ : np = 8 := by omega
              refine e_bipush (v := -4) (pc := 54) Xc (dT hX6_plan 29 rfl) rfl ?_
              refine e_iret (pc := 56) Xc hQ (dT hX6_plan 30 rfl) (Nat.le_refl _) (Nat.le_refl _) ?_
              have hz : v_plan X nr np (nI w_) (nI q) = ((-4), X) := by
                try simp only [bI_0, bI_1, Bool.not_eq_true, Bool.not_eq_false] at c2 c16 c21 c26 c37 c51
                first | (simp [v_plan, c2, c16, c21, c26, c37, c51, hin_w, hc_w_, hw3_, hm_w_, hc_q, hnp_]; done) | (clear hB hK hSA hx hXn hP5 hPp hRP hPg hPa hBI hG hT hS hPl hNo hTa hA hJ hR hD hQ Xc; simp_all [v_plan]; done)
              rw [hz]
              exact ⟨rfl, ⟨nr, nb, ns, np, nn, nt, na, dy, t, hB, hK, hW, hPa9⟩, hi9.rf, OffB.rf⟩
          · skip
            refine e_iconst (v := -1) (pc := 40) Xc (dT hX6_plan 22 rfl) rfl ?_
            refine e_iret (pc := 41) Xc hQ (dT hX6_plan 23 rfl) (Nat.le_refl _) (Nat.le_refl _) ?_
            have hz : v_plan X nr np (nI w_) v = ((-1), X) := by
              try simp only [bI_0, bI_1, Bool.not_eq_true, Bool.not_eq_false] at c2 c16 c21 c26 c37
              first | (simp [v_plan, c2, c16, c21, c26, c37, hin_w, hc_w_, hw3_, hm_w_]; done) | (clear hB hK hSA hx hXn hP5 hPp hRP hPg hPa hBI hG hT hS hPl hNo hTa hA hJ hR hD hQ Xc; simp_all [v_plan]; done)
            rw [hz]
            exact ⟨rfl, ⟨nr, nb, ns, np, nn, nt, na, dy, t, hB, hK, hW, hPa9⟩, hi9.rf, OffB.rf⟩
  · skip
    refine e_aload_n (pc := 5) Xc (dT hX6_plan 3 rfl) 0 rfl ?_
    refine gf_X6_27 (pc := 6) Xc (dT hX6_plan 4 rfl) hx.o rfl ?_
    refine e_refv (b := x + 37) rfl ?_
    refine e_iconst (v := 0) (pc := 9) Xc (dT hX6_plan 5 rfl) rfl ?_
    refine pf_X6_263 (fs' := olX2 (x + 37) (upd Fp 10 0) Tp) (pc := 10) Xc (dT hX6_plan 6 rfl) hPp.o (Nat.le_of_ble_eq_true rfl) rfl ?_
    refine Ev.gen (fun z => PX2 z (x + 37) (upd Fp 10 0) Tp Ap) (hPp.wf10 (x := 0)) Off.set (fun σ65 hP66 ho67 => ?_)
    have hP68 := hx.off ho67 (by omega)
    have hP69 := hP5.off ho67 (by omega)
    have hP70 := hPg.off ho67 (by omega)
    have hP71 := hPa.off ho67 (by omega)
    have hB72 := hBw1.off ho67 (by omega) (by rw [htw1]; omega)
    refine e_iconst (v := 0) (pc := 13) Xc (dT hX6_plan 7 rfl) rfl ?_
    refine e_iret (pc := 14) Xc hQ (dT hX6_plan 8 rfl) (Nat.le_refl _) (Nat.le_refl _) ?_
    have hz : v_plan X nr np w v = (0, (upd X 16 0)) := by
      try simp only [bI_0, bI_1, Bool.not_eq_true, Bool.not_eq_false] at c2
      first | (simp [v_plan, c2]; done) | (clear hB hK hSA hx hXn hP5 hPp hRP hPg hPa hBI hG hT hS hPl hNo hTa hA hJ hR hD hQ Xc; simp_all [v_plan]; done)
    obtain ⟨hb_, ho_⟩ := hB.paps (X' := (upd X 16 0)) ho67 ⟨_, _, _, hP66, hRP.plan0 hs6 hn8 ht100⟩ (fun j hj => by rw [inW] at hj; rw [upd_n (by omega)])
    obtain ⟨hk1_, hk2_⟩ := OK.plan0 hK hW
    rw [hz]
    dsimp only
    exact ⟨rfl, ⟨nr, nb, ns, 0, nn, nt, na, dy, t, hb_, hk1_, hk2_, hPa9.cg (by rw [upd_n (by omega)]) (fun j hj => by rw [upd_n (by omega)])⟩, fun j hj => by rw [upd_n (by omega)], ho_⟩
set_option maxRecDepth 100000 in
set_option maxHeartbeats 4000000 in
theorem b_note {G : xG} {σ : xS} {x m : Nat} {X Y bd : Nat → Int32} {hi : Int32} {rr : Nat} {nr nb ns np nn nt na dy : Nat} {t : xT} (hB : BK G σ x m X Y bd hi rr nr nb ns np nn nt t) (hK : OK X nr nb t ns np nn nt na dy) (hW : okW X) (hPa9 : okPt X) (v : Int32) (b : Int32) : CI G yX6_note cX6_note 3 (some .int) 2 0 0 [.ref x, .int v, .int b] σ (fun z σ1 => z = (v_note X nr nb nn v b).1 ∧ ST G σ1 x m (v_note X nr nb nn v b).2 Y bd hi rr ∧ hi9 X (v_note X nr nb nn v b).2 ∧ OffB x σ σ1) := by
  refine Met.ofX (by decide +kernel) (Nat.le_of_ble_eq_true rfl) (fun μ Xc hQ hnm => ?_)
  have Xc : xC G μ cX6_note 3 RX6 (some .int) 2 0 0 := Xc
  obtain ⟨hSA, ⟨hgA, hgO⟩, hxm, hms, ⟨Fx, Ax, hx, hF7⟩, ⟨tw, htw, hXn⟩, ⟨F5, T5, A5, hP5⟩, ⟨Fp, Tp, Ap, hPp, hRP⟩, ⟨Fg, Tg, Ag, hPg⟩, ⟨Fa, Ta, Aa, hPa, hFa1, hAa⟩, hBI⟩ := id hB
  obtain ⟨htw1, htw2, htw3⟩ := id htw
  obtain ⟨hG, hT, hS, hPl, hNo, hTa, hA, hJ, hR, hD⟩ := id hK
  have hr4 := hG.r4
  have hb7 := hG.b7
  have hs6 := hS.1
  have hp8 := hPl.1
  have hn8 := hNo.1
  have ht100 := hTa.1
  have ha5 := hA.1
  have hdy := hD.1
  have hd0 := hD.2
  have ht13 : tw ≠ x + 13 := by omega
  have hb8 : ns ≤ 6 ∧ np ≤ 8 ∧ nn ≤ 8 ∧ nt ≤ 100 := ⟨hs6, hp8, hn8, ht100⟩
  show Ev G μ 3 0 0 0 [(0, .ref x), (1, .int v), (2, .int b)] [] σ
  obtain ⟨Fw1, Tw1, Aw1, hBw1, htw1⟩ := id hXn
  have hWw1 := hBw1.2.1
  refine e_iload_n (pc := 0) Xc (dT hX6_note 0 rfl) 1 rfl ?_
  refine e_iconst (v := -1) (pc := 1) Xc (dT hX6_note 1 rfl) rfl ?_
  refine e_icmp_ne (tgt := 15) (pc := 2) Xc (dT hX6_note 2 rfl) rfl (fun c2 => ?_) (fun c2 => ?_)
  · skip
    refine e_aload_n (pc := 15) Xc (dT hX6_note 9 rfl) 0 rfl ?_
    refine gf_X6_12 (pc := 16) Xc (dT hX6_note 10 rfl) hx.o rfl ?_
    refine e_refv (b := x + 1) rfl ?_
    refine e_iload_n (pc := 19) Xc (dT hX6_note 11 rfl) 1 rfl ?_
    refine cl_X6_99 (pc := 20) (k := 0) (n := 0) (S := []) Xc hBw1.1.o (c5_isReader hBw1 v) (dT hX6_note 12 rfl) rfl (Nat.le_of_ble_eq_true rfl) (Nat.le_of_ble_eq_true rfl) (Nat.le_of_ble_eq_true rfl) rfl (Nat.le_of_ble_eq_true rfl) (fun r2 σ3 hq4 => ?_)
    obtain ⟨r2e, r2s⟩ := hq4
    have r2e := r2e.symm; subst r2e; have r2s := r2s.symm; subst r2s
    refine e_if_eq (tgt := 37) (pc := 23) Xc (dT hX6_note 13 rfl) rfl (fun c23 => ?_) (fun c23 => ?_)
    · skip
      refine e_iconst (v := -1) (pc := 37) Xc (dT hX6_note 19 rfl) rfl ?_
      refine e_iret (pc := 38) Xc hQ (dT hX6_note 20 rfl) (Nat.le_refl _) (Nat.le_refl _) ?_
      have hz : v_note X nr nb nn v b = ((-1), X) := by
        try simp only [bI_0, bI_1, Bool.not_eq_true, Bool.not_eq_false] at c2 c23
        first | (simp [v_note, c2, c23]; done) | (clear hB hK hSA hx hXn hP5 hPp hRP hPg hPa hBI hG hT hS hPl hNo hTa hA hJ hR hD hQ Xc; simp_all [v_note]; done)
      rw [hz]
      exact ⟨rfl, ⟨nr, nb, ns, np, nn, nt, na, dy, t, hB, hK, hW, hPa9⟩, hi9.rf, OffB.rf⟩
    · skip
      obtain ⟨q, hq, rfl⟩ := inF_nat (v := v) (n := nr) (by omega) (by simpa [bI_0, bI_1] using c23)
      have hc_q : cl (nI q) = q := cl_nI (by omega)
      have hm_q : ¬ nI q = -1 := nI_nm1 (by omega)
      refine e_aload_n (pc := 26) Xc (dT hX6_note 14 rfl) 0 rfl ?_
      refine gf_X6_12 (pc := 27) Xc (dT hX6_note 15 rfl) hx.o rfl ?_
      refine e_refv (b := x + 1) rfl ?_
      refine e_iload_n (pc := 30) Xc (dT hX6_note 16 rfl) 2 rfl ?_
      refine cl_X6_126 (pc := 31) (k := 0) (n := 0) (S := []) Xc hBw1.1.o (c5_isBook hBw1 b) (dT hX6_note 17 rfl) rfl (Nat.le_of_ble_eq_true rfl) (Nat.le_of_ble_eq_true rfl) (Nat.le_of_ble_eq_true rfl) rfl (Nat.le_of_ble_eq_true rfl) (fun r5 σ6 hq7 => ?_)
      obtain ⟨r5e, r5s⟩ := hq7
      have r5e := r5e.symm; subst r5e; have r5s := r5s.symm; subst r5s
      refine e_if_ne (tgt := 39) (pc := 34) Xc (dT hX6_note 18 rfl) rfl (fun c34 => ?_) (fun c34 => ?_)
      · skip
        obtain ⟨p, hp, rfl⟩ := inF_nat (v := b) (n := nb) (by omega) (by simpa [bI_0, bI_1] using c34)
        have hc_p : cl (nI p) = p := cl_nI (by omega)
        refine e_aload_n (pc := 39) Xc (dT hX6_note 21 rfl) 0 rfl ?_
        refine gf_X6_27 (pc := 40) Xc (dT hX6_note 22 rfl) hx.o rfl ?_
        refine e_refv (b := x + 37) rfl ?_
        refine gf_X6_275 (pc := 43) Xc (dT hX6_note 23 rfl) hPp.o rfl ?_
        refine e_val (y := nI nn) hRP.2.2.2.1 ?_
        refine e_bipush (v := 8) (pc := 46) Xc (dT hX6_note 24 rfl) rfl ?_
        refine e_icmp_ltN (x := nn) (y := 8) (tgt := 54) (pc := 48) Xc (dT hX6_note 25 rfl) rfl (by omega) (by omega) (fun c48 => ?_) (fun c48 => ?_)
        · skip
          have hnn_ : ¬ nn = 8 := by omega
          refine e_aload_n (pc := 54) Xc (dT hX6_note 28 rfl) 0 rfl ?_
          refine gf_X6_27 (pc := 55) Xc (dT hX6_note 29 rfl) hx.o rfl ?_
          refine e_refv (b := x + 37) rfl ?_
          refine gf_X6_278 (pc := 58) Xc (dT hX6_note 30 rfl) hPp.o rfl ?_
          refine e_aload_n (pc := 61) Xc (dT hX6_note 31 rfl) 0 rfl ?_
          refine gf_X6_27 (pc := 62) Xc (dT hX6_note 32 rfl) hx.o rfl ?_
          refine e_refv (b := x + 37) rfl ?_
          refine gf_X6_275 (pc := 65) Xc (dT hX6_note 33 rfl) hPp.o rfl ?_
          refine e_val (y := nI nn) hRP.2.2.2.1 ?_
          refine e_iload_n (pc := 68) Xc (dT hX6_note 34 rfl) 1 rfl ?_
          refine cl_X6_60 (pc := 69) (k := 0) (n := 0) (S := []) Xc (c_put hPp.a7 (by decide) nn (by omega) (nI q)) (dT hX6_note 35 rfl) rfl (Nat.le_of_ble_eq_true rfl) (Nat.le_of_ble_eq_true rfl) (Nat.le_of_ble_eq_true rfl) rfl (Nat.le_of_ble_eq_true rfl) (fun σ9 hq10 => ?_)
          subst hq10
          refine Ev.gen (fun z => PX2 z (x + 37) Fp Tp (upA Ap 7 (upd (Ap 7) nn (nI q)))) (hPp.wa7 (g := (upd (Ap 7) nn (nI q)))) Off.set (fun σ11 hP12 ho13 => ?_)
          have hP14 := hx.off ho13 (by omega)
          have hP15 := hP5.off ho13 (by omega)
          have hP16 := hPg.off ho13 (by omega)
          have hP17 := hPa.off ho13 (by omega)
          have hB18 := hBw1.off ho13 (by omega) (by rw [htw1]; omega)
          refine e_aload_n (pc := 72) Xc (dT hX6_note 36 rfl) 0 rfl ?_
          refine gf_X6_27 (pc := 73) Xc (dT hX6_note 37 rfl) hP14.o rfl ?_
          refine e_refv (b := x + 37) rfl ?_
          refine gf_X6_281 (pc := 76) Xc (dT hX6_note 38 rfl) hP12.o rfl ?_
          refine e_aload_n (pc := 79) Xc (dT hX6_note 39 rfl) 0 rfl ?_
          refine gf_X6_27 (pc := 80) Xc (dT hX6_note 40 rfl) hP14.o rfl ?_
          refine e_refv (b := x + 37) rfl ?_
          refine gf_X6_275 (pc := 83) Xc (dT hX6_note 41 rfl) hP12.o rfl ?_
          refine e_val (y := nI nn) hRP.2.2.2.1 ?_
          refine e_iload_n (pc := 86) Xc (dT hX6_note 42 rfl) 2 rfl ?_
          refine cl_X6_60 (pc := 87) (k := 0) (n := 0) (S := []) Xc (c_put hP12.a8 (by decide) nn (by omega) (nI p)) (dT hX6_note 43 rfl) rfl (Nat.le_of_ble_eq_true rfl) (Nat.le_of_ble_eq_true rfl) (Nat.le_of_ble_eq_true rfl) rfl (Nat.le_of_ble_eq_true rfl) (fun σ20 hq21 => ?_)
          subst hq21
          refine Ev.gen (fun z => PX2 z (x + 37) Fp Tp (upA (upA Ap 7 (upd (Ap 7) nn (nI q))) 8 (upd (Ap 8) nn (nI p)))) (hP12.wa8 (g := (upd (Ap 8) nn (nI p)))) Off.set (fun σ22 hP23 ho24 => ?_)
          have hP25 := hP14.off ho24 (by omega)
          have hP26 := hP15.off ho24 (by omega)
          have hP27 := hP16.off ho24 (by omega)
          have hP28 := hP17.off ho24 (by omega)
          have hB29 := hB18.off ho24 (by omega) (by rw [htw1]; omega)
          refine e_aload_n (pc := 90) Xc (dT hX6_note 44 rfl) 0 rfl ?_
          refine gf_X6_27 (pc := 91) Xc (dT hX6_note 45 rfl) hP25.o rfl ?_
          refine e_refv (b := x + 37) rfl ?_
          refine e_dup (pc := 94) Xc (dT hX6_note 46 rfl) rfl ?_
          refine gf_X6_275 (pc := 95) Xc (dT hX6_note 47 rfl) hP23.o rfl ?_
          refine e_val (y := nI nn) hRP.2.2.2.1 ?_
          refine e_iconst (v := 1) (pc := 98) Xc (dT hX6_note 48 rfl) rfl ?_
          refine e_iaddN (a := nn) (b := 1) (pc := 99) Xc (dT hX6_note 49 rfl) ?_
          refine pf_X6_275 (fs' := olX2 (x + 37) (upd Fp 11 (nI (nn + 1))) Tp) (pc := 100) Xc (dT hX6_note 50 rfl) hP23.o (Nat.le_of_ble_eq_true rfl) rfl ?_
          refine Ev.gen (fun z => PX2 z (x + 37) (upd Fp 11 (nI (nn + 1))) Tp (upA (upA Ap 7 (upd (Ap 7) nn (nI q))) 8 (upd (Ap 8) nn (nI p)))) (hP23.wf11 (x := nI (nn + 1))) Off.set (fun σ30 hP31 ho32 => ?_)
          have hP33 := hP25.off ho32 (by omega)
          have hP34 := hP26.off ho32 (by omega)
          have hP35 := hP27.off ho32 (by omega)
          have hP36 := hP28.off ho32 (by omega)
          have hB37 := hB29.off ho32 (by omega) (by rw [htw1]; omega)
          refine e_aload_n (pc := 103) Xc (dT hX6_note 51 rfl) 0 rfl ?_
          refine gf_X6_27 (pc := 104) Xc (dT hX6_note 52 rfl) hP33.o rfl ?_
          refine e_refv (b := x + 37) rfl ?_
          refine gf_X6_275 (pc := 107) Xc (dT hX6_note 53 rfl) hP31.o rfl ?_
          refine e_val (y := nI (nn + 1)) rfl ?_
          refine e_iret (pc := 110) Xc hQ (dT hX6_note 54 rfl) (Nat.le_refl _) (Nat.le_refl _) ?_
          have hz : v_note X nr nb nn (nI q) (nI p) = (nI (nn + 1), (upd (upd (upd X (78 + nn) (nI q)) (86 + nn) (nI p)) 17 (nI (nn + 1)))) := by
            try simp only [bI_0, bI_1, Bool.not_eq_true, Bool.not_eq_false] at c2 c23 c34 c48
            first | (simp [v_note, c2, c23, c34, c48, hc_q, hm_q, hc_p, hnn_]; done) | (clear hB hK hSA hx hXn hP5 hPp hRP hPg hPa hBI hG hT hS hPl hNo hTa hA hJ hR hD hQ Xc; simp_all [v_note]; done)
          obtain ⟨hb_, ho_⟩ := hB.paps (X' := (upd (upd (upd X (78 + nn) (nI q)) (86 + nn) (nI p)) 17 (nI (nn + 1)))) ((ho13.tr ho24).tr ho32) ⟨_, _, _, hP31, hRP.note hs6 hp8 (by omega) ht100⟩ (fun j hj => by rw [inW] at hj; rw [upd_n (by omega), upd_n (by omega), upd_n (by omega)])
          obtain ⟨hk1_, hk2_⟩ := OK.note hK hW (by omega) hq hp
          rw [hz]
          dsimp only
          exact ⟨rfl, ⟨nr, nb, ns, np, nn + 1, nt, na, dy, t, hb_, hk1_, hk2_, hPa9.cg (by rw [upd_n (by omega), upd_n (by omega), upd_n (by omega)]) (fun j hj => by rw [upd_n (by omega), upd_n (by omega), upd_n (by omega)])⟩, fun j hj => by rw [upd_n (by omega), upd_n (by omega), upd_n (by omega)], ho_⟩
        · skip
          have hnn_ : nn = 8 := by omega
          refine e_bipush (v := -4) (pc := 51) Xc (dT hX6_note 26 rfl) rfl ?_
          refine e_iret (pc := 53) Xc hQ (dT hX6_note 27 rfl) (Nat.le_refl _) (Nat.le_refl _) ?_
          have hz : v_note X nr nb nn (nI q) (nI p) = ((-4), X) := by
            try simp only [bI_0, bI_1, Bool.not_eq_true, Bool.not_eq_false] at c2 c23 c34 c48
            first | (simp [v_note, c2, c23, c34, c48, hc_q, hm_q, hc_p, hnn_]; done) | (clear hB hK hSA hx hXn hP5 hPp hRP hPg hPa hBI hG hT hS hPl hNo hTa hA hJ hR hD hQ Xc; simp_all [v_note]; done)
          rw [hz]
          exact ⟨rfl, ⟨nr, nb, ns, np, nn, nt, na, dy, t, hB, hK, hW, hPa9⟩, hi9.rf, OffB.rf⟩
      · skip
        refine e_iconst (v := -1) (pc := 37) Xc (dT hX6_note 19 rfl) rfl ?_
        refine e_iret (pc := 38) Xc hQ (dT hX6_note 20 rfl) (Nat.le_refl _) (Nat.le_refl _) ?_
        have hz : v_note X nr nb nn (nI q) b = ((-1), X) := by
          try simp only [bI_0, bI_1, Bool.not_eq_true, Bool.not_eq_false] at c2 c23 c34
          first | (simp [v_note, c2, c23, c34, hc_q, hm_q]; done) | (clear hB hK hSA hx hXn hP5 hPp hRP hPg hPa hBI hG hT hS hPl hNo hTa hA hJ hR hD hQ Xc; simp_all [v_note]; done)
        rw [hz]
        exact ⟨rfl, ⟨nr, nb, ns, np, nn, nt, na, dy, t, hB, hK, hW, hPa9⟩, hi9.rf, OffB.rf⟩
  · skip
    refine e_aload_n (pc := 5) Xc (dT hX6_note 3 rfl) 0 rfl ?_
    refine gf_X6_27 (pc := 6) Xc (dT hX6_note 4 rfl) hx.o rfl ?_
    refine e_refv (b := x + 37) rfl ?_
    refine e_iconst (v := 0) (pc := 9) Xc (dT hX6_note 5 rfl) rfl ?_
    refine pf_X6_275 (fs' := olX2 (x + 37) (upd Fp 11 0) Tp) (pc := 10) Xc (dT hX6_note 6 rfl) hPp.o (Nat.le_of_ble_eq_true rfl) rfl ?_
    refine Ev.gen (fun z => PX2 z (x + 37) (upd Fp 11 0) Tp Ap) (hPp.wf11 (x := 0)) Off.set (fun σ38 hP39 ho40 => ?_)
    have hP41 := hx.off ho40 (by omega)
    have hP42 := hP5.off ho40 (by omega)
    have hP43 := hPg.off ho40 (by omega)
    have hP44 := hPa.off ho40 (by omega)
    have hB45 := hBw1.off ho40 (by omega) (by rw [htw1]; omega)
    refine e_iconst (v := 0) (pc := 13) Xc (dT hX6_note 7 rfl) rfl ?_
    refine e_iret (pc := 14) Xc hQ (dT hX6_note 8 rfl) (Nat.le_refl _) (Nat.le_refl _) ?_
    have hz : v_note X nr nb nn v b = (0, (upd X 17 0)) := by
      try simp only [bI_0, bI_1, Bool.not_eq_true, Bool.not_eq_false] at c2
      first | (simp [v_note, c2]; done) | (clear hB hK hSA hx hXn hP5 hPp hRP hPg hPa hBI hG hT hS hPl hNo hTa hA hJ hR hD hQ Xc; simp_all [v_note]; done)
    obtain ⟨hb_, ho_⟩ := hB.paps (X' := (upd X 17 0)) ho40 ⟨_, _, _, hP39, hRP.note0 hs6 hp8 ht100⟩ (fun j hj => by rw [inW] at hj; rw [upd_n (by omega)])
    obtain ⟨hk1_, hk2_⟩ := OK.note0 hK hW
    rw [hz]
    dsimp only
    exact ⟨rfl, ⟨nr, nb, ns, np, 0, nt, na, dy, t, hb_, hk1_, hk2_, hPa9.cg (by rw [upd_n (by omega)]) (fun j hj => by rw [upd_n (by omega)])⟩, fun j hj => by rw [upd_n (by omega)], ho_⟩
