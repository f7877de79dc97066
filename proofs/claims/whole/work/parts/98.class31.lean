set_option maxRecDepth 100000 in
set_option maxHeartbeats 4000000 in
theorem b_book {G : xG} {σ : xS} {x m : Nat} {X Y bd : Nat → Int32} {hi : Int32} {rr : Nat} {nr nb ns np nn nt na dy : Nat} {t : xT} (hB : BK G σ x m X Y bd hi rr nr nb ns np nn nt t) (hK : OK X nr nb t ns np nn nt na dy) (hW : okW X) (hPa9 : okPt X) (th : Int32) : CI G yX6_book cX6_book 2 (some .int) 1 0 0 [.ref x, .int th] σ (fun z σ1 => z = (v_book X nb th).1 ∧ ST G σ1 x m (v_book X nb th).2 Y bd hi rr ∧ hi9 X (v_book X nb th).2 ∧ OffB x σ σ1) := by
  refine Met.ofX (by decide +kernel) (Nat.le_of_ble_eq_true rfl) (fun μ Xc hQ hnm => ?_)
  have Xc : xC G μ cX6_book 2 RX6 (some .int) 1 0 0 := Xc
  obtain ⟨hSA, ⟨hgA, hgO⟩, hxm, hms, ⟨Fx, Ax, hx, hF7⟩, ⟨tw, htw, hXn⟩, ⟨F5, T5, A5, hP5⟩, ⟨Fp, Tp, Ap, hPp, hRP⟩, ⟨Fg, Tg, Ag, hPg⟩, ⟨Fa, Ta, Aa, hPa, hFa1, hAa⟩, hBI⟩ := id hB
  obtain ⟨htw1, htw2, htw3⟩ := id htw
  obtain ⟨hG, hT, hS, hPl, hNo, hTa, hA, hJ, hR, hD⟩ := id hK
  have hr4 := hG.r4
  have hb7 := hG.b7
  have hs6 := hS.1
  have hp8 := hPl.1
  have hn8 := hNo.1
  have ht100 := hTa.1
  have ha5 := hA.1
  have hdy := hD.1
  have hd0 := hD.2
  have ht13 : tw ≠ x + 13 := by omega
  have hb8 : ns ≤ 6 ∧ np ≤ 8 ∧ nn ≤ 8 ∧ nt ≤ 100 := ⟨hs6, hp8, hn8, ht100⟩
  show Ev G μ 2 0 0 0 [(0, .ref x), (1, .int th)] [] σ
  obtain ⟨Fw1, Tw1, Aw1, hBw1, htw1⟩ := id hXn
  have hWw1 := hBw1.2.1
  refine e_iload_n (pc := 0) Xc (dT hX6_book 0 rfl) 1 rfl ?_
  refine e_iconst (v := 1) (pc := 1) Xc (dT hX6_book 1 rfl) rfl ?_
  refine e_icmp_lt (tgt := 11) (pc := 2) Xc (dT hX6_book 2 rfl) rfl (fun c2 => ?_) (fun c2 => ?_)
  · skip
    have hin_th : inF th 1 99 = false := by
      have k2_ := c2
      simp only [Int32.lt_iff_toInt_lt, Int32.le_iff_toInt_le] at k2_
      have l1_ : (1 : Int32).toInt = 1 := by decide
      have l99_ : (99 : Int32).toInt = 99 := by decide
      have l100_ : (100 : Int32).toInt = 100 := by decide
      rw [inF_ff]
      omega
    refine e_bipush (v := -2) (pc := 11) Xc (dT hX6_book 6 rfl) rfl ?_
    refine e_iret (pc := 13) Xc hQ (dT hX6_book 7 rfl) (Nat.le_refl _) (Nat.le_refl _) ?_
    have hz : v_book X nb th = ((-2), X) := by
      try simp only [bI_0, bI_1, Bool.not_eq_true, Bool.not_eq_false] at c2
      first | (simp [v_book, c2, hin_th]; done) | (clear hB hK hSA hx hXn hP5 hPp hRP hPg hPa hBI hG hT hS hPl hNo hTa hA hJ hR hD hQ Xc; simp_all [v_book]; done)
    rw [hz]
    exact ⟨rfl, ⟨nr, nb, ns, np, nn, nt, na, dy, t, hB, hK, hW, hPa9⟩, hi9.rf, OffB.rf⟩
  · skip
    refine e_iload_n (pc := 5) Xc (dT hX6_book 3 rfl) 1 rfl ?_
    refine e_bipush (v := 99) (pc := 6) Xc (dT hX6_book 4 rfl) rfl ?_
    refine e_icmp_le (tgt := 14) (pc := 8) Xc (dT hX6_book 5 rfl) rfl (fun c8 => ?_) (fun c8 => ?_)
    · skip
      have hin_th : inF th 1 99 = true := by
        have k2_ := c2
        have k8_ := c8
        simp only [Int32.lt_iff_toInt_lt, Int32.le_iff_toInt_le] at k2_ k8_
        have l1_ : (1 : Int32).toInt = 1 := by decide
        have l99_ : (99 : Int32).toInt = 99 := by decide
        have l100_ : (100 : Int32).toInt = 100 := by decide
        rw [inF_iff]
        omega
      obtain ⟨k, hk1, hk9, rfl⟩ := in_1 hin_th
      refine e_aload_n (pc := 14) Xc (dT hX6_book 8 rfl) 0 rfl ?_
      refine gf_X6_12 (pc := 15) Xc (dT hX6_book 9 rfl) hx.o rfl ?_
      refine e_refv (b := x + 1) rfl ?_
      refine gf_X6_86 (pc := 18) Xc (dT hX6_book 10 rfl) hBw1.1.o rfl ?_
      refine e_val (y := nI nb) hWw1.2.2.2.2.2.1 ?_
      refine e_bipush (v := 7) (pc := 21) Xc (dT hX6_book 11 rfl) rfl ?_
      refine e_icmp_ltN (x := nb) (y := 7) (tgt := 29) (pc := 23) Xc (dT hX6_book 12 rfl) rfl (by omega) (by omega) (fun c23 => ?_) (fun c23 => ?_)
      · skip
        have hnb_ : ¬ nb = 7 := by omega
        refine e_aload_n (pc := 29) Xc (dT hX6_book 15 rfl) 0 rfl ?_
        refine gf_X6_12 (pc := 30) Xc (dT hX6_book 16 rfl) hx.o rfl ?_
        refine e_refv (b := x + 1) rfl ?_
        refine gf_X6_89 (pc := 33) Xc (dT hX6_book 17 rfl) hBw1.1.o rfl ?_
        refine e_aload_n (pc := 36) Xc (dT hX6_book 18 rfl) 0 rfl ?_
        refine gf_X6_12 (pc := 37) Xc (dT hX6_book 19 rfl) hx.o rfl ?_
        refine e_refv (b := x + 1) rfl ?_
        refine gf_X6_86 (pc := 40) Xc (dT hX6_book 20 rfl) hBw1.1.o rfl ?_
        refine e_val (y := nI nb) hWw1.2.2.2.2.2.1 ?_
        refine e_iload_n (pc := 43) Xc (dT hX6_book 21 rfl) 1 rfl ?_
        refine cl_X6_60 (pc := 44) (k := 0) (n := 0) (S := []) Xc (c_put hBw1.1.a1 (by decide) nb (by omega) (nI k)) (dT hX6_book 22 rfl) rfl (Nat.le_of_ble_eq_true rfl) (Nat.le_of_ble_eq_true rfl) (Nat.le_of_ble_eq_true rfl) rfl (Nat.le_of_ble_eq_true rfl) (fun σ3 hq4 => ?_)
        subst hq4
        refine Ev.gen (fun z => PX5 z (x + 1) Fw1 Tw1 (upA Aw1 1 (upd (Aw1 1) nb (nI k)))) (hBw1.1.wa1 (g := (upd (Aw1 1) nb (nI k)))) Off.set (fun σ5 hP6 ho7 => ?_)
        have hP8 := hx.off ho7 (by omega)
        have hP9 := hP5.off ho7 (by omega)
        have hP10 := hPp.off ho7 (by omega)
        have hP11 := hPg.off ho7 (by omega)
        have hP12 := hPa.off ho7 (by omega)
        refine e_aload_n (pc := 47) Xc (dT hX6_book 23 rfl) 0 rfl ?_
        refine gf_X6_12 (pc := 48) Xc (dT hX6_book 24 rfl) hP8.o rfl ?_
        refine e_refv (b := x + 1) rfl ?_
        refine e_dup (pc := 51) Xc (dT hX6_book 25 rfl) rfl ?_
        refine gf_X6_86 (pc := 52) Xc (dT hX6_book 26 rfl) hP6.o rfl ?_
        refine e_val (y := nI nb) hWw1.2.2.2.2.2.1 ?_
        refine e_iconst (v := 1) (pc := 55) Xc (dT hX6_book 27 rfl) rfl ?_
        refine e_iaddN (a := nb) (b := 1) (pc := 56) Xc (dT hX6_book 28 rfl) ?_
        refine pf_X6_86 (fs' := olX5 (x + 1) (upd Fw1 8 (nI (nb + 1))) Tw1) (pc := 57) Xc (dT hX6_book 29 rfl) hP6.o (Nat.le_of_ble_eq_true rfl) rfl ?_
        refine Ev.gen (fun z => PX5 z (x + 1) (upd Fw1 8 (nI (nb + 1))) Tw1 (upA Aw1 1 (upd (Aw1 1) nb (nI k)))) (hP6.wf8 (x := nI (nb + 1))) Off.set (fun σ13 hP14 ho15 => ?_)
        have hP16 := hP8.off ho15 (by omega)
        have hP17 := hP9.off ho15 (by omega)
        have hP18 := hP10.off ho15 (by omega)
        have hP19 := hP11.off ho15 (by omega)
        have hP20 := hP12.off ho15 (by omega)
        refine e_aload_n (pc := 60) Xc (dT hX6_book 30 rfl) 0 rfl ?_
        refine gf_X6_12 (pc := 61) Xc (dT hX6_book 31 rfl) hP16.o rfl ?_
        refine e_refv (b := x + 1) rfl ?_
        refine gf_X6_86 (pc := 64) Xc (dT hX6_book 32 rfl) hP14.o rfl ?_
        refine e_val (y := nI (nb + 1)) rfl ?_
        refine e_iconst (v := 1) (pc := 67) Xc (dT hX6_book 33 rfl) rfl ?_
        refine e_isubN (a := nb + 1) (b := 1) (pc := 68) Xc (dT hX6_book 34 rfl) (by omega) ?_
        refine e_val (y := nI nb) rfl ?_
        refine e_iret (pc := 69) Xc hQ (dT hX6_book 35 rfl) (Nat.le_refl _) (Nat.le_refl _) ?_
        have h19_ : (upd (upd X (5 + nb) (nI k)) 13 (nI (nb + 1))) 19 = X 19 := by rw [upd_n (by omega), upd_n (by omega)]
        have hz : v_book X nb (nI k) = (nI nb, (upd (upd X (5 + nb) (nI k)) 13 (nI (nb + 1)))) := by
          try simp only [bI_0, bI_1, Bool.not_eq_true, Bool.not_eq_false] at c2 c8 c23
          first | (simp [v_book, c2, c8, c23, hin_th, hnb_]; done) | (clear hB hK hSA hx hXn hP5 hPp hRP hPg hPa hBI hG hT hS hPl hNo hTa hA hJ hR hD hQ Xc; simp_all [v_book]; done)
        obtain ⟨hk1_, hk2_⟩ := OK.book hK hW (by omega) hk1 hk9
        have ex_ : ∀ j, 44 ≤ j → (upd (upd X (5 + nb) (nI k)) 13 (nI (nb + 1))) j = X j := (fun j hj => by rw [upd_n (by omega), upd_n (by omega)])
        obtain ⟨hb_, ho_⟩ := BK.world (X' := (upd (upd X (5 + nb) (nI k)) 13 (nI (nb + 1)))) hB hs6 hp8 hn8 ht100 (ho7.tr ho15) ⟨tw, htw.sz (Nat.le_of_eq (ho7.tr ho15).sz.symm), ⟨_, Tw1, _, ⟨hP14, hWw1.book hr4 (by omega), hBw1.2.2.1.off (ho7.tr ho15) (by rw [htw1]; omega), (by rw [htw1]; omega), (OK.book hK hW (by omega) hk1 hk9).1.1, (OK.book hK hW (by omega) hk1 hk9).1.2.1⟩, htw1⟩⟩ (fun j hj _ => ex_ j hj)
        rw [hz]
        dsimp only
        exact ⟨rfl, ⟨nr, nb + 1, ns, np, nn, nt, na, dy, t, hb_, hk1_, hk2_, hPa9.cg (h19_) (fun j hj => ex_ j (by omega))⟩, fun j hj => ex_ j (by omega), ho_⟩
      · skip
        have hnb_ : nb = 7 := by omega
        refine e_bipush (v := -4) (pc := 26) Xc (dT hX6_book 13 rfl) rfl ?_
        refine e_iret (pc := 28) Xc hQ (dT hX6_book 14 rfl) (Nat.le_refl _) (Nat.le_refl _) ?_
        have hz : v_book X nb (nI k) = ((-4), X) := by
          try simp only [bI_0, bI_1, Bool.not_eq_true, Bool.not_eq_false] at c2 c8 c23
          first | (simp [v_book, c2, c8, c23, hin_th, hnb_]; done) | (clear hB hK hSA hx hXn hP5 hPp hRP hPg hPa hBI hG hT hS hPl hNo hTa hA hJ hR hD hQ Xc; simp_all [v_book]; done)
        rw [hz]
        exact ⟨rfl, ⟨nr, nb, ns, np, nn, nt, na, dy, t, hB, hK, hW, hPa9⟩, hi9.rf, OffB.rf⟩
    · skip
      have hin_th : inF th 1 99 = false := by
        have k2_ := c2
        have k8_ := c8
        simp only [Int32.lt_iff_toInt_lt, Int32.le_iff_toInt_le] at k2_ k8_
        have l1_ : (1 : Int32).toInt = 1 := by decide
        have l99_ : (99 : Int32).toInt = 99 := by decide
        have l100_ : (100 : Int32).toInt = 100 := by decide
        rw [inF_ff]
        omega
      refine e_bipush (v := -2) (pc := 11) Xc (dT hX6_book 6 rfl) rfl ?_
      refine e_iret (pc := 13) Xc hQ (dT hX6_book 7 rfl) (Nat.le_refl _) (Nat.le_refl _) ?_
      have hz : v_book X nb th = ((-2), X) := by
        try simp only [bI_0, bI_1, Bool.not_eq_true, Bool.not_eq_false] at c2 c8
        first | (simp [v_book, c2, c8, hin_th]; done) | (clear hB hK hSA hx hXn hP5 hPp hRP hPg hPa hBI hG hT hS hPl hNo hTa hA hJ hR hD hQ Xc; simp_all [v_book]; done)
      rw [hz]
      exact ⟨rfl, ⟨nr, nb, ns, np, nn, nt, na, dy, t, hB, hK, hW, hPa9⟩, hi9.rf, OffB.rf⟩
set_option maxRecDepth 100000 in
set_option maxHeartbeats 4000000 in
theorem b_reader {G : xG} {σ : xS} {x m : Nat} {X Y bd : Nat → Int32} {hi : Int32} {rr : Nat} {nr nb ns np nn nt na dy : Nat} {t : xT} (hB : BK G σ x m X Y bd hi rr nr nb ns np nn nt t) (hK : OK X nr nb t ns np nn nt na dy) (hW : okW X) (hPa9 : okPt X) (k : Int32) (v : Int32) : CI G yX6_reader cX6_reader 3 (some .int) 2 0 0 [.ref x, .int k, .int v] σ (fun z σ1 => z = (v_reader X nr k v).1 ∧ ST G σ1 x m (v_reader X nr k v).2 Y bd hi rr ∧ hi9 X (v_reader X nr k v).2 ∧ OffB x σ σ1) := by
  refine Met.ofX (by decide +kernel) (Nat.le_of_ble_eq_true rfl) (fun μ Xc hQ hnm => ?_)
  have Xc : xC G μ cX6_reader 3 RX6 (some .int) 2 0 0 := Xc
  obtain ⟨hSA, ⟨hgA, hgO⟩, hxm, hms, ⟨Fx, Ax, hx, hF7⟩, ⟨tw, htw, hXn⟩, ⟨F5, T5, A5, hP5⟩, ⟨Fp, Tp, Ap, hPp, hRP⟩, ⟨Fg, Tg, Ag, hPg⟩, ⟨Fa, Ta, Aa, hPa, hFa1, hAa⟩, hBI⟩ := id hB
  obtain ⟨htw1, htw2, htw3⟩ := id htw
  obtain ⟨hG, hT, hS, hPl, hNo, hTa, hA, hJ, hR, hD⟩ := id hK
  have hr4 := hG.r4
  have hb7 := hG.b7
  have hs6 := hS.1
  have hp8 := hPl.1
  have hn8 := hNo.1
  have ht100 := hTa.1
  have ha5 := hA.1
  have hdy := hD.1
  have hd0 := hD.2
  have ht13 : tw ≠ x + 13 := by omega
  have hb8 : ns ≤ 6 ∧ np ≤ 8 ∧ nn ≤ 8 ∧ nt ≤ 100 := ⟨hs6, hp8, hn8, ht100⟩
  show Ev G μ 3 0 0 0 [(0, .ref x), (1, .int k), (2, .int v)] [] σ
  obtain ⟨Fw1, Tw1, Aw1, hBw1, htw1⟩ := id hXn
  have hWw1 := hBw1.2.1
  refine e_iload_n (pc := 0) Xc (dT hX6_reader 0 rfl) 1 rfl ?_
  refine e_if_lt (tgt := 10) (pc := 1) Xc (dT hX6_reader 1 rfl) rfl (fun c1 => ?_) (fun c1 => ?_)
  · skip
    have hin_k : inF k 0 6 = false := by
      have k1_ := c1
      simp only [Int32.lt_iff_toInt_lt, Int32.le_iff_toInt_le] at k1_
      have l0_ : (0 : Int32).toInt = 0 := by decide
      have l6_ : (6 : Int32).toInt = 6 := by decide
      have l7_ : (7 : Int32).toInt = 7 := by decide
      rw [inF_ff]
      omega
    refine e_iconst (v := -1) (pc := 10) Xc (dT hX6_reader 5 rfl) rfl ?_
    refine e_iret (pc := 11) Xc hQ (dT hX6_reader 6 rfl) (Nat.le_refl _) (Nat.le_refl _) ?_
    have hz : v_reader X nr k v = ((-1), X) := by
      try simp only [bI_0, bI_1, Bool.not_eq_true, Bool.not_eq_false] at c1
      first | (simp [v_reader, c1, hin_k]; done) | (clear hB hK hSA hx hXn hP5 hPp hRP hPg hPa hBI hG hT hS hPl hNo hTa hA hJ hR hD hQ Xc; simp_all [v_reader]; done)
    rw [hz]
    exact ⟨rfl, ⟨nr, nb, ns, np, nn, nt, na, dy, t, hB, hK, hW, hPa9⟩, hi9.rf, OffB.rf⟩
  · skip
    refine e_iload_n (pc := 4) Xc (dT hX6_reader 2 rfl) 1 rfl ?_
    refine e_bipush (v := 7) (pc := 5) Xc (dT hX6_reader 3 rfl) rfl ?_
    refine e_icmp_lt (tgt := 12) (pc := 7) Xc (dT hX6_reader 4 rfl) rfl (fun c7 => ?_) (fun c7 => ?_)
    · skip
      have hin_k : inF k 0 6 = true := by
        have k1_ := c1
        have k7_ := c7
        simp only [Int32.lt_iff_toInt_lt, Int32.le_iff_toInt_le] at k1_ k7_
        have l0_ : (0 : Int32).toInt = 0 := by decide
        have l6_ : (6 : Int32).toInt = 6 := by decide
        have l7_ : (7 : Int32).toInt = 7 := by decide
        rw [inF_iff]
        omega
      obtain ⟨k_, hk_, rfl⟩ := in_N (w := k) (n := 6) (by omega) hin_k
      have hc_k_ : cl (nI k_) = k_ := cl_nI (by omega)
      refine e_iload_n (pc := 12) Xc (dT hX6_reader 7 rfl) 2 rfl ?_
      refine e_if_lt (tgt := 22) (pc := 13) Xc (dT hX6_reader 8 rfl) rfl (fun c13 => ?_) (fun c13 => ?_)
      · skip
        have hin_v : inF v 0 9 = false := by
          have k13_ := c13
          simp only [Int32.lt_iff_toInt_lt, Int32.le_iff_toInt_le] at k13_
          have l0_ : (0 : Int32).toInt = 0 := by decide
          have l9_ : (9 : Int32).toInt = 9 := by decide
          have l10_ : (10 : Int32).toInt = 10 := by decide
          rw [inF_ff]
          omega
        refine e_bipush (v := -2) (pc := 22) Xc (dT hX6_reader 12 rfl) rfl ?_
        refine e_iret (pc := 24) Xc hQ (dT hX6_reader 13 rfl) (Nat.le_refl _) (Nat.le_refl _) ?_
        have hz : v_reader X nr (nI k_) v = ((-2), X) := by
          try simp only [bI_0, bI_1, Bool.not_eq_true, Bool.not_eq_false] at c1 c7 c13
          first | (simp [v_reader, c1, c7, c13, hin_k, hc_k_, hin_v]; done) | (clear hB hK hSA hx hXn hP5 hPp hRP hPg hPa hBI hG hT hS hPl hNo hTa hA hJ hR hD hQ Xc; simp_all [v_reader]; done)
        rw [hz]
        exact ⟨rfl, ⟨nr, nb, ns, np, nn, nt, na, dy, t, hB, hK, hW, hPa9⟩, hi9.rf, OffB.rf⟩
      · skip
        refine e_iload_n (pc := 16) Xc (dT hX6_reader 9 rfl) 2 rfl ?_
        refine e_bipush (v := 9) (pc := 17) Xc (dT hX6_reader 10 rfl) rfl ?_
        refine e_icmp_le (tgt := 25) (pc := 19) Xc (dT hX6_reader 11 rfl) rfl (fun c19 => ?_) (fun c19 => ?_)
        · skip
          have hin_v : inF v 0 9 = true := by
            have k13_ := c13
            have k19_ := c19
            simp only [Int32.lt_iff_toInt_lt, Int32.le_iff_toInt_le] at k13_ k19_
            have l0_ : (0 : Int32).toInt = 0 := by decide
            have l9_ : (9 : Int32).toInt = 9 := by decide
            have l10_ : (10 : Int32).toInt = 10 := by decide
            rw [inF_iff]
            omega
          obtain ⟨v_, hv_, rfl⟩ := in_N (w := v) (n := 9) (by omega) hin_v
          have hc_v_ : cl (nI v_) = v_ := cl_nI (by omega)
          refine e_aload_n (pc := 25) Xc (dT hX6_reader 14 rfl) 0 rfl ?_
          refine gf_X6_12 (pc := 26) Xc (dT hX6_reader 15 rfl) hx.o rfl ?_
          refine e_refv (b := x + 1) rfl ?_
          refine gf_X6_92 (pc := 29) Xc (dT hX6_reader 16 rfl) hBw1.1.o rfl ?_
          refine e_val (y := nI nr) hWw1.2.2.2.2.2.2.1 ?_
          refine e_iconst (v := 4) (pc := 32) Xc (dT hX6_reader 17 rfl) rfl ?_
          refine e_icmp_ltN (x := nr) (y := 4) (tgt := 39) (pc := 33) Xc (dT hX6_reader 18 rfl) rfl (by omega) (by omega) (fun c33 => ?_) (fun c33 => ?_)
          · skip
            have hnr_ : ¬ nr = 4 := by omega
            refine e_aload_n (pc := 39) Xc (dT hX6_reader 21 rfl) 0 rfl ?_
            refine gf_X6_12 (pc := 40) Xc (dT hX6_reader 22 rfl) hx.o rfl ?_
            refine e_refv (b := x + 1) rfl ?_
            refine e_iload_n (pc := 43) Xc (dT hX6_reader 23 rfl) 1 rfl ?_
            refine e_iload_n (pc := 44) Xc (dT hX6_reader 24 rfl) 2 rfl ?_
            refine cl_X6_95 (pc := 45) (k := 0) (n := 0) (S := []) Xc hBw1.1.o (c5_enter ⟨Fw1, Tw1, Aw1, hBw1, htw1⟩ (by omega) k_ v_ hk_ hv_) (dT hX6_reader 25 rfl) rfl (Nat.le_of_ble_eq_true rfl) (Nat.le_of_ble_eq_true rfl) (Nat.le_of_ble_eq_true rfl) rfl (Nat.le_of_ble_eq_true rfl) (fun σ3 hq4 => ?_)
            obtain ⟨hT5, ho6⟩ := hq4
            have hP7 := hx.off ho6 (by omega)
            have hP8 := hP5.off ho6 (by omega)
            have hP9 := hPp.off ho6 (by omega)
            have hP10 := hPg.off ho6 (by omega)
            have hP11 := hPa.off ho6 (by omega)
            obtain ⟨Fw12, Tw12, Aw12, hBw12, htw12⟩ := id hT5
            have hWw12 := hBw12.2.1
            refine e_aload_n (pc := 48) Xc (dT hX6_reader 26 rfl) 0 rfl ?_
            refine gf_X6_12 (pc := 49) Xc (dT hX6_reader 27 rfl) hP7.o rfl ?_
            refine e_refv (b := x + 1) rfl ?_
            refine gf_X6_92 (pc := 52) Xc (dT hX6_reader 28 rfl) hBw12.1.o rfl ?_
            refine e_val (y := nI (nr + 1)) hWw12.2.2.2.2.2.2.1 ?_
            refine e_iconst (v := 1) (pc := 55) Xc (dT hX6_reader 29 rfl) rfl ?_
            refine e_isubN (a := nr + 1) (b := 1) (pc := 56) Xc (dT hX6_reader 30 rfl) (by omega) ?_
            refine e_val (y := nI nr) rfl ?_
            refine e_iret (pc := 57) Xc hQ (dT hX6_reader 31 rfl) (Nat.le_refl _) (Nat.le_refl _) ?_
            have h19_ : (upd (upd (upd (upd X (20 + nr) (nI k_)) (24 + nr) (nI v_)) (1 + nr) (-1)) 12 (nI (nr + 1))) 19 = X 19 := by rw [upd_n (by omega), upd_n (by omega), upd_n (by omega), upd_n (by omega)]
            have hz : v_reader X nr (nI k_) (nI v_) = (nI nr, (upd (upd (upd (upd X (20 + nr) (nI k_)) (24 + nr) (nI v_)) (1 + nr) (-1)) 12 (nI (nr + 1)))) := by
              try simp only [bI_0, bI_1, Bool.not_eq_true, Bool.not_eq_false] at c1 c7 c13 c19 c33
              first | (simp [v_reader, c1, c7, c13, c19, c33, hin_k, hc_k_, hin_v, hc_v_, hnr_]; done) | (clear hB hK hSA hx hXn hP5 hPp hRP hPg hPa hBI hG hT hS hPl hNo hTa hA hJ hR hD hQ Xc; simp_all [v_reader]; done)
            obtain ⟨hk1_, hk2_⟩ := OK.enter hK hW (by omega) hk_ hv_
            have ex_ : ∀ j, 44 ≤ j → (upd (upd (upd (upd X (20 + nr) (nI k_)) (24 + nr) (nI v_)) (1 + nr) (-1)) 12 (nI (nr + 1))) j = X j := (fun j hj => by rw [upd_n (by omega), upd_n (by omega), upd_n (by omega), upd_n (by omega)])
            obtain ⟨hb_, ho_⟩ := BK.world (X' := (upd (upd (upd (upd X (20 + nr) (nI k_)) (24 + nr) (nI v_)) (1 + nr) (-1)) 12 (nI (nr + 1)))) hB hs6 hp8 hn8 ht100 ho6 ⟨tw, htw.sz (Nat.le_of_eq ho6.sz.symm), ⟨Fw12, Tw12, Aw12, hBw12, htw12⟩⟩ (fun j hj _ => ex_ j hj)
            rw [hz]
            dsimp only
            exact ⟨rfl, ⟨nr + 1, nb, ns, np, nn, nt, na, dy, t, hb_, hk1_, hk2_, hPa9.cg (h19_) (fun j hj => ex_ j (by omega))⟩, fun j hj => ex_ j (by omega), ho_⟩
          · skip
            have hnr_ : nr = 4 := by omega
            refine e_bipush (v := -4) (pc := 36) Xc (dT hX6_reader 19 rfl) rfl ?_
            refine e_iret (pc := 38) Xc hQ (dT hX6_reader 20 rfl) (Nat.le_refl _) (Nat.le_refl _) ?_
            have hz : v_reader X nr (nI k_) (nI v_) = ((-4), X) := by
              try simp only [bI_0, bI_1, Bool.not_eq_true, Bool.not_eq_false] at c1 c7 c13 c19 c33
              first | (simp [v_reader, c1, c7, c13, c19, c33, hin_k, hc_k_, hin_v, hc_v_, hnr_]; done) | (clear hB hK hSA hx hXn hP5 hPp hRP hPg hPa hBI hG hT hS hPl hNo hTa hA hJ hR hD hQ Xc; simp_all [v_reader]; done)
            rw [hz]
            exact ⟨rfl, ⟨nr, nb, ns, np, nn, nt, na, dy, t, hB, hK, hW, hPa9⟩, hi9.rf, OffB.rf⟩
        · skip
          have hin_v : inF v 0 9 = false := by
            have k13_ := c13
            have k19_ := c19
            simp only [Int32.lt_iff_toInt_lt, Int32.le_iff_toInt_le] at k13_ k19_
            have l0_ : (0 : Int32).toInt = 0 := by decide
            have l9_ : (9 : Int32).toInt = 9 := by decide
            have l10_ : (10 : Int32).toInt = 10 := by decide
            rw [inF_ff]
            omega
          refine e_bipush (v := -2) (pc := 22) Xc (dT hX6_reader 12 rfl) rfl ?_
          refine e_iret (pc := 24) Xc hQ (dT hX6_reader 13 rfl) (Nat.le_refl _) (Nat.le_refl _) ?_
          have hz : v_reader X nr (nI k_) v = ((-2), X) := by
            try simp only [bI_0, bI_1, Bool.not_eq_true, Bool.not_eq_false] at c1 c7 c13 c19
            first | (simp [v_reader, c1, c7, c13, c19, hin_k, hc_k_, hin_v]; done) | (clear hB hK hSA hx hXn hP5 hPp hRP hPg hPa hBI hG hT hS hPl hNo hTa hA hJ hR hD hQ Xc; simp_all [v_reader]; done)
          rw [hz]
          exact ⟨rfl, ⟨nr, nb, ns, np, nn, nt, na, dy, t, hB, hK, hW, hPa9⟩, hi9.rf, OffB.rf⟩
    · skip
      have hin_k : inF k 0 6 = false := by
        have k1_ := c1
        have k7_ := c7
        simp only [Int32.lt_iff_toInt_lt, Int32.le_iff_toInt_le] at k1_ k7_
        have l0_ : (0 : Int32).toInt = 0 := by decide
        have l6_ : (6 : Int32).toInt = 6 := by decide
        have l7_ : (7 : Int32).toInt = 7 := by decide
        rw [inF_ff]
        omega
      refine e_iconst (v := -1) (pc := 10) Xc (dT hX6_reader 5 rfl) rfl ?_
      refine e_iret (pc := 11) Xc hQ (dT hX6_reader 6 rfl) (Nat.le_refl _) (Nat.le_refl _) ?_
      have hz : v_reader X nr k v = ((-1), X) := by
        try simp only [bI_0, bI_1, Bool.not_eq_true, Bool.not_eq_false] at c1 c7
        first | (simp [v_reader, c1, c7, hin_k]; done) | (clear hB hK hSA hx hXn hP5 hPp hRP hPg hPa hBI hG hT hS hPl hNo hTa hA hJ hR hD hQ Xc; simp_all [v_reader]; done)
      rw [hz]
      exact ⟨rfl, ⟨nr, nb, ns, np, nn, nt, na, dy, t, hB, hK, hW, hPa9⟩, hi9.rf, OffB.rf⟩
set_option maxRecDepth 100000 in
set_option maxHeartbeats 4000000 in
theorem b_row {G : xG} {σ : xS} {x m : Nat} {X Y bd : Nat → Int32} {hi : Int32} {rr : Nat} {nr nb ns np nn nt na dy : Nat} {t : xT} (hB : BK G σ x m X Y bd hi rr nr nb ns np nn nt t) (hK : OK X nr nb t ns np nn nt na dy) (hW : okW X) (hPa9 : okPt X) (v : Int32) (k : Int32) (n : Int32) : CI G yX6_row cX6_row 5 (some .int) 2 0 0 [.ref x, .int v, .int k, .int n] σ (fun z σ1 => z = (v_row X nr v k n).1 ∧ ST G σ1 x m (v_row X nr v k n).2 Y bd hi rr ∧ hi9 X (v_row X nr v k n).2 ∧ OffB x σ σ1) := by
  refine Met.ofX (by decide +kernel) (Nat.le_of_ble_eq_true rfl) (fun μ Xc hQ hnm => ?_)
  have Xc : xC G μ cX6_row 5 RX6 (some .int) 2 0 0 := Xc
  obtain ⟨hSA, ⟨hgA, hgO⟩, hxm, hms, ⟨Fx, Ax, hx, hF7⟩, ⟨tw, htw, hXn⟩, ⟨F5, T5, A5, hP5⟩, ⟨Fp, Tp, Ap, hPp, hRP⟩, ⟨Fg, Tg, Ag, hPg⟩, ⟨Fa, Ta, Aa, hPa, hFa1, hAa⟩, hBI⟩ := id hB
  obtain ⟨htw1, htw2, htw3⟩ := id htw
  obtain ⟨hG, hT, hS, hPl, hNo, hTa, hA, hJ, hR, hD⟩ := id hK
  have hr4 := hG.r4
  have hb7 := hG.b7
  have hs6 := hS.1
  have hp8 := hPl.1
  have hn8 := hNo.1
  have ht100 := hTa.1
  have ha5 := hA.1
  have hdy := hD.1
  have hd0 := hD.2
  have ht13 : tw ≠ x + 13 := by omega
  have hb8 : ns ≤ 6 ∧ np ≤ 8 ∧ nn ≤ 8 ∧ nt ≤ 100 := ⟨hs6, hp8, hn8, ht100⟩
  show Ev G μ 5 0 0 0 [(0, .ref x), (1, .int v), (2, .int k), (3, .int n)] [] σ
  obtain ⟨Fw1, Tw1, Aw1, hBw1, htw1⟩ := id hXn
  have hWw1 := hBw1.2.1
  refine e_aload_n (pc := 0) Xc (dT hX6_row 0 rfl) 0 rfl ?_
  refine gf_X6_12 (pc := 1) Xc (dT hX6_row 1 rfl) hx.o rfl ?_
  refine e_refv (b := x + 1) rfl ?_
  refine e_iload_n (pc := 4) Xc (dT hX6_row 2 rfl) 1 rfl ?_
  refine cl_X6_99 (pc := 5) (k := 0) (n := 0) (S := []) Xc hBw1.1.o (c5_isReader hBw1 v) (dT hX6_row 3 rfl) rfl (Nat.le_of_ble_eq_true rfl) (Nat.le_of_ble_eq_true rfl) (Nat.le_of_ble_eq_true rfl) rfl (Nat.le_of_ble_eq_true rfl) (fun r2 σ3 hq4 => ?_)
  obtain ⟨r2e, r2s⟩ := hq4
  have r2e := r2e.symm; subst r2e; have r2s := r2s.symm; subst r2s
  refine e_if_eq (tgt := 20) (pc := 8) Xc (dT hX6_row 4 rfl) rfl (fun c8 => ?_) (fun c8 => ?_)
  · skip
    refine e_iconst (v := -1) (pc := 20) Xc (dT hX6_row 10 rfl) rfl ?_
    refine e_iret (pc := 21) Xc hQ (dT hX6_row 11 rfl) (Nat.le_refl _) (Nat.le_refl _) ?_
    have hz : v_row X nr v k n = ((-1), X) := by
      try simp only [bI_0, bI_1, Bool.not_eq_true, Bool.not_eq_false] at c8
      first | (simp [v_row, c8]; done) | (clear hB hK hSA hx hXn hP5 hPp hRP hPg hPa hBI hG hT hS hPl hNo hTa hA hJ hR hD hQ Xc; simp_all [v_row]; done)
    rw [hz]
    exact ⟨rfl, ⟨nr, nb, ns, np, nn, nt, na, dy, t, hB, hK, hW, hPa9⟩, hi9.rf, OffB.rf⟩
  · skip
    obtain ⟨q, hq, rfl⟩ := inF_nat (v := v) (n := nr) (by omega) (by simpa [bI_0, bI_1] using c8)
    have hc_q : cl (nI q) = q := cl_nI (by omega)
    refine e_iload_n (pc := 11) Xc (dT hX6_row 5 rfl) 2 rfl ?_
    refine e_if_lt (tgt := 20) (pc := 12) Xc (dT hX6_row 6 rfl) rfl (fun c12 => ?_) (fun c12 => ?_)
    · skip
      have hin_k : inF k 0 3 = false := by
        have k12_ := c12
        simp only [Int32.lt_iff_toInt_lt, Int32.le_iff_toInt_le] at k12_
        have l0_ : (0 : Int32).toInt = 0 := by decide
        have l3_ : (3 : Int32).toInt = 3 := by decide
        have l4_ : (4 : Int32).toInt = 4 := by decide
        rw [inF_ff]
        omega
      refine e_iconst (v := -1) (pc := 20) Xc (dT hX6_row 10 rfl) rfl ?_
      refine e_iret (pc := 21) Xc hQ (dT hX6_row 11 rfl) (Nat.le_refl _) (Nat.le_refl _) ?_
      have hz : v_row X nr (nI q) k n = ((-1), X) := by
        try simp only [bI_0, bI_1, Bool.not_eq_true, Bool.not_eq_false] at c8 c12
        first | (simp [v_row, c8, c12, hc_q, hin_k]; done) | (clear hB hK hSA hx hXn hP5 hPp hRP hPg hPa hBI hG hT hS hPl hNo hTa hA hJ hR hD hQ Xc; simp_all [v_row]; done)
      rw [hz]
      exact ⟨rfl, ⟨nr, nb, ns, np, nn, nt, na, dy, t, hB, hK, hW, hPa9⟩, hi9.rf, OffB.rf⟩
    · skip
      refine e_iload_n (pc := 15) Xc (dT hX6_row 7 rfl) 2 rfl ?_
      refine e_iconst (v := 4) (pc := 16) Xc (dT hX6_row 8 rfl) rfl ?_
      refine e_icmp_lt (tgt := 22) (pc := 17) Xc (dT hX6_row 9 rfl) rfl (fun c17 => ?_) (fun c17 => ?_)
      · skip
        have hin_k : inF k 0 3 = true := by
          have k12_ := c12
          have k17_ := c17
          simp only [Int32.lt_iff_toInt_lt, Int32.le_iff_toInt_le] at k12_ k17_
          have l0_ : (0 : Int32).toInt = 0 := by decide
          have l3_ : (3 : Int32).toInt = 3 := by decide
          have l4_ : (4 : Int32).toInt = 4 := by decide
          rw [inF_iff]
          omega
        obtain ⟨kk_, hkk_, rfl⟩ := in_N (w := k) (n := 3) (by omega) hin_k
        have hc_kk_ : cl (nI kk_) = kk_ := cl_nI (by omega)
        refine e_iload_n (pc := 22) Xc (dT hX6_row 12 rfl) 3 rfl ?_
        refine e_if_lt (tgt := 32) (pc := 23) Xc (dT hX6_row 13 rfl) rfl (fun c23 => ?_) (fun c23 => ?_)
        · skip
          have hin_n : inF n 0 9 = false := by
            have k23_ := c23
            simp only [Int32.lt_iff_toInt_lt, Int32.le_iff_toInt_le] at k23_
            have l0_ : (0 : Int32).toInt = 0 := by decide
            have l9_ : (9 : Int32).toInt = 9 := by decide
            have l10_ : (10 : Int32).toInt = 10 := by decide
            rw [inF_ff]
            omega
          refine e_bipush (v := -2) (pc := 32) Xc (dT hX6_row 17 rfl) rfl ?_
          refine e_iret (pc := 34) Xc hQ (dT hX6_row 18 rfl) (Nat.le_refl _) (Nat.le_refl _) ?_
          have hz : v_row X nr (nI q) (nI kk_) n = ((-2), X) := by
            try simp only [bI_0, bI_1, Bool.not_eq_true, Bool.not_eq_false] at c8 c12 c17 c23
            first | (simp [v_row, c8, c12, c17, c23, hc_q, hin_k, hc_kk_, hin_n]; done) | (clear hB hK hSA hx hXn hP5 hPp hRP hPg hPa hBI hG hT hS hPl hNo hTa hA hJ hR hD hQ Xc; simp_all [v_row]; done)
          rw [hz]
          exact ⟨rfl, ⟨nr, nb, ns, np, nn, nt, na, dy, t, hB, hK, hW, hPa9⟩, hi9.rf, OffB.rf⟩
        · skip
          refine e_iload_n (pc := 26) Xc (dT hX6_row 14 rfl) 3 rfl ?_
          refine e_bipush (v := 9) (pc := 27) Xc (dT hX6_row 15 rfl) rfl ?_
          refine e_icmp_le (tgt := 35) (pc := 29) Xc (dT hX6_row 16 rfl) rfl (fun c29 => ?_) (fun c29 => ?_)
          · skip
            have hin_n : inF n 0 9 = true := by
              have k23_ := c23
              have k29_ := c29
              simp only [Int32.lt_iff_toInt_lt, Int32.le_iff_toInt_le] at k23_ k29_
              have l0_ : (0 : Int32).toInt = 0 := by decide
              have l9_ : (9 : Int32).toInt = 9 := by decide
              have l10_ : (10 : Int32).toInt = 10 := by decide
              rw [inF_iff]
              omega
            obtain ⟨n_, hn_, rfl⟩ := in_N (w := n) (n := 9) (by omega) hin_n
            have hc_n_ : cl (nI n_) = n_ := cl_nI (by omega)
            refine e_aload_n (pc := 35) Xc (dT hX6_row 19 rfl) 0 rfl ?_
            refine gf_X6_12 (pc := 36) Xc (dT hX6_row 20 rfl) hx.o rfl ?_
            refine e_refv (b := x + 1) rfl ?_
            refine gf_X6_103 (pc := 39) Xc (dT hX6_row 21 rfl) hBw1.1.o rfl ?_
            refine e_iload_n (pc := 42) Xc (dT hX6_row 22 rfl) 1 rfl ?_
            refine cl_X6_106 (pc := 43) (k := 0) (n := 0) (S := []) Xc (c_get hBw1.1.a2 (by decide) (by decide) q (by omega)) (dT hX6_row 23 rfl) rfl (Nat.le_of_ble_eq_true rfl) (Nat.le_of_ble_eq_true rfl) (Nat.le_of_ble_eq_true rfl) rfl (Nat.le_of_ble_eq_true rfl) (fun r5 σ6 hq7 => ?_)
            obtain ⟨r5e, r5s⟩ := hq7
            have r5e := r5e.symm; subst r5e; have r5s := r5s.symm; subst r5s
            refine e_val (y := X (20 + q)) (hWw1.2.1 q (by omega)) ?_
            refine e_bipush (v := 6) (pc := 46) Xc (dT hX6_row 24 rfl) rfl ?_
            refine e_icmp_eq (tgt := 54) (pc := 48) Xc (dT hX6_row 25 rfl) rfl (fun c48 => ?_) (fun c48 => ?_)
            · skip
              refine e_aload_n (pc := 54) Xc (dT hX6_row 28 rfl) 0 rfl ?_
              refine gf_X6_12 (pc := 55) Xc (dT hX6_row 29 rfl) hx.o rfl ?_
              refine e_refv (b := x + 1) rfl ?_
              refine gf_X6_136 (pc := 58) Xc (dT hX6_row 30 rfl) hBw1.1.o rfl ?_
              refine e_iload_n (pc := 61) Xc (dT hX6_row 31 rfl) 1 rfl ?_
              refine e_iconst (v := 4) (pc := 62) Xc (dT hX6_row 32 rfl) rfl ?_
              refine e_imulN (a := q) (b := 4) (pc := 63) Xc (dT hX6_row 33 rfl) ?_
              refine e_iload_n (pc := 64) Xc (dT hX6_row 34 rfl) 2 rfl ?_
              refine e_iaddN (a := q * 4) (b := kk_) (pc := 65) Xc (dT hX6_row 35 rfl) ?_
              refine cl_X6_106 (pc := 66) (k := 0) (n := 0) (S := []) Xc (c_get hBw1.1.a5 (by decide) (by decide) ((q * 4) + kk_) (by omega)) (dT hX6_row 36 rfl) rfl (Nat.le_of_ble_eq_true rfl) (Nat.le_of_ble_eq_true rfl) (Nat.le_of_ble_eq_true rfl) rfl (Nat.le_of_ble_eq_true rfl) (fun r8 σ9 hq10 => ?_)
              obtain ⟨r8e, r8s⟩ := hq10
              have r8e := r8e.symm; subst r8e; have r8s := r8s.symm; subst r8s
              refine e_val (y := X (28 + ((q * 4) + kk_))) (hWw1.2.2.2.2.1 ((q * 4) + kk_) (by omega)) ?_
              refine e_istore (L' := [(4, .int (X (28 + ((q * 4) + kk_)))), (0, .ref x), (1, .int (nI q)), (2, .int (nI kk_)), (3, .int (nI n_))]) (pc := 69) Xc (dT hX6_row 37 rfl) (by decide) rfl ?_
              refine e_aload_n (pc := 71) Xc (dT hX6_row 38 rfl) 1 rfl ?_
              refine gf_X6_12 (pc := 72) Xc (dT hX6_row 39 rfl) hx.o rfl ?_
              refine e_refv (b := x + 1) rfl ?_
              refine gf_X6_136 (pc := 75) Xc (dT hX6_row 40 rfl) hBw1.1.o rfl ?_
              refine e_iload_n (pc := 78) Xc (dT hX6_row 41 rfl) 2 rfl ?_
              refine e_iconst (v := 4) (pc := 79) Xc (dT hX6_row 42 rfl) rfl ?_
              refine e_imulN (a := q) (b := 4) (pc := 80) Xc (dT hX6_row 43 rfl) ?_
              refine e_iload_n (pc := 81) Xc (dT hX6_row 44 rfl) 3 rfl ?_
              refine e_iaddN (a := q * 4) (b := kk_) (pc := 82) Xc (dT hX6_row 45 rfl) ?_
              refine e_iload_n (pc := 83) Xc (dT hX6_row 46 rfl) 4 rfl ?_
              refine cl_X6_60 (pc := 84) (k := 0) (n := 0) (S := []) Xc (c_put hBw1.1.a5 (by decide) ((q * 4) + kk_) (by omega) (nI n_)) (dT hX6_row 47 rfl) rfl (Nat.le_of_ble_eq_true rfl) (Nat.le_of_ble_eq_true rfl) (Nat.le_of_ble_eq_true rfl) rfl (Nat.le_of_ble_eq_true rfl) (fun σ12 hq13 => ?_)
              subst hq13
              refine Ev.gen (fun z => PX5 z (x + 1) Fw1 Tw1 (upA Aw1 5 (upd (Aw1 5) ((q * 4) + kk_) (nI n_)))) (hBw1.1.wa5 (g := (upd (Aw1 5) ((q * 4) + kk_) (nI n_)))) Off.set (fun σ14 hP15 ho16 => ?_)
              have hP17 := hx.off ho16 (by omega)
              have hP18 := hP5.off ho16 (by omega)
              have hP19 := hPp.off ho16 (by omega)
              have hP20 := hPg.off ho16 (by omega)
              have hP21 := hPa.off ho16 (by omega)
              refine e_iload (pc := 87) Xc (dT hX6_row 48 rfl) 0 rfl ?_
              refine e_iret (pc := 89) Xc hQ (dT hX6_row 49 rfl) (Nat.le_refl _) (Nat.le_refl _) ?_
              have h19_ : (upd X (28 + 4 * q + kk_) (nI n_)) 19 = X 19 := upd_n (by omega)
              have hix_ : 28 + (q * 4 + kk_) = 28 + 4 * q + kk_ := by omega
              have hz : v_row X nr (nI q) (nI kk_) (nI n_) = (X (28 + ((q * 4) + kk_)), (upd X (28 + 4 * q + kk_) (nI n_))) := by
                try simp only [bI_0, bI_1, Bool.not_eq_true, Bool.not_eq_false] at c8 c12 c17 c23 c29 c48
                first | (simp [v_row, c8, c12, c17, c23, c29, c48, hc_q, hin_k, hc_kk_, hin_n, hc_n_, hix_]; done) | (clear hB hK hSA hx hXn hP5 hPp hRP hPg hPa hBI hG hT hS hPl hNo hTa hA hJ hR hD hQ Xc; simp_all [v_row]; done)
              obtain ⟨hk1_, hk2_⟩ := OK.row hK hW hq (show kk_ < 4 by omega) hn_
              have ex_ : ∀ j, 44 ≤ j → (upd X (28 + 4 * q + kk_) (nI n_)) j = X j := (fun j hj => upd_n (by omega))
              obtain ⟨hb_, ho_⟩ := BK.world (X' := (upd X (28 + 4 * q + kk_) (nI n_))) hB hs6 hp8 hn8 ht100 ho16 ⟨tw, htw.sz (Nat.le_of_eq ho16.sz.symm), ⟨_, Tw1, _, ⟨hP15, hWw1.row hr4 hb7 (by omega) (by omega), hBw1.2.2.1.off ho16 (by rw [htw1]; omega), (by rw [htw1]; omega), (OK.row hK hW hq (show kk_ < 4 by omega) hn_).1.1, (OK.row hK hW hq (show kk_ < 4 by omega) hn_).1.2.1⟩, htw1⟩⟩ (fun j hj _ => ex_ j hj)
              rw [hz]
              dsimp only
              exact ⟨rfl, ⟨nr, nb, ns, np, nn, nt, na, dy, t, hb_, hk1_, hk2_, hPa9.cg (h19_) (fun j hj => ex_ j (by omega))⟩, fun j hj => ex_ j (by omega), ho_⟩
            · skip
              refine e_bipush (v := -3) (pc := 51) Xc (dT hX6_row 26 rfl) rfl ?_
              refine e_iret (pc := 53) Xc hQ (dT hX6_row 27 rfl) (Nat.le_refl _) (Nat.le_refl _) ?_
              have hz : v_row X nr (nI q) (nI kk_) (nI n_) = ((-3), X) := by
                try simp only [bI_0, bI_1, Bool.not_eq_true, Bool.not_eq_false] at c8 c12 c17 c23 c29 c48
                first | (simp [v_row, c8, c12, c17, c23, c29, c48, hc_q, hin_k, hc_kk_, hin_n, hc_n_]; done) | (clear hB hK hSA hx hXn hP5 hPp hRP hPg hPa hBI hG hT hS hPl hNo hTa hA hJ hR hD hQ Xc; simp_all [v_row]; done)
              rw [hz]
              exact ⟨rfl, ⟨nr, nb, ns, np, nn, nt, na, dy, t, hB, hK, hW, hPa9⟩, hi9.rf, OffB.rf⟩
          · skip
            have hin_n : inF n 0 9 = false := by
              have k23_ := c23
              have k29_ := c29
              simp only [Int32.lt_iff_toInt_lt, Int32.le_iff_toInt_le] at k23_ k29_
              have l0_ : (0 : Int32).toInt = 0 := by decide
              have l9_ : (9 : Int32).toInt = 9 := by decide
              have l10_ : (10 : Int32).toInt = 10 := by decide
              rw [inF_ff]
              omega
            refine e_bipush (v := -2) (pc := 32) Xc (dT hX6_row 17 rfl) rfl ?_
            refine e_iret (pc := 34) Xc hQ (dT hX6_row 18 rfl) (Nat.le_refl _) (Nat.le_refl _) ?_
            have hz : v_row X nr (nI q) (nI kk_) n = ((-2), X) := by
              try simp only [bI_0, bI_1, Bool.not_eq_true, Bool.not_eq_false] at c8 c12 c17 c23 c29
              first | (simp [v_row, c8, c12, c17, c23, c29, hc_q, hin_k, hc_kk_, hin_n]; done) | (clear hB hK hSA hx hXn hP5 hPp hRP hPg hPa hBI hG hT hS hPl hNo hTa hA hJ hR hD hQ Xc; simp_all [v_row]; done)
            rw [hz]
            exact ⟨rfl, ⟨nr, nb, ns, np, nn, nt, na, dy, t, hB, hK, hW, hPa9⟩, hi9.rf, OffB.rf⟩
      · skip
        have hin_k : inF k 0 3 = false := by
          have k12_ := c12
          have k17_ := c17
          simp only [Int32.lt_iff_toInt_lt, Int32.le_iff_toInt_le] at k12_ k17_
          have l0_ : (0 : Int32).toInt = 0 := by decide
          have l3_ : (3 : Int32).toInt = 3 := by decide
          have l4_ : (4 : Int32).toInt = 4 := by decide
          rw [inF_ff]
          omega
        refine e_iconst (v := -1) (pc := 20) Xc (dT hX6_row 10 rfl) rfl ?_
        refine e_iret (pc := 21) Xc hQ (dT hX6_row 11 rfl) (Nat.le_refl _) (Nat.le_refl _) ?_
        have hz : v_row X nr (nI q) k n = ((-1), X) := by
          try simp only [bI_0, bI_1, Bool.not_eq_true, Bool.not_eq_false] at c8 c12 c17
          first | (simp [v_row, c8, c12, c17, hc_q, hin_k]; done) | (clear hB hK hSA hx hXn hP5 hPp hRP hPg hPa hBI hG hT hS hPl hNo hTa hA hJ hR hD hQ Xc; simp_all [v_row]; done)
        rw [hz]
        exact ⟨rfl, ⟨nr, nb, ns, np, nn, nt, na, dy, t, hB, hK, hW, hPa9⟩, hi9.rf, OffB.rf⟩
set_option maxRecDepth 100000 in
set_option maxHeartbeats 4000000 in
theorem b_come {G : xG} {σ : xS} {x m : Nat} {X Y bd : Nat → Int32} {hi : Int32} {rr : Nat} {nr nb ns np nn nt na dy : Nat} {t : xT} (hB : BK G σ x m X Y bd hi rr nr nb ns np nn nt t) (hK : OK X nr nb t ns np nn nt na dy) (hW : okW X) (hPa9 : okPt X) (v : Int32) : CI G yX6_come cX6_come 2 (some .int) 7 0 0 [.ref x, .int v] σ (fun z σ1 => z = (v_come X t nr nb v).1 ∧ ST G σ1 x m (v_come X t nr nb v).2 Y bd hi rr ∧ hi9 X (v_come X t nr nb v).2 ∧ OffB x σ σ1) := by
  refine Met.ofX (by decide +kernel) (Nat.le_of_ble_eq_true rfl) (fun μ Xc hQ hnm => ?_)
  have Xc : xC G μ cX6_come 2 RX6 (some .int) 7 0 0 := Xc
  obtain ⟨hSA, ⟨hgA, hgO⟩, hxm, hms, ⟨Fx, Ax, hx, hF7⟩, ⟨tw, htw, hXn⟩, ⟨F5, T5, A5, hP5⟩, ⟨Fp, Tp, Ap, hPp, hRP⟩, ⟨Fg, Tg, Ag, hPg⟩, ⟨Fa, Ta, Aa, hPa, hFa1, hAa⟩, hBI⟩ := id hB
  obtain ⟨htw1, htw2, htw3⟩ := id htw
  obtain ⟨hG, hT, hS, hPl, hNo, hTa, hA, hJ, hR, hD⟩ := id hK
  have hr4 := hG.r4
  have hb7 := hG.b7
  have hs6 := hS.1
  have hp8 := hPl.1
  have hn8 := hNo.1
  have ht100 := hTa.1
  have ha5 := hA.1
  have hdy := hD.1
  have hd0 := hD.2
  have ht13 : tw ≠ x + 13 := by omega
  have hb8 : ns ≤ 6 ∧ np ≤ 8 ∧ nn ≤ 8 ∧ nt ≤ 100 := ⟨hs6, hp8, hn8, ht100⟩
  show Ev G μ 2 0 0 0 [(0, .ref x), (1, .int v)] [] σ
  obtain ⟨Fw1, Tw1, Aw1, hBw1, htw1⟩ := id hXn
  have hWw1 := hBw1.2.1
  refine e_aload_n (pc := 0) Xc (dT hX6_come 0 rfl) 0 rfl ?_
  refine gf_X6_12 (pc := 1) Xc (dT hX6_come 1 rfl) hx.o rfl ?_
  refine e_refv (b := x + 1) rfl ?_
  refine e_iload_n (pc := 4) Xc (dT hX6_come 2 rfl) 1 rfl ?_
  refine cl_X6_99 (pc := 5) (k := 0) (n := 0) (S := []) Xc hBw1.1.o (c5_isReader hBw1 v) (dT hX6_come 3 rfl) rfl (Nat.le_of_ble_eq_true rfl) (Nat.le_of_ble_eq_true rfl) (Nat.le_of_ble_eq_true rfl) rfl (Nat.le_of_ble_eq_true rfl) (fun r2 σ3 hq4 => ?_)
  obtain ⟨r2e, r2s⟩ := hq4
  have r2e := r2e.symm; subst r2e; have r2s := r2s.symm; subst r2s
  refine e_if_ne (tgt := 13) (pc := 8) Xc (dT hX6_come 4 rfl) rfl (fun c8 => ?_) (fun c8 => ?_)
  · skip
    obtain ⟨q, hq, rfl⟩ := inF_nat (v := v) (n := nr) (by omega) (by simpa [bI_0, bI_1] using c8)
    have hc_q : cl (nI q) = q := cl_nI (by omega)
    refine e_aload_n (pc := 13) Xc (dT hX6_come 7 rfl) 0 rfl ?_
    refine gf_X6_12 (pc := 14) Xc (dT hX6_come 8 rfl) hx.o rfl ?_
    refine e_refv (b := x + 1) rfl ?_
    refine cl_X6_155 (pc := 17) (k := 0) (n := 0) (S := []) Xc hBw1.1.o (c5_learnAnew ⟨Fw1, Tw1, Aw1, hBw1, htw1⟩ (by omega : dy ≤ 20000) hd0) (dT hX6_come 9 rfl) rfl (Nat.le_of_ble_eq_true rfl) (Nat.le_of_ble_eq_true rfl) (Nat.le_of_ble_eq_true rfl) rfl (Nat.le_of_ble_eq_true rfl) (fun σ6 hq7 => ?_)
    obtain ⟨hT8, ho9⟩ := hq7
    have hP10 := hx.off ho9 (by omega)
    have hP11 := hP5.off ho9 (by omega)
    have hP12 := hPp.off ho9 (by omega)
    have hP13 := hPg.off ho9 (by omega)
    have hP14 := hPa.off ho9 (by omega)
    obtain ⟨lnw15, hXw15, hdlw15, hd0w15, hbtw15⟩ := id hT8
    obtain ⟨Fw15, Tw15, Aw15, hBw15, htw15⟩ := id hXw15
    have hWw15 := hBw15.2.1
    refine e_aload_n (pc := 20) Xc (dT hX6_come 10 rfl) 0 rfl ?_
    refine gf_X6_12 (pc := 21) Xc (dT hX6_come 11 rfl) hP10.o rfl ?_
    refine e_refv (b := x + 1) rfl ?_
    refine e_iload_n (pc := 24) Xc (dT hX6_come 12 rfl) 1 rfl ?_
    refine cl_X6_158 (pc := 25) (k := 0) (n := 0) (S := []) Xc hBw15.1.o (c5_comes ⟨Fw15, Tw15, Aw15, hBw15, htw15⟩ ⟨_, hdlw15, hd0w15, hbtw15⟩ q hq) (dT hX6_come 13 rfl) rfl (Nat.le_of_ble_eq_true rfl) (Nat.le_of_ble_eq_true rfl) (Nat.le_of_ble_eq_true rfl) rfl (Nat.le_of_ble_eq_true rfl) (fun r16 σ17 hq18 => ?_)
    obtain ⟨r16e, hT19, ho20⟩ := hq18
    have hP21 := hP10.off ho20 (by omega)
    have hP22 := hP11.off ho20 (by omega)
    have hP23 := hP12.off ho20 (by omega)
    have hP24 := hP13.off ho20 (by omega)
    have hP25 := hP14.off ho20 (by omega)
    obtain ⟨Fw26, Tw26, Aw26, hBw26, htw26⟩ := id hT19
    have hWw26 := hBw26.2.1
    refine e_pop (pc := 28) Xc (dT hX6_come 14 rfl) rfl ?_
    refine e_aload_n (pc := 29) Xc (dT hX6_come 15 rfl) 0 rfl ?_
    refine gf_X6_12 (pc := 30) Xc (dT hX6_come 16 rfl) hP21.o rfl ?_
    refine e_refv (b := x + 1) rfl ?_
    refine gf_X6_113 (pc := 33) Xc (dT hX6_come 17 rfl) hBw26.1.o rfl ?_
    refine e_iload_n (pc := 36) Xc (dT hX6_come 18 rfl) 1 rfl ?_
    refine cl_X6_106 (pc := 37) (k := 0) (n := 0) (S := []) Xc (c_get hBw26.1.a4 (by decide) (by decide) q (by omega)) (dT hX6_come 19 rfl) rfl (Nat.le_of_ble_eq_true rfl) (Nat.le_of_ble_eq_true rfl) (Nat.le_of_ble_eq_true rfl) rfl (Nat.le_of_ble_eq_true rfl) (fun r27 σ28 hq29 => ?_)
    obtain ⟨r27e, r27s⟩ := hq29
    have r27e := r27e.symm; subst r27e; have r27s := r27s.symm; subst r27s
    refine e_val (y := orN ((comeF X t nr nb q) (1 + q))) (hWw26.2.2.2.1 q (by omega)) ?_
    refine e_iret (pc := 40) Xc hQ (dT hX6_come 20 rfl) (Nat.le_refl _) (Nat.le_refl _) ?_
    have h19_ : (comeF X t nr nb q) 19 = X 19 := come_hi (by omega) (by omega)
    have hz : v_come X t nr nb (nI q) = (orN ((comeF X t nr nb q) (1 + q)), (comeF X t nr nb q)) := by
      try simp only [bI_0, bI_1, Bool.not_eq_true, Bool.not_eq_false] at c8
      first | (simp [v_come, c8, hc_q]; done) | (clear hB hK hSA hx hXn hP5 hPp hRP hPg hPa hBI hG hT hS hPl hNo hTa hA hJ hR hD hQ Xc; simp_all [v_come]; done)
    obtain ⟨hk1_, hk2_⟩ := OK.low hK hW (fun j hj => come_hi (by omega) (by omega)) (hG.come hq) (hT.come hr4 hq) (hJ.come hq) ⟨hdy, (upd_n (by omega)).trans hd0⟩
    have ex_ : ∀ j, 44 ≤ j → (comeF X t nr nb q) j = X j := (fun j hj => come_hi (by omega) (by omega))
    obtain ⟨hb_, ho_⟩ := BK.world (X' := (comeF X t nr nb q)) hB hs6 hp8 hn8 ht100 (ho9.tr ho20) ⟨tw, htw.sz (Nat.le_of_eq (ho9.tr ho20).sz.symm), (WX.stale ⟨Fw26, Tw26, Aw26, hBw26, htw26⟩)⟩ (fun j hj _ => ex_ j hj)
    rw [hz]
    dsimp only
    exact ⟨rfl, ⟨nr, nb, ns, np, nn, nt, na, dy, t, hb_, hk1_, hk2_, hPa9.cg (h19_) (fun j hj => ex_ j (by omega))⟩, fun j hj => ex_ j (by omega), ho_⟩
  · skip
    refine e_iconst (v := -1) (pc := 11) Xc (dT hX6_come 5 rfl) rfl ?_
    refine e_iret (pc := 12) Xc hQ (dT hX6_come 6 rfl) (Nat.le_refl _) (Nat.le_refl _) ?_
    have hz : v_come X t nr nb v = ((-1), X) := by
      try simp only [bI_0, bI_1, Bool.not_eq_true, Bool.not_eq_false] at c8
      first | (simp [v_come, c8]; done) | (clear hB hK hSA hx hXn hP5 hPp hRP hPg hPa hBI hG hT hS hPl hNo hTa hA hJ hR hD hQ Xc; simp_all [v_come]; done)
    rw [hz]
    exact ⟨rfl, ⟨nr, nb, ns, np, nn, nt, na, dy, t, hB, hK, hW, hPa9⟩, hi9.rf, OffB.rf⟩
set_option maxRecDepth 100000 in
set_option maxHeartbeats 4000000 in
theorem b_paste {G : xG} {σ : xS} {x m : Nat} {X Y bd : Nat → Int32} {hi : Int32} {rr : Nat} {nr nb ns np nn nt na dy : Nat} {t : xT} (hB : BK G σ x m X Y bd hi rr nr nb ns np nn nt t) (hK : OK X nr nb t ns np nn nt na dy) (hW : okW X) (hPa9 : okPt X) (v : Int32) (is : Int32) : CI G yX6_paste cX6_paste 3 (some .int) 7 0 0 [.ref x, .int v, .int is] σ (fun z σ1 => z = (v_paste X nr v is).1 ∧ ST G σ1 x m (v_paste X nr v is).2 Y bd hi rr ∧ hi9 X (v_paste X nr v is).2 ∧ OffB x σ σ1) := by
  refine Met.ofX (by decide +kernel) (Nat.le_of_ble_eq_true rfl) (fun μ Xc hQ hnm => ?_)
  have Xc : xC G μ cX6_paste 3 RX6 (some .int) 7 0 0 := Xc
  obtain ⟨hSA, ⟨hgA, hgO⟩, hxm, hms, ⟨Fx, Ax, hx, hF7⟩, ⟨tw, htw, hXn⟩, ⟨F5, T5, A5, hP5⟩, ⟨Fp, Tp, Ap, hPp, hRP⟩, ⟨Fg, Tg, Ag, hPg⟩, ⟨Fa, Ta, Aa, hPa, hFa1, hAa⟩, hBI⟩ := id hB
  obtain ⟨htw1, htw2, htw3⟩ := id htw
  obtain ⟨hG, hT, hS, hPl, hNo, hTa, hA, hJ, hR, hD⟩ := id hK
  have hr4 := hG.r4
  have hb7 := hG.b7
  have hs6 := hS.1
  have hp8 := hPl.1
  have hn8 := hNo.1
  have ht100 := hTa.1
  have ha5 := hA.1
  have hdy := hD.1
  have hd0 := hD.2
  have ht13 : tw ≠ x + 13 := by omega
  have hb8 : ns ≤ 6 ∧ np ≤ 8 ∧ nn ≤ 8 ∧ nt ≤ 100 := ⟨hs6, hp8, hn8, ht100⟩
  show Ev G μ 3 0 0 0 [(0, .ref x), (1, .int v), (2, .int is)] [] σ
  obtain ⟨Fw1, Tw1, Aw1, hBw1, htw1⟩ := id hXn
  have hWw1 := hBw1.2.1
  refine e_aload_n (pc := 0) Xc (dT hX6_paste 0 rfl) 0 rfl ?_
  refine gf_X6_12 (pc := 1) Xc (dT hX6_paste 1 rfl) hx.o rfl ?_
  refine e_refv (b := x + 1) rfl ?_
  refine e_iload_n (pc := 4) Xc (dT hX6_paste 2 rfl) 1 rfl ?_
  refine cl_X6_99 (pc := 5) (k := 0) (n := 0) (S := []) Xc hBw1.1.o (c5_isReader hBw1 v) (dT hX6_paste 3 rfl) rfl (Nat.le_of_ble_eq_true rfl) (Nat.le_of_ble_eq_true rfl) (Nat.le_of_ble_eq_true rfl) rfl (Nat.le_of_ble_eq_true rfl) (fun r2 σ3 hq4 => ?_)
  obtain ⟨r2e, r2s⟩ := hq4
  have r2e := r2e.symm; subst r2e; have r2s := r2s.symm; subst r2s
  refine e_if_ne (tgt := 13) (pc := 8) Xc (dT hX6_paste 4 rfl) rfl (fun c8 => ?_) (fun c8 => ?_)
  · skip
    obtain ⟨q, hq, rfl⟩ := inF_nat (v := v) (n := nr) (by omega) (by simpa [bI_0, bI_1] using c8)
    have hc_q : cl (nI q) = q := cl_nI (by omega)
    refine e_aload_n (pc := 13) Xc (dT hX6_paste 7 rfl) 0 rfl ?_
    refine gf_X6_12 (pc := 14) Xc (dT hX6_paste 8 rfl) hx.o rfl ?_
    refine e_refv (b := x + 1) rfl ?_
    refine gf_X6_113 (pc := 17) Xc (dT hX6_paste 9 rfl) hBw1.1.o rfl ?_
    refine e_iload_n (pc := 20) Xc (dT hX6_paste 10 rfl) 1 rfl ?_
    refine cl_X6_106 (pc := 21) (k := 0) (n := 0) (S := []) Xc (c_get hBw1.1.a4 (by decide) (by decide) q (by omega)) (dT hX6_paste 11 rfl) rfl (Nat.le_of_ble_eq_true rfl) (Nat.le_of_ble_eq_true rfl) (Nat.le_of_ble_eq_true rfl) rfl (Nat.le_of_ble_eq_true rfl) (fun r5 σ6 hq7 => ?_)
    obtain ⟨r5e, r5s⟩ := hq7
    have r5e := r5e.symm; subst r5e; have r5s := r5s.symm; subst r5s
    refine e_val (y := orN (X (1 + q))) (hWw1.2.2.2.1 q (by omega)) ?_
    refine e_bipush (v := -5) (pc := 24) Xc (dT hX6_paste 12 rfl) rfl ?_
    refine e_icmp_ne (tgt := 32) (pc := 26) Xc (dT hX6_paste 13 rfl) rfl (fun c26 => ?_) (fun c26 => ?_)
    · skip
      have hnh_ : ¬ X (1 + q) = -1 := fun e_ => c26 (by rw [e_]; rfl)
      obtain ⟨h_, h_l, h_e⟩ := hG.has (r := q) (by omega) hnh_
      have h_o : orN (X (1 + q)) = nI h_ := by rw [h_e, orN_nI (by omega)]
      have hc_h_ : cl (nI h_) = h_ := cl_nI (by omega)
      have hmh_ : ¬ nI h_ = -1 := nI_nm1 (by omega)
      refine e_aload_n (pc := 32) Xc (dT hX6_paste 16 rfl) 0 rfl ?_
      refine gf_X6_12 (pc := 33) Xc (dT hX6_paste 17 rfl) hx.o rfl ?_
      refine e_refv (b := x + 1) rfl ?_
      refine e_iload_n (pc := 36) Xc (dT hX6_paste 18 rfl) 1 rfl ?_
      refine e_iload_n (pc := 37) Xc (dT hX6_paste 19 rfl) 2 rfl ?_
      refine cl_X6_161 (pc := 38) (k := 0) (n := 0) (S := []) Xc hBw1.1.o (c5_bind ⟨Fw1, Tw1, Aw1, hBw1, htw1⟩ (by omega : dy ≤ 20000) hd0 q hq is) (dT hX6_paste 20 rfl) rfl (Nat.le_of_ble_eq_true rfl) (Nat.le_of_ble_eq_true rfl) (Nat.le_of_ble_eq_true rfl) rfl (Nat.le_of_ble_eq_true rfl) (fun σ9 hq10 => ?_)
      obtain ⟨l1_, hT11, -, ho12⟩ := hq10
      have hP13 := hx.off ho12 (by omega)
      have hP14 := hP5.off ho12 (by omega)
      have hP15 := hPp.off ho12 (by omega)
      have hP16 := hPg.off ho12 (by omega)
      have hP17 := hPa.off ho12 (by omega)
      obtain ⟨Fw18, Tw18, Aw18, hBw18, htw18⟩ := id hT11
      have hWw18 := hBw18.2.1
      have hpl_ : orN (pastF X q is (1 + q)) = nI h_ := by rw [past_lo (by omega)]; exact h_o
      refine e_aload_n (pc := 41) Xc (dT hX6_paste 21 rfl) 0 rfl ?_
      refine gf_X6_12 (pc := 42) Xc (dT hX6_paste 22 rfl) hP13.o rfl ?_
      refine e_refv (b := x + 1) rfl ?_
      refine gf_X6_89 (pc := 45) Xc (dT hX6_paste 23 rfl) hBw18.1.o rfl ?_
      refine e_aload_n (pc := 48) Xc (dT hX6_paste 24 rfl) 0 rfl ?_
      refine gf_X6_12 (pc := 49) Xc (dT hX6_paste 25 rfl) hP13.o rfl ?_
      refine e_refv (b := x + 1) rfl ?_
      refine gf_X6_113 (pc := 52) Xc (dT hX6_paste 26 rfl) hBw18.1.o rfl ?_
      refine e_iload_n (pc := 55) Xc (dT hX6_paste 27 rfl) 1 rfl ?_
      refine cl_X6_106 (pc := 56) (k := 0) (n := 0) (S := [.ref (x + 1 + 1)]) Xc (c_get hBw18.1.a4 (by decide) (by decide) q (by omega)) (dT hX6_paste 28 rfl) rfl (Nat.le_of_ble_eq_true rfl) (Nat.le_of_ble_eq_true rfl) (Nat.le_of_ble_eq_true rfl) rfl (Nat.le_of_ble_eq_true rfl) (fun r19 σ20 hq21 => ?_)
      obtain ⟨r19e, r19s⟩ := hq21
      have r19e := r19e.symm; subst r19e; have r19s := r19s.symm; subst r19s
      refine e_val (y := orN ((pastF X q is) (1 + q))) (hWw18.2.2.2.1 q (by omega)) ?_
      refine e_val (y := nI h_) hpl_ ?_
      refine cl_X6_106 (pc := 59) (k := 0) (n := 0) (S := []) Xc (c_get hBw18.1.a1 (by decide) (by decide) h_ (by omega)) (dT hX6_paste 29 rfl) rfl (Nat.le_of_ble_eq_true rfl) (Nat.le_of_ble_eq_true rfl) (Nat.le_of_ble_eq_true rfl) rfl (Nat.le_of_ble_eq_true rfl) (fun r22 σ23 hq24 => ?_)
      obtain ⟨r22e, r22s⟩ := hq24
      have r22e := r22e.symm; subst r22e; have r22s := r22s.symm; subst r22s
      refine e_val (y := (pastF X q is) (5 + h_)) (hWw18.1 h_ (by omega)) ?_
      refine e_iret (pc := 62) Xc hQ (dT hX6_paste 30 rfl) (Nat.le_refl _) (Nat.le_refl _) ?_
      have h19_ : (pastF X q is) 19 = X 19 := pasN_hi (is := is) hG hq 1 19 (by omega)
      have hz : v_paste X nr (nI q) is = ((pastF X q is) (5 + h_), (pastF X q is)) := by
        try simp only [bI_0, bI_1, Bool.not_eq_true, Bool.not_eq_false] at c8 c26
        first | (simp [v_paste, c8, c26, hc_q, hc_h_, h_e, hmh_]; done) | (clear hB hK hSA hx hXn hP5 hPp hRP hPg hPa hBI hG hT hS hPl hNo hTa hA hJ hR hD hQ Xc; simp_all [v_paste]; done)
      obtain ⟨hk1_, hk2_⟩ := OK.low hK hW (fun j hj => pasN_hi (is := is) hG hq 1 j hj) (hG.past hq) (hT.past hG hq) (hJ.cg hr4 (fun j _ _ => past_lo (by omega))) ⟨hdy, (past_lo (by omega)).trans hd0⟩
      have ex_ : ∀ j, 44 ≤ j → (pastF X q is) j = X j := (fun j hj => pasN_hi (is := is) hG hq 1 j (by omega))
      obtain ⟨hb_, ho_⟩ := BK.world (X' := (pastF X q is)) hB hs6 hp8 hn8 ht100 ho12 ⟨tw, htw.sz (Nat.le_of_eq ho12.sz.symm), (WX.stale ⟨Fw18, Tw18, Aw18, hBw18, htw18⟩)⟩ (fun j hj _ => ex_ j hj)
      rw [hz]
      dsimp only
      exact ⟨rfl, ⟨nr, nb, ns, np, nn, nt, na, dy, t, hb_, hk1_, hk2_, hPa9.cg (h19_) (fun j hj => ex_ j (by omega))⟩, fun j hj => ex_ j (by omega), ho_⟩
    · skip
      have hno_ : X (1 + q) = -1 := WB.has5 hG (by omega) c26
      refine e_bipush (v := -3) (pc := 29) Xc (dT hX6_paste 14 rfl) rfl ?_
      refine e_iret (pc := 31) Xc hQ (dT hX6_paste 15 rfl) (Nat.le_refl _) (Nat.le_refl _) ?_
      have hz : v_paste X nr (nI q) is = ((-3), X) := by
        try simp only [bI_0, bI_1, Bool.not_eq_true, Bool.not_eq_false] at c8 c26
        first | (simp [v_paste, c8, c26, hc_q, hno_]; done) | (clear hB hK hSA hx hXn hP5 hPp hRP hPg hPa hBI hG hT hS hPl hNo hTa hA hJ hR hD hQ Xc; simp_all [v_paste]; done)
      rw [hz]
      exact ⟨rfl, ⟨nr, nb, ns, np, nn, nt, na, dy, t, hB, hK, hW, hPa9⟩, hi9.rf, OffB.rf⟩
  · skip
    refine e_iconst (v := -1) (pc := 11) Xc (dT hX6_paste 5 rfl) rfl ?_
    refine e_iret (pc := 12) Xc hQ (dT hX6_paste 6 rfl) (Nat.le_refl _) (Nat.le_refl _) ?_
    have hz : v_paste X nr v is = ((-1), X) := by
      try simp only [bI_0, bI_1, Bool.not_eq_true, Bool.not_eq_false] at c8
      first | (simp [v_paste, c8]; done) | (clear hB hK hSA hx hXn hP5 hPp hRP hPg hPa hBI hG hT hS hPl hNo hTa hA hJ hR hD hQ Xc; simp_all [v_paste]; done)
    rw [hz]
    exact ⟨rfl, ⟨nr, nb, ns, np, nn, nt, na, dy, t, hB, hK, hW, hPa9⟩, hi9.rf, OffB.rf⟩
