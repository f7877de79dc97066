set_option maxRecDepth 100000 in
set_option maxHeartbeats 4000000 in
theorem b_of {G : xG} {σ : xS} {x m : Nat} {X Y bd : Nat → Int32} {hi : Int32} {rr : Nat} {nr nb ns np nn nt na dy : Nat} {t : xT} (hB : BK G σ x m X Y bd hi rr nr nb ns np nn nt t) (hK : OK X nr nb t ns np nn nt na dy) (v : Int32) (w : Int32) : CI G yX6_of cX6_of 3 (some .int) 7 0 0 [.ref x, .int v, .int w] σ (fun z σ1 => z = v_of X t nr nb v w ∧ BK G σ1 x m X Y bd hi rr nr nb ns np nn nt t ∧ OffB x σ σ1) := by
  refine Met.ofX (by decide +kernel) (Nat.le_of_ble_eq_true rfl) (fun μ Xc hQ hnm => ?_)
  have Xc : xC G μ cX6_of 3 RX6 (some .int) 7 0 0 := Xc
  obtain ⟨hSA, ⟨hgA, hgO⟩, hxm, hms, ⟨Fx, Ax, hx, hF7⟩, ⟨tw, htw, hXn⟩, ⟨F5, T5, A5, hP5⟩, ⟨Fp, Tp, Ap, hPp, hRP⟩, ⟨Fg, Tg, Ag, hPg⟩, ⟨Fa, Ta, Aa, hPa, hFa1, hAa⟩, hBI⟩ := id hB
  obtain ⟨htw1, htw2, htw3⟩ := id htw
  obtain ⟨hG, hT, hS, hPl, hNo, hTa, hA, hJ, hR, hD⟩ := id hK
  have hr4 := hG.r4
  have hb7 := hG.b7
  have hs6 := hS.1
  have hp8 := hPl.1
  have hn8 := hNo.1
  have ht100 := hTa.1
  have ha5 := hA.1
  have hdy := hD.1
  have hd0 := hD.2
  have ht13 : tw ≠ x + 13 := by omega
  have hb8 : ns ≤ 6 ∧ np ≤ 8 ∧ nn ≤ 8 ∧ nt ≤ 100 := ⟨hs6, hp8, hn8, ht100⟩
  show Ev G μ 3 0 0 0 [(0, .ref x), (1, .int v), (2, .int w)] [] σ
  obtain ⟨Fw1, Tw1, Aw1, hBw1, htw1⟩ := id hXn
  have hWw1 := hBw1.2.1
  refine e_aload_n (pc := 0) Xc (dT hX6_of 0 rfl) 0 rfl ?_
  refine gf_X6_12 (pc := 1) Xc (dT hX6_of 1 rfl) hx.o rfl ?_
  refine e_iload_n (pc := 4) Xc (dT hX6_of 2 rfl) 1 rfl ?_
  refine cl_X6_99 (pc := 5) (k := 0) (n := 0) (S := []) Xc hBw1.1.o (c5_isReader hBw1 v) (dT hX6_of 3 rfl) rfl (Nat.le_of_ble_eq_true rfl) (Nat.le_of_ble_eq_true rfl) (Nat.le_of_ble_eq_true rfl) rfl (Nat.le_of_ble_eq_true rfl) (fun r2 σ3 hq4 => ?_)
  obtain ⟨r2e, r2s⟩ := hq4
  have r2e := r2e.symm; subst r2e; have r2s := r2s.symm; subst r2s
  refine e_if_ne (tgt := 13) (pc := 8) Xc (dT hX6_of 4 rfl) rfl (fun c8 => ?_) (fun c8 => ?_)
  · skip
    obtain ⟨q, hq, rfl⟩ := inF_nat (v := v) (n := nr) (by omega) (by simpa [bI_0, bI_1] using c8)
    have hc_q : cl (nI q) = q := cl_nI (by omega)
    refine e_iload_n (pc := 13) Xc (dT hX6_of 7 rfl) 2 rfl ?_
    by_cases sw14_0 : w = 0
    · skip
      refine e_val (y := 0) sw14_0 ?_
      refine e_tableIn (x := 0) (off := 34) (tgt := 48) (pc := 14) Xc (dT hX6_of 8 rfl) (by decide) (by decide) rfl rfl ?_
      subst sw14_0
      have hin_w : inF 0 0 4 = true := by decide
      refine e_aload_n (pc := 48) Xc (dT hX6_of 9 rfl) 0 rfl ?_
      refine gf_X6_12 (pc := 49) Xc (dT hX6_of 10 rfl) hx.o rfl ?_
      refine gf_X6_103 (pc := 52) Xc (dT hX6_of 11 rfl) hBw1.1.o rfl ?_
      refine e_iload_n (pc := 55) Xc (dT hX6_of 12 rfl) 1 rfl ?_
      refine cl_X6_106 (pc := 56) (k := 0) (n := 0) (S := []) Xc (c_get hBw1.1.a2 (by decide) (by decide) q (by omega)) (dT hX6_of 13 rfl) rfl (Nat.le_of_ble_eq_true rfl) (Nat.le_of_ble_eq_true rfl) (Nat.le_of_ble_eq_true rfl) rfl (Nat.le_of_ble_eq_true rfl) (fun r5 σ6 hq7 => ?_)
      obtain ⟨r5e, r5s⟩ := hq7
      have r5e := r5e.symm; subst r5e; have r5s := r5s.symm; subst r5s
      refine e_val (y := X (20 + q)) (hWw1.2.1 q (by omega)) ?_
      refine e_iret (pc := 59) Xc hQ (dT hX6_of 14 rfl) (Nat.le_refl _) (Nat.le_refl _) ?_
      have hz : v_of X t nr nb (nI q) 0 = X (20 + q) := by
        try simp only [bI_0, bI_1, Bool.not_eq_true, Bool.not_eq_false] at c8
        first | (simp [v_of, c8, hc_q, hin_w, nI_0, nl1, nl2, nl3, nl4, nl5, nl6, nl7, nl8, nl9, nl10]; done) | (clear hB hK hSA hx hXn hP5 hPp hRP hPg hPa hBI hG hT hS hPl hNo hTa hA hJ hR hD hQ Xc; simp_all [v_of, nI_0, nl1, nl2, nl3, nl4, nl5, nl6, nl7, nl8, nl9, nl10]; done)
      exact ⟨hz.symm, hB, OffB.rf⟩
    by_cases sw14_1 : w = 1
    · skip
      refine e_val (y := 1) sw14_1 ?_
      refine e_tableIn (x := 1) (off := 46) (tgt := 60) (pc := 14) Xc (dT hX6_of 8 rfl) (by decide) (by decide) rfl rfl ?_
      subst sw14_1
      have hin_w : inF 1 0 4 = true := by decide
      refine e_aload_n (pc := 60) Xc (dT hX6_of 15 rfl) 0 rfl ?_
      refine gf_X6_12 (pc := 61) Xc (dT hX6_of 16 rfl) hx.o rfl ?_
      refine gf_X6_110 (pc := 64) Xc (dT hX6_of 17 rfl) hBw1.1.o rfl ?_
      refine e_iload_n (pc := 67) Xc (dT hX6_of 18 rfl) 1 rfl ?_
      refine cl_X6_106 (pc := 68) (k := 0) (n := 0) (S := []) Xc (c_get hBw1.1.a3 (by decide) (by decide) q (by omega)) (dT hX6_of 19 rfl) rfl (Nat.le_of_ble_eq_true rfl) (Nat.le_of_ble_eq_true rfl) (Nat.le_of_ble_eq_true rfl) rfl (Nat.le_of_ble_eq_true rfl) (fun r8 σ9 hq10 => ?_)
      obtain ⟨r8e, r8s⟩ := hq10
      have r8e := r8e.symm; subst r8e; have r8s := r8s.symm; subst r8s
      refine e_val (y := X (24 + q)) (hWw1.2.2.1 q (by omega)) ?_
      refine e_iret (pc := 71) Xc hQ (dT hX6_of 20 rfl) (Nat.le_refl _) (Nat.le_refl _) ?_
      have hz : v_of X t nr nb (nI q) 1 = X (24 + q) := by
        try simp only [bI_0, bI_1, Bool.not_eq_true, Bool.not_eq_false] at c8
        first | (simp [v_of, c8, hc_q, hin_w, nI_0, nl1, nl2, nl3, nl4, nl5, nl6, nl7, nl8, nl9, nl10]; done) | (clear hB hK hSA hx hXn hP5 hPp hRP hPg hPa hBI hG hT hS hPl hNo hTa hA hJ hR hD hQ Xc; simp_all [v_of, nI_0, nl1, nl2, nl3, nl4, nl5, nl6, nl7, nl8, nl9, nl10]; done)
      exact ⟨hz.symm, hB, OffB.rf⟩
    by_cases sw14_2 : w = 2
    · skip
      refine e_val (y := 2) sw14_2 ?_
      refine e_tableIn (x := 2) (off := 58) (tgt := 72) (pc := 14) Xc (dT hX6_of 8 rfl) (by decide) (by decide) rfl rfl ?_
      subst sw14_2
      have hin_w : inF 2 0 4 = true := by decide
      refine e_aload_n (pc := 72) Xc (dT hX6_of 21 rfl) 0 rfl ?_
      refine gf_X6_12 (pc := 73) Xc (dT hX6_of 22 rfl) hx.o rfl ?_
      refine gf_X6_113 (pc := 76) Xc (dT hX6_of 23 rfl) hBw1.1.o rfl ?_
      refine e_iload_n (pc := 79) Xc (dT hX6_of 24 rfl) 1 rfl ?_
      refine cl_X6_106 (pc := 80) (k := 0) (n := 0) (S := []) Xc (c_get hBw1.1.a4 (by decide) (by decide) q (by omega)) (dT hX6_of 25 rfl) rfl (Nat.le_of_ble_eq_true rfl) (Nat.le_of_ble_eq_true rfl) (Nat.le_of_ble_eq_true rfl) rfl (Nat.le_of_ble_eq_true rfl) (fun r11 σ12 hq13 => ?_)
      obtain ⟨r11e, r11s⟩ := hq13
      have r11e := r11e.symm; subst r11e; have r11s := r11s.symm; subst r11s
      refine e_val (y := orN (X (1 + q))) (hWw1.2.2.2.1 q (by omega)) ?_
      refine e_iret (pc := 83) Xc hQ (dT hX6_of 26 rfl) (Nat.le_refl _) (Nat.le_refl _) ?_
      have hz : v_of X t nr nb (nI q) 2 = orN (X (1 + q)) := by
        try simp only [bI_0, bI_1, Bool.not_eq_true, Bool.not_eq_false] at c8
        first | (simp [v_of, c8, hc_q, hin_w, nI_0, nl1, nl2, nl3, nl4, nl5, nl6, nl7, nl8, nl9, nl10]; done) | (clear hB hK hSA hx hXn hP5 hPp hRP hPg hPa hBI hG hT hS hPl hNo hTa hA hJ hR hD hQ Xc; simp_all [v_of, nI_0, nl1, nl2, nl3, nl4, nl5, nl6, nl7, nl8, nl9, nl10]; done)
      exact ⟨hz.symm, hB, OffB.rf⟩
    by_cases sw14_3 : w = 3
    · skip
      refine e_val (y := 3) sw14_3 ?_
      refine e_tableIn (x := 3) (off := 70) (tgt := 84) (pc := 14) Xc (dT hX6_of 8 rfl) (by decide) (by decide) rfl rfl ?_
      subst sw14_3
      have hin_w : inF 3 0 4 = true := by decide
      refine e_aload_n (pc := 84) Xc (dT hX6_of 27 rfl) 0 rfl ?_
      refine cl_X6_116 (pc := 85) (k := 0) (n := 0) (S := []) Xc hx.o (c6_fresh hx ⟨Fw1, Tw1, Aw1, hBw1, htw1⟩ ht13 hP5 hdy hd0) (dT hX6_of 28 rfl) rfl (Nat.le_of_ble_eq_true rfl) (Nat.le_of_ble_eq_true rfl) (Nat.le_of_ble_eq_true rfl) rfl (Nat.le_of_ble_eq_true rfl) (fun σ15 hq16 => ?_)
      obtain ⟨hT17, ho18⟩ := hq16
      have hP19 := hx.off ho18 (by omega)
      have hP20 := hPp.off ho18 (by omega)
      have hP21 := hPg.off ho18 (by omega)
      have hP22 := hPa.off ho18 (by omega)
      have hB23 := hBw1.off ho18 (by omega) (by rw [htw1]; omega)
      obtain ⟨lnw24, hXw24, hdlw24, hd0w24, hbtw24⟩ := id hT17
      obtain ⟨Fw24, Tw24, Aw24, hBw24, htw24⟩ := id hXw24
      have hWw24 := hBw24.2.1
      refine e_aload_n (pc := 88) Xc (dT hX6_of 29 rfl) 0 rfl ?_
      refine gf_X6_18 (pc := 89) Xc (dT hX6_of 30 rfl) hP19.o rfl ?_
      refine e_iload_n (pc := 92) Xc (dT hX6_of 31 rfl) 1 rfl ?_
      refine cl_X6_119 (pc := 93) (k := 0) (n := 0) (S := []) Xc hBw24.1.o (c5_choice hBw24 ⟨_, hdlw24, hd0w24, hbtw24⟩ q (by omega)) (dT hX6_of 32 rfl) rfl (Nat.le_of_ble_eq_true rfl) (Nat.le_of_ble_eq_true rfl) (Nat.le_of_ble_eq_true rfl) rfl (Nat.le_of_ble_eq_true rfl) (fun r25 σ26 hq27 => ?_)
      obtain ⟨r25e, r25s⟩ := hq27
      have r25e := r25e.symm; subst r25e; have r25s := r25s.symm; subst r25s
      refine e_iret (pc := 96) Xc hQ (dT hX6_of 33 rfl) (Nat.le_refl _) (Nat.le_refl _) ?_
      have hz : v_of X t nr nb (nI q) 3 = orN (choF X t nr nb q) := by
        try simp only [bI_0, bI_1, Bool.not_eq_true, Bool.not_eq_false] at c8
        first | (simp [v_of, c8, hc_q, hin_w, nI_0, nl1, nl2, nl3, nl4, nl5, nl6, nl7, nl8, nl9, nl10]; done) | (clear hB hK hSA hx hXn hP5 hPp hRP hPg hPa hBI hG hT hS hPl hNo hTa hA hJ hR hD hQ Xc; simp_all [v_of, nI_0, nl1, nl2, nl3, nl4, nl5, nl6, nl7, nl8, nl9, nl10]; done)
      obtain ⟨hb_, ho_⟩ := hB.asks (OffS.of (S := fun o => o = x + 13 ∨ o = x + 55) ho18 (Or.inl rfl)) ⟨_, _, _, hBw24.1⟩ ⟨_, _, _, hP21⟩
      exact ⟨hz.symm, hb_, ho_⟩
    by_cases sw14_4 : w = 4
    · skip
      refine e_val (y := 4) sw14_4 ?_
      refine e_tableIn (x := 4) (off := 83) (tgt := 97) (pc := 14) Xc (dT hX6_of 8 rfl) (by decide) (by decide) rfl rfl ?_
      subst sw14_4
      have hin_w : inF 4 0 4 = true := by decide
      refine e_aload_n (pc := 97) Xc (dT hX6_of 34 rfl) 0 rfl ?_
      refine gf_X6_12 (pc := 98) Xc (dT hX6_of 35 rfl) hx.o rfl ?_
      refine e_iload_n (pc := 101) Xc (dT hX6_of 36 rfl) 1 rfl ?_
      refine cl_X6_123 (pc := 102) (k := 0) (n := 0) (S := []) Xc hBw1.1.o (c5_takeable hBw1 q (by omega)) (dT hX6_of 37 rfl) rfl (Nat.le_of_ble_eq_true rfl) (Nat.le_of_ble_eq_true rfl) (Nat.le_of_ble_eq_true rfl) rfl (Nat.le_of_ble_eq_true rfl) (fun r28 σ29 hq30 => ?_)
      obtain ⟨r28e, r28s⟩ := hq30
      have r28e := r28e.symm; subst r28e; have r28s := r28s.symm; subst r28s
      refine e_iret (pc := 105) Xc hQ (dT hX6_of 38 rfl) (Nat.le_refl _) (Nat.le_refl _) ?_
      have hz : v_of X t nr nb (nI q) 4 = mayTakeF X nr nb q := by
        try simp only [bI_0, bI_1, Bool.not_eq_true, Bool.not_eq_false] at c8
        first | (simp [v_of, c8, hc_q, hin_w, nI_0, nl1, nl2, nl3, nl4, nl5, nl6, nl7, nl8, nl9, nl10]; done) | (clear hB hK hSA hx hXn hP5 hPp hRP hPg hPa hBI hG hT hS hPl hNo hTa hA hJ hR hD hQ Xc; simp_all [v_of, nI_0, nl1, nl2, nl3, nl4, nl5, nl6, nl7, nl8, nl9, nl10]; done)
      exact ⟨hz.symm, hB, OffB.rf⟩
    have so14_0 := lv_neT sw14_0 (a := 0) rfl
    have so14_1 := lv_neT sw14_1 (a := 1) rfl
    have so14_2 := lv_neT sw14_2 (a := 2) rfl
    have so14_3 := lv_neT sw14_3 (a := 3) rfl
    have so14_4 := lv_neT sw14_4 (a := 4) rfl
    refine e_tableOut (tgt := 106) (pc := 14) Xc (dT hX6_of 8 rfl) (by omega) rfl ?_
    have hin_w : inF w 0 4 = false := by
      have l0_ : (0 : Int32).toInt = 0 := by decide
      have l4_ : (4 : Int32).toInt = 4 := by decide
      rw [inF_ff]
      omega
    refine e_iconst (v := -1) (pc := 106) Xc (dT hX6_of 39 rfl) rfl ?_
    refine e_iret (pc := 107) Xc hQ (dT hX6_of 40 rfl) (Nat.le_refl _) (Nat.le_refl _) ?_
    have hz : v_of X t nr nb (nI q) w = (-1) := by
      try simp only [bI_0, bI_1, Bool.not_eq_true, Bool.not_eq_false] at c8
      first | (simp [v_of, c8, hc_q, hin_w, nI_0, nl1, nl2, nl3, nl4, nl5, nl6, nl7, nl8, nl9, nl10]; done) | (clear hB hK hSA hx hXn hP5 hPp hRP hPg hPa hBI hG hT hS hPl hNo hTa hA hJ hR hD hQ Xc; simp_all [v_of, nI_0, nl1, nl2, nl3, nl4, nl5, nl6, nl7, nl8, nl9, nl10]; done)
    exact ⟨hz.symm, hB, OffB.rf⟩
  · skip
    refine e_iconst (v := -1) (pc := 11) Xc (dT hX6_of 5 rfl) rfl ?_
    refine e_iret (pc := 12) Xc hQ (dT hX6_of 6 rfl) (Nat.le_refl _) (Nat.le_refl _) ?_
    have hz : v_of X t nr nb v w = (-1) := by
      try simp only [bI_0, bI_1, Bool.not_eq_true, Bool.not_eq_false] at c8
      first | (simp [v_of, c8, nI_0, nl1, nl2, nl3, nl4, nl5, nl6, nl7, nl8, nl9, nl10]; done) | (clear hB hK hSA hx hXn hP5 hPp hRP hPg hPa hBI hG hT hS hPl hNo hTa hA hJ hR hD hQ Xc; simp_all [v_of, nI_0, nl1, nl2, nl3, nl4, nl5, nl6, nl7, nl8, nl9, nl10]; done)
    exact ⟨hz.symm, hB, OffB.rf⟩
set_option maxRecDepth 100000 in
set_option maxHeartbeats 4000000 in
theorem b_likes {G : xG} {σ : xS} {x m : Nat} {X Y bd : Nat → Int32} {hi : Int32} {rr : Nat} {nr nb ns np nn nt na dy : Nat} {t : xT} (hB : BK G σ x m X Y bd hi rr nr nb ns np nn nt t) (hK : OK X nr nb t ns np nn nt na dy) (v : Int32) (b : Int32) : CI G yX6_likes cX6_likes 3 (some .int) 7 0 0 [.ref x, .int v, .int b] σ (fun z σ1 => z = v_likes X t nr nb v b ∧ BK G σ1 x m X Y bd hi rr nr nb ns np nn nt t ∧ OffB x σ σ1) := by
  refine Met.ofX (by decide +kernel) (Nat.le_of_ble_eq_true rfl) (fun μ Xc hQ hnm => ?_)
  have Xc : xC G μ cX6_likes 3 RX6 (some .int) 7 0 0 := Xc
  obtain ⟨hSA, ⟨hgA, hgO⟩, hxm, hms, ⟨Fx, Ax, hx, hF7⟩, ⟨tw, htw, hXn⟩, ⟨F5, T5, A5, hP5⟩, ⟨Fp, Tp, Ap, hPp, hRP⟩, ⟨Fg, Tg, Ag, hPg⟩, ⟨Fa, Ta, Aa, hPa, hFa1, hAa⟩, hBI⟩ := id hB
  obtain ⟨htw1, htw2, htw3⟩ := id htw
  obtain ⟨hG, hT, hS, hPl, hNo, hTa, hA, hJ, hR, hD⟩ := id hK
  have hr4 := hG.r4
  have hb7 := hG.b7
  have hs6 := hS.1
  have hp8 := hPl.1
  have hn8 := hNo.1
  have ht100 := hTa.1
  have ha5 := hA.1
  have hdy := hD.1
  have hd0 := hD.2
  have ht13 : tw ≠ x + 13 := by omega
  have hb8 : ns ≤ 6 ∧ np ≤ 8 ∧ nn ≤ 8 ∧ nt ≤ 100 := ⟨hs6, hp8, hn8, ht100⟩
  show Ev G μ 3 0 0 0 [(0, .ref x), (1, .int v), (2, .int b)] [] σ
  obtain ⟨Fw1, Tw1, Aw1, hBw1, htw1⟩ := id hXn
  have hWw1 := hBw1.2.1
  refine e_aload_n (pc := 0) Xc (dT hX6_likes 0 rfl) 0 rfl ?_
  refine gf_X6_12 (pc := 1) Xc (dT hX6_likes 1 rfl) hx.o rfl ?_
  refine e_iload_n (pc := 4) Xc (dT hX6_likes 2 rfl) 1 rfl ?_
  refine cl_X6_99 (pc := 5) (k := 0) (n := 0) (S := []) Xc hBw1.1.o (c5_isReader hBw1 v) (dT hX6_likes 3 rfl) rfl (Nat.le_of_ble_eq_true rfl) (Nat.le_of_ble_eq_true rfl) (Nat.le_of_ble_eq_true rfl) rfl (Nat.le_of_ble_eq_true rfl) (fun r2 σ3 hq4 => ?_)
  obtain ⟨r2e, r2s⟩ := hq4
  have r2e := r2e.symm; subst r2e; have r2s := r2s.symm; subst r2s
  refine e_if_eq (tgt := 22) (pc := 8) Xc (dT hX6_likes 4 rfl) rfl (fun c8 => ?_) (fun c8 => ?_)
  · skip
    refine e_sipush (v := -10001) (pc := 22) Xc (dT hX6_likes 10 rfl) rfl ?_
    refine e_iret (pc := 25) Xc hQ (dT hX6_likes 11 rfl) (Nat.le_refl _) (Nat.le_refl _) ?_
    have hz : v_likes X t nr nb v b = (-10001) := by
      try simp only [bI_0, bI_1, Bool.not_eq_true, Bool.not_eq_false] at c8
      first | (simp [v_likes, c8]; done) | (clear hB hK hSA hx hXn hP5 hPp hRP hPg hPa hBI hG hT hS hPl hNo hTa hA hJ hR hD hQ Xc; simp_all [v_likes]; done)
    exact ⟨hz.symm, hB, OffB.rf⟩
  · skip
    obtain ⟨q, hq, rfl⟩ := inF_nat (v := v) (n := nr) (by omega) (by simpa [bI_0, bI_1] using c8)
    have hc_q : cl (nI q) = q := cl_nI (by omega)
    refine e_aload_n (pc := 11) Xc (dT hX6_likes 5 rfl) 0 rfl ?_
    refine gf_X6_12 (pc := 12) Xc (dT hX6_likes 6 rfl) hx.o rfl ?_
    refine e_iload_n (pc := 15) Xc (dT hX6_likes 7 rfl) 2 rfl ?_
    refine cl_X6_126 (pc := 16) (k := 0) (n := 0) (S := []) Xc hBw1.1.o (c5_isBook hBw1 b) (dT hX6_likes 8 rfl) rfl (Nat.le_of_ble_eq_true rfl) (Nat.le_of_ble_eq_true rfl) (Nat.le_of_ble_eq_true rfl) rfl (Nat.le_of_ble_eq_true rfl) (fun r5 σ6 hq7 => ?_)
    obtain ⟨r5e, r5s⟩ := hq7
    have r5e := r5e.symm; subst r5e; have r5s := r5s.symm; subst r5s
    refine e_if_ne (tgt := 26) (pc := 19) Xc (dT hX6_likes 9 rfl) rfl (fun c19 => ?_) (fun c19 => ?_)
    · skip
      obtain ⟨p, hp, rfl⟩ := inF_nat (v := b) (n := nb) (by omega) (by simpa [bI_0, bI_1] using c19)
      have hc_p : cl (nI p) = p := cl_nI (by omega)
      refine e_aload_n (pc := 26) Xc (dT hX6_likes 12 rfl) 0 rfl ?_
      refine cl_X6_116 (pc := 27) (k := 0) (n := 0) (S := []) Xc hx.o (c6_fresh hx ⟨Fw1, Tw1, Aw1, hBw1, htw1⟩ ht13 hP5 hdy hd0) (dT hX6_likes 13 rfl) rfl (Nat.le_of_ble_eq_true rfl) (Nat.le_of_ble_eq_true rfl) (Nat.le_of_ble_eq_true rfl) rfl (Nat.le_of_ble_eq_true rfl) (fun σ9 hq10 => ?_)
      obtain ⟨hT11, ho12⟩ := hq10
      have hP13 := hx.off ho12 (by omega)
      have hP14 := hPp.off ho12 (by omega)
      have hP15 := hPg.off ho12 (by omega)
      have hP16 := hPa.off ho12 (by omega)
      have hB17 := hBw1.off ho12 (by omega) (by rw [htw1]; omega)
      obtain ⟨lnw18, hXw18, hdlw18, hd0w18, hbtw18⟩ := id hT11
      obtain ⟨Fw18, Tw18, Aw18, hBw18, htw18⟩ := id hXw18
      have hWw18 := hBw18.2.1
      refine e_aload_n (pc := 30) Xc (dT hX6_likes 14 rfl) 0 rfl ?_
      refine gf_X6_18 (pc := 31) Xc (dT hX6_likes 15 rfl) hP13.o rfl ?_
      refine e_iload_n (pc := 34) Xc (dT hX6_likes 16 rfl) 1 rfl ?_
      refine e_iload_n (pc := 35) Xc (dT hX6_likes 17 rfl) 2 rfl ?_
      refine cl_X6_129 (pc := 36) (k := 0) (n := 0) (S := []) Xc hBw18.1.o (c5_liking hBw18 ⟨_, hdlw18, hd0w18, hbtw18⟩ q p (by omega) (by omega)) (dT hX6_likes 18 rfl) rfl (Nat.le_of_ble_eq_true rfl) (Nat.le_of_ble_eq_true rfl) (Nat.le_of_ble_eq_true rfl) rfl (Nat.le_of_ble_eq_true rfl) (fun r19 σ20 hq21 => ?_)
      obtain ⟨r19e, r19s⟩ := hq21
      have r19e := r19e.symm; subst r19e; have r19s := r19s.symm; subst r19s
      refine e_iret (pc := 39) Xc hQ (dT hX6_likes 19 rfl) (Nat.le_refl _) (Nat.le_refl _) ?_
      have hz : v_likes X t nr nb (nI q) (nI p) = likF X t q p := by
        try simp only [bI_0, bI_1, Bool.not_eq_true, Bool.not_eq_false] at c8 c19
        first | (simp [v_likes, c8, c19, hc_q, hc_p]; done) | (clear hB hK hSA hx hXn hP5 hPp hRP hPg hPa hBI hG hT hS hPl hNo hTa hA hJ hR hD hQ Xc; simp_all [v_likes]; done)
      obtain ⟨hb_, ho_⟩ := hB.asks (OffS.of (S := fun o => o = x + 13 ∨ o = x + 55) ho12 (Or.inl rfl)) ⟨_, _, _, hBw18.1⟩ ⟨_, _, _, hP15⟩
      exact ⟨hz.symm, hb_, ho_⟩
    · skip
      refine e_sipush (v := -10001) (pc := 22) Xc (dT hX6_likes 10 rfl) rfl ?_
      refine e_iret (pc := 25) Xc hQ (dT hX6_likes 11 rfl) (Nat.le_refl _) (Nat.le_refl _) ?_
      have hz : v_likes X t nr nb (nI q) b = (-10001) := by
        try simp only [bI_0, bI_1, Bool.not_eq_true, Bool.not_eq_false] at c8 c19
        first | (simp [v_likes, c8, c19, hc_q]; done) | (clear hB hK hSA hx hXn hP5 hPp hRP hPg hPa hBI hG hT hS hPl hNo hTa hA hJ hR hD hQ Xc; simp_all [v_likes]; done)
      exact ⟨hz.symm, hB, OffB.rf⟩
set_option maxRecDepth 100000 in
set_option maxHeartbeats 4000000 in
theorem b_at {G : xG} {σ : xS} {x m : Nat} {X Y bd : Nat → Int32} {hi : Int32} {rr : Nat} {nr nb ns np nn nt na dy : Nat} {t : xT} (hB : BK G σ x m X Y bd hi rr nr nb ns np nn nt t) (hK : OK X nr nb t ns np nn nt na dy) (b : Int32) (w : Int32) : CI G yX6_at cX6_at 3 (some .int) 2 0 0 [.ref x, .int b, .int w] σ (fun z σ1 => z = v_at X nr nb b w ∧ BK G σ1 x m X Y bd hi rr nr nb ns np nn nt t ∧ OffB x σ σ1) := by
  refine Met.ofX (by decide +kernel) (Nat.le_of_ble_eq_true rfl) (fun μ Xc hQ hnm => ?_)
  have Xc : xC G μ cX6_at 3 RX6 (some .int) 2 0 0 := Xc
  obtain ⟨hSA, ⟨hgA, hgO⟩, hxm, hms, ⟨Fx, Ax, hx, hF7⟩, ⟨tw, htw, hXn⟩, ⟨F5, T5, A5, hP5⟩, ⟨Fp, Tp, Ap, hPp, hRP⟩, ⟨Fg, Tg, Ag, hPg⟩, ⟨Fa, Ta, Aa, hPa, hFa1, hAa⟩, hBI⟩ := id hB
  obtain ⟨htw1, htw2, htw3⟩ := id htw
  obtain ⟨hG, hT, hS, hPl, hNo, hTa, hA, hJ, hR, hD⟩ := id hK
  have hr4 := hG.r4
  have hb7 := hG.b7
  have hs6 := hS.1
  have hp8 := hPl.1
  have hn8 := hNo.1
  have ht100 := hTa.1
  have ha5 := hA.1
  have hdy := hD.1
  have hd0 := hD.2
  have ht13 : tw ≠ x + 13 := by omega
  have hb8 : ns ≤ 6 ∧ np ≤ 8 ∧ nn ≤ 8 ∧ nt ≤ 100 := ⟨hs6, hp8, hn8, ht100⟩
  show Ev G μ 3 0 0 0 [(0, .ref x), (1, .int b), (2, .int w)] [] σ
  obtain ⟨Fw1, Tw1, Aw1, hBw1, htw1⟩ := id hXn
  have hWw1 := hBw1.2.1
  refine e_aload_n (pc := 0) Xc (dT hX6_at 0 rfl) 0 rfl ?_
  refine gf_X6_12 (pc := 1) Xc (dT hX6_at 1 rfl) hx.o rfl ?_
  refine e_iload_n (pc := 4) Xc (dT hX6_at 2 rfl) 1 rfl ?_
  refine cl_X6_126 (pc := 5) (k := 0) (n := 0) (S := []) Xc hBw1.1.o (c5_isBook hBw1 b) (dT hX6_at 3 rfl) rfl (Nat.le_of_ble_eq_true rfl) (Nat.le_of_ble_eq_true rfl) (Nat.le_of_ble_eq_true rfl) rfl (Nat.le_of_ble_eq_true rfl) (fun r2 σ3 hq4 => ?_)
  obtain ⟨r2e, r2s⟩ := hq4
  have r2e := r2e.symm; subst r2e; have r2s := r2s.symm; subst r2s
  refine e_if_eq (tgt := 20) (pc := 8) Xc (dT hX6_at 4 rfl) rfl (fun c8 => ?_) (fun c8 => ?_)
  · skip
    refine e_iconst (v := -1) (pc := 20) Xc (dT hX6_at 10 rfl) rfl ?_
    refine e_iret (pc := 21) Xc hQ (dT hX6_at 11 rfl) (Nat.le_refl _) (Nat.le_refl _) ?_
    have hz : v_at X nr nb b w = (-1) := by
      try simp only [bI_0, bI_1, Bool.not_eq_true, Bool.not_eq_false] at c8
      first | (simp [v_at, c8]; done) | (clear hB hK hSA hx hXn hP5 hPp hRP hPg hPa hBI hG hT hS hPl hNo hTa hA hJ hR hD hQ Xc; simp_all [v_at]; done)
    exact ⟨hz.symm, hB, OffB.rf⟩
  · skip
    obtain ⟨p, hp, rfl⟩ := inF_nat (v := b) (n := nb) (by omega) (by simpa [bI_0, bI_1] using c8)
    have hc_p : cl (nI p) = p := cl_nI (by omega)
    refine e_iload_n (pc := 11) Xc (dT hX6_at 5 rfl) 2 rfl ?_
    refine e_if_lt (tgt := 20) (pc := 12) Xc (dT hX6_at 6 rfl) rfl (fun c12 => ?_) (fun c12 => ?_)
    · skip
      have hin_w : inF w 0 1 = false := by
        have k12_ := c12
        simp only [Int32.lt_iff_toInt_lt, Int32.le_iff_toInt_le] at k12_
        have l0_ : (0 : Int32).toInt = 0 := by decide
        have l1_ : (1 : Int32).toInt = 1 := by decide
        have l2_ : (2 : Int32).toInt = 2 := by decide
        rw [inF_ff]
        omega
      refine e_iconst (v := -1) (pc := 20) Xc (dT hX6_at 10 rfl) rfl ?_
      refine e_iret (pc := 21) Xc hQ (dT hX6_at 11 rfl) (Nat.le_refl _) (Nat.le_refl _) ?_
      have hz : v_at X nr nb (nI p) w = (-1) := by
        try simp only [bI_0, bI_1, Bool.not_eq_true, Bool.not_eq_false] at c8 c12
        first | (simp [v_at, c8, c12, hc_p, hin_w]; done) | (clear hB hK hSA hx hXn hP5 hPp hRP hPg hPa hBI hG hT hS hPl hNo hTa hA hJ hR hD hQ Xc; simp_all [v_at]; done)
      exact ⟨hz.symm, hB, OffB.rf⟩
    · skip
      refine e_iload_n (pc := 15) Xc (dT hX6_at 7 rfl) 2 rfl ?_
      refine e_iconst (v := 1) (pc := 16) Xc (dT hX6_at 8 rfl) rfl ?_
      refine e_icmp_le (tgt := 22) (pc := 17) Xc (dT hX6_at 9 rfl) rfl (fun c17 => ?_) (fun c17 => ?_)
      · skip
        have hin_w : inF w 0 1 = true := by
          have k12_ := c12
          have k17_ := c17
          simp only [Int32.lt_iff_toInt_lt, Int32.le_iff_toInt_le] at k12_ k17_
          have l0_ : (0 : Int32).toInt = 0 := by decide
          have l1_ : (1 : Int32).toInt = 1 := by decide
          have l2_ : (2 : Int32).toInt = 2 := by decide
          rw [inF_iff]
          omega
        refine e_iload_n (pc := 22) Xc (dT hX6_at 12 rfl) 2 rfl ?_
        refine e_if_ne (tgt := 40) (pc := 23) Xc (dT hX6_at 13 rfl) rfl (fun c23 => ?_) (fun c23 => ?_)
        · skip
          refine e_aload_n (pc := 40) Xc (dT hX6_at 20 rfl) 0 rfl ?_
          refine gf_X6_12 (pc := 41) Xc (dT hX6_at 21 rfl) hx.o rfl ?_
          refine e_iload_n (pc := 44) Xc (dT hX6_at 22 rfl) 1 rfl ?_
          refine cl_X6_133 (pc := 45) (k := 0) (n := 0) (S := []) Xc hBw1.1.o (c5_holder hBw1 p (by omega)) (dT hX6_at 23 rfl) rfl (Nat.le_of_ble_eq_true rfl) (Nat.le_of_ble_eq_true rfl) (Nat.le_of_ble_eq_true rfl) rfl (Nat.le_of_ble_eq_true rfl) (fun r5 σ6 hq7 => ?_)
          obtain ⟨r5e, r5s⟩ := hq7
          have r5e := r5e.symm; subst r5e; have r5s := r5s.symm; subst r5s
          refine e_iret (pc := 48) Xc hQ (dT hX6_at 24 rfl) (Nat.le_refl _) (Nat.le_refl _) ?_
          have hz : v_at X nr nb (nI p) w = orN (holdF X nr (nI p)) := by
            try simp only [bI_0, bI_1, Bool.not_eq_true, Bool.not_eq_false] at c8 c12 c17 c23
            first | (simp [v_at, c8, c12, c17, c23, hc_p, hin_w]; done) | (clear hB hK hSA hx hXn hP5 hPp hRP hPg hPa hBI hG hT hS hPl hNo hTa hA hJ hR hD hQ Xc; simp_all [v_at]; done)
          exact ⟨hz.symm, hB, OffB.rf⟩
        · skip
          refine e_aload_n (pc := 26) Xc (dT hX6_at 14 rfl) 0 rfl ?_
          refine gf_X6_12 (pc := 27) Xc (dT hX6_at 15 rfl) hx.o rfl ?_
          refine gf_X6_89 (pc := 30) Xc (dT hX6_at 16 rfl) hBw1.1.o rfl ?_
          refine e_iload_n (pc := 33) Xc (dT hX6_at 17 rfl) 1 rfl ?_
          refine cl_X6_106 (pc := 34) (k := 0) (n := 0) (S := []) Xc (c_get hBw1.1.a1 (by decide) (by decide) p (by omega)) (dT hX6_at 18 rfl) rfl (Nat.le_of_ble_eq_true rfl) (Nat.le_of_ble_eq_true rfl) (Nat.le_of_ble_eq_true rfl) rfl (Nat.le_of_ble_eq_true rfl) (fun r8 σ9 hq10 => ?_)
          obtain ⟨r8e, r8s⟩ := hq10
          have r8e := r8e.symm; subst r8e; have r8s := r8s.symm; subst r8s
          refine e_val (y := X (5 + p)) (hWw1.1 p (by omega)) ?_
          refine e_goto (tgt := 48) (pc := 37) Xc (dT hX6_at 19 rfl) rfl ?_
          refine e_iret (pc := 48) Xc hQ (dT hX6_at 24 rfl) (Nat.le_refl _) (Nat.le_refl _) ?_
          have hz : v_at X nr nb (nI p) w = X (5 + p) := by
            try simp only [bI_0, bI_1, Bool.not_eq_true, Bool.not_eq_false] at c8 c12 c17 c23
            first | (simp [v_at, c8, c12, c17, c23, hc_p, hin_w]; done) | (clear hB hK hSA hx hXn hP5 hPp hRP hPg hPa hBI hG hT hS hPl hNo hTa hA hJ hR hD hQ Xc; simp_all [v_at]; done)
          exact ⟨hz.symm, hB, OffB.rf⟩
      · skip
        have hin_w : inF w 0 1 = false := by
          have k12_ := c12
          have k17_ := c17
          simp only [Int32.lt_iff_toInt_lt, Int32.le_iff_toInt_le] at k12_ k17_
          have l0_ : (0 : Int32).toInt = 0 := by decide
          have l1_ : (1 : Int32).toInt = 1 := by decide
          have l2_ : (2 : Int32).toInt = 2 := by decide
          rw [inF_ff]
          omega
        refine e_iconst (v := -1) (pc := 20) Xc (dT hX6_at 10 rfl) rfl ?_
        refine e_iret (pc := 21) Xc hQ (dT hX6_at 11 rfl) (Nat.le_refl _) (Nat.le_refl _) ?_
        have hz : v_at X nr nb (nI p) w = (-1) := by
          try simp only [bI_0, bI_1, Bool.not_eq_true, Bool.not_eq_false] at c8 c12 c17
          first | (simp [v_at, c8, c12, c17, hc_p, hin_w]; done) | (clear hB hK hSA hx hXn hP5 hPp hRP hPg hPa hBI hG hT hS hPl hNo hTa hA hJ hR hD hQ Xc; simp_all [v_at]; done)
        exact ⟨hz.symm, hB, OffB.rf⟩
