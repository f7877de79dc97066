set_option maxRecDepth 100000 in
set_option maxHeartbeats 4000000 in
theorem b_told {G : xG} {σ : xS} {x m : Nat} {X Y bd : Nat → Int32} {hi : Int32} {rr : Nat} {nr nb ns np nn nt na dy : Nat} {t : xT} (hB : BK G σ x m X Y bd hi rr nr nb ns np nn nt t) (hK : OK X nr nb t ns np nn nt na dy) (w : Int32) : CI G yX6_told cX6_told 2 (some .int) 7 0 0 [.ref x, .int w] σ (fun z σ1 => z = v_told X t nr nb dy w ∧ BK G σ1 x m X Y bd hi rr nr nb ns np nn nt t ∧ OffB x σ σ1) := by
  refine Met.ofX (by decide +kernel) (Nat.le_of_ble_eq_true rfl) (fun μ Xc hQ hnm => ?_)
  have Xc : xC G μ cX6_told 2 RX6 (some .int) 7 0 0 := Xc
  obtain ⟨hSA, ⟨hgA, hgO⟩, hxm, hms, ⟨Fx, Ax, hx, hF7⟩, ⟨tw, htw, hXn⟩, ⟨F5, T5, A5, hP5⟩, ⟨Fp, Tp, Ap, hPp, hRP⟩, ⟨Fg, Tg, Ag, hPg⟩, ⟨Fa, Ta, Aa, hPa, hFa1, hAa⟩, hBI⟩ := id hB
  obtain ⟨htw1, htw2, htw3⟩ := id htw
  obtain ⟨hG, hT, hS, hPl, hNo, hTa, hA, hJ, hR, hD⟩ := id hK
  have hr4 := hG.r4
  have hb7 := hG.b7
  have hs6 := hS.1
  have hp8 := hPl.1
  have hn8 := hNo.1
  have ht100 := hTa.1
  have ha5 := hA.1
  have hdy := hD.1
  have hd0 := hD.2
  have ht13 : tw ≠ x + 13 := by omega
  have hb8 : ns ≤ 6 ∧ np ≤ 8 ∧ nn ≤ 8 ∧ nt ≤ 100 := ⟨hs6, hp8, hn8, ht100⟩
  show Ev G μ 2 0 0 0 [(0, .ref x), (1, .int w)] [] σ
  obtain ⟨Fw1, Tw1, Aw1, hBw1, htw1⟩ := id hXn
  have hWw1 := hBw1.2.1
  refine e_iload_n (pc := 0) Xc (dT hX6_told 0 rfl) 1 rfl ?_
  by_cases sw1_0 : w = 0
  · skip
    refine e_val (y := 0) sw1_0 ?_
    refine e_tableIn (x := 0) (off := 35) (tgt := 36) (pc := 1) Xc (dT hX6_told 1 rfl) (by decide) (by decide) rfl rfl ?_
    subst sw1_0
    refine e_aload_n (pc := 36) Xc (dT hX6_told 2 rfl) 0 rfl ?_
    refine gf_X6_12 (pc := 37) Xc (dT hX6_told 3 rfl) hx.o rfl ?_
    refine gf_X6_139 (pc := 40) Xc (dT hX6_told 4 rfl) hBw1.1.o rfl ?_
    refine e_val (y := X 0) hWw1.day ?_
    refine e_val (y := nI dy) hD.2 ?_
    refine e_iret (pc := 43) Xc hQ (dT hX6_told 5 rfl) (Nat.le_refl _) (Nat.le_refl _) ?_
    have hz : v_told X t nr nb dy 0 = nI dy := by
      first | (simp [v_told, nI_0, nl1, nl2, nl3, nl4, nl5, nl6, nl7, nl8, nl9, nl10]; done) | (clear hB hK hSA hx hXn hP5 hPp hRP hPg hPa hBI hG hT hS hPl hNo hTa hA hJ hR hD hQ Xc; simp_all [v_told, nI_0, nl1, nl2, nl3, nl4, nl5, nl6, nl7, nl8, nl9, nl10]; done)
    exact ⟨hz.symm, hB, OffB.rf⟩
  by_cases sw1_1 : w = 1
  · skip
    refine e_val (y := 1) sw1_1 ?_
    refine e_tableIn (x := 1) (off := 43) (tgt := 44) (pc := 1) Xc (dT hX6_told 1 rfl) (by decide) (by decide) rfl rfl ?_
    subst sw1_1
    obtain ⟨Ft, Tt, At, hTP, hTc⟩ := id hBw1.2.2.1
    refine e_aload_n (pc := 44) Xc (dT hX6_told 6 rfl) 0 rfl ?_
    refine gf_X6_12 (pc := 45) Xc (dT hX6_told 7 rfl) hx.o rfl ?_
    refine gf_X6_82 (pc := 48) Xc (dT hX6_told 8 rfl) hBw1.1.o rfl ?_
    refine gf_X6_142 (pc := 51) Xc (dT hX6_told 9 rfl) hTP.o rfl ?_
    refine e_val (y := gapF X) (hTc.1.trans hT.gap.symm) ?_
    refine e_iret (pc := 54) Xc hQ (dT hX6_told 10 rfl) (Nat.le_refl _) (Nat.le_refl _) ?_
    have hz : v_told X t nr nb dy 1 = gapF X := by
      first | (simp [v_told, nI_0, nl1, nl2, nl3, nl4, nl5, nl6, nl7, nl8, nl9, nl10]; done) | (clear hB hK hSA hx hXn hP5 hPp hRP hPg hPa hBI hG hT hS hPl hNo hTa hA hJ hR hD hQ Xc; simp_all [v_told, nI_0, nl1, nl2, nl3, nl4, nl5, nl6, nl7, nl8, nl9, nl10]; done)
    exact ⟨hz.symm, hB, OffB.rf⟩
  by_cases sw1_2 : w = 2
  · skip
    refine e_val (y := 2) sw1_2 ?_
    refine e_tableIn (x := 2) (off := 54) (tgt := 55) (pc := 1) Xc (dT hX6_told 1 rfl) (by decide) (by decide) rfl rfl ?_
    subst sw1_2
    obtain ⟨Ft, Tt, At, hTP, hTc⟩ := id hBw1.2.2.1
    refine e_aload_n (pc := 55) Xc (dT hX6_told 11 rfl) 0 rfl ?_
    refine gf_X6_12 (pc := 56) Xc (dT hX6_told 12 rfl) hx.o rfl ?_
    refine gf_X6_82 (pc := 59) Xc (dT hX6_told 13 rfl) hBw1.1.o rfl ?_
    refine gf_X6_145 (pc := 62) Xc (dT hX6_told 14 rfl) hTP.o rfl ?_
    refine e_val (y := pasteF X) (hTc.2.1.trans hT.paste.symm) ?_
    refine e_iret (pc := 65) Xc hQ (dT hX6_told 15 rfl) (Nat.le_refl _) (Nat.le_refl _) ?_
    have hz : v_told X t nr nb dy 2 = pasteF X := by
      first | (simp [v_told, nI_0, nl1, nl2, nl3, nl4, nl5, nl6, nl7, nl8, nl9, nl10]; done) | (clear hB hK hSA hx hXn hP5 hPp hRP hPg hPa hBI hG hT hS hPl hNo hTa hA hJ hR hD hQ Xc; simp_all [v_told, nI_0, nl1, nl2, nl3, nl4, nl5, nl6, nl7, nl8, nl9, nl10]; done)
    exact ⟨hz.symm, hB, OffB.rf⟩
  by_cases sw1_3 : w = 3
  · skip
    refine e_val (y := 3) sw1_3 ?_
    refine e_tableIn (x := 3) (off := 65) (tgt := 66) (pc := 1) Xc (dT hX6_told 1 rfl) (by decide) (by decide) rfl rfl ?_
    subst sw1_3
    refine e_aload_n (pc := 66) Xc (dT hX6_told 16 rfl) 0 rfl ?_
    refine cl_X6_116 (pc := 67) (k := 0) (n := 0) (S := []) Xc hx.o (c6_fresh hx ⟨Fw1, Tw1, Aw1, hBw1, htw1⟩ ht13 hP5 hdy hd0) (dT hX6_told 17 rfl) rfl (Nat.le_of_ble_eq_true rfl) (Nat.le_of_ble_eq_true rfl) (Nat.le_of_ble_eq_true rfl) rfl (Nat.le_of_ble_eq_true rfl) (fun σ3 hq4 => ?_)
    obtain ⟨hT5, ho6⟩ := hq4
    have hP7 := hx.off ho6 (by omega)
    have hP8 := hPp.off ho6 (by omega)
    have hP9 := hPg.off ho6 (by omega)
    have hP10 := hPa.off ho6 (by omega)
    have hB11 := hBw1.off ho6 (by omega) (by rw [htw1]; omega)
    obtain ⟨lnw12, hXw12, hdlw12, hd0w12, hbtw12⟩ := id hT5
    obtain ⟨Fw12, Tw12, Aw12, hBw12, htw12⟩ := id hXw12
    have hWw12 := hBw12.2.1
    refine e_aload_n (pc := 70) Xc (dT hX6_told 18 rfl) 0 rfl ?_
    refine gf_X6_18 (pc := 71) Xc (dT hX6_told 19 rfl) hP7.o rfl ?_
    refine cl_X6_148 (pc := 74) (k := 0) (n := 0) (S := []) Xc hBw12.1.o (c5_total hBw12 ⟨_, hdlw12, hd0w12, hbtw12⟩) (dT hX6_told 20 rfl) rfl (Nat.le_of_ble_eq_true rfl) (Nat.le_of_ble_eq_true rfl) (Nat.le_of_ble_eq_true rfl) rfl (Nat.le_of_ble_eq_true rfl) (fun r13 σ14 hq15 => ?_)
    obtain ⟨r13e, r13s⟩ := hq15
    have r13e := r13e.symm; subst r13e; have r13s := r13s.symm; subst r13s
    refine e_iret (pc := 77) Xc hQ (dT hX6_told 21 rfl) (Nat.le_refl _) (Nat.le_refl _) ?_
    have hz : v_told X t nr nb dy 3 = totF X t nr := by
      first | (simp [v_told, nI_0, nl1, nl2, nl3, nl4, nl5, nl6, nl7, nl8, nl9, nl10]; done) | (clear hB hK hSA hx hXn hP5 hPp hRP hPg hPa hBI hG hT hS hPl hNo hTa hA hJ hR hD hQ Xc; simp_all [v_told, nI_0, nl1, nl2, nl3, nl4, nl5, nl6, nl7, nl8, nl9, nl10]; done)
    obtain ⟨hb_, ho_⟩ := hB.asks (OffS.of (S := fun o => o = x + 13 ∨ o = x + 55) ho6 (Or.inl rfl)) ⟨_, _, _, hBw12.1⟩ ⟨_, _, _, hP9⟩
    exact ⟨hz.symm, hb_, ho_⟩
  by_cases sw1_4 : w = 4
  · skip
    refine e_val (y := 4) sw1_4 ?_
    refine e_tableIn (x := 4) (off := 77) (tgt := 78) (pc := 1) Xc (dT hX6_told 1 rfl) (by decide) (by decide) rfl rfl ?_
    subst sw1_4
    refine e_aload_n (pc := 78) Xc (dT hX6_told 22 rfl) 0 rfl ?_
    refine gf_X6_12 (pc := 79) Xc (dT hX6_told 23 rfl) hx.o rfl ?_
    refine cl_X6_152 (pc := 82) (k := 0) (n := 0) (S := []) Xc hBw1.1.o (c5_shelf hBw1) (dT hX6_told 24 rfl) rfl (Nat.le_of_ble_eq_true rfl) (Nat.le_of_ble_eq_true rfl) (Nat.le_of_ble_eq_true rfl) rfl (Nat.le_of_ble_eq_true rfl) (fun r16 σ17 hq18 => ?_)
    obtain ⟨r16e, r16s⟩ := hq18
    have r16e := r16e.symm; subst r16e; have r16s := r16s.symm; subst r16s
    refine e_iret (pc := 85) Xc hQ (dT hX6_told 25 rfl) (Nat.le_refl _) (Nat.le_refl _) ?_
    have hz : v_told X t nr nb dy 4 = shelfF X nr nb := by
      first | (simp [v_told, nI_0, nl1, nl2, nl3, nl4, nl5, nl6, nl7, nl8, nl9, nl10]; done) | (clear hB hK hSA hx hXn hP5 hPp hRP hPg hPa hBI hG hT hS hPl hNo hTa hA hJ hR hD hQ Xc; simp_all [v_told, nI_0, nl1, nl2, nl3, nl4, nl5, nl6, nl7, nl8, nl9, nl10]; done)
    exact ⟨hz.symm, hB, OffB.rf⟩
  have so1_0 := lv_neT sw1_0 (a := 0) rfl
  have so1_1 := lv_neT sw1_1 (a := 1) rfl
  have so1_2 := lv_neT sw1_2 (a := 2) rfl
  have so1_3 := lv_neT sw1_3 (a := 3) rfl
  have so1_4 := lv_neT sw1_4 (a := 4) rfl
  refine e_tableOut (tgt := 86) (pc := 1) Xc (dT hX6_told 1 rfl) (by omega) rfl ?_
  refine e_iconst (v := -1) (pc := 86) Xc (dT hX6_told 26 rfl) rfl ?_
  refine e_iret (pc := 87) Xc hQ (dT hX6_told 27 rfl) (Nat.le_refl _) (Nat.le_refl _) ?_
  have hz : v_told X t nr nb dy w = (-1) := by
    first | (simp [v_told, sw1_0, sw1_1, sw1_2, sw1_3, sw1_4, nI_0, nl1, nl2, nl3, nl4, nl5, nl6, nl7, nl8, nl9, nl10]; done) | (clear hB hK hSA hx hXn hP5 hPp hRP hPg hPa hBI hG hT hS hPl hNo hTa hA hJ hR hD hQ Xc; simp_all [v_told, nI_0, nl1, nl2, nl3, nl4, nl5, nl6, nl7, nl8, nl9, nl10]; done)
  exact ⟨hz.symm, hB, OffB.rf⟩
set_option maxRecDepth 100000 in
set_option maxHeartbeats 4000000 in
theorem b_count {G : xG} {σ : xS} {x m : Nat} {X Y bd : Nat → Int32} {hi : Int32} {rr : Nat} {nr nb ns np nn nt na dy : Nat} {t : xT} (hB : BK G σ x m X Y bd hi rr nr nb ns np nn nt t) (hK : OK X nr nb t ns np nn nt na dy) (w : Int32) : CI G yX6_count cX6_count 2 (some .int) 1 0 0 [.ref x, .int w] σ (fun z σ1 => z = v_count X (nI rr) w ∧ BK G σ1 x m X Y bd hi rr nr nb ns np nn nt t ∧ OffB x σ σ1) := by
  refine Met.ofX (by decide +kernel) (Nat.le_of_ble_eq_true rfl) (fun μ Xc hQ hnm => ?_)
  have Xc : xC G μ cX6_count 2 RX6 (some .int) 1 0 0 := Xc
  obtain ⟨hSA, ⟨hgA, hgO⟩, hxm, hms, ⟨Fx, Ax, hx, hF7⟩, ⟨tw, htw, hXn⟩, ⟨F5, T5, A5, hP5⟩, ⟨Fp, Tp, Ap, hPp, hRP⟩, ⟨Fg, Tg, Ag, hPg⟩, ⟨Fa, Ta, Aa, hPa, hFa1, hAa⟩, hBI⟩ := id hB
  obtain ⟨htw1, htw2, htw3⟩ := id htw
  obtain ⟨hG, hT, hS, hPl, hNo, hTa, hA, hJ, hR, hD⟩ := id hK
  have hr4 := hG.r4
  have hb7 := hG.b7
  have hs6 := hS.1
  have hp8 := hPl.1
  have hn8 := hNo.1
  have ht100 := hTa.1
  have ha5 := hA.1
  have hdy := hD.1
  have hd0 := hD.2
  have ht13 : tw ≠ x + 13 := by omega
  have hb8 : ns ≤ 6 ∧ np ≤ 8 ∧ nn ≤ 8 ∧ nt ≤ 100 := ⟨hs6, hp8, hn8, ht100⟩
  show Ev G μ 2 0 0 0 [(0, .ref x), (1, .int w)] [] σ
  obtain ⟨Fw1, Tw1, Aw1, hBw1, htw1⟩ := id hXn
  have hWw1 := hBw1.2.1
  refine e_iload_n (pc := 0) Xc (dT hX6_count 0 rfl) 1 rfl ?_
  by_cases sw1_0 : w = 0
  · skip
    refine e_val (y := 0) sw1_0 ?_
    refine e_tableIn (x := 0) (off := 47) (tgt := 48) (pc := 1) Xc (dT hX6_count 1 rfl) (by decide) (by decide) rfl rfl ?_
    subst sw1_0
    refine e_aload_n (pc := 48) Xc (dT hX6_count 2 rfl) 0 rfl ?_
    refine gf_X6_12 (pc := 49) Xc (dT hX6_count 3 rfl) hx.o rfl ?_
    refine gf_X6_92 (pc := 52) Xc (dT hX6_count 4 rfl) hBw1.1.o rfl ?_
    refine e_val (y := nI nr) hWw1.2.2.2.2.2.2.1 ?_
    refine e_iret (pc := 55) Xc hQ (dT hX6_count 5 rfl) (Nat.le_refl _) (Nat.le_refl _) ?_
    have e12_ := hG.1.2.2.1
    have e13_ := hG.1.2.2.2
    have e14_ := hA.2.1
    have e15_ := hS.2.1
    have e16_ := hPl.2.1
    have e17_ := hNo.2.1
    have e18_ := hTa.2.1
    have hcl_ : cl 0 = 0 := by decide
    have hin6_ : inF 0 0 6 = true := by decide
    have hz : v_count X (nI rr) 0 = nI nr := by
      first | (simp [v_count, e12_, e13_, e14_, e15_, e16_, e17_, e18_, hcl_, hin6_]; done) | (clear hB hK hSA hx hXn hP5 hPp hRP hPg hPa hBI hG hT hS hPl hNo hTa hA hJ hR hD hQ Xc; simp_all [v_count]; done)
    exact ⟨hz.symm, hB, OffB.rf⟩
  by_cases sw1_1 : w = 1
  · skip
    refine e_val (y := 1) sw1_1 ?_
    refine e_tableIn (x := 1) (off := 55) (tgt := 56) (pc := 1) Xc (dT hX6_count 1 rfl) (by decide) (by decide) rfl rfl ?_
    subst sw1_1
    refine e_aload_n (pc := 56) Xc (dT hX6_count 6 rfl) 0 rfl ?_
    refine gf_X6_12 (pc := 57) Xc (dT hX6_count 7 rfl) hx.o rfl ?_
    refine gf_X6_86 (pc := 60) Xc (dT hX6_count 8 rfl) hBw1.1.o rfl ?_
    refine e_val (y := nI nb) hWw1.2.2.2.2.2.1 ?_
    refine e_iret (pc := 63) Xc hQ (dT hX6_count 9 rfl) (Nat.le_refl _) (Nat.le_refl _) ?_
    have e12_ := hG.1.2.2.1
    have e13_ := hG.1.2.2.2
    have e14_ := hA.2.1
    have e15_ := hS.2.1
    have e16_ := hPl.2.1
    have e17_ := hNo.2.1
    have e18_ := hTa.2.1
    have hcl_ : cl 1 = 1 := by decide
    have hin6_ : inF 1 0 6 = true := by decide
    have hz : v_count X (nI rr) 1 = nI nb := by
      first | (simp [v_count, e12_, e13_, e14_, e15_, e16_, e17_, e18_, hcl_, hin6_]; done) | (clear hB hK hSA hx hXn hP5 hPp hRP hPg hPa hBI hG hT hS hPl hNo hTa hA hJ hR hD hQ Xc; simp_all [v_count]; done)
    exact ⟨hz.symm, hB, OffB.rf⟩
  by_cases sw1_2 : w = 2
  · skip
    refine e_val (y := 2) sw1_2 ?_
    refine e_tableIn (x := 2) (off := 63) (tgt := 64) (pc := 1) Xc (dT hX6_count 1 rfl) (by decide) (by decide) rfl rfl ?_
    subst sw1_2
    refine e_aload_n (pc := 64) Xc (dT hX6_count 10 rfl) 0 rfl ?_
    refine gf_X6_12 (pc := 65) Xc (dT hX6_count 11 rfl) hx.o rfl ?_
    refine gf_X6_64 (pc := 68) Xc (dT hX6_count 12 rfl) hBw1.1.o rfl ?_
    refine e_val (y := X 14) hWw1.2.2.2.2.2.2.2.2.1 ?_
    refine e_val (y := nI na) hA.2.1 ?_
    refine e_iret (pc := 71) Xc hQ (dT hX6_count 13 rfl) (Nat.le_refl _) (Nat.le_refl _) ?_
    have e12_ := hG.1.2.2.1
    have e13_ := hG.1.2.2.2
    have e14_ := hA.2.1
    have e15_ := hS.2.1
    have e16_ := hPl.2.1
    have e17_ := hNo.2.1
    have e18_ := hTa.2.1
    have hcl_ : cl 2 = 2 := by decide
    have hin6_ : inF 2 0 6 = true := by decide
    have hz : v_count X (nI rr) 2 = nI na := by
      first | (simp [v_count, e12_, e13_, e14_, e15_, e16_, e17_, e18_, hcl_, hin6_]; done) | (clear hB hK hSA hx hXn hP5 hPp hRP hPg hPa hBI hG hT hS hPl hNo hTa hA hJ hR hD hQ Xc; simp_all [v_count]; done)
    exact ⟨hz.symm, hB, OffB.rf⟩
  by_cases sw1_3 : w = 3
  · skip
    refine e_val (y := 3) sw1_3 ?_
    refine e_tableIn (x := 3) (off := 71) (tgt := 72) (pc := 1) Xc (dT hX6_count 1 rfl) (by decide) (by decide) rfl rfl ?_
    subst sw1_3
    refine e_aload_n (pc := 72) Xc (dT hX6_count 14 rfl) 0 rfl ?_
    refine gf_X6_27 (pc := 73) Xc (dT hX6_count 15 rfl) hx.o rfl ?_
    refine gf_X6_231 (pc := 76) Xc (dT hX6_count 16 rfl) hPp.o rfl ?_
    refine e_val (y := nI ns) hRP.2.1 ?_
    refine e_iret (pc := 79) Xc hQ (dT hX6_count 17 rfl) (Nat.le_refl _) (Nat.le_refl _) ?_
    have e12_ := hG.1.2.2.1
    have e13_ := hG.1.2.2.2
    have e14_ := hA.2.1
    have e15_ := hS.2.1
    have e16_ := hPl.2.1
    have e17_ := hNo.2.1
    have e18_ := hTa.2.1
    have hcl_ : cl 3 = 3 := by decide
    have hin6_ : inF 3 0 6 = true := by decide
    have hz : v_count X (nI rr) 3 = nI ns := by
      first | (simp [v_count, e12_, e13_, e14_, e15_, e16_, e17_, e18_, hcl_, hin6_]; done) | (clear hB hK hSA hx hXn hP5 hPp hRP hPg hPa hBI hG hT hS hPl hNo hTa hA hJ hR hD hQ Xc; simp_all [v_count]; done)
    exact ⟨hz.symm, hB, OffB.rf⟩
  by_cases sw1_4 : w = 4
  · skip
    refine e_val (y := 4) sw1_4 ?_
    refine e_tableIn (x := 4) (off := 79) (tgt := 80) (pc := 1) Xc (dT hX6_count 1 rfl) (by decide) (by decide) rfl rfl ?_
    subst sw1_4
    refine e_aload_n (pc := 80) Xc (dT hX6_count 18 rfl) 0 rfl ?_
    refine gf_X6_27 (pc := 81) Xc (dT hX6_count 19 rfl) hx.o rfl ?_
    refine gf_X6_263 (pc := 84) Xc (dT hX6_count 20 rfl) hPp.o rfl ?_
    refine e_val (y := nI np) hRP.2.2.1 ?_
    refine e_iret (pc := 87) Xc hQ (dT hX6_count 21 rfl) (Nat.le_refl _) (Nat.le_refl _) ?_
    have e12_ := hG.1.2.2.1
    have e13_ := hG.1.2.2.2
    have e14_ := hA.2.1
    have e15_ := hS.2.1
    have e16_ := hPl.2.1
    have e17_ := hNo.2.1
    have e18_ := hTa.2.1
    have hcl_ : cl 4 = 4 := by decide
    have hin6_ : inF 4 0 6 = true := by decide
    have hz : v_count X (nI rr) 4 = nI np := by
      first | (simp [v_count, e12_, e13_, e14_, e15_, e16_, e17_, e18_, hcl_, hin6_]; done) | (clear hB hK hSA hx hXn hP5 hPp hRP hPg hPa hBI hG hT hS hPl hNo hTa hA hJ hR hD hQ Xc; simp_all [v_count]; done)
    exact ⟨hz.symm, hB, OffB.rf⟩
  by_cases sw1_5 : w = 5
  · skip
    refine e_val (y := 5) sw1_5 ?_
    refine e_tableIn (x := 5) (off := 87) (tgt := 88) (pc := 1) Xc (dT hX6_count 1 rfl) (by decide) (by decide) rfl rfl ?_
    subst sw1_5
    refine e_aload_n (pc := 88) Xc (dT hX6_count 22 rfl) 0 rfl ?_
    refine gf_X6_27 (pc := 89) Xc (dT hX6_count 23 rfl) hx.o rfl ?_
    refine gf_X6_275 (pc := 92) Xc (dT hX6_count 24 rfl) hPp.o rfl ?_
    refine e_val (y := nI nn) hRP.2.2.2.1 ?_
    refine e_iret (pc := 95) Xc hQ (dT hX6_count 25 rfl) (Nat.le_refl _) (Nat.le_refl _) ?_
    have e12_ := hG.1.2.2.1
    have e13_ := hG.1.2.2.2
    have e14_ := hA.2.1
    have e15_ := hS.2.1
    have e16_ := hPl.2.1
    have e17_ := hNo.2.1
    have e18_ := hTa.2.1
    have hcl_ : cl 5 = 5 := by decide
    have hin6_ : inF 5 0 6 = true := by decide
    have hz : v_count X (nI rr) 5 = nI nn := by
      first | (simp [v_count, e12_, e13_, e14_, e15_, e16_, e17_, e18_, hcl_, hin6_]; done) | (clear hB hK hSA hx hXn hP5 hPp hRP hPg hPa hBI hG hT hS hPl hNo hTa hA hJ hR hD hQ Xc; simp_all [v_count]; done)
    exact ⟨hz.symm, hB, OffB.rf⟩
  by_cases sw1_6 : w = 6
  · skip
    refine e_val (y := 6) sw1_6 ?_
    refine e_tableIn (x := 6) (off := 95) (tgt := 96) (pc := 1) Xc (dT hX6_count 1 rfl) (by decide) (by decide) rfl rfl ?_
    subst sw1_6
    refine e_aload_n (pc := 96) Xc (dT hX6_count 26 rfl) 0 rfl ?_
    refine gf_X6_27 (pc := 97) Xc (dT hX6_count 27 rfl) hx.o rfl ?_
    refine gf_X6_52 (pc := 100) Xc (dT hX6_count 28 rfl) hPp.o rfl ?_
    refine e_val (y := nI nt) hRP.1 ?_
    refine e_iret (pc := 103) Xc hQ (dT hX6_count 29 rfl) (Nat.le_refl _) (Nat.le_refl _) ?_
    have e12_ := hG.1.2.2.1
    have e13_ := hG.1.2.2.2
    have e14_ := hA.2.1
    have e15_ := hS.2.1
    have e16_ := hPl.2.1
    have e17_ := hNo.2.1
    have e18_ := hTa.2.1
    have hcl_ : cl 6 = 6 := by decide
    have hin6_ : inF 6 0 6 = true := by decide
    have hz : v_count X (nI rr) 6 = nI nt := by
      first | (simp [v_count, e12_, e13_, e14_, e15_, e16_, e17_, e18_, hcl_, hin6_]; done) | (clear hB hK hSA hx hXn hP5 hPp hRP hPg hPa hBI hG hT hS hPl hNo hTa hA hJ hR hD hQ Xc; simp_all [v_count]; done)
    exact ⟨hz.symm, hB, OffB.rf⟩
  by_cases sw1_7 : w = 7
  · skip
    refine e_val (y := 7) sw1_7 ?_
    refine e_tableIn (x := 7) (off := 103) (tgt := 104) (pc := 1) Xc (dT hX6_count 1 rfl) (by decide) (by decide) rfl rfl ?_
    subst sw1_7
    refine e_aload_n (pc := 104) Xc (dT hX6_count 30 rfl) 0 rfl ?_
    refine gf_X6_44 (pc := 105) Xc (dT hX6_count 31 rfl) hx.o rfl ?_
    refine gf_X6_284 (pc := 108) Xc (dT hX6_count 32 rfl) hPa.o rfl ?_
    refine e_val (y := nI rr) hFa1 ?_
    refine e_iret (pc := 111) Xc hQ (dT hX6_count 33 rfl) (Nat.le_refl _) (Nat.le_refl _) ?_
    have e12_ := hG.1.2.2.1
    have e13_ := hG.1.2.2.2
    have e14_ := hA.2.1
    have e15_ := hS.2.1
    have e16_ := hPl.2.1
    have e17_ := hNo.2.1
    have e18_ := hTa.2.1
    have hcl_ : cl 7 = 7 := by decide
    have hz : v_count X (nI rr) 7 = nI rr := by
      first | (simp [v_count, e12_, e13_, e14_, e15_, e16_, e17_, e18_, hcl_]; done) | (clear hB hK hSA hx hXn hP5 hPp hRP hPg hPa hBI hG hT hS hPl hNo hTa hA hJ hR hD hQ Xc; simp_all [v_count]; done)
    exact ⟨hz.symm, hB, OffB.rf⟩
  have so1_0 := lv_neT sw1_0 (a := 0) rfl
  have so1_1 := lv_neT sw1_1 (a := 1) rfl
  have so1_2 := lv_neT sw1_2 (a := 2) rfl
  have so1_3 := lv_neT sw1_3 (a := 3) rfl
  have so1_4 := lv_neT sw1_4 (a := 4) rfl
  have so1_5 := lv_neT sw1_5 (a := 5) rfl
  have so1_6 := lv_neT sw1_6 (a := 6) rfl
  have so1_7 := lv_neT sw1_7 (a := 7) rfl
  refine e_tableOut (tgt := 112) (pc := 1) Xc (dT hX6_count 1 rfl) (by omega) rfl ?_
  refine e_iconst (v := -1) (pc := 112) Xc (dT hX6_count 34 rfl) rfl ?_
  refine e_iret (pc := 113) Xc hQ (dT hX6_count 35 rfl) (Nat.le_refl _) (Nat.le_refl _) ?_
  have e12_ := hG.1.2.2.1
  have e13_ := hG.1.2.2.2
  have e14_ := hA.2.1
  have e15_ := hS.2.1
  have e16_ := hPl.2.1
  have e17_ := hNo.2.1
  have e18_ := hTa.2.1
  have hin6_ : inF w 0 6 = false := by
    have l0_ : (0 : Int32).toInt = 0 := by decide
    have l6_ : (6 : Int32).toInt = 6 := by decide
    rw [inF_ff]
    omega
  have hz : v_count X (nI rr) w = (-1) := by
    first | (simp [v_count, e12_, e13_, e14_, e15_, e16_, e17_, e18_, sw1_0, sw1_1, sw1_2, sw1_3, sw1_4, sw1_5, sw1_6, sw1_7, hin6_]; done) | (clear hB hK hSA hx hXn hP5 hPp hRP hPg hPa hBI hG hT hS hPl hNo hTa hA hJ hR hD hQ Xc; simp_all [v_count]; done)
  exact ⟨hz.symm, hB, OffB.rf⟩
set_option maxRecDepth 100000 in
set_option maxHeartbeats 4000000 in
theorem b_on {G : xG} {σ : xS} {x m : Nat} {X Y bd : Nat → Int32} {hi : Int32} {rr : Nat} {nr nb ns np nn nt na dy : Nat} {t : xT} (hB : BK G σ x m X Y bd hi rr nr nb ns np nn nt t) (hK : OK X nr nb t ns np nn nt na dy) (n : Int32) (w : Int32) : CI G yX6_on cX6_on 5 (some .int) 8 0 0 [.ref x, .int n, .int w] σ (fun z σ1 => z = v_on X t nr nb n w ∧ BK G σ1 x m X Y bd hi rr nr nb ns np nn nt t ∧ OffB x σ σ1) := by
  refine Met.ofX (by decide +kernel) (Nat.le_of_ble_eq_true rfl) (fun μ Xc hQ hnm => ?_)
  have Xc : xC G μ cX6_on 5 RX6 (some .int) 8 0 0 := Xc
  obtain ⟨hSA, ⟨hgA, hgO⟩, hxm, hms, ⟨Fx, Ax, hx, hF7⟩, ⟨tw, htw, hXn⟩, ⟨F5, T5, A5, hP5⟩, ⟨Fp, Tp, Ap, hPp, hRP⟩, ⟨Fg, Tg, Ag, hPg⟩, ⟨Fa, Ta, Aa, hPa, hFa1, hAa⟩, hBI⟩ := id hB
  obtain ⟨htw1, htw2, htw3⟩ := id htw
  obtain ⟨hG, hT, hS, hPl, hNo, hTa, hA, hJ, hR, hD⟩ := id hK
  have hr4 := hG.r4
  have hb7 := hG.b7
  have hs6 := hS.1
  have hp8 := hPl.1
  have hn8 := hNo.1
  have ht100 := hTa.1
  have ha5 := hA.1
  have hdy := hD.1
  have hd0 := hD.2
  have ht13 : tw ≠ x + 13 := by omega
  have hb8 : ns ≤ 6 ∧ np ≤ 8 ∧ nn ≤ 8 ∧ nt ≤ 100 := ⟨hs6, hp8, hn8, ht100⟩
  show Ev G μ 5 0 0 0 [(0, .ref x), (1, .int n), (2, .int w)] [] σ
  obtain ⟨Fw1, Tw1, Aw1, hBw1, htw1⟩ := id hXn
  have hWw1 := hBw1.2.1
  refine e_iload_n (pc := 0) Xc (dT hX6_on 0 rfl) 2 rfl ?_
  refine e_bipush (v := 10) (pc := 1) Xc (dT hX6_on 1 rfl) rfl ?_
  refine e_isub (pc := 3) Xc (dT hX6_on 2 rfl) ?_
  refine e_istore_n (L' := [(3, .int (w - 10)), (0, .ref x), (1, .int n), (2, .int w)]) (pc := 4) Xc (dT hX6_on 3 rfl) (by decide) rfl ?_
  refine e_iload_n (pc := 5) Xc (dT hX6_on 4 rfl) 3 rfl ?_
  refine e_if_eq (tgt := 29) (pc := 6) Xc (dT hX6_on 5 rfl) rfl (fun c6 => ?_) (fun c6 => ?_)
  · skip
    have hin1_ : inF w 0 1 = true := by rw [c6]; decide
    refine e_iload_n (pc := 29) Xc (dT hX6_on 16 rfl) 2 rfl ?_
    refine cl_X6_165 (pc := 30) (k := 0) (n := 0) (S := []) Xc (c6_isDays n) (dT hX6_on 17 rfl) rfl (Nat.le_of_ble_eq_true rfl) (Nat.le_of_ble_eq_true rfl) (Nat.le_of_ble_eq_true rfl) rfl (Nat.le_of_ble_eq_true rfl) (fun r2 σ3 hq4 => ?_)
    obtain ⟨r2e, r2s⟩ := hq4
    have r2e := r2e.symm; subst r2e; have r2s := r2s.symm; subst r2s
    refine e_if_ne (tgt := 40) (pc := 33) Xc (dT hX6_on 18 rfl) rfl (fun c33 => ?_) (fun c33 => ?_)
    · skip
      obtain ⟨kn_, hkn_, rfl⟩ := in_N (w := n) (n := 40) (by omega) (by have hcc := c33; simp only [bI_0, bI_1, Bool.not_eq_true, Bool.not_eq_false] at hcc; exact hcc)
      have hc_kn_ : cl (nI kn_) = kn_ := cl_nI (by omega)
      refine e_aload_n (pc := 40) Xc (dT hX6_on 21 rfl) 1 rfl ?_
      refine e_iload_n (pc := 41) Xc (dT hX6_on 22 rfl) 2 rfl ?_
      refine cl_X6_171 (pc := 42) (k := 0) (n := 0) (S := []) Xc hx.o (c6_goOn hx ⟨Fw1, Tw1, Aw1, hBw1, htw1⟩ ht13 hP5 hdy hd0 kn_ (by omega)) (dT hX6_on 23 rfl) rfl (Nat.le_of_ble_eq_true rfl) (Nat.le_of_ble_eq_true rfl) (Nat.le_of_ble_eq_true rfl) rfl (Nat.le_of_ble_eq_true rfl) (fun r5 σ6 hq7 => ?_)
      obtain ⟨r5e, hT8, ho9⟩ := hq7
      have r5e := r5e.symm; subst r5e
      have hP10 := hx.off ho9 (by omega)
      have hP11 := hPp.off ho9 (by omega)
      have hP12 := hPg.off ho9 (by omega)
      have hP13 := hPa.off ho9 (by omega)
      have hB14 := hBw1.off ho9 (by omega) (by rw [htw1]; omega)
      obtain ⟨lnw15, hXw15, hdlw15, hd0w15, hbtw15⟩ := id hT8
      obtain ⟨Fw15, Tw15, Aw15, hBw15, htw15⟩ := id hXw15
      have hWw15 := hBw15.2.1
      refine e_istore (L' := [(4, .int ((daysF X t nr nb kn_).1)), (3, .int (w - 10)), (0, .ref x), (1, .int (nI kn_)), (2, .int w)]) (pc := 45) Xc (dT hX6_on 24 rfl) (by decide) rfl ?_
      refine e_iload_n (pc := 47) Xc (dT hX6_on 25 rfl) 4 rfl ?_
      refine e_if_ne (tgt := 54) (pc := 48) Xc (dT hX6_on 26 rfl) rfl (fun c48 => ?_) (fun c48 => ?_)
      · skip
        exact absurd c6 c48
      · skip
        refine e_iload (pc := 51) Xc (dT hX6_on 27 rfl) 0 rfl ?_
        refine e_iret (pc := 53) Xc hQ (dT hX6_on 28 rfl) (Nat.le_refl _) (Nat.le_refl _) ?_
        have hz : v_on X t nr nb (nI kn_) w = (daysF X t nr nb kn_).1 := by
          try simp only [bI_0, bI_1, Bool.not_eq_true, Bool.not_eq_false] at c6 c33 c48
          first | (simp [v_on, c6, c33, c48, hin1_, hc_kn_]; done) | (clear hB hK hSA hx hXn hP5 hPp hRP hPg hPa hBI hG hT hS hPl hNo hTa hA hJ hR hD hQ Xc; simp_all [v_on]; done)
        obtain ⟨hb_, ho_⟩ := hB.asks (OffS.of (S := fun o => o = x + 13 ∨ o = x + 55) ho9 (Or.inl rfl)) ⟨_, _, _, hBw15.1⟩ ⟨_, _, _, hP12⟩
        exact ⟨hz.symm, hb_, ho_⟩
    · skip
      refine e_sipush (v := -10002) (pc := 36) Xc (dT hX6_on 19 rfl) rfl ?_
      refine e_iret (pc := 39) Xc hQ (dT hX6_on 20 rfl) (Nat.le_refl _) (Nat.le_refl _) ?_
      have hz : v_on X t nr nb n w = (-10002) := by
        try simp only [bI_0, bI_1, Bool.not_eq_true, Bool.not_eq_false] at c6 c33
        first | (simp [v_on, c6, c33, hin1_]; done) | (clear hB hK hSA hx hXn hP5 hPp hRP hPg hPa hBI hG hT hS hPl hNo hTa hA hJ hR hD hQ Xc; simp_all [v_on]; done)
      exact ⟨hz.symm, hB, OffB.rf⟩
  · skip
    refine e_iload_n (pc := 9) Xc (dT hX6_on 6 rfl) 3 rfl ?_
    refine e_iconst (v := 1) (pc := 10) Xc (dT hX6_on 7 rfl) rfl ?_
    refine e_icmp_eq (tgt := 29) (pc := 11) Xc (dT hX6_on 8 rfl) rfl (fun c11 => ?_) (fun c11 => ?_)
    · skip
      have hin1_ : inF w 0 1 = true := by rw [c11]; decide
      refine e_iload_n (pc := 29) Xc (dT hX6_on 16 rfl) 2 rfl ?_
      refine cl_X6_165 (pc := 30) (k := 0) (n := 0) (S := []) Xc (c6_isDays n) (dT hX6_on 17 rfl) rfl (Nat.le_of_ble_eq_true rfl) (Nat.le_of_ble_eq_true rfl) (Nat.le_of_ble_eq_true rfl) rfl (Nat.le_of_ble_eq_true rfl) (fun r16 σ17 hq18 => ?_)
      obtain ⟨r16e, r16s⟩ := hq18
      have r16e := r16e.symm; subst r16e; have r16s := r16s.symm; subst r16s
      refine e_if_ne (tgt := 40) (pc := 33) Xc (dT hX6_on 18 rfl) rfl (fun c33 => ?_) (fun c33 => ?_)
      · skip
        obtain ⟨kn_, hkn_, rfl⟩ := in_N (w := n) (n := 40) (by omega) (by have hcc := c33; simp only [bI_0, bI_1, Bool.not_eq_true, Bool.not_eq_false] at hcc; exact hcc)
        have hc_kn_ : cl (nI kn_) = kn_ := cl_nI (by omega)
        refine e_aload_n (pc := 40) Xc (dT hX6_on 21 rfl) 1 rfl ?_
        refine e_iload_n (pc := 41) Xc (dT hX6_on 22 rfl) 2 rfl ?_
        refine cl_X6_171 (pc := 42) (k := 0) (n := 0) (S := []) Xc hx.o (c6_goOn hx ⟨Fw1, Tw1, Aw1, hBw1, htw1⟩ ht13 hP5 hdy hd0 kn_ (by omega)) (dT hX6_on 23 rfl) rfl (Nat.le_of_ble_eq_true rfl) (Nat.le_of_ble_eq_true rfl) (Nat.le_of_ble_eq_true rfl) rfl (Nat.le_of_ble_eq_true rfl) (fun r19 σ20 hq21 => ?_)
        obtain ⟨r19e, hT22, ho23⟩ := hq21
        have r19e := r19e.symm; subst r19e
        have hP24 := hx.off ho23 (by omega)
        have hP25 := hPp.off ho23 (by omega)
        have hP26 := hPg.off ho23 (by omega)
        have hP27 := hPa.off ho23 (by omega)
        have hB28 := hBw1.off ho23 (by omega) (by rw [htw1]; omega)
        obtain ⟨lnw29, hXw29, hdlw29, hd0w29, hbtw29⟩ := id hT22
        obtain ⟨Fw29, Tw29, Aw29, hBw29, htw29⟩ := id hXw29
        have hWw29 := hBw29.2.1
        refine e_istore (L' := [(4, .int ((daysF X t nr nb kn_).1)), (3, .int (w - 10)), (0, .ref x), (1, .int (nI kn_)), (2, .int w)]) (pc := 45) Xc (dT hX6_on 24 rfl) (by decide) rfl ?_
        refine e_iload_n (pc := 47) Xc (dT hX6_on 25 rfl) 4 rfl ?_
        refine e_if_ne (tgt := 54) (pc := 48) Xc (dT hX6_on 26 rfl) rfl (fun c48 => ?_) (fun c48 => ?_)
        · skip
          refine e_iload_n (pc := 54) Xc (dT hX6_on 29 rfl) 4 rfl ?_
          refine e_iconst (v := 1) (pc := 55) Xc (dT hX6_on 30 rfl) rfl ?_
          refine e_icmp_ne (tgt := 69) (pc := 56) Xc (dT hX6_on 31 rfl) rfl (fun c56 => ?_) (fun c56 => ?_)
          · skip
            exact absurd c11 c56
          · skip
            refine e_aload_n (pc := 59) Xc (dT hX6_on 32 rfl) 2 rfl ?_
            refine gf_X6_18 (pc := 60) Xc (dT hX6_on 33 rfl) hP24.o rfl ?_
            refine cl_X6_148 (pc := 63) (k := 0) (n := 0) (S := []) Xc hBw29.1.o (c5_total hBw29 ⟨_, hdlw29, hd0w29, hbtw29⟩) (dT hX6_on 34 rfl) rfl (Nat.le_of_ble_eq_true rfl) (Nat.le_of_ble_eq_true rfl) (Nat.le_of_ble_eq_true rfl) rfl (Nat.le_of_ble_eq_true rfl) (fun r30 σ31 hq32 => ?_)
            obtain ⟨r30e, r30s⟩ := hq32
            have r30e := r30e.symm; subst r30e; have r30s := r30s.symm; subst r30s
            refine e_goto (tgt := 80) (pc := 66) Xc (dT hX6_on 35 rfl) rfl ?_
            refine e_iret (pc := 80) Xc hQ (dT hX6_on 41 rfl) (Nat.le_refl _) (Nat.le_refl _) ?_
            have hz : v_on X t nr nb (nI kn_) w = totF ((daysF X t nr nb kn_).2) t nr := by
              try simp only [bI_0, bI_1, Bool.not_eq_true, Bool.not_eq_false] at c6 c11 c33 c48 c56
              first | (simp [v_on, c6, c11, c33, c48, c56, hin1_, hc_kn_]; done) | (clear hB hK hSA hx hXn hP5 hPp hRP hPg hPa hBI hG hT hS hPl hNo hTa hA hJ hR hD hQ Xc; simp_all [v_on]; done)
            obtain ⟨hb_, ho_⟩ := hB.asks (OffS.of (S := fun o => o = x + 13 ∨ o = x + 55) ho23 (Or.inl rfl)) ⟨_, _, _, hBw29.1⟩ ⟨_, _, _, hP26⟩
            exact ⟨hz.symm, hb_, ho_⟩
        · skip
          exact absurd c48 c6
      · skip
        refine e_sipush (v := -10002) (pc := 36) Xc (dT hX6_on 19 rfl) rfl ?_
        refine e_iret (pc := 39) Xc hQ (dT hX6_on 20 rfl) (Nat.le_refl _) (Nat.le_refl _) ?_
        have hz : v_on X t nr nb n w = (-10002) := by
          try simp only [bI_0, bI_1, Bool.not_eq_true, Bool.not_eq_false] at c6 c11 c33
          first | (simp [v_on, c6, c11, c33, hin1_]; done) | (clear hB hK hSA hx hXn hP5 hPp hRP hPg hPa hBI hG hT hS hPl hNo hTa hA hJ hR hD hQ Xc; simp_all [v_on]; done)
        exact ⟨hz.symm, hB, OffB.rf⟩
    · skip
      refine e_aload_n (pc := 14) Xc (dT hX6_on 9 rfl) 1 rfl ?_
      refine gf_X6_12 (pc := 15) Xc (dT hX6_on 10 rfl) hx.o rfl ?_
      refine e_iload_n (pc := 18) Xc (dT hX6_on 11 rfl) 0 rfl ?_
      refine cl_X6_99 (pc := 19) (k := 0) (n := 0) (S := []) Xc hBw1.1.o (c5_isReader hBw1 (w - 10)) (dT hX6_on 12 rfl) rfl (Nat.le_of_ble_eq_true rfl) (Nat.le_of_ble_eq_true rfl) (Nat.le_of_ble_eq_true rfl) rfl (Nat.le_of_ble_eq_true rfl) (fun r33 σ34 hq35 => ?_)
      obtain ⟨r33e, r33s⟩ := hq35
      have r33e := r33e.symm; subst r33e; have r33s := r33s.symm; subst r33s
      refine e_if_ne (tgt := 29) (pc := 22) Xc (dT hX6_on 13 rfl) rfl (fun c22 => ?_) (fun c22 => ?_)
      · skip
        obtain ⟨q, hq, hwq_⟩ := inF_nat (v := w - 10) (n := nr) (by omega) (by simpa [bI_0, bI_1] using c22)
        have hc_q : cl (nI q) = q := cl_nI (by omega)
        have hin10_ : inF (w - 10) 0 (nI nr - 1) = true := by simpa [bI_0, bI_1] using c22
        refine e_iload_n (pc := 29) Xc (dT hX6_on 16 rfl) 2 rfl ?_
        refine cl_X6_165 (pc := 30) (k := 0) (n := 0) (S := []) Xc (c6_isDays n) (dT hX6_on 17 rfl) rfl (Nat.le_of_ble_eq_true rfl) (Nat.le_of_ble_eq_true rfl) (Nat.le_of_ble_eq_true rfl) rfl (Nat.le_of_ble_eq_true rfl) (fun r36 σ37 hq38 => ?_)
        obtain ⟨r36e, r36s⟩ := hq38
        have r36e := r36e.symm; subst r36e; have r36s := r36s.symm; subst r36s
        refine e_if_ne (tgt := 40) (pc := 33) Xc (dT hX6_on 18 rfl) rfl (fun c33 => ?_) (fun c33 => ?_)
        · skip
          obtain ⟨kn_, hkn_, rfl⟩ := in_N (w := n) (n := 40) (by omega) (by have hcc := c33; simp only [bI_0, bI_1, Bool.not_eq_true, Bool.not_eq_false] at hcc; exact hcc)
          have hc_kn_ : cl (nI kn_) = kn_ := cl_nI (by omega)
          refine e_aload_n (pc := 40) Xc (dT hX6_on 21 rfl) 1 rfl ?_
          refine e_iload_n (pc := 41) Xc (dT hX6_on 22 rfl) 2 rfl ?_
          refine cl_X6_171 (pc := 42) (k := 0) (n := 0) (S := []) Xc hx.o (c6_goOn hx ⟨Fw1, Tw1, Aw1, hBw1, htw1⟩ ht13 hP5 hdy hd0 kn_ (by omega)) (dT hX6_on 23 rfl) rfl (Nat.le_of_ble_eq_true rfl) (Nat.le_of_ble_eq_true rfl) (Nat.le_of_ble_eq_true rfl) rfl (Nat.le_of_ble_eq_true rfl) (fun r39 σ40 hq41 => ?_)
          obtain ⟨r39e, hT42, ho43⟩ := hq41
          have r39e := r39e.symm; subst r39e
          have hP44 := hx.off ho43 (by omega)
          have hP45 := hPp.off ho43 (by omega)
          have hP46 := hPg.off ho43 (by omega)
          have hP47 := hPa.off ho43 (by omega)
          have hB48 := hBw1.off ho43 (by omega) (by rw [htw1]; omega)
          obtain ⟨lnw49, hXw49, hdlw49, hd0w49, hbtw49⟩ := id hT42
          obtain ⟨Fw49, Tw49, Aw49, hBw49, htw49⟩ := id hXw49
          have hWw49 := hBw49.2.1
          refine e_istore (L' := [(4, .int ((daysF X t nr nb kn_).1)), (3, .int (w - 10)), (0, .ref x), (1, .int (nI kn_)), (2, .int w)]) (pc := 45) Xc (dT hX6_on 24 rfl) (by decide) rfl ?_
          refine e_iload_n (pc := 47) Xc (dT hX6_on 25 rfl) 4 rfl ?_
          refine e_if_ne (tgt := 54) (pc := 48) Xc (dT hX6_on 26 rfl) rfl (fun c48 => ?_) (fun c48 => ?_)
          · skip
            refine e_iload_n (pc := 54) Xc (dT hX6_on 29 rfl) 4 rfl ?_
            refine e_iconst (v := 1) (pc := 55) Xc (dT hX6_on 30 rfl) rfl ?_
            refine e_icmp_ne (tgt := 69) (pc := 56) Xc (dT hX6_on 31 rfl) rfl (fun c56 => ?_) (fun c56 => ?_)
            · skip
              refine e_aload_n (pc := 69) Xc (dT hX6_on 36 rfl) 2 rfl ?_
              refine gf_X6_18 (pc := 70) Xc (dT hX6_on 37 rfl) hP44.o rfl ?_
              refine gf_X6_113 (pc := 73) Xc (dT hX6_on 38 rfl) hBw49.1.o rfl ?_
              refine e_iload_n (pc := 76) Xc (dT hX6_on 39 rfl) 1 rfl ?_
              refine e_val (y := nI q) hwq_ ?_
              refine cl_X6_106 (pc := 77) (k := 0) (n := 0) (S := []) Xc (c_get hBw49.1.a4 (by decide) (by decide) q (by omega)) (dT hX6_on 40 rfl) rfl (Nat.le_of_ble_eq_true rfl) (Nat.le_of_ble_eq_true rfl) (Nat.le_of_ble_eq_true rfl) rfl (Nat.le_of_ble_eq_true rfl) (fun r50 σ51 hq52 => ?_)
              obtain ⟨r50e, r50s⟩ := hq52
              have r50e := r50e.symm; subst r50e; have r50s := r50s.symm; subst r50s
              refine e_val (y := orN (((daysF X t nr nb kn_).2) (1 + q))) (hWw49.2.2.2.1 q (by omega)) ?_
              refine e_iret (pc := 80) Xc hQ (dT hX6_on 41 rfl) (Nat.le_refl _) (Nat.le_refl _) ?_
              have hz : v_on X t nr nb (nI kn_) w = orN (((daysF X t nr nb kn_).2) (1 + q)) := by
                try simp only [bI_0, bI_1, Bool.not_eq_true, Bool.not_eq_false] at c6 c11 c22 c33 c48 c56
                first | (simp [v_on, c6, c11, c22, c33, c48, c56, hc_q, hin10_, hwq_, hc_kn_]; done) | (clear hB hK hSA hx hXn hP5 hPp hRP hPg hPa hBI hG hT hS hPl hNo hTa hA hJ hR hD hQ Xc; simp_all [v_on]; done)
              obtain ⟨hb_, ho_⟩ := hB.asks (OffS.of (S := fun o => o = x + 13 ∨ o = x + 55) ho43 (Or.inl rfl)) ⟨_, _, _, hBw49.1⟩ ⟨_, _, _, hP46⟩
              exact ⟨hz.symm, hb_, ho_⟩
            · skip
              exact absurd c56 c11
          · skip
            exact absurd c48 c6
        · skip
          refine e_sipush (v := -10002) (pc := 36) Xc (dT hX6_on 19 rfl) rfl ?_
          refine e_iret (pc := 39) Xc hQ (dT hX6_on 20 rfl) (Nat.le_refl _) (Nat.le_refl _) ?_
          have hz : v_on X t nr nb n w = (-10002) := by
            try simp only [bI_0, bI_1, Bool.not_eq_true, Bool.not_eq_false] at c6 c11 c22 c33
            first | (simp [v_on, c6, c11, c22, c33, hc_q, hin10_, hwq_]; done) | (clear hB hK hSA hx hXn hP5 hPp hRP hPg hPa hBI hG hT hS hPl hNo hTa hA hJ hR hD hQ Xc; simp_all [v_on]; done)
          exact ⟨hz.symm, hB, OffB.rf⟩
      · skip
        have hin1_ := in01f c6 c11
        refine e_sipush (v := -10001) (pc := 25) Xc (dT hX6_on 14 rfl) rfl ?_
        refine e_iret (pc := 28) Xc hQ (dT hX6_on 15 rfl) (Nat.le_refl _) (Nat.le_refl _) ?_
        have hz : v_on X t nr nb n w = (-10001) := by
          try simp only [bI_0, bI_1, Bool.not_eq_true, Bool.not_eq_false] at c6 c11 c22
          first | (simp [v_on, c6, c11, c22, hin1_]; done) | (clear hB hK hSA hx hXn hP5 hPp hRP hPg hPa hBI hG hT hS hPl hNo hTa hA hJ hR hD hQ Xc; simp_all [v_on]; done)
        exact ⟨hz.symm, hB, OffB.rf⟩
set_option maxRecDepth 100000 in
set_option maxHeartbeats 4000000 in
theorem b_until {G : xG} {σ : xS} {x m : Nat} {X Y bd : Nat → Int32} {hi : Int32} {rr : Nat} {nr nb ns np nn nt na dy : Nat} {t : xT} (hB : BK G σ x m X Y bd hi rr nr nb ns np nn nt t) (hK : OK X nr nb t ns np nn nt na dy) (w : Int32) : CI G yX6_until cX6_until 3 (some .int) 7 0 0 [.ref x, .int w] σ (fun z σ1 => z = v_until X t nr nb w ∧ BK G σ1 x m X Y bd hi rr nr nb ns np nn nt t ∧ OffB x σ σ1) := by
  refine Met.ofX (by decide +kernel) (Nat.le_of_ble_eq_true rfl) (fun μ Xc hQ hnm => ?_)
  have Xc : xC G μ cX6_until 3 RX6 (some .int) 7 0 0 := Xc
  obtain ⟨hSA, ⟨hgA, hgO⟩, hxm, hms, ⟨Fx, Ax, hx, hF7⟩, ⟨tw, htw, hXn⟩, ⟨F5, T5, A5, hP5⟩, ⟨Fp, Tp, Ap, hPp, hRP⟩, ⟨Fg, Tg, Ag, hPg⟩, ⟨Fa, Ta, Aa, hPa, hFa1, hAa⟩, hBI⟩ := id hB
  obtain ⟨htw1, htw2, htw3⟩ := id htw
  obtain ⟨hG, hT, hS, hPl, hNo, hTa, hA, hJ, hR, hD⟩ := id hK
  have hr4 := hG.r4
  have hb7 := hG.b7
  have hs6 := hS.1
  have hp8 := hPl.1
  have hn8 := hNo.1
  have ht100 := hTa.1
  have ha5 := hA.1
  have hdy := hD.1
  have hd0 := hD.2
  have ht13 : tw ≠ x + 13 := by omega
  have hb8 : ns ≤ 6 ∧ np ≤ 8 ∧ nn ≤ 8 ∧ nt ≤ 100 := ⟨hs6, hp8, hn8, ht100⟩
  show Ev G μ 3 0 0 0 [(0, .ref x), (1, .int w)] [] σ
  obtain ⟨Fw1, Tw1, Aw1, hBw1, htw1⟩ := id hXn
  have hWw1 := hBw1.2.1
  refine e_iload_n (pc := 0) Xc (dT hX6_until 0 rfl) 1 rfl ?_
  refine e_if_lt (tgt := 9) (pc := 1) Xc (dT hX6_until 1 rfl) rfl (fun c1 => ?_) (fun c1 => ?_)
  · skip
    have hin_w : inF w 0 1 = false := by
      have k1_ := c1
      simp only [Int32.lt_iff_toInt_lt, Int32.le_iff_toInt_le] at k1_
      have l0_ : (0 : Int32).toInt = 0 := by decide
      have l1_ : (1 : Int32).toInt = 1 := by decide
      have l2_ : (2 : Int32).toInt = 2 := by decide
      rw [inF_ff]
      omega
    refine e_iconst (v := -1) (pc := 9) Xc (dT hX6_until 5 rfl) rfl ?_
    refine e_iret (pc := 10) Xc hQ (dT hX6_until 6 rfl) (Nat.le_refl _) (Nat.le_refl _) ?_
    have hz : v_until X t nr nb w = (-1) := by
      try simp only [bI_0, bI_1, Bool.not_eq_true, Bool.not_eq_false] at c1
      first | (simp [v_until, c1, hin_w]; done) | (clear hB hK hSA hx hXn hP5 hPp hRP hPg hPa hBI hG hT hS hPl hNo hTa hA hJ hR hD hQ Xc; simp_all [v_until]; done)
    exact ⟨hz.symm, hB, OffB.rf⟩
  · skip
    refine e_iload_n (pc := 4) Xc (dT hX6_until 2 rfl) 1 rfl ?_
    refine e_iconst (v := 1) (pc := 5) Xc (dT hX6_until 3 rfl) rfl ?_
    refine e_icmp_le (tgt := 11) (pc := 6) Xc (dT hX6_until 4 rfl) rfl (fun c6 => ?_) (fun c6 => ?_)
    · skip
      have hin_w : inF w 0 1 = true := by
        have k1_ := c1
        have k6_ := c6
        simp only [Int32.lt_iff_toInt_lt, Int32.le_iff_toInt_le] at k1_ k6_
        have l0_ : (0 : Int32).toInt = 0 := by decide
        have l1_ : (1 : Int32).toInt = 1 := by decide
        have l2_ : (2 : Int32).toInt = 2 := by decide
        rw [inF_iff]
        omega
      refine e_aload_n (pc := 11) Xc (dT hX6_until 7 rfl) 0 rfl ?_
      refine cl_X6_116 (pc := 12) (k := 0) (n := 0) (S := []) Xc hx.o (c6_fresh hx ⟨Fw1, Tw1, Aw1, hBw1, htw1⟩ ht13 hP5 hdy hd0) (dT hX6_until 8 rfl) rfl (Nat.le_of_ble_eq_true rfl) (Nat.le_of_ble_eq_true rfl) (Nat.le_of_ble_eq_true rfl) rfl (Nat.le_of_ble_eq_true rfl) (fun σ3 hq4 => ?_)
      obtain ⟨hT5, ho6⟩ := hq4
      have hP7 := hx.off ho6 (by omega)
      have hP8 := hPp.off ho6 (by omega)
      have hP9 := hPg.off ho6 (by omega)
      have hP10 := hPa.off ho6 (by omega)
      have hB11 := hBw1.off ho6 (by omega) (by rw [htw1]; omega)
      obtain ⟨lnw12, hXw12, hdlw12, hd0w12, hbtw12⟩ := id hT5
      obtain ⟨Fw12, Tw12, Aw12, hBw12, htw12⟩ := id hXw12
      have hWw12 := hBw12.2.1
      refine e_iconst (v := 0) (pc := 15) Xc (dT hX6_until 9 rfl) rfl ?_
      refine e_istore_n (L' := [(2, .int 0), (0, .ref x), (1, .int w)]) (pc := 16) Xc (dT hX6_until 10 rfl) (by decide) rfl ?_
      have lp17 : ∀ (n17 : Nat) (d_ : Nat) (σ2 : xS), 41 - d_ < n17 → (d_ ≤ 41) → (∀ i, i < d_ → (fun n_ => overF (daysF X t nr nb n_).2 t nr nb w) i = false) → (WL σ2 (x + 13) tw (daysF X t nr nb d_).2 nr nb t (dy + d_)) → (Off (x + 13) σ3 σ2) → Ev G μ 3 0 0 17 [(0, .ref x), (1, .int w), (2, .int (nI d_))] [] σ2 := by
        intro n17
        induction n17 with
        | zero => intro d_ σ2 hn; exact absurd hn (Nat.not_lt_zero _)
        | succ n17 ih17 =>
          intro d_ σ2 hn17 hd_ hno_ hT2 hO2
          have hP13 := hP7.off hO2 (by omega)
          have hP14 := hP8.off hO2 (by omega)
          have hP15 := hP9.off hO2 (by omega)
          have hP16 := hP10.off hO2 (by omega)
          have hB17 := hB11.off hO2 (by omega) (by rw [htw1]; omega)
          obtain ⟨lnw18, hXw18, hdlw18, hd0w18, hbtw18⟩ := id hT2
          obtain ⟨Fw18, Tw18, Aw18, hBw18, htw18⟩ := id hXw18
          have hWw18 := hBw18.2.1
          refine e_iload_n (pc := 17) Xc (dT hX6_until 11 rfl) 2 rfl ?_
          refine e_bipush (v := 40) (pc := 18) Xc (dT hX6_until 12 rfl) rfl ?_
          refine e_icmp_gtN (x := d_) (y := 40) (tgt := 66) (pc := 20) Xc (dT hX6_until 13 rfl) rfl (by omega) (by omega) (fun c20 => ?_) (fun c20 => ?_)
          · skip
            refine e_bipush (v := -5) (pc := 66) Xc (dT hX6_until 33 rfl) rfl ?_
            refine e_iret (pc := 68) Xc hQ (dT hX6_until 34 rfl) (Nat.le_refl _) (Nat.le_refl _) ?_
            have hde_ : d_ = 41 := by omega
            subst hde_
            have hz : v_until X t nr nb w = -5 := by rw [v_until, if_pos hin_w]; exact fnd_miss hno_
            obtain ⟨hb_, ho_⟩ := hB.asks ((OffS.of (S := fun o => o = x + 13 ∨ o = x + 55) ho6 (Or.inl rfl)).tr (OffS.of (S := fun o => o = x + 13 ∨ o = x + 55) hO2 (Or.inl rfl))) ⟨_, _, _, hBw18.1⟩ ⟨_, _, _, hP15⟩
            exact ⟨hz.symm, hb_, ho_⟩
          · skip
            refine e_iload_n (pc := 23) Xc (dT hX6_until 14 rfl) 1 rfl ?_
            refine e_if_ne (tgt := 40) (pc := 24) Xc (dT hX6_until 15 rfl) rfl (fun c24 => ?_) (fun c24 => ?_)
            · skip
              refine e_aload_n (pc := 40) Xc (dT hX6_until 21 rfl) 0 rfl ?_
              refine gf_X6_18 (pc := 41) Xc (dT hX6_until 22 rfl) hP13.o rfl ?_
              refine cl_X6_177 (pc := 44) (k := 0) (n := 0) (S := []) Xc hBw18.1.o (c5_isStuck hBw18) (dT hX6_until 23 rfl) rfl (Nat.le_of_ble_eq_true rfl) (Nat.le_of_ble_eq_true rfl) (Nat.le_of_ble_eq_true rfl) rfl (Nat.le_of_ble_eq_true rfl) (fun r19 σ20 hq21 => ?_)
              obtain ⟨r19e, r19s⟩ := hq21
              have r19e := r19e.symm; subst r19e; have r19s := r19s.symm; subst r19s
              refine e_if_eq (tgt := 52) (pc := 47) Xc (dT hX6_until 24 rfl) rfl (fun c47 => ?_) (fun c47 => ?_)
              · skip
                refine e_aload_n (pc := 52) Xc (dT hX6_until 27 rfl) 0 rfl ?_
                refine gf_X6_18 (pc := 53) Xc (dT hX6_until 28 rfl) hP13.o rfl ?_
                refine cl_X6_168 (pc := 56) (k := 0) (n := 0) (S := []) Xc hBw18.1.o (c5_goDay ⟨lnw18, ⟨Fw18, Tw18, Aw18, hBw18, htw18⟩, hdlw18, hd0w18, hbtw18⟩ (by omega)) (dT hX6_until 29 rfl) rfl (Nat.le_of_ble_eq_true rfl) (Nat.le_of_ble_eq_true rfl) (Nat.le_of_ble_eq_true rfl) rfl (Nat.le_of_ble_eq_true rfl) (fun r22 σ23 hq24 => ?_)
                obtain ⟨r22e, hT25, ho26⟩ := hq24
                have r22e := r22e.symm; subst r22e
                have hP27 := hP13.off ho26 (by omega)
                have hP28 := hP14.off ho26 (by omega)
                have hP29 := hP15.off ho26 (by omega)
                have hP30 := hP16.off ho26 (by omega)
                have hB31 := hB17.off ho26 (by omega) (by rw [htw1]; omega)
                obtain ⟨lnw32, hXw32, hdlw32, hd0w32, hbtw32⟩ := id hT25
                obtain ⟨Fw32, Tw32, Aw32, hBw32, htw32⟩ := id hXw32
                have hWw32 := hBw32.2.1
                refine e_pop (pc := 59) Xc (dT hX6_until 30 rfl) rfl ?_
                refine e_iincN (a := d_) (b := 1) (L' := [(2, .int (nI (d_ + 1))), (0, .ref x), (1, .int w)]) (pc := 60) Xc (dT hX6_until 31 rfl) 2 rfl rfl (by decide) rfl ?_
                refine e_goto (tgt := 17) (pc := 63) Xc (dT hX6_until 32 rfl) rfl ?_
                refine Ev.pick (L' := [(0, .ref x), (1, .int w), (2, .int (nI (d_ + 1)))]) [1, 2, 0] rfl ?_
                exact ih17 (d_ + 1) σ23 (by omega) (by omega) (no_next hno_ (show overF (daysF X t nr nb d_).2 t nr nb w = false from by rw [over_n c24]; exact bI_0.mp c47)) (⟨lnw32, ⟨Fw32, Tw32, Aw32, hBw32, htw32⟩, hdlw32, hd0w32, hbtw32⟩) (hO2.tr ho26)
              · skip
                refine e_iload_n (pc := 50) Xc (dT hX6_until 25 rfl) 2 rfl ?_
                refine e_iret (pc := 51) Xc hQ (dT hX6_until 26 rfl) (Nat.le_refl _) (Nat.le_refl _) ?_
                have hov_ : overF (daysF X t nr nb d_).2 t nr nb w = true := (by rw [over_n c24]; cases q_ : allTo (fun q => decide (mayTakeF (daysF X t nr nb d_).2 nr nb q = 0)) nr; exact absurd (bI_0.mpr q_) c47; rfl)
                have hz : v_until X t nr nb w = nI d_ := by rw [v_until, if_pos hin_w]; exact fnd_hit (by omega) hov_ hno_
                obtain ⟨hb_, ho_⟩ := hB.asks ((OffS.of (S := fun o => o = x + 13 ∨ o = x + 55) ho6 (Or.inl rfl)).tr (OffS.of (S := fun o => o = x + 13 ∨ o = x + 55) hO2 (Or.inl rfl))) ⟨_, _, _, hBw18.1⟩ ⟨_, _, _, hP15⟩
                exact ⟨hz.symm, hb_, ho_⟩
            · skip
              refine e_aload_n (pc := 27) Xc (dT hX6_until 16 rfl) 0 rfl ?_
              refine gf_X6_18 (pc := 28) Xc (dT hX6_until 17 rfl) hP13.o rfl ?_
              refine cl_X6_174 (pc := 31) (k := 0) (n := 0) (S := []) Xc hBw18.1.o (c5_rests hBw18 ⟨_, hdlw18, hd0w18, hbtw18⟩) (dT hX6_until 18 rfl) rfl (Nat.le_of_ble_eq_true rfl) (Nat.le_of_ble_eq_true rfl) (Nat.le_of_ble_eq_true rfl) rfl (Nat.le_of_ble_eq_true rfl) (fun r33 σ34 hq35 => ?_)
              obtain ⟨r33e, r33s⟩ := hq35
              have r33e := r33e.symm; subst r33e; have r33s := r33s.symm; subst r33s
              refine e_if_eq (tgt := 52) (pc := 34) Xc (dT hX6_until 19 rfl) rfl (fun c34 => ?_) (fun c34 => ?_)
              · skip
                refine e_aload_n (pc := 52) Xc (dT hX6_until 27 rfl) 0 rfl ?_
                refine gf_X6_18 (pc := 53) Xc (dT hX6_until 28 rfl) hP13.o rfl ?_
                refine cl_X6_168 (pc := 56) (k := 0) (n := 0) (S := []) Xc hBw18.1.o (c5_goDay ⟨lnw18, ⟨Fw18, Tw18, Aw18, hBw18, htw18⟩, hdlw18, hd0w18, hbtw18⟩ (by omega)) (dT hX6_until 29 rfl) rfl (Nat.le_of_ble_eq_true rfl) (Nat.le_of_ble_eq_true rfl) (Nat.le_of_ble_eq_true rfl) rfl (Nat.le_of_ble_eq_true rfl) (fun r36 σ37 hq38 => ?_)
                obtain ⟨r36e, hT39, ho40⟩ := hq38
                have r36e := r36e.symm; subst r36e
                have hP41 := hP13.off ho40 (by omega)
                have hP42 := hP14.off ho40 (by omega)
                have hP43 := hP15.off ho40 (by omega)
                have hP44 := hP16.off ho40 (by omega)
                have hB45 := hB17.off ho40 (by omega) (by rw [htw1]; omega)
                obtain ⟨lnw46, hXw46, hdlw46, hd0w46, hbtw46⟩ := id hT39
                obtain ⟨Fw46, Tw46, Aw46, hBw46, htw46⟩ := id hXw46
                have hWw46 := hBw46.2.1
                refine e_pop (pc := 59) Xc (dT hX6_until 30 rfl) rfl ?_
                refine e_iincN (a := d_) (b := 1) (L' := [(2, .int (nI (d_ + 1))), (0, .ref x), (1, .int w)]) (pc := 60) Xc (dT hX6_until 31 rfl) 2 rfl rfl (by decide) rfl ?_
                refine e_goto (tgt := 17) (pc := 63) Xc (dT hX6_until 32 rfl) rfl ?_
                refine Ev.pick (L' := [(0, .ref x), (1, .int w), (2, .int (nI (d_ + 1)))]) [1, 2, 0] rfl ?_
                exact ih17 (d_ + 1) σ37 (by omega) (by omega) (no_next hno_ (show overF (daysF X t nr nb d_).2 t nr nb w = false from by rw [c24, over_0]; exact bI_0.mp c34)) (⟨lnw46, ⟨Fw46, Tw46, Aw46, hBw46, htw46⟩, hdlw46, hd0w46, hbtw46⟩) (hO2.tr ho40)
              · skip
                refine e_goto (tgt := 50) (pc := 37) Xc (dT hX6_until 20 rfl) rfl ?_
                refine e_iload_n (pc := 50) Xc (dT hX6_until 25 rfl) 2 rfl ?_
                refine e_iret (pc := 51) Xc hQ (dT hX6_until 26 rfl) (Nat.le_refl _) (Nat.le_refl _) ?_
                have hov_ : overF (daysF X t nr nb d_).2 t nr nb w = true := (by rw [c24, over_0]; cases q_ : allTo (fun q => decide (choF (daysF X t nr nb d_).2 t nr nb q = -1)) nr; exact absurd (bI_0.mpr q_) c34; rfl)
                have hz : v_until X t nr nb w = nI d_ := by rw [v_until, if_pos hin_w]; exact fnd_hit (by omega) hov_ hno_
                obtain ⟨hb_, ho_⟩ := hB.asks ((OffS.of (S := fun o => o = x + 13 ∨ o = x + 55) ho6 (Or.inl rfl)).tr (OffS.of (S := fun o => o = x + 13 ∨ o = x + 55) hO2 (Or.inl rfl))) ⟨_, _, _, hBw18.1⟩ ⟨_, _, _, hP15⟩
                exact ⟨hz.symm, hb_, ho_⟩
      refine Ev.pick (L' := [(0, .ref x), (1, .int w), (2, .int 0)]) [1, 2, 0] rfl ?_
      exact lp17 ((41 - 0) + 1) 0 σ3 (Nat.lt_succ_self _) (by omega) (fun j hj => absurd hj (Nat.not_lt_zero j)) (⟨lnw12, ⟨Fw12, Tw12, Aw12, hBw12, htw12⟩, hdlw12, hd0w12, hbtw12⟩) Off.rf
    · skip
      have hin_w : inF w 0 1 = false := by
        have k1_ := c1
        have k6_ := c6
        simp only [Int32.lt_iff_toInt_lt, Int32.le_iff_toInt_le] at k1_ k6_
        have l0_ : (0 : Int32).toInt = 0 := by decide
        have l1_ : (1 : Int32).toInt = 1 := by decide
        have l2_ : (2 : Int32).toInt = 2 := by decide
        rw [inF_ff]
        omega
      refine e_iconst (v := -1) (pc := 9) Xc (dT hX6_until 5 rfl) rfl ?_
      refine e_iret (pc := 10) Xc hQ (dT hX6_until 6 rfl) (Nat.le_refl _) (Nat.le_refl _) ?_
      have hz : v_until X t nr nb w = (-1) := by
        try simp only [bI_0, bI_1, Bool.not_eq_true, Bool.not_eq_false] at c1 c6
        first | (simp [v_until, c1, c6, hin_w]; done) | (clear hB hK hSA hx hXn hP5 hPp hRP hPg hPa hBI hG hT hS hPl hNo hTa hA hJ hR hD hQ Xc; simp_all [v_until]; done)
      exact ⟨hz.symm, hB, OffB.rf⟩
