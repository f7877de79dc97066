set_option maxRecDepth 100000 in
set_option maxHeartbeats 4000000 in
theorem b_few {G : xG} {σ : xS} {x m : Nat} {X Y bd : Nat → Int32} {hi : Int32} {rr : Nat} {nr nb ns np nn nt na dy : Nat} {t : xT} (hB : BK G σ x m X Y bd hi rr nr nb ns np nn nt t) (hK : OK X nr nb t ns np nn nt na dy) (v : Int32) (b : Int32) : CI G yX6_few cX6_few 3 (some .int) 7 0 0 [.ref x, .int v, .int b] σ (fun z σ1 => z = v_few X t nr nb v b ∧ BK G σ1 x m X Y bd hi rr nr nb ns np nn nt t ∧ OffB x σ σ1) := by
  refine Met.ofX (by decide +kernel) (Nat.le_of_ble_eq_true rfl) (fun μ Xc hQ hnm => ?_)
  have Xc : xC G μ cX6_few 3 RX6 (some .int) 7 0 0 := Xc
  obtain ⟨hSA, ⟨hgA, hgO⟩, hxm, hms, ⟨Fx, Ax, hx, hF7⟩, ⟨tw, htw, hXn⟩, ⟨F5, T5, A5, hP5⟩, ⟨Fp, Tp, Ap, hPp, hRP⟩, ⟨Fg, Tg, Ag, hPg⟩, ⟨Fa, Ta, Aa, hPa, hFa1, hAa⟩, hBI⟩ := id hB
  obtain ⟨htw1, htw2, htw3⟩ := id htw
  obtain ⟨hG, hT, hS, hPl, hNo, hTa, hA, hJ, hR, hD⟩ := id hK
  have hr4 := hG.r4
  have hb7 := hG.b7
  have hs6 := hS.1
  have hp8 := hPl.1
  have hn8 := hNo.1
  have ht100 := hTa.1
  have ha5 := hA.1
  have hdy := hD.1
  have hd0 := hD.2
  have ht13 : tw ≠ x + 13 := by omega
  have hb8 : ns ≤ 6 ∧ np ≤ 8 ∧ nn ≤ 8 ∧ nt ≤ 100 := ⟨hs6, hp8, hn8, ht100⟩
  show Ev G μ 3 0 0 0 [(0, .ref x), (1, .int v), (2, .int b)] [] σ
  obtain ⟨Fw1, Tw1, Aw1, hBw1, htw1⟩ := id hXn
  have hWw1 := hBw1.2.1
  refine e_aload_n (pc := 0) Xc (dT hX6_few 0 rfl) 0 rfl ?_
  refine gf_X6_12 (pc := 1) Xc (dT hX6_few 1 rfl) hx.o rfl ?_
  refine e_iload_n (pc := 4) Xc (dT hX6_few 2 rfl) 1 rfl ?_
  refine cl_X6_99 (pc := 5) (k := 0) (n := 0) (S := []) Xc hBw1.1.o (c5_isReader hBw1 v) (dT hX6_few 3 rfl) rfl (Nat.le_of_ble_eq_true rfl) (Nat.le_of_ble_eq_true rfl) (Nat.le_of_ble_eq_true rfl) rfl (Nat.le_of_ble_eq_true rfl) (fun r2 σ3 hq4 => ?_)
  obtain ⟨r2e, r2s⟩ := hq4
  have r2e := r2e.symm; subst r2e; have r2s := r2s.symm; subst r2s
  refine e_if_eq (tgt := 22) (pc := 8) Xc (dT hX6_few 4 rfl) rfl (fun c8 => ?_) (fun c8 => ?_)
  · skip
    refine e_iconst (v := -1) (pc := 22) Xc (dT hX6_few 10 rfl) rfl ?_
    refine e_iret (pc := 23) Xc hQ (dT hX6_few 11 rfl) (Nat.le_refl _) (Nat.le_refl _) ?_
    have hz : v_few X t nr nb v b = (-1) := by
      try simp only [bI_0, bI_1, Bool.not_eq_true, Bool.not_eq_false] at c8
      first | (simp [v_few, c8]; done) | (clear hB hK hSA hx hXn hP5 hPp hRP hPg hPa hBI hG hT hS hPl hNo hTa hA hJ hR hD hQ Xc; simp_all [v_few]; done)
    exact ⟨hz.symm, hB, OffB.rf⟩
  · skip
    obtain ⟨q, hq, rfl⟩ := inF_nat (v := v) (n := nr) (by omega) (by simpa [bI_0, bI_1] using c8)
    have hc_q : cl (nI q) = q := cl_nI (by omega)
    refine e_aload_n (pc := 11) Xc (dT hX6_few 5 rfl) 0 rfl ?_
    refine gf_X6_12 (pc := 12) Xc (dT hX6_few 6 rfl) hx.o rfl ?_
    refine e_iload_n (pc := 15) Xc (dT hX6_few 7 rfl) 2 rfl ?_
    refine cl_X6_126 (pc := 16) (k := 0) (n := 0) (S := []) Xc hBw1.1.o (c5_isBook hBw1 b) (dT hX6_few 8 rfl) rfl (Nat.le_of_ble_eq_true rfl) (Nat.le_of_ble_eq_true rfl) (Nat.le_of_ble_eq_true rfl) rfl (Nat.le_of_ble_eq_true rfl) (fun r5 σ6 hq7 => ?_)
    obtain ⟨r5e, r5s⟩ := hq7
    have r5e := r5e.symm; subst r5e; have r5s := r5s.symm; subst r5s
    refine e_if_ne (tgt := 24) (pc := 19) Xc (dT hX6_few 9 rfl) rfl (fun c19 => ?_) (fun c19 => ?_)
    · skip
      obtain ⟨p, hp, rfl⟩ := inF_nat (v := b) (n := nb) (by omega) (by simpa [bI_0, bI_1] using c19)
      have hc_p : cl (nI p) = p := cl_nI (by omega)
      refine e_aload_n (pc := 24) Xc (dT hX6_few 12 rfl) 0 rfl ?_
      refine cl_X6_116 (pc := 25) (k := 0) (n := 0) (S := []) Xc hx.o (c6_fresh hx ⟨Fw1, Tw1, Aw1, hBw1, htw1⟩ ht13 hP5 hdy hd0) (dT hX6_few 13 rfl) rfl (Nat.le_of_ble_eq_true rfl) (Nat.le_of_ble_eq_true rfl) (Nat.le_of_ble_eq_true rfl) rfl (Nat.le_of_ble_eq_true rfl) (fun σ9 hq10 => ?_)
      obtain ⟨hT11, ho12⟩ := hq10
      have hP13 := hx.off ho12 (by omega)
      have hP14 := hPp.off ho12 (by omega)
      have hP15 := hPg.off ho12 (by omega)
      have hP16 := hPa.off ho12 (by omega)
      have hB17 := hBw1.off ho12 (by omega) (by rw [htw1]; omega)
      obtain ⟨lnw18, hXw18, hdlw18, hd0w18, hbtw18⟩ := id hT11
      obtain ⟨Fw18, Tw18, Aw18, hBw18, htw18⟩ := id hXw18
      have hWw18 := hBw18.2.1
      refine e_aload_n (pc := 28) Xc (dT hX6_few 14 rfl) 0 rfl ?_
      refine gf_X6_37 (pc := 29) Xc (dT hX6_few 15 rfl) hP13.o rfl ?_
      refine e_aload_n (pc := 32) Xc (dT hX6_few 16 rfl) 0 rfl ?_
      refine gf_X6_18 (pc := 33) Xc (dT hX6_few 17 rfl) hP13.o rfl ?_
      refine cl_X6_180 (pc := 36) (k := 0) (n := 0) (S := []) Xc hP15.o (c1_search ⟨Fw18, Tw18, Aw18, hBw18, htw18⟩ hP15 ⟨_, hdlw18, hd0w18, hbtw18⟩ hJ (by omega) (by omega)) (dT hX6_few 18 rfl) rfl (Nat.le_of_ble_eq_true rfl) (Nat.le_of_ble_eq_true rfl) (Nat.le_of_ble_eq_true rfl) rfl (Nat.le_of_ble_eq_true rfl) (fun σ20 hq21 => ?_)
      obtain ⟨ql, X1_, hGX24, hT22, hRES, hle_, hX1_, ho23⟩ := hq21
      have hok_ := hRES.1
      have hP25 := hP13.cg (fun i => ho23.cell (fun e => by omega) i)
      have hP26 := hP14.cg (fun i => ho23.cell (fun e => by omega) i)
      have hP27 := hP16.cg (fun i => ho23.cell (fun e => by omega) i)
      have hX28 := WX.cg ⟨Fw1, Tw1, Aw1, hB17, htw1⟩ (fun i => ho23.cell (fun e => by omega) i) (fun i => ho23.cell (fun e => by omega) i)
      obtain ⟨Fw29, Tw29, Aw29, hBw29, htw29⟩ := id hX28
      have hWw29 := hBw29.2.1
      obtain ⟨Fw30, Tw30, Aw30, hBw30, htw30⟩ := id hT22
      have hWw30 := hBw30.2.1
      obtain ⟨Fgg31, Tgg31, Agg31, hPgg31, hRGg31, hFgg31, hFrg31⟩ := id hGX24
      refine e_aload_n (pc := 39) Xc (dT hX6_few 19 rfl) 0 rfl ?_
      refine gf_X6_37 (pc := 40) Xc (dT hX6_few 20 rfl) hP25.o rfl ?_
      refine e_iload_n (pc := 43) Xc (dT hX6_few 21 rfl) 1 rfl ?_
      refine e_iload_n (pc := 44) Xc (dT hX6_few 22 rfl) 2 rfl ?_
      refine cl_X6_184 (pc := 45) (k := 0) (n := 0) (S := []) Xc hPgg31.o (c1_fewest hGX24 hok_ hle_ hr4 hb7 q p (by omega) (by omega)) (dT hX6_few 23 rfl) rfl (Nat.le_of_ble_eq_true rfl) (Nat.le_of_ble_eq_true rfl) (Nat.le_of_ble_eq_true rfl) rfl (Nat.le_of_ble_eq_true rfl) (fun r32 σ33 hq34 => ?_)
      obtain ⟨r32e, r32s⟩ := hq34
      have r32e := r32e.symm; subst r32e; have r32s := r32s.symm; subst r32s
      refine e_iret (pc := 48) Xc hQ (dT hX6_few 24 rfl) (Nat.le_refl _) (Nat.le_refl _) ?_
      have hqq_ := few_q (r := q) (b := nI p) hRES
      have hz : v_few X t nr nb (nI q) (nI p) = fewL ql q (nI p) := by
        try simp only [bI_0, bI_1, Bool.not_eq_true, Bool.not_eq_false] at c8 c19
        first | (simp [v_few, c8, c19, hc_q, hc_p, hqq_]; done) | (clear hB hK hSA hx hXn hP5 hPp hRP hPg hPa hBI hG hT hS hPl hNo hTa hA hJ hR hD hQ Xc; simp_all [v_few]; done)
      obtain ⟨hb_, ho_⟩ := hB.asks ((OffS.of (S := fun o => o = x + 13 ∨ o = x + 55) ho12 (Or.inl rfl)).tr (ho23.up (fun o h => h.symm))) ⟨_, _, _, hBw30.1⟩ ⟨_, _, _, hPgg31⟩
      exact ⟨hz.symm, hb_, ho_⟩
    · skip
      refine e_iconst (v := -1) (pc := 22) Xc (dT hX6_few 10 rfl) rfl ?_
      refine e_iret (pc := 23) Xc hQ (dT hX6_few 11 rfl) (Nat.le_refl _) (Nat.le_refl _) ?_
      have hz : v_few X t nr nb (nI q) b = (-1) := by
        try simp only [bI_0, bI_1, Bool.not_eq_true, Bool.not_eq_false] at c8 c19
        first | (simp [v_few, c8, c19, hc_q]; done) | (clear hB hK hSA hx hXn hP5 hPp hRP hPg hPa hBI hG hT hS hPl hNo hTa hA hJ hR hD hQ Xc; simp_all [v_few]; done)
      exact ⟨hz.symm, hB, OffB.rf⟩
set_option maxRecDepth 100000 in
set_option maxHeartbeats 4000000 in
theorem b_reach {G : xG} {σ : xS} {x m : Nat} {X Y bd : Nat → Int32} {hi : Int32} {rr : Nat} {nr nb ns np nn nt na dy : Nat} {t : xT} (hB : BK G σ x m X Y bd hi rr nr nb ns np nn nt t) (hK : OK X nr nb t ns np nn nt na dy) (v : Int32) : CI G yX6_reach cX6_reach 2 (some .int) 7 0 0 [.ref x, .int v] σ (fun z σ1 => z = v_reach X t nr nb v ∧ BK G σ1 x m X Y bd hi rr nr nb ns np nn nt t ∧ OffB x σ σ1) := by
  refine Met.ofX (by decide +kernel) (Nat.le_of_ble_eq_true rfl) (fun μ Xc hQ hnm => ?_)
  have Xc : xC G μ cX6_reach 2 RX6 (some .int) 7 0 0 := Xc
  obtain ⟨hSA, ⟨hgA, hgO⟩, hxm, hms, ⟨Fx, Ax, hx, hF7⟩, ⟨tw, htw, hXn⟩, ⟨F5, T5, A5, hP5⟩, ⟨Fp, Tp, Ap, hPp, hRP⟩, ⟨Fg, Tg, Ag, hPg⟩, ⟨Fa, Ta, Aa, hPa, hFa1, hAa⟩, hBI⟩ := id hB
  obtain ⟨htw1, htw2, htw3⟩ := id htw
  obtain ⟨hG, hT, hS, hPl, hNo, hTa, hA, hJ, hR, hD⟩ := id hK
  have hr4 := hG.r4
  have hb7 := hG.b7
  have hs6 := hS.1
  have hp8 := hPl.1
  have hn8 := hNo.1
  have ht100 := hTa.1
  have ha5 := hA.1
  have hdy := hD.1
  have hd0 := hD.2
  have ht13 : tw ≠ x + 13 := by omega
  have hb8 : ns ≤ 6 ∧ np ≤ 8 ∧ nn ≤ 8 ∧ nt ≤ 100 := ⟨hs6, hp8, hn8, ht100⟩
  show Ev G μ 2 0 0 0 [(0, .ref x), (1, .int v)] [] σ
  obtain ⟨Fw1, Tw1, Aw1, hBw1, htw1⟩ := id hXn
  have hWw1 := hBw1.2.1
  refine e_aload_n (pc := 0) Xc (dT hX6_reach 0 rfl) 0 rfl ?_
  refine gf_X6_12 (pc := 1) Xc (dT hX6_reach 1 rfl) hx.o rfl ?_
  refine e_iload_n (pc := 4) Xc (dT hX6_reach 2 rfl) 1 rfl ?_
  refine cl_X6_99 (pc := 5) (k := 0) (n := 0) (S := []) Xc hBw1.1.o (c5_isReader hBw1 v) (dT hX6_reach 3 rfl) rfl (Nat.le_of_ble_eq_true rfl) (Nat.le_of_ble_eq_true rfl) (Nat.le_of_ble_eq_true rfl) rfl (Nat.le_of_ble_eq_true rfl) (fun r2 σ3 hq4 => ?_)
  obtain ⟨r2e, r2s⟩ := hq4
  have r2e := r2e.symm; subst r2e; have r2s := r2s.symm; subst r2s
  refine e_if_ne (tgt := 13) (pc := 8) Xc (dT hX6_reach 4 rfl) rfl (fun c8 => ?_) (fun c8 => ?_)
  · skip
    obtain ⟨q, hq, rfl⟩ := inF_nat (v := v) (n := nr) (by omega) (by simpa [bI_0, bI_1] using c8)
    have hc_q : cl (nI q) = q := cl_nI (by omega)
    refine e_aload_n (pc := 13) Xc (dT hX6_reach 7 rfl) 0 rfl ?_
    refine cl_X6_116 (pc := 14) (k := 0) (n := 0) (S := []) Xc hx.o (c6_fresh hx ⟨Fw1, Tw1, Aw1, hBw1, htw1⟩ ht13 hP5 hdy hd0) (dT hX6_reach 8 rfl) rfl (Nat.le_of_ble_eq_true rfl) (Nat.le_of_ble_eq_true rfl) (Nat.le_of_ble_eq_true rfl) rfl (Nat.le_of_ble_eq_true rfl) (fun σ6 hq7 => ?_)
    obtain ⟨hT8, ho9⟩ := hq7
    have hP10 := hx.off ho9 (by omega)
    have hP11 := hPp.off ho9 (by omega)
    have hP12 := hPg.off ho9 (by omega)
    have hP13 := hPa.off ho9 (by omega)
    have hB14 := hBw1.off ho9 (by omega) (by rw [htw1]; omega)
    obtain ⟨lnw15, hXw15, hdlw15, hd0w15, hbtw15⟩ := id hT8
    obtain ⟨Fw15, Tw15, Aw15, hBw15, htw15⟩ := id hXw15
    have hWw15 := hBw15.2.1
    refine e_aload_n (pc := 17) Xc (dT hX6_reach 9 rfl) 0 rfl ?_
    refine gf_X6_37 (pc := 18) Xc (dT hX6_reach 10 rfl) hP10.o rfl ?_
    refine e_aload_n (pc := 21) Xc (dT hX6_reach 11 rfl) 0 rfl ?_
    refine gf_X6_18 (pc := 22) Xc (dT hX6_reach 12 rfl) hP10.o rfl ?_
    refine cl_X6_180 (pc := 25) (k := 0) (n := 0) (S := []) Xc hP12.o (c1_search ⟨Fw15, Tw15, Aw15, hBw15, htw15⟩ hP12 ⟨_, hdlw15, hd0w15, hbtw15⟩ hJ (by omega) (by omega)) (dT hX6_reach 13 rfl) rfl (Nat.le_of_ble_eq_true rfl) (Nat.le_of_ble_eq_true rfl) (Nat.le_of_ble_eq_true rfl) rfl (Nat.le_of_ble_eq_true rfl) (fun σ17 hq18 => ?_)
    obtain ⟨ql, X1_, hGX21, hT19, hRES, hle_, hX1_, ho20⟩ := hq18
    have hok_ := hRES.1
    have hP22 := hP10.cg (fun i => ho20.cell (fun e => by omega) i)
    have hP23 := hP11.cg (fun i => ho20.cell (fun e => by omega) i)
    have hP24 := hP13.cg (fun i => ho20.cell (fun e => by omega) i)
    have hX25 := WX.cg ⟨Fw1, Tw1, Aw1, hB14, htw1⟩ (fun i => ho20.cell (fun e => by omega) i) (fun i => ho20.cell (fun e => by omega) i)
    obtain ⟨Fw26, Tw26, Aw26, hBw26, htw26⟩ := id hX25
    have hWw26 := hBw26.2.1
    obtain ⟨Fw27, Tw27, Aw27, hBw27, htw27⟩ := id hT19
    have hWw27 := hBw27.2.1
    obtain ⟨Fgg28, Tgg28, Agg28, hPgg28, hRGg28, hFgg28, hFrg28⟩ := id hGX21
    refine e_aload_n (pc := 28) Xc (dT hX6_reach 14 rfl) 0 rfl ?_
    refine gf_X6_37 (pc := 29) Xc (dT hX6_reach 15 rfl) hP22.o rfl ?_
    refine e_iload_n (pc := 32) Xc (dT hX6_reach 16 rfl) 1 rfl ?_
    refine cl_X6_187 (pc := 33) (k := 0) (n := 0) (S := []) Xc hPgg28.o (c1_reached hGX21 hok_ hle_ hr4 hb7 q (by omega)) (dT hX6_reach 17 rfl) rfl (Nat.le_of_ble_eq_true rfl) (Nat.le_of_ble_eq_true rfl) (Nat.le_of_ble_eq_true rfl) rfl (Nat.le_of_ble_eq_true rfl) (fun r29 σ30 hq31 => ?_)
    obtain ⟨r29e, r29s⟩ := hq31
    have r29e := r29e.symm; subst r29e; have r29s := r29s.symm; subst r29s
    refine e_iret (pc := 36) Xc hQ (dT hX6_reach 18 rfl) (Nat.le_refl _) (Nat.le_refl _) ?_
    have hqq_ := reach_q (r := q) hRES
    have hz : v_reach X t nr nb (nI q) = reachL ql nb q := by
      try simp only [bI_0, bI_1, Bool.not_eq_true, Bool.not_eq_false] at c8
      first | (simp [v_reach, c8, hc_q, hqq_]; done) | (clear hB hK hSA hx hXn hP5 hPp hRP hPg hPa hBI hG hT hS hPl hNo hTa hA hJ hR hD hQ Xc; simp_all [v_reach]; done)
    obtain ⟨hb_, ho_⟩ := hB.asks ((OffS.of (S := fun o => o = x + 13 ∨ o = x + 55) ho9 (Or.inl rfl)).tr (ho20.up (fun o h => h.symm))) ⟨_, _, _, hBw27.1⟩ ⟨_, _, _, hPgg28⟩
    exact ⟨hz.symm, hb_, ho_⟩
  · skip
    refine e_iconst (v := -1) (pc := 11) Xc (dT hX6_reach 5 rfl) rfl ?_
    refine e_iret (pc := 12) Xc hQ (dT hX6_reach 6 rfl) (Nat.le_refl _) (Nat.le_refl _) ?_
    have hz : v_reach X t nr nb v = (-1) := by
      try simp only [bI_0, bI_1, Bool.not_eq_true, Bool.not_eq_false] at c8
      first | (simp [v_reach, c8]; done) | (clear hB hK hSA hx hXn hP5 hPp hRP hPg hPa hBI hG hT hS hPl hNo hTa hA hJ hR hD hQ Xc; simp_all [v_reach]; done)
    exact ⟨hz.symm, hB, OffB.rf⟩
set_option maxRecDepth 100000 in
set_option maxHeartbeats 4000000 in
theorem b_never {G : xG} {σ : xS} {x m : Nat} {X Y bd : Nat → Int32} {hi : Int32} {rr : Nat} {nr nb ns np nn nt na dy : Nat} {t : xT} (hB : BK G σ x m X Y bd hi rr nr nb ns np nn nt t) (hK : OK X nr nb t ns np nn nt na dy)  : CI G yX6_never cX6_never 3 (some .int) 7 0 0 [.ref x] σ (fun z σ1 => z = v_never X t nr nb ∧ BK G σ1 x m X Y bd hi rr nr nb ns np nn nt t ∧ OffB x σ σ1) := by
  refine Met.ofX (by decide +kernel) (Nat.le_of_ble_eq_true rfl) (fun μ Xc hQ hnm => ?_)
  have Xc : xC G μ cX6_never 3 RX6 (some .int) 7 0 0 := Xc
  obtain ⟨hSA, ⟨hgA, hgO⟩, hxm, hms, ⟨Fx, Ax, hx, hF7⟩, ⟨tw, htw, hXn⟩, ⟨F5, T5, A5, hP5⟩, ⟨Fp, Tp, Ap, hPp, hRP⟩, ⟨Fg, Tg, Ag, hPg⟩, ⟨Fa, Ta, Aa, hPa, hFa1, hAa⟩, hBI⟩ := id hB
  obtain ⟨htw1, htw2, htw3⟩ := id htw
  obtain ⟨hG, hT, hS, hPl, hNo, hTa, hA, hJ, hR, hD⟩ := id hK
  have hr4 := hG.r4
  have hb7 := hG.b7
  have hs6 := hS.1
  have hp8 := hPl.1
  have hn8 := hNo.1
  have ht100 := hTa.1
  have ha5 := hA.1
  have hdy := hD.1
  have hd0 := hD.2
  have ht13 : tw ≠ x + 13 := by omega
  have hb8 : ns ≤ 6 ∧ np ≤ 8 ∧ nn ≤ 8 ∧ nt ≤ 100 := ⟨hs6, hp8, hn8, ht100⟩
  show Ev G μ 3 0 0 0 [(0, .ref x)] [] σ
  obtain ⟨Fw1, Tw1, Aw1, hBw1, htw1⟩ := id hXn
  have hWw1 := hBw1.2.1
  refine e_aload_n (pc := 0) Xc (dT hX6_never 0 rfl) 0 rfl ?_
  refine cl_X6_116 (pc := 1) (k := 0) (n := 0) (S := []) Xc hx.o (c6_fresh hx ⟨Fw1, Tw1, Aw1, hBw1, htw1⟩ ht13 hP5 hdy hd0) (dT hX6_never 1 rfl) rfl (Nat.le_of_ble_eq_true rfl) (Nat.le_of_ble_eq_true rfl) (Nat.le_of_ble_eq_true rfl) rfl (Nat.le_of_ble_eq_true rfl) (fun σ3 hq4 => ?_)
  obtain ⟨hT5, ho6⟩ := hq4
  have hP7 := hx.off ho6 (by omega)
  have hP8 := hPp.off ho6 (by omega)
  have hP9 := hPg.off ho6 (by omega)
  have hP10 := hPa.off ho6 (by omega)
  have hB11 := hBw1.off ho6 (by omega) (by rw [htw1]; omega)
  obtain ⟨lnw12, hXw12, hdlw12, hd0w12, hbtw12⟩ := id hT5
  obtain ⟨Fw12, Tw12, Aw12, hBw12, htw12⟩ := id hXw12
  have hWw12 := hBw12.2.1
  refine e_aload_n (pc := 4) Xc (dT hX6_never 2 rfl) 0 rfl ?_
  refine gf_X6_37 (pc := 5) Xc (dT hX6_never 3 rfl) hP7.o rfl ?_
  refine e_aload_n (pc := 8) Xc (dT hX6_never 4 rfl) 0 rfl ?_
  refine gf_X6_18 (pc := 9) Xc (dT hX6_never 5 rfl) hP7.o rfl ?_
  refine cl_X6_180 (pc := 12) (k := 0) (n := 0) (S := []) Xc hP9.o (c1_search ⟨Fw12, Tw12, Aw12, hBw12, htw12⟩ hP9 ⟨_, hdlw12, hd0w12, hbtw12⟩ hJ (by omega) (by omega)) (dT hX6_never 6 rfl) rfl (Nat.le_of_ble_eq_true rfl) (Nat.le_of_ble_eq_true rfl) (Nat.le_of_ble_eq_true rfl) rfl (Nat.le_of_ble_eq_true rfl) (fun σ14 hq15 => ?_)
  obtain ⟨ql, X1_, hGX18, hT16, hRES, hle_, hX1_, ho17⟩ := hq15
  have hok_ := hRES.1
  have hP19 := hP7.cg (fun i => ho17.cell (fun e => by omega) i)
  have hP20 := hP8.cg (fun i => ho17.cell (fun e => by omega) i)
  have hP21 := hP10.cg (fun i => ho17.cell (fun e => by omega) i)
  have hX22 := WX.cg ⟨Fw1, Tw1, Aw1, hB11, htw1⟩ (fun i => ho17.cell (fun e => by omega) i) (fun i => ho17.cell (fun e => by omega) i)
  obtain ⟨Fw23, Tw23, Aw23, hBw23, htw23⟩ := id hX22
  have hWw23 := hBw23.2.1
  obtain ⟨Fw24, Tw24, Aw24, hBw24, htw24⟩ := id hT16
  have hWw24 := hBw24.2.1
  obtain ⟨Fgg25, Tgg25, Agg25, hPgg25, hRGg25, hFgg25, hFrg25⟩ := id hGX18
  refine e_aload_n (pc := 15) Xc (dT hX6_never 7 rfl) 0 rfl ?_
  refine gf_X6_12 (pc := 16) Xc (dT hX6_never 8 rfl) hP19.o rfl ?_
  refine cl_X6_190 (pc := 19) (k := 0) (n := 0) (S := []) Xc hBw23.1.o (c5_allBooks hBw23) (dT hX6_never 9 rfl) rfl (Nat.le_of_ble_eq_true rfl) (Nat.le_of_ble_eq_true rfl) (Nat.le_of_ble_eq_true rfl) rfl (Nat.le_of_ble_eq_true rfl) (fun r26 σ27 hq28 => ?_)
  obtain ⟨r26e, r26s⟩ := hq28
  have r26e := r26e.symm; subst r26e; have r26s := r26s.symm; subst r26s
  refine e_istore_n (L' := [(1, .int (nI (bitN (fun _ => true) nb))), (0, .ref x)]) (pc := 22) Xc (dT hX6_never 10 rfl) (by decide) rfl ?_
  refine e_iconst (v := 0) (pc := 23) Xc (dT hX6_never 11 rfl) rfl ?_
  refine e_istore_n (L' := [(2, .int 0), (1, .int (nI (bitN (fun _ => true) nb))), (0, .ref x)]) (pc := 24) Xc (dT hX6_never 12 rfl) (by decide) rfl ?_
  have lp25 : ∀ (n25 : Nat) (k_ : Nat) (ac_ : Int32), nr - k_ < n25 → (k_ ≤ nr) → (ac_ = itr (fun r a => a &&& (reachL ql nb r ^^^ -1)) ((1 <<< (nI nb &&& 31)) - 1) k_) → Ev G μ 3 0 0 25 [(0, .ref x), (1, .int ac_), (2, .int (nI k_))] [] σ14 := by
    intro n25
    induction n25 with
    | zero => intro k_ ac_ hn; exact absurd hn (Nat.not_lt_zero _)
    | succ n25 ih25 =>
      intro k_ ac_ hn25 hk_ hac_
      refine e_iload_n (pc := 25) Xc (dT hX6_never 13 rfl) 2 rfl ?_
      refine e_aload_n (pc := 26) Xc (dT hX6_never 14 rfl) 0 rfl ?_
      refine gf_X6_12 (pc := 27) Xc (dT hX6_never 15 rfl) hP19.o rfl ?_
      refine gf_X6_92 (pc := 30) Xc (dT hX6_never 16 rfl) hBw23.1.o rfl ?_
      refine e_val (y := nI nr) hWw23.2.2.2.2.2.2.1 ?_
      refine e_icmp_geN (x := k_) (y := nr) (tgt := 55) (pc := 33) Xc (dT hX6_never 17 rfl) rfl (by omega) (by omega) (fun c33 => ?_) (fun c33 => ?_)
      · skip
        refine e_iload_n (pc := 55) Xc (dT hX6_never 29 rfl) 1 rfl ?_
        refine e_iret (pc := 56) Xc hQ (dT hX6_never 30 rfl) (Nat.le_refl _) (Nat.le_refl _) ?_
        have hke_ : k_ = nr := by omega
        have hz : v_never X t nr nb = ac_ := by rw [v_never, never_q hRES, hac_, hke_]; rfl
        obtain ⟨hb_, ho_⟩ := hB.asks ((OffS.of (S := fun o => o = x + 13 ∨ o = x + 55) ho6 (Or.inl rfl)).tr (ho17.up (fun o h => h.symm))) ⟨_, _, _, hBw24.1⟩ ⟨_, _, _, hPgg25⟩
        exact ⟨hz.symm, hb_, ho_⟩
      · skip
        refine e_iload_n (pc := 36) Xc (dT hX6_never 18 rfl) 1 rfl ?_
        refine e_aload_n (pc := 37) Xc (dT hX6_never 19 rfl) 0 rfl ?_
        refine gf_X6_37 (pc := 38) Xc (dT hX6_never 20 rfl) hP19.o rfl ?_
        refine e_iload_n (pc := 41) Xc (dT hX6_never 21 rfl) 2 rfl ?_
        refine cl_X6_187 (pc := 42) (k := 0) (n := 0) (S := [.int ac_]) Xc hPgg25.o (c1_reached hGX18 hok_ hle_ hr4 hb7 k_ (by omega)) (dT hX6_never 22 rfl) rfl (Nat.le_of_ble_eq_true rfl) (Nat.le_of_ble_eq_true rfl) (Nat.le_of_ble_eq_true rfl) rfl (Nat.le_of_ble_eq_true rfl) (fun r29 σ30 hq31 => ?_)
        obtain ⟨r29e, r29s⟩ := hq31
        have r29e := r29e.symm; subst r29e; have r29s := r29s.symm; subst r29s
        refine e_iconst (v := -1) (pc := 45) Xc (dT hX6_never 23 rfl) rfl ?_
        refine e_ixor (pc := 46) Xc (dT hX6_never 24 rfl) ?_
        refine e_iand (pc := 47) Xc (dT hX6_never 25 rfl) ?_
        refine e_istore_n (L' := [(1, .int (ac_ &&& ((reachL ql nb k_) ^^^ (-1)))), (0, .ref x), (2, .int (nI k_))]) (pc := 48) Xc (dT hX6_never 26 rfl) (by decide) rfl ?_
        refine e_iincN (a := k_) (b := 1) (L' := [(2, .int (nI (k_ + 1))), (1, .int (ac_ &&& ((reachL ql nb k_) ^^^ (-1)))), (0, .ref x)]) (pc := 49) Xc (dT hX6_never 27 rfl) 2 rfl rfl (by decide) rfl ?_
        refine e_goto (tgt := 25) (pc := 52) Xc (dT hX6_never 28 rfl) rfl ?_
        refine Ev.pick (L' := [(0, .ref x), (1, .int (ac_ &&& ((reachL ql nb k_) ^^^ (-1)))), (2, .int (nI (k_ + 1)))]) [2, 1, 0] rfl ?_
        exact ih25 (k_ + 1) (ac_ &&& ((reachL ql nb k_) ^^^ (-1))) (by omega) (by omega) (by rw [itr, ← hac_])
  refine Ev.pick (L' := [(0, .ref x), (1, .int (nI (bitN (fun _ => true) nb))), (2, .int 0)]) [2, 1, 0] rfl ?_
  exact lp25 ((nr - 0) + 1) 0 (nI (bitN (fun _ => true) nb)) (Nat.lt_succ_self _) (Nat.zero_le _) ((all_bits hb7).symm)
set_option maxRecDepth 100000 in
set_option maxHeartbeats 4000000 in
theorem b_most {G : xG} {σ : xS} {x m : Nat} {X Y bd : Nat → Int32} {hi : Int32} {rr : Nat} {nr nb ns np nn nt na dy : Nat} {t : xT} (hB : BK G σ x m X Y bd hi rr nr nb ns np nn nt t) (hK : OK X nr nb t ns np nn nt na dy) (w : Int32) : CI G yX6_most cX6_most 4 (some .int) 8 0 0 [.ref x, .int w] σ (fun z σ1 => z = v_most X t nr nb w ∧ BK G σ1 x m X Y bd hi rr nr nb ns np nn nt t ∧ OffB x σ σ1) := by
  refine Met.ofX (by decide +kernel) (Nat.le_of_ble_eq_true rfl) (fun μ Xc hQ hnm => ?_)
  have Xc : xC G μ cX6_most 4 RX6 (some .int) 8 0 0 := Xc
  obtain ⟨hSA, ⟨hgA, hgO⟩, hxm, hms, ⟨Fx, Ax, hx, hF7⟩, ⟨tw, htw, hXn⟩, ⟨F5, T5, A5, hP5⟩, ⟨Fp, Tp, Ap, hPp, hRP⟩, ⟨Fg, Tg, Ag, hPg⟩, ⟨Fa, Ta, Aa, hPa, hFa1, hAa⟩, hBI⟩ := id hB
  obtain ⟨htw1, htw2, htw3⟩ := id htw
  obtain ⟨hG, hT, hS, hPl, hNo, hTa, hA, hJ, hR, hD⟩ := id hK
  have hr4 := hG.r4
  have hb7 := hG.b7
  have hs6 := hS.1
  have hp8 := hPl.1
  have hn8 := hNo.1
  have ht100 := hTa.1
  have ha5 := hA.1
  have hdy := hD.1
  have hd0 := hD.2
  have ht13 : tw ≠ x + 13 := by omega
  have hb8 : ns ≤ 6 ∧ np ≤ 8 ∧ nn ≤ 8 ∧ nt ≤ 100 := ⟨hs6, hp8, hn8, ht100⟩
  show Ev G μ 4 0 0 0 [(0, .ref x), (1, .int w)] [] σ
  obtain ⟨Fw1, Tw1, Aw1, hBw1, htw1⟩ := id hXn
  have hWw1 := hBw1.2.1
  refine e_iload_n (pc := 0) Xc (dT hX6_most 0 rfl) 1 rfl ?_
  refine e_bipush (v := 10) (pc := 1) Xc (dT hX6_most 1 rfl) rfl ?_
  refine e_isub (pc := 3) Xc (dT hX6_most 2 rfl) ?_
  refine e_istore_n (L' := [(2, .int (w - 10)), (0, .ref x), (1, .int w)]) (pc := 4) Xc (dT hX6_most 3 rfl) (by decide) rfl ?_
  refine e_iload_n (pc := 5) Xc (dT hX6_most 4 rfl) 2 rfl ?_
  refine e_if_eq (tgt := 29) (pc := 6) Xc (dT hX6_most 5 rfl) rfl (fun c6 => ?_) (fun c6 => ?_)
  · skip
    have hin1_ : inF w 0 1 = true := by rw [c6]; decide
    refine e_aload_n (pc := 29) Xc (dT hX6_most 16 rfl) 1 rfl ?_
    refine cl_X6_116 (pc := 30) (k := 0) (n := 0) (S := []) Xc hx.o (c6_fresh hx ⟨Fw1, Tw1, Aw1, hBw1, htw1⟩ ht13 hP5 hdy hd0) (dT hX6_most 17 rfl) rfl (Nat.le_of_ble_eq_true rfl) (Nat.le_of_ble_eq_true rfl) (Nat.le_of_ble_eq_true rfl) rfl (Nat.le_of_ble_eq_true rfl) (fun σ3 hq4 => ?_)
    obtain ⟨hT5, ho6⟩ := hq4
    have hP7 := hx.off ho6 (by omega)
    have hP8 := hPp.off ho6 (by omega)
    have hP9 := hPg.off ho6 (by omega)
    have hP10 := hPa.off ho6 (by omega)
    have hB11 := hBw1.off ho6 (by omega) (by rw [htw1]; omega)
    obtain ⟨lnw12, hXw12, hdlw12, hd0w12, hbtw12⟩ := id hT5
    obtain ⟨Fw12, Tw12, Aw12, hBw12, htw12⟩ := id hXw12
    have hWw12 := hBw12.2.1
    refine e_aload_n (pc := 33) Xc (dT hX6_most 18 rfl) 1 rfl ?_
    refine gf_X6_37 (pc := 34) Xc (dT hX6_most 19 rfl) hP7.o rfl ?_
    refine e_aload_n (pc := 37) Xc (dT hX6_most 20 rfl) 1 rfl ?_
    refine gf_X6_18 (pc := 38) Xc (dT hX6_most 21 rfl) hP7.o rfl ?_
    refine cl_X6_180 (pc := 41) (k := 0) (n := 0) (S := []) Xc hP9.o (c1_search ⟨Fw12, Tw12, Aw12, hBw12, htw12⟩ hP9 ⟨_, hdlw12, hd0w12, hbtw12⟩ hJ (by omega) (by omega)) (dT hX6_most 22 rfl) rfl (Nat.le_of_ble_eq_true rfl) (Nat.le_of_ble_eq_true rfl) (Nat.le_of_ble_eq_true rfl) rfl (Nat.le_of_ble_eq_true rfl) (fun σ14 hq15 => ?_)
    obtain ⟨ql, X1_, hGX18, hT16, hRES, hle_, hX1_, ho17⟩ := hq15
    have hok_ := hRES.1
    have hP19 := hP7.cg (fun i => ho17.cell (fun e => by omega) i)
    have hP20 := hP8.cg (fun i => ho17.cell (fun e => by omega) i)
    have hP21 := hP10.cg (fun i => ho17.cell (fun e => by omega) i)
    have hX22 := WX.cg ⟨Fw1, Tw1, Aw1, hB11, htw1⟩ (fun i => ho17.cell (fun e => by omega) i) (fun i => ho17.cell (fun e => by omega) i)
    obtain ⟨Fw23, Tw23, Aw23, hBw23, htw23⟩ := id hX22
    have hWw23 := hBw23.2.1
    obtain ⟨Fw24, Tw24, Aw24, hBw24, htw24⟩ := id hT16
    have hWw24 := hBw24.2.1
    obtain ⟨Fgg25, Tgg25, Agg25, hPgg25, hRGg25, hFgg25, hFrg25⟩ := id hGX18
    refine e_aload_n (pc := 44) Xc (dT hX6_most 23 rfl) 1 rfl ?_
    refine gf_X6_37 (pc := 45) Xc (dT hX6_most 24 rfl) hP19.o rfl ?_
    refine e_aload_n (pc := 48) Xc (dT hX6_most 25 rfl) 1 rfl ?_
    refine gf_X6_18 (pc := 49) Xc (dT hX6_most 26 rfl) hP19.o rfl ?_
    refine cl_X6_193 (pc := 52) (k := 0) (n := 0) (S := []) Xc hPgg25.o (c1_best ⟨Fw24, Tw24, Aw24, hBw24, htw24⟩ hG ⟨_, hdlw12, hd0w12, hbtw12⟩ hX1_ hGX18 hRES hle_ (by omega) (by omega)) (dT hX6_most 27 rfl) rfl (Nat.le_of_ble_eq_true rfl) (Nat.le_of_ble_eq_true rfl) (Nat.le_of_ble_eq_true rfl) rfl (Nat.le_of_ble_eq_true rfl) (fun r26 σ27 hq28 => ?_)
    obtain ⟨⟨pw_, hmo_, hpv_, r26e⟩, ⟨X2_, hT29, hX2_⟩, hGX31, ho30⟩ := hq28
    have r26e := r26e.symm; subst r26e
    have hpl_ := cd_lt (nr := nr) hpv_.1
    obtain ⟨pt_, hpt_, hptop_⟩ := mostL_top hRES
    have hpe_ : pt_ = pw_ := Option.some.inj (hpt_.symm.trans hmo_)
    subst hpe_
    obtain ⟨⟨qb_, hqb1_, hqb2_⟩, hptt_, -⟩ := hptop_
    have hP32 := hP19.off ho30 (by omega)
    have hP33 := hP20.off ho30 (by omega)
    have hP34 := hP21.off ho30 (by omega)
    have hB35 := hBw23.off ho30 (by omega) (by rw [htw23]; omega)
    obtain ⟨Fw36, Tw36, Aw36, hBw36, htw36⟩ := id hT29
    have hWw36 := hBw36.2.1
    obtain ⟨Fgg37, Tgg37, Agg37, hPgg37, hRGg37, hFgg37, hFrg37⟩ := id hGX31
    refine e_istore_n (L' := [(3, .int (nI (cdW nr pt_.1))), (2, .int (w - 10)), (0, .ref x), (1, .int w)]) (pc := 55) Xc (dT hX6_most 28 rfl) (by decide) rfl ?_
    refine e_iload_n (pc := 56) Xc (dT hX6_most 29 rfl) 3 rfl ?_
    refine e_iconst (v := 1) (pc := 57) Xc (dT hX6_most 30 rfl) rfl ?_
    refine e_icmp_ne (tgt := 73) (pc := 58) Xc (dT hX6_most 31 rfl) rfl (fun c58 => ?_) (fun c58 => ?_)
    · skip
      refine e_aload_n (pc := 73) Xc (dT hX6_most 38 rfl) 2 rfl ?_
      refine gf_X6_18 (pc := 74) Xc (dT hX6_most 39 rfl) hP32.o rfl ?_
      refine e_iload_n (pc := 77) Xc (dT hX6_most 40 rfl) 0 rfl ?_
      refine cl_X6_200 (pc := 78) (k := 0) (n := 0) (S := []) Xc hBw36.1.o (c5_hold ⟨Fw36, Tw36, Aw36, hBw36, htw36⟩ pt_.1 hpv_) (dT hX6_most 41 rfl) rfl (Nat.le_of_ble_eq_true rfl) (Nat.le_of_ble_eq_true rfl) (Nat.le_of_ble_eq_true rfl) rfl (Nat.le_of_ble_eq_true rfl) (fun σ39 hq40 => ?_)
      obtain ⟨hT41, ho42⟩ := hq40
      rw [setW_cg hX2_] at hT41
      have hP43 := hP32.off ho42 (by omega)
      have hP44 := hP33.off ho42 (by omega)
      have hP45 := hP34.off ho42 (by omega)
      have hB46 := hB35.off ho42 (by omega) (by rw [htw23]; omega)
      have hP47 := hPgg37.off ho42 (by omega)
      obtain ⟨Fw48, Tw48, Aw48, hBw48, htw48⟩ := id hT41
      have hWw48 := hBw48.2.1
      refine e_iload_n (pc := 81) Xc (dT hX6_most 42 rfl) 3 rfl ?_
      refine e_if_ne (tgt := 95) (pc := 82) Xc (dT hX6_most 43 rfl) rfl (fun c82 => ?_) (fun c82 => ?_)
      · skip
        exact absurd c6 c82
      · skip
        refine e_aload_n (pc := 85) Xc (dT hX6_most 44 rfl) 2 rfl ?_
        refine gf_X6_18 (pc := 86) Xc (dT hX6_most 45 rfl) hP43.o rfl ?_
        refine cl_X6_148 (pc := 89) (k := 0) (n := 0) (S := []) Xc hBw48.1.o (c5_total hBw48 (LB.setW ⟨_, hdlw12, hd0w12, hbtw12⟩)) (dT hX6_most 46 rfl) rfl (Nat.le_of_ble_eq_true rfl) (Nat.le_of_ble_eq_true rfl) (Nat.le_of_ble_eq_true rfl) rfl (Nat.le_of_ble_eq_true rfl) (fun r49 σ50 hq51 => ?_)
        obtain ⟨r49e, r49s⟩ := hq51
        have r49e := r49e.symm; subst r49e; have r49s := r49s.symm; subst r49s
        refine e_goto (tgt := 106) (pc := 92) Xc (dT hX6_most 47 rfl) rfl ?_
        refine e_iret (pc := 106) Xc hQ (dT hX6_most 53 rfl) (Nat.le_refl _) (Nat.le_refl _) ?_
        have hz0_ : v_most X t nr nb w = if w = 0 then pt_.2 else if w = 1 then lkQ (theQ X t nr nb) pt_.1 else orN (hsW pt_.1 (cl (w - 10))) := by rw [v_most, if_pos (Or.inl hin1_), most_q hRES, hmo_]
        have hz : v_most X t nr nb w = totF (setW X nr pt_.1) t nr := by
          rw [hz0_, if_pos c6]; exact hptt_
        obtain ⟨hb_, ho_⟩ := hB.asks ((((OffS.of (S := fun o => o = x + 13 ∨ o = x + 55) ho6 (Or.inl rfl)).tr (ho17.up (fun o h => h.symm))).tr (OffS.of (S := fun o => o = x + 13 ∨ o = x + 55) ho30 (Or.inl rfl))).tr (OffS.of (S := fun o => o = x + 13 ∨ o = x + 55) ho42 (Or.inl rfl))) ⟨_, _, _, hBw48.1⟩ ⟨_, _, _, hP47⟩
        exact ⟨hz.symm, hb_, ho_⟩
    · skip
      exact absurd (c6.symm.trans c58) (by decide)
  · skip
    refine e_iload_n (pc := 9) Xc (dT hX6_most 6 rfl) 2 rfl ?_
    refine e_iconst (v := 1) (pc := 10) Xc (dT hX6_most 7 rfl) rfl ?_
    refine e_icmp_eq (tgt := 29) (pc := 11) Xc (dT hX6_most 8 rfl) rfl (fun c11 => ?_) (fun c11 => ?_)
    · skip
      have hin1_ : inF w 0 1 = true := by rw [c11]; decide
      refine e_aload_n (pc := 29) Xc (dT hX6_most 16 rfl) 1 rfl ?_
      refine cl_X6_116 (pc := 30) (k := 0) (n := 0) (S := []) Xc hx.o (c6_fresh hx ⟨Fw1, Tw1, Aw1, hBw1, htw1⟩ ht13 hP5 hdy hd0) (dT hX6_most 17 rfl) rfl (Nat.le_of_ble_eq_true rfl) (Nat.le_of_ble_eq_true rfl) (Nat.le_of_ble_eq_true rfl) rfl (Nat.le_of_ble_eq_true rfl) (fun σ53 hq54 => ?_)
      obtain ⟨hT55, ho56⟩ := hq54
      have hP57 := hx.off ho56 (by omega)
      have hP58 := hPp.off ho56 (by omega)
      have hP59 := hPg.off ho56 (by omega)
      have hP60 := hPa.off ho56 (by omega)
      have hB61 := hBw1.off ho56 (by omega) (by rw [htw1]; omega)
      obtain ⟨lnw62, hXw62, hdlw62, hd0w62, hbtw62⟩ := id hT55
      obtain ⟨Fw62, Tw62, Aw62, hBw62, htw62⟩ := id hXw62
      have hWw62 := hBw62.2.1
      refine e_aload_n (pc := 33) Xc (dT hX6_most 18 rfl) 1 rfl ?_
      refine gf_X6_37 (pc := 34) Xc (dT hX6_most 19 rfl) hP57.o rfl ?_
      refine e_aload_n (pc := 37) Xc (dT hX6_most 20 rfl) 1 rfl ?_
      refine gf_X6_18 (pc := 38) Xc (dT hX6_most 21 rfl) hP57.o rfl ?_
      refine cl_X6_180 (pc := 41) (k := 0) (n := 0) (S := []) Xc hP59.o (c1_search ⟨Fw62, Tw62, Aw62, hBw62, htw62⟩ hP59 ⟨_, hdlw62, hd0w62, hbtw62⟩ hJ (by omega) (by omega)) (dT hX6_most 22 rfl) rfl (Nat.le_of_ble_eq_true rfl) (Nat.le_of_ble_eq_true rfl) (Nat.le_of_ble_eq_true rfl) rfl (Nat.le_of_ble_eq_true rfl) (fun σ64 hq65 => ?_)
      obtain ⟨ql, X1_, hGX68, hT66, hRES, hle_, hX1_, ho67⟩ := hq65
      have hok_ := hRES.1
      have hP69 := hP57.cg (fun i => ho67.cell (fun e => by omega) i)
      have hP70 := hP58.cg (fun i => ho67.cell (fun e => by omega) i)
      have hP71 := hP60.cg (fun i => ho67.cell (fun e => by omega) i)
      have hX72 := WX.cg ⟨Fw1, Tw1, Aw1, hB61, htw1⟩ (fun i => ho67.cell (fun e => by omega) i) (fun i => ho67.cell (fun e => by omega) i)
      obtain ⟨Fw73, Tw73, Aw73, hBw73, htw73⟩ := id hX72
      have hWw73 := hBw73.2.1
      obtain ⟨Fw74, Tw74, Aw74, hBw74, htw74⟩ := id hT66
      have hWw74 := hBw74.2.1
      obtain ⟨Fgg75, Tgg75, Agg75, hPgg75, hRGg75, hFgg75, hFrg75⟩ := id hGX68
      refine e_aload_n (pc := 44) Xc (dT hX6_most 23 rfl) 1 rfl ?_
      refine gf_X6_37 (pc := 45) Xc (dT hX6_most 24 rfl) hP69.o rfl ?_
      refine e_aload_n (pc := 48) Xc (dT hX6_most 25 rfl) 1 rfl ?_
      refine gf_X6_18 (pc := 49) Xc (dT hX6_most 26 rfl) hP69.o rfl ?_
      refine cl_X6_193 (pc := 52) (k := 0) (n := 0) (S := []) Xc hPgg75.o (c1_best ⟨Fw74, Tw74, Aw74, hBw74, htw74⟩ hG ⟨_, hdlw62, hd0w62, hbtw62⟩ hX1_ hGX68 hRES hle_ (by omega) (by omega)) (dT hX6_most 27 rfl) rfl (Nat.le_of_ble_eq_true rfl) (Nat.le_of_ble_eq_true rfl) (Nat.le_of_ble_eq_true rfl) rfl (Nat.le_of_ble_eq_true rfl) (fun r76 σ77 hq78 => ?_)
      obtain ⟨⟨pw_, hmo_, hpv_, r76e⟩, ⟨X2_, hT79, hX2_⟩, hGX81, ho80⟩ := hq78
      have r76e := r76e.symm; subst r76e
      have hpl_ := cd_lt (nr := nr) hpv_.1
      obtain ⟨pt_, hpt_, hptop_⟩ := mostL_top hRES
      have hpe_ : pt_ = pw_ := Option.some.inj (hpt_.symm.trans hmo_)
      subst hpe_
      obtain ⟨⟨qb_, hqb1_, hqb2_⟩, hptt_, -⟩ := hptop_
      have hP82 := hP69.off ho80 (by omega)
      have hP83 := hP70.off ho80 (by omega)
      have hP84 := hP71.off ho80 (by omega)
      have hB85 := hBw73.off ho80 (by omega) (by rw [htw73]; omega)
      obtain ⟨Fw86, Tw86, Aw86, hBw86, htw86⟩ := id hT79
      have hWw86 := hBw86.2.1
      obtain ⟨Fgg87, Tgg87, Agg87, hPgg87, hRGg87, hFgg87, hFrg87⟩ := id hGX81
      refine e_istore_n (L' := [(3, .int (nI (cdW nr pt_.1))), (2, .int (w - 10)), (0, .ref x), (1, .int w)]) (pc := 55) Xc (dT hX6_most 28 rfl) (by decide) rfl ?_
      refine e_iload_n (pc := 56) Xc (dT hX6_most 29 rfl) 3 rfl ?_
      refine e_iconst (v := 1) (pc := 57) Xc (dT hX6_most 30 rfl) rfl ?_
      refine e_icmp_ne (tgt := 73) (pc := 58) Xc (dT hX6_most 31 rfl) rfl (fun c58 => ?_) (fun c58 => ?_)
      · skip
        exact absurd c11 c58
      · skip
        refine e_aload_n (pc := 61) Xc (dT hX6_most 32 rfl) 2 rfl ?_
        refine gf_X6_37 (pc := 62) Xc (dT hX6_most 33 rfl) hP82.o rfl ?_
        refine gf_X6_197 (pc := 65) Xc (dT hX6_most 34 rfl) hPgg87.o rfl ?_
        refine e_iload_n (pc := 68) Xc (dT hX6_most 35 rfl) 0 rfl ?_
        refine cl_X6_106 (pc := 69) (k := 0) (n := 0) (S := []) Xc (c_get hPgg87.a1 (by decide) (by decide) (cdW nr pt_.1) (by omega)) (dT hX6_most 36 rfl) rfl (Nat.le_of_ble_eq_true rfl) (Nat.le_of_ble_eq_true rfl) (Nat.le_of_ble_eq_true rfl) rfl (Nat.le_of_ble_eq_true rfl) (fun r88 σ89 hq90 => ?_)
        obtain ⟨r88e, r88s⟩ := hq90
        have r88e := r88e.symm; subst r88e; have r88s := r88s.symm; subst r88s
        refine e_val (y := orN (lkQ ql pt_.1)) (hRGg87.2 _ hpv_) ?_
        refine e_iret (pc := 72) Xc hQ (dT hX6_most 37 rfl) (Nat.le_refl _) (Nat.le_refl _) ?_
        have hz0_ : v_most X t nr nb w = if w = 0 then pt_.2 else if w = 1 then lkQ (theQ X t nr nb) pt_.1 else orN (hsW pt_.1 (cl (w - 10))) := by rw [v_most, if_pos (Or.inl hin1_), most_q hRES, hmo_]
        have hlq_ := lkQ_mem hok_ hqb1_
        rw [hqb2_] at hlq_
        have hlk_ : lkQ (theQ X t nr nb) pt_.1 = lkQ ql pt_.1 := (lkQ_one hRES (theQ_ok hRES) ⟨qb_, hqb1_, hqb2_⟩).symm
        have hqd_ := okQ_d hok_ hqb1_
        have hz : v_most X t nr nb w = orN (lkQ ql pt_.1) := by
          rw [hz0_, if_neg c6, if_pos c11, hlk_, hlq_, orN_nI (by omega)]
        obtain ⟨hb_, ho_⟩ := hB.asks (((OffS.of (S := fun o => o = x + 13 ∨ o = x + 55) ho56 (Or.inl rfl)).tr (ho67.up (fun o h => h.symm))).tr (OffS.of (S := fun o => o = x + 13 ∨ o = x + 55) ho80 (Or.inl rfl))) ⟨_, _, _, hBw86.1⟩ ⟨_, _, _, hPgg87⟩
        exact ⟨hz.symm, hb_, ho_⟩
    · skip
      refine e_aload_n (pc := 14) Xc (dT hX6_most 9 rfl) 1 rfl ?_
      refine gf_X6_12 (pc := 15) Xc (dT hX6_most 10 rfl) hx.o rfl ?_
      refine e_iload_n (pc := 18) Xc (dT hX6_most 11 rfl) 0 rfl ?_
      refine cl_X6_99 (pc := 19) (k := 0) (n := 0) (S := []) Xc hBw1.1.o (c5_isReader hBw1 (w - 10)) (dT hX6_most 12 rfl) rfl (Nat.le_of_ble_eq_true rfl) (Nat.le_of_ble_eq_true rfl) (Nat.le_of_ble_eq_true rfl) rfl (Nat.le_of_ble_eq_true rfl) (fun r91 σ92 hq93 => ?_)
      obtain ⟨r91e, r91s⟩ := hq93
      have r91e := r91e.symm; subst r91e; have r91s := r91s.symm; subst r91s
      refine e_if_ne (tgt := 29) (pc := 22) Xc (dT hX6_most 13 rfl) rfl (fun c22 => ?_) (fun c22 => ?_)
      · skip
        obtain ⟨q, hq, hwq_⟩ := inF_nat (v := w - 10) (n := nr) (by omega) (by simpa [bI_0, bI_1] using c22)
        have hc_q : cl (nI q) = q := cl_nI (by omega)
        have hin10_ : inF (w - 10) 0 (nI nr - 1) = true := by simpa [bI_0, bI_1] using c22
        refine e_aload_n (pc := 29) Xc (dT hX6_most 16 rfl) 1 rfl ?_
        refine cl_X6_116 (pc := 30) (k := 0) (n := 0) (S := []) Xc hx.o (c6_fresh hx ⟨Fw1, Tw1, Aw1, hBw1, htw1⟩ ht13 hP5 hdy hd0) (dT hX6_most 17 rfl) rfl (Nat.le_of_ble_eq_true rfl) (Nat.le_of_ble_eq_true rfl) (Nat.le_of_ble_eq_true rfl) rfl (Nat.le_of_ble_eq_true rfl) (fun σ95 hq96 => ?_)
        obtain ⟨hT97, ho98⟩ := hq96
        have hP99 := hx.off ho98 (by omega)
        have hP100 := hPp.off ho98 (by omega)
        have hP101 := hPg.off ho98 (by omega)
        have hP102 := hPa.off ho98 (by omega)
        have hB103 := hBw1.off ho98 (by omega) (by rw [htw1]; omega)
        obtain ⟨lnw104, hXw104, hdlw104, hd0w104, hbtw104⟩ := id hT97
        obtain ⟨Fw104, Tw104, Aw104, hBw104, htw104⟩ := id hXw104
        have hWw104 := hBw104.2.1
        refine e_aload_n (pc := 33) Xc (dT hX6_most 18 rfl) 1 rfl ?_
        refine gf_X6_37 (pc := 34) Xc (dT hX6_most 19 rfl) hP99.o rfl ?_
        refine e_aload_n (pc := 37) Xc (dT hX6_most 20 rfl) 1 rfl ?_
        refine gf_X6_18 (pc := 38) Xc (dT hX6_most 21 rfl) hP99.o rfl ?_
        refine cl_X6_180 (pc := 41) (k := 0) (n := 0) (S := []) Xc hP101.o (c1_search ⟨Fw104, Tw104, Aw104, hBw104, htw104⟩ hP101 ⟨_, hdlw104, hd0w104, hbtw104⟩ hJ (by omega) (by omega)) (dT hX6_most 22 rfl) rfl (Nat.le_of_ble_eq_true rfl) (Nat.le_of_ble_eq_true rfl) (Nat.le_of_ble_eq_true rfl) rfl (Nat.le_of_ble_eq_true rfl) (fun σ106 hq107 => ?_)
        obtain ⟨ql, X1_, hGX110, hT108, hRES, hle_, hX1_, ho109⟩ := hq107
        have hok_ := hRES.1
        have hP111 := hP99.cg (fun i => ho109.cell (fun e => by omega) i)
        have hP112 := hP100.cg (fun i => ho109.cell (fun e => by omega) i)
        have hP113 := hP102.cg (fun i => ho109.cell (fun e => by omega) i)
        have hX114 := WX.cg ⟨Fw1, Tw1, Aw1, hB103, htw1⟩ (fun i => ho109.cell (fun e => by omega) i) (fun i => ho109.cell (fun e => by omega) i)
        obtain ⟨Fw115, Tw115, Aw115, hBw115, htw115⟩ := id hX114
        have hWw115 := hBw115.2.1
        obtain ⟨Fw116, Tw116, Aw116, hBw116, htw116⟩ := id hT108
        have hWw116 := hBw116.2.1
        obtain ⟨Fgg117, Tgg117, Agg117, hPgg117, hRGg117, hFgg117, hFrg117⟩ := id hGX110
        refine e_aload_n (pc := 44) Xc (dT hX6_most 23 rfl) 1 rfl ?_
        refine gf_X6_37 (pc := 45) Xc (dT hX6_most 24 rfl) hP111.o rfl ?_
        refine e_aload_n (pc := 48) Xc (dT hX6_most 25 rfl) 1 rfl ?_
        refine gf_X6_18 (pc := 49) Xc (dT hX6_most 26 rfl) hP111.o rfl ?_
        refine cl_X6_193 (pc := 52) (k := 0) (n := 0) (S := []) Xc hPgg117.o (c1_best ⟨Fw116, Tw116, Aw116, hBw116, htw116⟩ hG ⟨_, hdlw104, hd0w104, hbtw104⟩ hX1_ hGX110 hRES hle_ (by omega) (by omega)) (dT hX6_most 27 rfl) rfl (Nat.le_of_ble_eq_true rfl) (Nat.le_of_ble_eq_true rfl) (Nat.le_of_ble_eq_true rfl) rfl (Nat.le_of_ble_eq_true rfl) (fun r118 σ119 hq120 => ?_)
        obtain ⟨⟨pw_, hmo_, hpv_, r118e⟩, ⟨X2_, hT121, hX2_⟩, hGX123, ho122⟩ := hq120
        have r118e := r118e.symm; subst r118e
        have hpl_ := cd_lt (nr := nr) hpv_.1
        obtain ⟨pt_, hpt_, hptop_⟩ := mostL_top hRES
        have hpe_ : pt_ = pw_ := Option.some.inj (hpt_.symm.trans hmo_)
        subst hpe_
        obtain ⟨⟨qb_, hqb1_, hqb2_⟩, hptt_, -⟩ := hptop_
        have hP124 := hP111.off ho122 (by omega)
        have hP125 := hP112.off ho122 (by omega)
        have hP126 := hP113.off ho122 (by omega)
        have hB127 := hBw115.off ho122 (by omega) (by rw [htw115]; omega)
        obtain ⟨Fw128, Tw128, Aw128, hBw128, htw128⟩ := id hT121
        have hWw128 := hBw128.2.1
        obtain ⟨Fgg129, Tgg129, Agg129, hPgg129, hRGg129, hFgg129, hFrg129⟩ := id hGX123
        refine e_istore_n (L' := [(3, .int (nI (cdW nr pt_.1))), (2, .int (w - 10)), (0, .ref x), (1, .int w)]) (pc := 55) Xc (dT hX6_most 28 rfl) (by decide) rfl ?_
        refine e_iload_n (pc := 56) Xc (dT hX6_most 29 rfl) 3 rfl ?_
        refine e_iconst (v := 1) (pc := 57) Xc (dT hX6_most 30 rfl) rfl ?_
        refine e_icmp_ne (tgt := 73) (pc := 58) Xc (dT hX6_most 31 rfl) rfl (fun c58 => ?_) (fun c58 => ?_)
        · skip
          refine e_aload_n (pc := 73) Xc (dT hX6_most 38 rfl) 2 rfl ?_
          refine gf_X6_18 (pc := 74) Xc (dT hX6_most 39 rfl) hP124.o rfl ?_
          refine e_iload_n (pc := 77) Xc (dT hX6_most 40 rfl) 0 rfl ?_
          refine cl_X6_200 (pc := 78) (k := 0) (n := 0) (S := []) Xc hBw128.1.o (c5_hold ⟨Fw128, Tw128, Aw128, hBw128, htw128⟩ pt_.1 hpv_) (dT hX6_most 41 rfl) rfl (Nat.le_of_ble_eq_true rfl) (Nat.le_of_ble_eq_true rfl) (Nat.le_of_ble_eq_true rfl) rfl (Nat.le_of_ble_eq_true rfl) (fun σ131 hq132 => ?_)
          obtain ⟨hT133, ho134⟩ := hq132
          rw [setW_cg hX2_] at hT133
          have hP135 := hP124.off ho134 (by omega)
          have hP136 := hP125.off ho134 (by omega)
          have hP137 := hP126.off ho134 (by omega)
          have hB138 := hB127.off ho134 (by omega) (by rw [htw115]; omega)
          have hP139 := hPgg129.off ho134 (by omega)
          obtain ⟨Fw140, Tw140, Aw140, hBw140, htw140⟩ := id hT133
          have hWw140 := hBw140.2.1
          refine e_iload_n (pc := 81) Xc (dT hX6_most 42 rfl) 3 rfl ?_
          refine e_if_ne (tgt := 95) (pc := 82) Xc (dT hX6_most 43 rfl) rfl (fun c82 => ?_) (fun c82 => ?_)
          · skip
            refine e_aload_n (pc := 95) Xc (dT hX6_most 48 rfl) 2 rfl ?_
            refine gf_X6_18 (pc := 96) Xc (dT hX6_most 49 rfl) hP135.o rfl ?_
            refine gf_X6_113 (pc := 99) Xc (dT hX6_most 50 rfl) hBw140.1.o rfl ?_
            refine e_iload_n (pc := 102) Xc (dT hX6_most 51 rfl) 1 rfl ?_
            refine e_val (y := nI q) hwq_ ?_
            refine cl_X6_106 (pc := 103) (k := 0) (n := 0) (S := []) Xc (c_get hBw140.1.a4 (by decide) (by decide) q (by omega)) (dT hX6_most 52 rfl) rfl (Nat.le_of_ble_eq_true rfl) (Nat.le_of_ble_eq_true rfl) (Nat.le_of_ble_eq_true rfl) rfl (Nat.le_of_ble_eq_true rfl) (fun r141 σ142 hq143 => ?_)
            obtain ⟨r141e, r141s⟩ := hq143
            have r141e := r141e.symm; subst r141e; have r141s := r141s.symm; subst r141s
            refine e_val (y := orN ((setW X nr pt_.1) (1 + q))) (hWw140.2.2.2.1 q (by omega)) ?_
            refine e_iret (pc := 106) Xc hQ (dT hX6_most 53 rfl) (Nat.le_refl _) (Nat.le_refl _) ?_
            have hz0_ : v_most X t nr nb w = if w = 0 then pt_.2 else if w = 1 then lkQ (theQ X t nr nb) pt_.1 else orN (hsW pt_.1 (cl (w - 10))) := by rw [v_most, if_pos (Or.inr hin10_), most_q hRES, hmo_]
            have hz : v_most X t nr nb w = orN ((setW X nr pt_.1) (1 + q)) := by
              rw [hz0_, if_neg c6, if_neg c11, hwq_, hc_q, setW_has hq]
            obtain ⟨hb_, ho_⟩ := hB.asks ((((OffS.of (S := fun o => o = x + 13 ∨ o = x + 55) ho98 (Or.inl rfl)).tr (ho109.up (fun o h => h.symm))).tr (OffS.of (S := fun o => o = x + 13 ∨ o = x + 55) ho122 (Or.inl rfl))).tr (OffS.of (S := fun o => o = x + 13 ∨ o = x + 55) ho134 (Or.inl rfl))) ⟨_, _, _, hBw140.1⟩ ⟨_, _, _, hP139⟩
            exact ⟨hz.symm, hb_, ho_⟩
          · skip
            exact absurd c82 c6
        · skip
          exact absurd c58 c11
      · skip
        have hin1_ := in01f c6 c11
        refine e_sipush (v := -10001) (pc := 25) Xc (dT hX6_most 14 rfl) rfl ?_
        refine e_iret (pc := 28) Xc hQ (dT hX6_most 15 rfl) (Nat.le_refl _) (Nat.le_refl _) ?_
        have hz : v_most X t nr nb w = (-10001) := by
          try simp only [bI_0, bI_1, Bool.not_eq_true, Bool.not_eq_false] at c6 c11 c22
          first | (simp [v_most, c6, c11, c22, hin1_]; done) | (clear hB hK hSA hx hXn hP5 hPp hRP hPg hPa hBI hG hT hS hPl hNo hTa hA hJ hR hD hQ Xc; simp_all [v_most]; done)
        exact ⟨hz.symm, hB, OffB.rf⟩
set_option maxRecDepth 100000 in
set_option maxHeartbeats 4000000 in
theorem b_order {G : xG} {σ : xS} {x m : Nat} {X Y bd : Nat → Int32} {hi : Int32} {rr : Nat} {nr nb ns np nn nt na dy : Nat} {t : xT} (hB : BK G σ x m X Y bd hi rr nr nb ns np nn nt t) (hK : OK X nr nb t ns np nn nt na dy) (hW : okW X) (k : Int32) : CI G yX6_order cX6_order 3 (some .int) 7 0 0 [.ref x, .int k] σ (fun z σ1 => z = v_order X t nr nb k ∧ BK G σ1 x m X Y bd hi rr nr nb ns np nn nt t ∧ OffB x σ σ1) := by
  refine Met.ofX (by decide +kernel) (Nat.le_of_ble_eq_true rfl) (fun μ Xc hQ hnm => ?_)
  have Xc : xC G μ cX6_order 3 RX6 (some .int) 7 0 0 := Xc
  obtain ⟨hSA, ⟨hgA, hgO⟩, hxm, hms, ⟨Fx, Ax, hx, hF7⟩, ⟨tw, htw, hXn⟩, ⟨F5, T5, A5, hP5⟩, ⟨Fp, Tp, Ap, hPp, hRP⟩, ⟨Fg, Tg, Ag, hPg⟩, ⟨Fa, Ta, Aa, hPa, hFa1, hAa⟩, hBI⟩ := id hB
  obtain ⟨htw1, htw2, htw3⟩ := id htw
  obtain ⟨hG, hT, hS, hPl, hNo, hTa, hA, hJ, hR, hD⟩ := id hK
  have hr4 := hG.r4
  have hb7 := hG.b7
  have hs6 := hS.1
  have hp8 := hPl.1
  have hn8 := hNo.1
  have ht100 := hTa.1
  have ha5 := hA.1
  have hdy := hD.1
  have hd0 := hD.2
  have ht13 : tw ≠ x + 13 := by omega
  have hb8 : ns ≤ 6 ∧ np ≤ 8 ∧ nn ≤ 8 ∧ nt ≤ 100 := ⟨hs6, hp8, hn8, ht100⟩
  show Ev G μ 3 0 0 0 [(0, .ref x), (1, .int k)] [] σ
  obtain ⟨Fw1, Tw1, Aw1, hBw1, htw1⟩ := id hXn
  have hWw1 := hBw1.2.1
  refine e_iload_n (pc := 0) Xc (dT hX6_order 0 rfl) 1 rfl ?_
  refine e_iconst (v := -1) (pc := 1) Xc (dT hX6_order 1 rfl) rfl ?_
  refine e_icmp_lt (tgt := 10) (pc := 2) Xc (dT hX6_order 2 rfl) rfl (fun c2 => ?_) (fun c2 => ?_)
  · skip
    have hin_k : inF k (-1) 3 = false := by
      have k2_ := c2
      simp only [Int32.lt_iff_toInt_lt, Int32.le_iff_toInt_le] at k2_
      have lm1_ : (-1 : Int32).toInt = -1 := by decide
      have l3_ : (3 : Int32).toInt = 3 := by decide
      have l4_ : (4 : Int32).toInt = 4 := by decide
      rw [inF_ff]
      omega
    refine e_sipush (v := -10001) (pc := 10) Xc (dT hX6_order 6 rfl) rfl ?_
    refine e_iret (pc := 13) Xc hQ (dT hX6_order 7 rfl) (Nat.le_refl _) (Nat.le_refl _) ?_
    have hz : v_order X t nr nb k = (-10001) := by
      try simp only [bI_0, bI_1, Bool.not_eq_true, Bool.not_eq_false] at c2
      first | (simp [v_order, c2, hin_k]; done) | (clear hB hK hSA hx hXn hP5 hPp hRP hPg hPa hBI hG hT hS hPl hNo hTa hA hJ hR hD hQ Xc; simp_all [v_order]; done)
    exact ⟨hz.symm, hB, OffB.rf⟩
  · skip
    refine e_iload_n (pc := 5) Xc (dT hX6_order 3 rfl) 1 rfl ?_
    refine e_iconst (v := 4) (pc := 6) Xc (dT hX6_order 4 rfl) rfl ?_
    refine e_icmp_lt (tgt := 14) (pc := 7) Xc (dT hX6_order 5 rfl) rfl (fun c7 => ?_) (fun c7 => ?_)
    · skip
      have hin_k : inF k (-1) 3 = true := by
        have k2_ := c2
        have k7_ := c7
        simp only [Int32.lt_iff_toInt_lt, Int32.le_iff_toInt_le] at k2_ k7_
        have lm1_ : (-1 : Int32).toInt = -1 := by decide
        have l3_ : (3 : Int32).toInt = 3 := by decide
        have l4_ : (4 : Int32).toInt = 4 := by decide
        rw [inF_iff]
        omega
      refine e_iload_n (pc := 14) Xc (dT hX6_order 8 rfl) 1 rfl ?_
      refine e_aload_n (pc := 15) Xc (dT hX6_order 9 rfl) 0 rfl ?_
      refine gf_X6_12 (pc := 16) Xc (dT hX6_order 10 rfl) hx.o rfl ?_
      refine gf_X6_92 (pc := 19) Xc (dT hX6_order 11 rfl) hBw1.1.o rfl ?_
      refine e_val (y := nI nr) hWw1.2.2.2.2.2.2.1 ?_
      refine e_icmp_lt (tgt := 28) (pc := 22) Xc (dT hX6_order 12 rfl) rfl (fun c22 => ?_) (fun c22 => ?_)
      · skip
        refine e_aload_n (pc := 28) Xc (dT hX6_order 15 rfl) 0 rfl ?_
        refine cl_X6_116 (pc := 29) (k := 0) (n := 0) (S := []) Xc hx.o (c6_fresh hx ⟨Fw1, Tw1, Aw1, hBw1, htw1⟩ ht13 hP5 hdy hd0) (dT hX6_order 16 rfl) rfl (Nat.le_of_ble_eq_true rfl) (Nat.le_of_ble_eq_true rfl) (Nat.le_of_ble_eq_true rfl) rfl (Nat.le_of_ble_eq_true rfl) (fun σ3 hq4 => ?_)
        obtain ⟨hT5, ho6⟩ := hq4
        have hP7 := hx.off ho6 (by omega)
        have hP8 := hPp.off ho6 (by omega)
        have hP9 := hPg.off ho6 (by omega)
        have hP10 := hPa.off ho6 (by omega)
        have hB11 := hBw1.off ho6 (by omega) (by rw [htw1]; omega)
        obtain ⟨lnw12, hXw12, hdlw12, hd0w12, hbtw12⟩ := id hT5
        obtain ⟨Fw12, Tw12, Aw12, hBw12, htw12⟩ := id hXw12
        have hWw12 := hBw12.2.1
        refine e_aload_n (pc := 32) Xc (dT hX6_order 17 rfl) 0 rfl ?_
        refine cl_X6_204 (pc := 33) (k := 0) (n := 0) (S := []) Xc hP7.o (c6_bestOrder hP7 ⟨Fw1, Tw1, Aw1, hB11, htw1⟩ ht13 ⟨Fw12, Tw12, Aw12, hBw12, htw12⟩ (fun j _ => rfl) hdy hd0 hbtw12 hW) (dT hX6_order 18 rfl) rfl (Nat.le_of_ble_eq_true rfl) (Nat.le_of_ble_eq_true rfl) (Nat.le_of_ble_eq_true rfl) rfl (Nat.le_of_ble_eq_true rfl) (fun r13 σ14 hq15 => ?_)
        obtain ⟨⟨b_, hb_, hod_, r13e, hbo2_, hbo1_⟩, ⟨X2_, hT16, hX2_⟩, ho17⟩ := hq15
        have r13e := r13e.symm; subst r13e
        have hP18 := hP7.off ho17 (by omega)
        have hP19 := hP8.off ho17 (by omega)
        have hP20 := hP9.off ho17 (by omega)
        have hP21 := hP10.off ho17 (by omega)
        have hB22 := hB11.off ho17 (by omega) (by rw [htw1]; omega)
        obtain ⟨Fw23, Tw23, Aw23, hBw23, htw23⟩ := id hT16
        have hWw23 := hBw23.2.1
        refine e_istore_n (L' := [(2, .int (nI b_)), (0, .ref x), (1, .int k)]) (pc := 36) Xc (dT hX6_order 19 rfl) (by decide) rfl ?_
        refine e_iload_n (pc := 37) Xc (dT hX6_order 20 rfl) 2 rfl ?_
        refine e_iconst (v := -1) (pc := 38) Xc (dT hX6_order 21 rfl) rfl ?_
        refine e_icmp_ne (tgt := 50) (pc := 39) Xc (dT hX6_order 22 rfl) rfl (fun c39 => ?_) (fun c39 => ?_)
        · skip
          have hk0_ : ¬ k < 0 := by
            intro q
            have k2_ := c2
            rw [Int32.lt_iff_toInt_lt] at q k2_
            have l0_ : (0 : Int32).toInt = 0 := by decide
            have l1_ : (-1 : Int32).toInt = -1 := by decide
            exact c39 (Int32.toInt_inj.mp (by omega))
          obtain ⟨q, hqb_, rfl⟩ := nI_of (x := k) hk0_
          have hq : q < nr := (nI_ltI hqb_ (by omega)).mp c22
          have hc_q : cl (nI q) = q := cl_nI hqb_
          refine e_aload_n (pc := 50) Xc (dT hX6_order 27 rfl) 1 rfl ?_
          refine e_iload_n (pc := 51) Xc (dT hX6_order 28 rfl) 0 rfl ?_
          refine e_iload_n (pc := 52) Xc (dT hX6_order 29 rfl) 2 rfl ?_
          refine cl_X6_210 (pc := 53) (k := 0) (n := 0) (S := []) Xc hP18.o (c6_comer hP18 ⟨Fw1, Tw1, Aw1, hB22, htw1⟩ b_ q (by omega) (by omega)) (dT hX6_order 30 rfl) rfl (Nat.le_of_ble_eq_true rfl) (Nat.le_of_ble_eq_true rfl) (Nat.le_of_ble_eq_true rfl) rfl (Nat.le_of_ble_eq_true rfl) (fun r24 σ25 hq26 => ?_)
          obtain ⟨r24e, r24s⟩ := hq26
          have r24e := r24e.symm; subst r24e; have r24s := r24s.symm; subst r24s
          refine e_iret (pc := 56) Xc hQ (dT hX6_order 31 rfl) (Nat.le_refl _) (Nat.le_refl _) ?_
          have hz : v_order X t nr nb (nI q) = nI (odg b_ nr q) := by
            rw [v_order, if_pos hin_k, if_neg c39, if_pos c22, hbo2_, hc_q, odL_get hq]
          obtain ⟨hb_, ho_⟩ := hB.asks ((OffS.of (S := fun o => o = x + 13 ∨ o = x + 55) ho6 (Or.inl rfl)).tr (OffS.of (S := fun o => o = x + 13 ∨ o = x + 55) ho17 (Or.inl rfl))) ⟨_, _, _, hBw23.1⟩ ⟨_, _, _, hP20⟩
          exact ⟨hz.symm, hb_, ho_⟩
        · skip
          refine e_aload_n (pc := 42) Xc (dT hX6_order 23 rfl) 1 rfl ?_
          refine e_iload_n (pc := 43) Xc (dT hX6_order 24 rfl) 0 rfl ?_
          refine cl_X6_207 (pc := 44) (k := 0) (n := 0) (S := []) Xc hP18.o (c6_totalBy hP18 ⟨Fw1, Tw1, Aw1, hB22, htw1⟩ ht13 ⟨Fw23, Tw23, Aw23, hBw23, htw23⟩ hX2_ hdy hd0 hbtw12 b_ hb_ hod_) (dT hX6_order 25 rfl) rfl (Nat.le_of_ble_eq_true rfl) (Nat.le_of_ble_eq_true rfl) (Nat.le_of_ble_eq_true rfl) rfl (Nat.le_of_ble_eq_true rfl) (fun r27 σ28 hq29 => ?_)
          obtain ⟨r27e, hT30, ho31⟩ := hq29
          have r27e := r27e.symm; subst r27e
          have hP32 := hP18.off ho31 (by omega)
          have hP33 := hP19.off ho31 (by omega)
          have hP34 := hP20.off ho31 (by omega)
          have hP35 := hP21.off ho31 (by omega)
          have hB36 := hB22.off ho31 (by omega) (by rw [htw1]; omega)
          obtain ⟨Fw37, Tw37, Aw37, hBw37, htw37⟩ := id hT30
          have hWw37 := hBw37.2.1
          refine e_goto (tgt := 56) (pc := 47) Xc (dT hX6_order 26 rfl) rfl ?_
          refine e_iret (pc := 56) Xc hQ (dT hX6_order 31 rfl) (Nat.le_refl _) (Nat.le_refl _) ?_
          have hz : v_order X t nr nb k = totF (comesL X t nr nb (odL b_ nr)) t nr := by rw [v_order, if_pos hin_k, if_pos c39, hbo1_]
          obtain ⟨hb_, ho_⟩ := hB.asks (((OffS.of (S := fun o => o = x + 13 ∨ o = x + 55) ho6 (Or.inl rfl)).tr (OffS.of (S := fun o => o = x + 13 ∨ o = x + 55) ho17 (Or.inl rfl))).tr (OffS.of (S := fun o => o = x + 13 ∨ o = x + 55) ho31 (Or.inl rfl))) ⟨_, _, _, hBw37.1⟩ ⟨_, _, _, hP34⟩
          exact ⟨hz.symm, hb_, ho_⟩
      · skip
        have hk1_ : ¬ k = -1 := by
          intro e
          have k22_ := c22
          rw [e, Int32.lt_iff_toInt_lt, nI_toInt (by omega)] at k22_
          have l1_ : (-1 : Int32).toInt = -1 := by decide
          omega
        refine e_bipush (v := -5) (pc := 25) Xc (dT hX6_order 13 rfl) rfl ?_
        refine e_iret (pc := 27) Xc hQ (dT hX6_order 14 rfl) (Nat.le_refl _) (Nat.le_refl _) ?_
        have hz : v_order X t nr nb k = (-5) := by
          try simp only [bI_0, bI_1, Bool.not_eq_true, Bool.not_eq_false] at c2 c7 c22
          first | (simp [v_order, c2, c7, c22, hin_k, hk1_]; done) | (clear hB hK hSA hx hXn hP5 hPp hRP hPg hPa hBI hG hT hS hPl hNo hTa hA hJ hR hD hQ Xc; simp_all [v_order]; done)
        exact ⟨hz.symm, hB, OffB.rf⟩
    · skip
      have hin_k : inF k (-1) 3 = false := by
        have k2_ := c2
        have k7_ := c7
        simp only [Int32.lt_iff_toInt_lt, Int32.le_iff_toInt_le] at k2_ k7_
        have lm1_ : (-1 : Int32).toInt = -1 := by decide
        have l3_ : (3 : Int32).toInt = 3 := by decide
        have l4_ : (4 : Int32).toInt = 4 := by decide
        rw [inF_ff]
        omega
      refine e_sipush (v := -10001) (pc := 10) Xc (dT hX6_order 6 rfl) rfl ?_
      refine e_iret (pc := 13) Xc hQ (dT hX6_order 7 rfl) (Nat.le_refl _) (Nat.le_refl _) ?_
      have hz : v_order X t nr nb k = (-10001) := by
        try simp only [bI_0, bI_1, Bool.not_eq_true, Bool.not_eq_false] at c2 c7
        first | (simp [v_order, c2, c7, hin_k]; done) | (clear hB hK hSA hx hXn hP5 hPp hRP hPg hPa hBI hG hT hS hPl hNo hTa hA hJ hR hD hQ Xc; simp_all [v_order]; done)
      exact ⟨hz.symm, hB, OffB.rf⟩
