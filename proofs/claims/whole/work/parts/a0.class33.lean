set_option maxRecDepth 100000 in
set_option maxHeartbeats 4000000 in
theorem b_image {G : xG} {σ : xS} {x m : Nat} {X Y bd : Nat → Int32} {hi : Int32} {rr : Nat} {nr nb ns np nn nt na dy : Nat} {t : xT} (hB : BK G σ x m X Y bd hi rr nr nb ns np nn nt t) (hK : OK X nr nb t ns np nn nt na dy) (hW : okW X) (hPa9 : okPt X) : CI G yX6_image cX6_image 1 (some .int) 3 0 0 [.ref x] σ (fun z σ1 => z = nI nr ∧ ST G σ1 x m X X bd 1 rr ∧ OffB x σ σ1) := by
  refine Met.ofX (by decide +kernel) (Nat.le_of_ble_eq_true rfl) (fun μ Xc hQ hnm => ?_)
  have Xc : xC G μ cX6_image 1 RX6 (some .int) 3 0 0 := Xc
  obtain ⟨hSA, ⟨hgA, hgO⟩, hxm, hms, ⟨Fx, Ax, hx, hF7⟩, ⟨tw, htw, hXn⟩, ⟨F5, T5, A5, hP5⟩, ⟨Fp, Tp, Ap, hPp, hRP⟩, ⟨Fg, Tg, Ag, hPg⟩, ⟨Fa, Ta, Aa, hPa, hFa1, hAa⟩, hBI⟩ := id hB
  obtain ⟨htw1, htw2, htw3⟩ := id htw
  obtain ⟨hG, hT, hS, hPl, hNo, hTa, hA, hJ, hR, hD⟩ := id hK
  have hr4 := hG.r4
  have hb7 := hG.b7
  have hs6 := hS.1
  have hp8 := hPl.1
  have hn8 := hNo.1
  have ht100 := hTa.1
  have ha5 := hA.1
  have hdy := hD.1
  have hd0 := hD.2
  have ht13 : tw ≠ x + 13 := by omega
  have hb8 : ns ≤ 6 ∧ np ≤ 8 ∧ nn ≤ 8 ∧ nt ≤ 100 := ⟨hs6, hp8, hn8, ht100⟩
  obtain ⟨⟨Fi, Ti, Ai, hPi⟩, Fj, Tj, Aj, hPj⟩ := hBI.px
  show Ev G μ 1 0 0 0 [(0, .ref x)] [] σ
  obtain ⟨Fw1, Tw1, Aw1, hBw1, htw1⟩ := id hXn
  have hWw1 := hBw1.2.1
  refine e_aload_n (pc := 0) Xc (dT hX6_image 0 rfl) 0 rfl ?_
  refine gf_X6_21 (pc := 1) Xc (dT hX6_image 1 rfl) hx.o rfl ?_
  refine e_refv (b := x + 25) rfl ?_
  refine e_aload_n (pc := 4) Xc (dT hX6_image 2 rfl) 0 rfl ?_
  refine gf_X6_12 (pc := 5) Xc (dT hX6_image 3 rfl) hx.o rfl ?_
  refine e_refv (b := x + 1) rfl ?_
  refine cl_X6_297 (pc := 8) (k := 0) (n := 0) (S := []) Xc hPi.o (c5_copy hPi ⟨Fw1, Tw1, Aw1, hBw1, htw1⟩ (by omega) (by omega)) (dT hX6_image 4 rfl) rfl (Nat.le_of_ble_eq_true rfl) (Nat.le_of_ble_eq_true rfl) (Nat.le_of_ble_eq_true rfl) rfl (Nat.le_of_ble_eq_true rfl) (fun σ3 hq4 => ?_)
  obtain ⟨hT5, ho6⟩ := hq4
  have hP7 := hx.off ho6 (by omega)
  have hP8 := hP5.off ho6 (by omega)
  have hP9 := hPp.off ho6 (by omega)
  have hP10 := hPg.off ho6 (by omega)
  have hP11 := hPa.off ho6 (by omega)
  have hP12 := hPj.off ho6 (by omega)
  have hB13 := hBw1.off ho6 (by omega) (by rw [htw1]; omega)
  obtain ⟨Fw14, Tw14, Aw14, hBw14, htw14⟩ := id hT5
  have hWw14 := hBw14.2.1
  refine e_aload_n (pc := 11) Xc (dT hX6_image 5 rfl) 0 rfl ?_
  refine gf_X6_31 (pc := 12) Xc (dT hX6_image 6 rfl) hP7.o rfl ?_
  refine e_refv (b := x + 46) rfl ?_
  refine e_aload_n (pc := 15) Xc (dT hX6_image 7 rfl) 0 rfl ?_
  refine gf_X6_27 (pc := 16) Xc (dT hX6_image 8 rfl) hP7.o rfl ?_
  refine e_refv (b := x + 37) rfl ?_
  refine cl_X6_300 (pc := 19) (k := 0) (n := 0) (S := []) Xc hP12.o (c2_copy hP12 hP9 (by omega)) (dT hX6_image 9 rfl) rfl (Nat.le_of_ble_eq_true rfl) (Nat.le_of_ble_eq_true rfl) (Nat.le_of_ble_eq_true rfl) rfl (Nat.le_of_ble_eq_true rfl) (fun σ16 hq17 => ?_)
  obtain ⟨Aq_, hQ18, hq1_, hq2_, hq3_, hq4_, hq5_, hq6_, hq7_, hq8_, ho19⟩ := hq17
  have hP20 := hP7.off ho19 (by omega)
  have hP21 := hP8.off ho19 (by omega)
  have hP22 := hP9.off ho19 (by omega)
  have hP23 := hP10.off ho19 (by omega)
  have hP24 := hP11.off ho19 (by omega)
  have hB25 := hB13.off ho19 (by omega) (by rw [htw1]; omega)
  have hB26 := hBw14.off ho19 (by omega) (by rw [htw14]; omega)
  refine e_aload_n (pc := 22) Xc (dT hX6_image 10 rfl) 0 rfl ?_
  refine e_iconst (v := 1) (pc := 23) Xc (dT hX6_image 11 rfl) rfl ?_
  refine pf_X6_48 (fs' := olX6 x (upd Fx 7 1) (t6 x)) (pc := 24) Xc (dT hX6_image 12 rfl) (Or.inr rfl) hP20.o (Nat.le_of_ble_eq_true rfl) rfl ?_
  refine Ev.gen (fun z => PX6 z x (upd Fx 7 1) (t6 x) Ax) (hP20.wf7 (x := 1)) Off.set (fun σ27 hP28 ho29 => ?_)
  have hP30 := hP21.off ho29 (by omega)
  have hP31 := hP22.off ho29 (by omega)
  have hP32 := hP23.off ho29 (by omega)
  have hP33 := hP24.off ho29 (by omega)
  have hB34 := hB25.off ho29 (by omega) (by rw [htw1]; omega)
  have hB35 := hB26.off ho29 (by omega) (by rw [htw14]; omega)
  have hP36 := hQ18.off ho29 (by omega)
  refine e_aload_n (pc := 27) Xc (dT hX6_image 13 rfl) 0 rfl ?_
  refine gf_X6_12 (pc := 28) Xc (dT hX6_image 14 rfl) hP28.o rfl ?_
  refine e_refv (b := x + 1) rfl ?_
  refine gf_X6_92 (pc := 31) Xc (dT hX6_image 15 rfl) hB34.1.o rfl ?_
  refine e_val (y := nI nr) hWw1.2.2.2.2.2.2.1 ?_
  refine e_iret (pc := 34) Xc hQ (dT hX6_image 16 rfl) (Nat.le_refl _) (Nat.le_refl _) ?_
  have hob_ := (((OffB.of (x := x) ho6 (by omega) (by omega)).tr (OffB.of (x := x) ho19 (by omega) (by omega))).tr (OffB.of (x := x) ho29 (by omega) (by omega)))
  refine ⟨rfl, ⟨nr, nb, ns, np, nn, nt, na, dy, t, ?_, hK, hW, hPa9⟩, hob_⟩
  exact ⟨(((hSA.off ho6 (by omega) (by omega)).off ho19 (by omega) (by omega)).off ho29 (by omega) (by omega)), ⟨hgA, hgO⟩, hxm, Nat.lt_of_lt_of_le hms hob_.1, ⟨_, _, hP28, upd_s⟩, ⟨tw, htw.sz hob_.1, ⟨Fw1, Tw1, Aw1, hB34, htw1⟩⟩, ⟨_, _, _, hP30⟩, ⟨_, _, _, hP31, hRP⟩, ⟨_, _, _, hP32⟩, ⟨_, _, _, hP33, hFa1, hAa⟩, Or.inr ⟨rfl, nr, nb, ns, np, nn, nt, na, dy, t, tw, _, hK, hW, hPa9, htw.sz hob_.1, ⟨Fw14, Tw14, Aw14, hB35, htw14⟩, _, _, _, hP36, hRP.copy hs6 hp8 hn8 ht100 rfl rfl rfl rfl hq1_ hq2_ hq3_ hq4_ hq5_ hq6_ hq7_ hq8_⟩⟩
set_option maxRecDepth 100000 in
set_option maxHeartbeats 4000000 in
theorem b_undo {G : xG} {σ : xS} {x m : Nat} {X Y bd : Nat → Int32} {hi : Int32} {rr : Nat} {nr nb ns np nn nt na dy : Nat} {t : xT} (hB : BK G σ x m X Y bd hi rr nr nb ns np nn nt t) (hK : OK X nr nb t ns np nn nt na dy) (hW : okW X) (hPa9 : okPt X) (h9 : ∀ j, 909 ≤ j → X j = Y j) : CI G yX6_undo cX6_undo 1 (some .int) 3 0 0 [.ref x] σ (fun z σ1 => z = (v_undo X Y hi).1 ∧ ST G σ1 x m (v_undo X Y hi).2 Y bd hi rr ∧ OffB x σ σ1) := by
  refine Met.ofX (by decide +kernel) (Nat.le_of_ble_eq_true rfl) (fun μ Xc hQ hnm => ?_)
  have Xc : xC G μ cX6_undo 1 RX6 (some .int) 3 0 0 := Xc
  obtain ⟨hSA, ⟨hgA, hgO⟩, hxm, hms, ⟨Fx, Ax, hx, hF7⟩, ⟨tw, htw, hXn⟩, ⟨F5, T5, A5, hP5⟩, ⟨Fp, Tp, Ap, hPp, hRP⟩, ⟨Fg, Tg, Ag, hPg⟩, ⟨Fa, Ta, Aa, hPa, hFa1, hAa⟩, hBI⟩ := id hB
  obtain ⟨htw1, htw2, htw3⟩ := id htw
  obtain ⟨hG, hT, hS, hPl, hNo, hTa, hA, hJ, hR, hD⟩ := id hK
  have hr4 := hG.r4
  have hb7 := hG.b7
  have hs6 := hS.1
  have hp8 := hPl.1
  have hn8 := hNo.1
  have ht100 := hTa.1
  have ha5 := hA.1
  have hdy := hD.1
  have hd0 := hD.2
  have ht13 : tw ≠ x + 13 := by omega
  have hb8 : ns ≤ 6 ∧ np ≤ 8 ∧ nn ≤ 8 ∧ nt ≤ 100 := ⟨hs6, hp8, hn8, ht100⟩
  show Ev G μ 1 0 0 0 [(0, .ref x)] [] σ
  obtain ⟨Fw1, Tw1, Aw1, hBw1, htw1⟩ := id hXn
  have hWw1 := hBw1.2.1
  refine e_aload_n (pc := 0) Xc (dT hX6_undo 0 rfl) 0 rfl ?_
  refine gf_X6_48 (pc := 1) Xc (dT hX6_undo 1 rfl) hx.o rfl ?_
  refine e_val (y := hi) hF7 ?_
  refine e_if_ne (tgt := 10) (pc := 4) Xc (dT hX6_undo 2 rfl) rfl (fun c4 => ?_) (fun c4 => ?_)
  · skip
    rcases hBI with ⟨h0_, -, -⟩ | ⟨h1_, nr2, nb2, ns2, np2, nn2, nt2, na2, dy2, t2, tw2, ln2, hK2, hW2, hPa2, htv, hXi, Fj, Tj, Aj, hPj, hRPj⟩
    · exact absurd h0_ c4
    obtain ⟨htv1, htv2, htv3⟩ := id htv
    obtain ⟨hG2, -, hS2, hPl2, hNo2, hTa2, -⟩ := id hK2
    obtain ⟨Fw2, Tw2, Aw2, hBw2, htw2⟩ := id hXi
    have hWw2 := hBw2.2.1
    refine e_aload_n (pc := 10) Xc (dT hX6_undo 5 rfl) 0 rfl ?_
    refine gf_X6_12 (pc := 11) Xc (dT hX6_undo 6 rfl) hx.o rfl ?_
    refine e_refv (b := x + 1) rfl ?_
    refine e_aload_n (pc := 14) Xc (dT hX6_undo 7 rfl) 0 rfl ?_
    refine gf_X6_21 (pc := 15) Xc (dT hX6_undo 8 rfl) hx.o rfl ?_
    refine e_refv (b := x + 25) rfl ?_
    refine cl_X6_297 (pc := 18) (k := 0) (n := 0) (S := []) Xc hBw1.1.o (c5_copy hBw1.1 ⟨Fw2, Tw2, Aw2, hBw2, htw2⟩ (by omega) (by omega)) (dT hX6_undo 9 rfl) rfl (Nat.le_of_ble_eq_true rfl) (Nat.le_of_ble_eq_true rfl) (Nat.le_of_ble_eq_true rfl) rfl (Nat.le_of_ble_eq_true rfl) (fun σ4 hq5 => ?_)
    obtain ⟨hT6, ho7⟩ := hq5
    have hP8 := hx.off ho7 (by omega)
    have hP9 := hP5.off ho7 (by omega)
    have hP10 := hPp.off ho7 (by omega)
    have hP11 := hPg.off ho7 (by omega)
    have hP12 := hPa.off ho7 (by omega)
    have hP13 := hPj.off ho7 (by omega)
    have hB14 := hBw2.off ho7 (by omega) (by rw [htw2]; omega)
    obtain ⟨Fw15, Tw15, Aw15, hBw15, htw15⟩ := id hT6
    have hWw15 := hBw15.2.1
    refine e_aload_n (pc := 21) Xc (dT hX6_undo 10 rfl) 0 rfl ?_
    refine gf_X6_27 (pc := 22) Xc (dT hX6_undo 11 rfl) hP8.o rfl ?_
    refine e_refv (b := x + 37) rfl ?_
    refine e_aload_n (pc := 25) Xc (dT hX6_undo 12 rfl) 0 rfl ?_
    refine gf_X6_31 (pc := 26) Xc (dT hX6_undo 13 rfl) hP8.o rfl ?_
    refine e_refv (b := x + 46) rfl ?_
    refine cl_X6_300 (pc := 29) (k := 0) (n := 0) (S := []) Xc hP10.o (c2_copy hP10 hP13 (by omega)) (dT hX6_undo 14 rfl) rfl (Nat.le_of_ble_eq_true rfl) (Nat.le_of_ble_eq_true rfl) (Nat.le_of_ble_eq_true rfl) rfl (Nat.le_of_ble_eq_true rfl) (fun σ17 hq18 => ?_)
    obtain ⟨Aq_, hQ19, hq1_, hq2_, hq3_, hq4_, hq5_, hq6_, hq7_, hq8_, ho20⟩ := hq18
    have hP21 := hP8.off ho20 (by omega)
    have hP22 := hP9.off ho20 (by omega)
    have hP23 := hP11.off ho20 (by omega)
    have hP24 := hP12.off ho20 (by omega)
    have hP25 := hP13.off ho20 (by omega)
    have hB26 := hB14.off ho20 (by omega) (by rw [htw2]; omega)
    have hB27 := hBw15.off ho20 (by omega) (by rw [htw15]; omega)
    refine e_aload_n (pc := 32) Xc (dT hX6_undo 15 rfl) 0 rfl ?_
    refine gf_X6_12 (pc := 33) Xc (dT hX6_undo 16 rfl) hP21.o rfl ?_
    refine e_refv (b := x + 1) rfl ?_
    refine gf_X6_92 (pc := 36) Xc (dT hX6_undo 17 rfl) hB27.1.o rfl ?_
    refine e_val (y := nI nr2) hWw15.2.2.2.2.2.2.1 ?_
    refine e_iret (pc := 39) Xc hQ (dT hX6_undo 18 rfl) (Nat.le_refl _) (Nat.le_refl _) ?_
    have hob_ := ((OffB.of (x := x) ho7 (by omega) (by omega)).tr (OffB.of (x := x) ho20 (by omega) (by omega)))
    have hz : v_undo X Y hi = (nI nr2, Y) := by rw [v_undo, if_neg c4, hG2.1.2.2.1, cp_id (fun j hj => (h9 j hj).symm)]
    rw [hz]
    refine ⟨rfl, ⟨nr2, nb2, ns2, np2, nn2, nt2, na2, dy2, t2, ?_, hK2, hW2, hPa2⟩, hob_⟩
    exact ⟨((hSA.off ho7 (by omega) (by omega)).off ho20 (by omega) (by omega)), ⟨hgA, hgO⟩, hxm, Nat.lt_of_lt_of_le hms hob_.1, ⟨_, _, hP21, hF7⟩, ⟨tw2, htv.sz hob_.1, WX.stale ⟨Fw15, Tw15, Aw15, hB27, htw15⟩⟩, ⟨_, _, _, hP22⟩, ⟨_, _, _, hQ19, hRPj.copy hS2.1 hPl2.1 hNo2.1 hTa2.1 rfl rfl rfl rfl hq1_ hq2_ hq3_ hq4_ hq5_ hq6_ hq7_ hq8_⟩, ⟨_, _, _, hP23⟩, ⟨_, _, _, hP24, hFa1, hAa⟩, Or.inr ⟨h1_, nr2, nb2, ns2, np2, nn2, nt2, na2, dy2, t2, tw2, ln2, hK2, hW2, hPa2, htv.sz hob_.1, ⟨Fw2, Tw2, Aw2, hB26, htw2⟩, _, _, _, hP25, hRPj⟩⟩
  · skip
    refine e_bipush (v := -3) (pc := 7) Xc (dT hX6_undo 3 rfl) rfl ?_
    refine e_iret (pc := 9) Xc hQ (dT hX6_undo 4 rfl) (Nat.le_refl _) (Nat.le_refl _) ?_
    have hz : v_undo X Y hi = (-3, X) := by rw [v_undo, if_pos c4]
    rw [hz]
    exact ⟨rfl, ⟨nr, nb, ns, np, nn, nt, na, dy, t, hB, hK, hW, hPa9⟩, OffB.rf⟩
