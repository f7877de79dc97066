set_option maxRecDepth 100000 in
set_option maxHeartbeats 4000000 in
theorem c1_meet {G : xG} {σ : xS} {go : Nat} {w tw : Nat} {X : Nat → Int32} {nr nb : Nat} {t : xT} {ln : Nat} (hX : WX σ w tw X nr nb t ln) {ql : wQ} {k : Nat} (hok : okQ nr nb ql) (hk : k < 16) (hv : VMq k ql) (hGX : GX σ go nr nb ql) (hgw : go ≠ w) (hgt : go ≠ tw) (hcv : vmk k (wayX X nr) = true) (n : Nat) (hn : n < 5000) : CV G yX1_meet cX1_meet 4 none 2 0 0 [.ref go, .ref w, .int (nI n)] σ (fun σ1 => GX σ1 go nr nb (meetL n ql (wayX X nr)) ∧ Off go σ σ1) := by
  refine Met.ofX (by decide +kernel) (Nat.le_of_ble_eq_true rfl) (fun μ Xc hQ hnm => ?_)
  have Xc : xC G μ cX1_meet 4 RX1 none 2 0 0 := Xc
  obtain ⟨Fg, Tg, Ag, hPg, hRG, hFg, hFr⟩ := hGX
  obtain ⟨F, T, A, hB, htw⟩ := id hX
  obtain ⟨hP, hW, hTw, hne, hG, hT⟩ := id hB
  have hr4 := hG.r4
  have hb7 := hG.b7
  have hcd_ := cd_lt (nr := nr) (way_lt hG)
  have hle_ := VM_le hk hok hv
  show Ev G μ 4 0 0 0 [(0, .ref go), (1, .ref w), (2, .int (nI n))] [] σ
  refine e_aload_n (pc := 0) Xc (dT hX1_meet 0 rfl) 1 rfl ?_
  refine cl_X1_46 (pc := 1) (k := 0) (n := 0) (S := []) Xc hP.o (c5_holding hB) (dT hX1_meet 1 rfl) rfl (Nat.le_of_ble_eq_true rfl) (Nat.le_of_ble_eq_true rfl) (Nat.le_of_ble_eq_true rfl) rfl (Nat.le_of_ble_eq_true rfl) (fun r1 σ2 hq3 => ?_)
  obtain ⟨r1e, r1s⟩ := hq3
  have r1e := r1e.symm; subst r1e; have r1s := r1s.symm; subst r1s
  refine e_istore_n (L' := [(3, .int (nI (cdW nr (wayX X nr)))), (0, .ref go), (1, .ref w), (2, .int (nI n))]) (pc := 4) Xc (dT hX1_meet 2 rfl) (by decide) rfl ?_
  refine e_aload_n (pc := 5) Xc (dT hX1_meet 3 rfl) 1 rfl ?_
  refine gf_X1_11 (pc := 6) Xc (dT hX1_meet 4 rfl) hPg.o rfl ?_
  refine e_iload_n (pc := 9) Xc (dT hX1_meet 5 rfl) 0 rfl ?_
  refine cl_X1_38 (pc := 10) (k := 0) (n := 0) (S := []) Xc (c_get hPg.a1 (by decide) (by decide) (cdW nr (wayX X nr)) (by omega)) (dT hX1_meet 6 rfl) rfl (Nat.le_of_ble_eq_true rfl) (Nat.le_of_ble_eq_true rfl) (Nat.le_of_ble_eq_true rfl) rfl (Nat.le_of_ble_eq_true rfl) (fun r4 σ5 hq6 => ?_)
  obtain ⟨r4e, r4s⟩ := hq6
  have r4e := r4e.symm; subst r4e; have r4s := r4s.symm; subst r4s
  refine e_bipush (v := -5) (pc := 13) Xc (dT hX1_meet 7 rfl) rfl ?_
  refine e_icmp_ne (tgt := 28) (pc := 15) Xc (dT hX1_meet 8 rfl) rfl (fun c15 => ?_) (fun c15 => ?_)
  · skip
    have hlk_ := hRG.2 _ (okV_way hG)
    have hany_ : ql.any (fun q => q.1 == wayX X nr) = true := by
      by_cases e_ : ql.any (fun q => q.1 == wayX X nr) = true
      · exact e_
      · exact absurd (hlk_.trans ((lk_m5 hok).mpr e_)) c15
    refine e_vret (pc := 28) Xc hQ (dT hX1_meet 13 rfl) (Nat.le_refl _) (Nat.le_refl _) ?_
    rw [meet_y hany_]
    exact ⟨⟨Fg, Tg, Ag, hPg, hRG, hFg, hFr⟩, Off.rf⟩
  · skip
    have hlk_ := hRG.2 _ (okV_way hG)
    have hany_ : ¬ ql.any (fun q => q.1 == wayX X nr) = true := (lk_m5 hok).mp (hlk_.symm.trans c15)
    have h840_ := VM_lt hk hok hv (okV_way hG) hcv hany_
    refine e_aload_n (pc := 18) Xc (dT hX1_meet 9 rfl) 1 rfl ?_
    refine gf_X1_18 (pc := 19) Xc (dT hX1_meet 10 rfl) hPg.o rfl ?_
    refine e_val (y := nI ql.length) hFg ?_
    refine e_sipush (v := 840) (pc := 22) Xc (dT hX1_meet 11 rfl) rfl ?_
    refine e_icmp_ltN (x := ql.length) (y := 840) (tgt := 29) (pc := 25) Xc (dT hX1_meet 12 rfl) rfl (by omega) (by omega) (fun c25 => ?_) (fun c25 => ?_)
    · skip
      refine e_aload_n (pc := 29) Xc (dT hX1_meet 14 rfl) 1 rfl ?_
      refine gf_X1_11 (pc := 30) Xc (dT hX1_meet 15 rfl) hPg.o rfl ?_
      refine e_iload_n (pc := 33) Xc (dT hX1_meet 16 rfl) 0 rfl ?_
      refine e_iload_n (pc := 34) Xc (dT hX1_meet 17 rfl) 3 rfl ?_
      refine cl_X1_50 (pc := 35) (k := 0) (n := 0) (S := []) Xc (c_put hPg.a1 (by decide) (cdW nr (wayX X nr)) (by omega) (nI n)) (dT hX1_meet 18 rfl) rfl (Nat.le_of_ble_eq_true rfl) (Nat.le_of_ble_eq_true rfl) (Nat.le_of_ble_eq_true rfl) rfl (Nat.le_of_ble_eq_true rfl) (fun σ8 hq9 => ?_)
      subst hq9
      refine Ev.gen (fun z => PX1 z go Fg Tg (upA Ag 1 (upd (Ag 1) (cdW nr (wayX X nr)) (nI n)))) (hPg.wa1 (g := (upd (Ag 1) (cdW nr (wayX X nr)) (nI n)))) Off.set (fun σ10 hP11 ho12 => ?_)
      have hP13 := hP.off ho12 (Ne.symm hgw)
      refine e_aload_n (pc := 38) Xc (dT hX1_meet 19 rfl) 1 rfl ?_
      refine gf_X1_15 (pc := 39) Xc (dT hX1_meet 20 rfl) hP11.o rfl ?_
      refine e_aload_n (pc := 42) Xc (dT hX1_meet 21 rfl) 1 rfl ?_
      refine gf_X1_18 (pc := 43) Xc (dT hX1_meet 22 rfl) hP11.o rfl ?_
      refine e_val (y := nI ql.length) hFg ?_
      refine e_iload_n (pc := 46) Xc (dT hX1_meet 23 rfl) 0 rfl ?_
      refine cl_X1_50 (pc := 47) (k := 0) (n := 0) (S := []) Xc (c_put hP11.a2 (by decide) ql.length (by omega) (nI (cdW nr (wayX X nr)))) (dT hX1_meet 24 rfl) rfl (Nat.le_of_ble_eq_true rfl) (Nat.le_of_ble_eq_true rfl) (Nat.le_of_ble_eq_true rfl) rfl (Nat.le_of_ble_eq_true rfl) (fun σ15 hq16 => ?_)
      subst hq16
      refine Ev.gen (fun z => PX1 z go Fg Tg (upA (upA Ag 1 (upd (Ag 1) (cdW nr (wayX X nr)) (nI n))) 2 (upd (Ag 2) ql.length (nI (cdW nr (wayX X nr)))))) (hP11.wa2 (g := (upd (Ag 2) ql.length (nI (cdW nr (wayX X nr)))))) Off.set (fun σ17 hP18 ho19 => ?_)
      have hP20 := hP13.off ho19 (Ne.symm hgw)
      refine e_aload_n (pc := 50) Xc (dT hX1_meet 25 rfl) 1 rfl ?_
      refine e_dup (pc := 51) Xc (dT hX1_meet 26 rfl) rfl ?_
      refine gf_X1_18 (pc := 52) Xc (dT hX1_meet 27 rfl) hP18.o rfl ?_
      refine e_val (y := nI ql.length) hFg ?_
      refine e_iconst (v := 1) (pc := 55) Xc (dT hX1_meet 28 rfl) rfl ?_
      refine e_iaddN (a := ql.length) (b := 1) (pc := 56) Xc (dT hX1_meet 29 rfl) ?_
      refine pf_X1_18 (fs' := olX1 go (upd Fg 2 (nI (ql.length + 1))) Tg) (pc := 57) Xc (dT hX1_meet 30 rfl) hP18.o (Nat.le_of_ble_eq_true rfl) rfl ?_
      refine Ev.gen (fun z => PX1 z go (upd Fg 2 (nI (ql.length + 1))) Tg (upA (upA Ag 1 (upd (Ag 1) (cdW nr (wayX X nr)) (nI n))) 2 (upd (Ag 2) ql.length (nI (cdW nr (wayX X nr)))))) (hP18.wf2 (x := nI (ql.length + 1))) Off.set (fun σ21 hP22 ho23 => ?_)
      have hP24 := hP20.off ho23 (Ne.symm hgw)
      refine e_vret (pc := 60) Xc hQ (dT hX1_meet 31 rfl) (Nat.le_refl _) (Nat.le_refl _) ?_
      rw [meet_n hany_]
      exact ⟨⟨_, Tg, _, hP22, RG_new hr4 hRG (okV_way hG) hany_ hn, by rw [List.length_append, List.length_singleton]; rfl, hFr⟩, ((ho12.tr ho19).tr ho23)⟩
    · skip
      exact absurd c25 (by omega)
set_option maxRecDepth 100000 in
set_option maxHeartbeats 4000000 in
theorem c1_step {G : xG} {σ : xS} {go : Nat} {w tw : Nat} {X : Nat → Int32} {nr nb : Nat} {t : xT} {ln : Nat} (hX : WX σ w tw X nr nb t ln) {ql : wQ} {k : Nat} (hok : okQ nr nb ql) (hk : k < 16) (hv : VMq k ql) (hGX : GX σ go nr nb ql) (hgw : go ≠ w) (hgt : go ≠ tw) (r b n : Nat) (hr : r < nr) (hb : b < nb) (hcv : vmk k (wayX (swapF X nr r b) nr) = true) (hn : n < 5000) : CV G yX1_step cX1_step 6 none 3 0 0 [.ref go, .ref w, .int (nI (cdW nr (wayX X nr))), .int (nI r), .int (nI b), .int (nI n)] σ (fun σ1 => GX σ1 go nr nb (meetL n ql (wayX (swapF X nr r b) nr)) ∧ WX σ1 w tw X nr nb t ln ∧ OffS (fun o => o = go ∨ o = w) σ σ1) := by
  refine Met.ofX (by decide +kernel) (Nat.le_of_ble_eq_true rfl) (fun μ Xc hQ hnm => ?_)
  have Xc : xC G μ cX1_step 6 RX1 none 3 0 0 := Xc
  have hG : Gd X nr nb := by obtain ⟨F, T, A, hB, -⟩ := id hX; exact hB.2.2.2.2.1
  show Ev G μ 6 0 0 0 [(0, .ref go), (1, .ref w), (2, .int (nI (cdW nr (wayX X nr)))), (3, .int (nI r)), (4, .int (nI b)), (5, .int (nI n))] [] σ
  obtain ⟨Fw1, Tw1, Aw1, hBw1, htw1⟩ := id hX
  have hPw1 := hBw1.1
  have hWw1 := hBw1.2.1
  obtain ⟨Fg1, Tg1, Ag1, hPg1, hRGg1, hFg1, hFr1⟩ := id hGX
  refine e_aload_n (pc := 0) Xc (dT hX1_step 0 rfl) 1 rfl ?_
  refine e_iload_n (pc := 1) Xc (dT hX1_step 1 rfl) 3 rfl ?_
  refine e_iload (pc := 2) Xc (dT hX1_step 2 rfl) 4 rfl ?_
  refine cl_X1_75 (pc := 4) (k := 0) (n := 0) (S := []) Xc hPw1.o (c5_trade hX r b hr hb) (dT hX1_step 3 rfl) rfl (Nat.le_of_ble_eq_true rfl) (Nat.le_of_ble_eq_true rfl) (Nat.le_of_ble_eq_true rfl) rfl (Nat.le_of_ble_eq_true rfl) (fun σ3 hq4 => ?_)
  obtain ⟨hX5, ho6⟩ := hq4
  have hGX7 := hGX.off ho6 hgw
  obtain ⟨Fw8, Tw8, Aw8, hBw8, htw8⟩ := id hX5
  have hPw8 := hBw8.1
  have hWw8 := hBw8.2.1
  obtain ⟨Fg8, Tg8, Ag8, hPg8, hRGg8, hFg8, hFr8⟩ := id hGX7
  refine e_aload_n (pc := 7) Xc (dT hX1_step 4 rfl) 0 rfl ?_
  refine e_aload_n (pc := 8) Xc (dT hX1_step 5 rfl) 1 rfl ?_
  refine e_iload (pc := 9) Xc (dT hX1_step 6 rfl) 5 rfl ?_
  refine cl_X1_34 (pc := 11) (k := 0) (n := 0) (S := []) Xc hPg8.o (c1_meet hX5 hok hk hv hGX7 hgw hgt hcv n hn) (dT hX1_step 7 rfl) rfl (Nat.le_of_ble_eq_true rfl) (Nat.le_of_ble_eq_true rfl) (Nat.le_of_ble_eq_true rfl) rfl (Nat.le_of_ble_eq_true rfl) (fun σ10 hq11 => ?_)
  obtain ⟨hGX14, ho13⟩ := hq11
  have hX12 := hX5.off ho13 (Ne.symm hgw) (Ne.symm hgt)
  obtain ⟨Fw15, Tw15, Aw15, hBw15, htw15⟩ := id hX12
  have hPw15 := hBw15.1
  have hWw15 := hBw15.2.1
  obtain ⟨Fg15, Tg15, Ag15, hPg15, hRGg15, hFg15, hFr15⟩ := id hGX14
  refine e_aload_n (pc := 14) Xc (dT hX1_step 8 rfl) 1 rfl ?_
  refine e_iload_n (pc := 15) Xc (dT hX1_step 9 rfl) 2 rfl ?_
  refine cl_X1_54 (pc := 16) (k := 0) (n := 0) (S := []) Xc hPw15.o (c5_hold hX12 (wayX X nr) (okV_way hG)) (dT hX1_step 10 rfl) rfl (Nat.le_of_ble_eq_true rfl) (Nat.le_of_ble_eq_true rfl) (Nat.le_of_ble_eq_true rfl) rfl (Nat.le_of_ble_eq_true rfl) (fun σ17 hq18 => ?_)
  obtain ⟨hX19, ho20⟩ := hq18
  have hGX21 := hGX14.off ho20 hgw
  rw [setW_cg (swap_cg hG hr), set_way hG] at hX19
  obtain ⟨Fw22, Tw22, Aw22, hBw22, htw22⟩ := id hX19
  have hPw22 := hBw22.1
  have hWw22 := hBw22.2.1
  obtain ⟨Fg22, Tg22, Ag22, hPg22, hRGg22, hFg22, hFr22⟩ := id hGX21
  refine e_vret (pc := 19) Xc hQ (dT hX1_step 11 rfl) (Nat.le_refl _) (Nat.le_refl _) ?_
  exact ⟨hGX21, hX19, (((OffS.of ho6 (Or.inr rfl)).tr (OffS.of ho13 (Or.inl rfl))).tr (OffS.of ho20 (Or.inr rfl)))⟩
