set_option maxRecDepth 100000 in
set_option maxHeartbeats 4000000 in
theorem c1_meet {G : xG} {σ : xS} {go : Nat} {w tw : Nat} {X : Nat → Int32} {nr nb : Nat} {t : xT} {ln : Nat} (hX : WX σ w tw X nr nb t ln) {ql : wQ} {k : Nat} (hok : okQ nr nb ql) (hk : k < 16) (hv : VMq k ql) (hGX : GX σ go nr nb ql) (hgw : go ≠ w) (hgt : go ≠ tw) (hcv : vmk k (wayX X nr) = true) (n : Nat) (hn : n < 5000) : CV G yX1_meet cX1_meet 4 none 2 0 0 [.ref go, .ref w, .int (nI n)] σ (fun σ1 => GX σ1 go nr nb (meetL n ql (wayX X nr)) ∧ Off go σ σ1) := by
  refine Met.ofX (by decide +kernel) (Nat.le_of_ble_eq_true rfl) (fun μ Xc hQ hnm => ?_)
  have Xc : xC G μ cX1_meet 4 RX1 none 2 0 0 := Xc
  obtain ⟨Fg, Tg, Ag, hPg, hRG, hFg, hFr⟩ := hGX
  obtain ⟨F, T, A, hB, htw⟩ := id hX
  obtain ⟨hP, hW, hTw, hne, hG, hT⟩ := id hB
  have hr4 := hG.r4
  have hb7 := hG.b7
  have hcd_ := cd_lt (nr := nr) (way_lt hG)
  have hle_ := VM_le hk hok hv
  show Ev G μ 4 0 0 0 [(0, .ref go), (1, .ref w), (2, .int (nI n))] [] σ
  refine e_aload_n (pc := 0) Xc (dT hX1_meet 0 rfl) 1 rfl ?_
  refine cl_X1_46 (pc := 1) (k := 0) (n := 0) (S := []) Xc hP.o (c5_holding hB) (dT hX1_meet 1 rfl) rfl (Nat.le_of_ble_eq_true rfl) (Nat.le_of_ble_eq_true rfl) (Nat.le_of_ble_eq_true rfl) rfl (Nat.le_of_ble_eq_true rfl) (fun r1 σ2 hq3 => ?_)
  obtain ⟨r1e, r1s⟩ := hq3
  have r1e := r1e.symm; subst r1e; have r1s := r1s.symm; subst r1s
  refine e_istore_n (L' := [(3, .int (nI (cdW nr (wayX X nr)))), (0, .ref go), (1, .ref w), (2, .int (nI n))]) (pc := 4) Xc (dT hX1_meet 2 rfl) (by decide) rfl ?_
  refine e_aload_n (pc := 5) Xc (dT hX1_meet 3 rfl) 1 rfl ?_
  refine gf_X1_11 (pc := 6) Xc (dT hX1_meet 4 rfl) hPg.o rfl ?_
  refine e_iload_n (pc := 9) Xc (dT hX1_meet 5 rfl) 0 rfl ?_
  refine cl_X1_38 (pc := 10) (k := 0) (n := 0) (S := []) Xc (c_get hPg.a1 (by decide) (by decide) (cdW nr (wayX X nr)) (by omega)) (dT hX1_meet 6 rfl) rfl (Nat.le_of_ble_eq_true rfl) (Nat.le_of_ble_eq_true rfl) (Nat.le_of_ble_eq_true rfl) rfl (Nat.le_of_ble_eq_true rfl) (fun r4 σ5 hq6 => ?_)
  obtain ⟨r4e, r4s⟩ := hq6
  have r4e := r4e.symm; subst r4e; have r4s := r4s.symm; subst r4s
  refine e_bipush (v := -5) (pc := 13) Xc (dT hX1_meet 7 rfl) rfl ?_
  refine e_icmp_ne (tgt := 28) (pc := 15) Xc (dT hX1_meet 8 rfl) rfl (fun c15 => ?_) (fun c15 => ?_)
  · skip
    have hlk_ := hRG.2 _ (okV_way hG)
    have hany_ : ql.any (fun q => q.1 == wayX X nr) = true := by
      by_cases e_ : ql.any (fun q => q.1 == wayX X nr) = true
      · exact e_
      · exact absurd (hlk_.trans ((lk_m5 hok).mpr e_)) c15
    refine e_vret (pc := 28) Xc hQ (dT hX1_meet 13 rfl) (Nat.le_refl _) (Nat.le_refl _) ?_
    rw [meet_y hany_]
    exact ⟨⟨Fg, Tg, Ag, hPg, hRG, hFg, hFr⟩, Off.rf⟩
  · skip
    have hlk_ := hRG.2 _ (okV_way hG)
    have hany_ : ¬ ql.any (fun q => q.1 == wayX X nr) = true := (lk_m5 hok).mp (hlk_.symm.trans c15)
    have h840_ := VM_lt hk hok hv (okV_way hG) hcv hany_
    refine e_aload_n (pc := 18) Xc (dT hX1_meet 9 rfl) 1 rfl ?_
    refine gf_X1_18 (pc := 19) Xc (dT hX1_meet 10 rfl) hPg.o rfl ?_
    refine e_val (y := nI ql.length) hFg ?_
    refine e_sipush (v := 840) (pc := 22) Xc (dT hX1_meet 11 rfl) rfl ?_
    refine e_icmp_ltN (x := ql.length) (y := 840) (tgt := 29) (pc := 25) Xc (dT hX1_meet 12 rfl) rfl (by omega) (by omega) (fun c25 => ?_) (fun c25 => ?_)
    · skip
      refine e_aload_n (pc := 29) Xc (dT hX1_meet 14 rfl) 1 rfl ?_
      refine gf_X1_11 (pc := 30) Xc (dT hX1_meet 15 rfl) hPg.o rfl ?_
      refine e_iload_n (pc := 33) Xc (dT hX1_meet 16 rfl) 0 rfl ?_
      refine e_iload_n (pc := 34) Xc (dT hX1_meet 17 rfl) 3 rfl ?_
      refine cl_X1_50 (pc := 35) (k := 0) (n := 0) (S := []) Xc (c_put hPg.a1 (by decide) (cdW nr (wayX X nr)) (by omega) (nI n)) (dT hX1_meet 18 rfl) rfl (Nat.le_of_ble_eq_true rfl) (Nat.le_of_ble_eq_true rfl) (Nat.le_of_ble_eq_true rfl) rfl (Nat.le_of_ble_eq_true rfl) (fun σ8 hq9 => ?_)
      subst hq9
      refine Ev.gen (fun z => PX1 z go Fg Tg (upA Ag 1 (upd (Ag 1) (cdW nr (wayX X nr)) (nI n)))) (hPg.wa1 (g := (upd (Ag 1) (cdW nr (wayX X nr)) (nI n)))) Off.set (fun σ10 hP11 ho12 => ?_)
      have hP13 := hP.off ho12 (Ne.symm hgw)
      refine e_aload_n (pc := 38) Xc (dT hX1_meet 19 rfl) 1 rfl ?_
      refine gf_X1_15 (pc := 39) Xc (dT hX1_meet 20 rfl) hP11.o rfl ?_
      refine e_aload_n (pc := 42) Xc (dT hX1_meet 21 rfl) 1 rfl ?_
      refine gf_X1_18 (pc := 43) Xc (dT hX1_meet 22 rfl) hP11.o rfl ?_
      refine e_val (y := nI ql.length) hFg ?_
      refine e_iload_n (pc := 46) Xc (dT hX1_meet 23 rfl) 0 rfl ?_
      refine cl_X1_50 (pc := 47) (k := 0) (n := 0) (S := []) Xc (c_put hP11.a2 (by decide) ql.length (by omega) (nI (cdW nr (wayX X nr)))) (dT hX1_meet 24 rfl) rfl (Nat.le_of_ble_eq_true rfl) (Nat.le_of_ble_eq_true rfl) (Nat.le_of_ble_eq_true rfl) rfl (Nat.le_of_ble_eq_true rfl) (fun σ15 hq16 => ?_)
      subst hq16
      refine Ev.gen (fun z => PX1 z go Fg Tg (upA (upA Ag 1 (upd (Ag 1) (cdW nr (wayX X nr)) (nI n))) 2 (upd (Ag 2) ql.length (nI (cdW nr (wayX X nr)))))) (hP11.wa2 (g := (upd (Ag 2) ql.length (nI (cdW nr (wayX X nr)))))) Off.set (fun σ17 hP18 ho19 => ?_)
      have hP20 := hP13.off ho19 (Ne.symm hgw)
      refine e_aload_n (pc := 50) Xc (dT hX1_meet 25 rfl) 1 rfl ?_
      refine e_dup (pc := 51) Xc (dT hX1_meet 26 rfl) rfl ?_
      refine gf_X1_18 (pc := 52) Xc (dT hX1_meet 27 rfl) hP18.o rfl ?_
      refine e_val (y := nI ql.length) hFg ?_
      refine e_iconst (v := 1) (pc := 55) Xc (dT hX1_meet 28 rfl) rfl ?_
      refine e_iaddN (a := ql.length) (b := 1) (pc := 56) Xc (dT hX1_meet 29 rfl) ?_
      refine pf_X1_18 (fs' := olX1 go (upd Fg 2 (nI (ql.length + 1))) Tg) (pc := 57) Xc (dT hX1_meet 30 rfl) hP18.o (Nat.le_of_ble_eq_true rfl) rfl ?_
      refine Ev.gen (fun z => PX1 z go (upd Fg 2 (nI (ql.length + 1))) Tg (upA (upA Ag 1 (upd (Ag 1) (cdW nr (wayX X nr)) (nI n))) 2 (upd (Ag 2) ql.length (nI (cdW nr (wayX X nr)))))) (hP18.wf2 (x := nI (ql.length + 1))) Off.set (fun σ21 hP22 ho23 => ?_)
      have hP24 := hP20.off ho23 (Ne.symm hgw)
      refine e_vret (pc := 60) Xc hQ (dT hX1_meet 31 rfl) (Nat.le_refl _) (Nat.le_refl _) ?_
      rw [meet_n hany_]
      exact ⟨⟨_, Tg, _, hP22, RG_new hr4 hRG (okV_way hG) hany_ hn, by rw [List.length_append, List.length_singleton]; rfl, hFr⟩, ((ho12.tr ho19).tr ho23)⟩
    · skip
      exact absurd c25 (by omega)
set_option maxRecDepth 100000 in
set_option maxHeartbeats 4000000 in
theorem c1_step {G : xG} {σ : xS} {go : Nat} {w tw : Nat} {X : Nat → Int32} {nr nb : Nat} {t : xT} {ln : Nat} (hX : WX σ w tw X nr nb t ln) {ql : wQ} {k : Nat} (hok : okQ nr nb ql) (hk : k < 16) (hv : VMq k ql) (hGX : GX σ go nr nb ql) (hgw : go ≠ w) (hgt : go ≠ tw) (r b n : Nat) (hr : r < nr) (hb : b < nb) (hcv : vmk k (wayX (swapF X nr r b) nr) = true) (hn : n < 5000) : CV G yX1_step cX1_step 6 none 3 0 0 [.ref go, .ref w, .int (nI (cdW nr (wayX X nr))), .int (nI r), .int (nI b), .int (nI n)] σ (fun σ1 => GX σ1 go nr nb (meetL n ql (wayX (swapF X nr r b) nr)) ∧ WX σ1 w tw X nr nb t ln ∧ OffS (fun o => o = go ∨ o = w) σ σ1) := by
  refine Met.ofX (by decide +kernel) (Nat.le_of_ble_eq_true rfl) (fun μ Xc hQ hnm => ?_)
  have Xc : xC G μ cX1_step 6 RX1 none 3 0 0 := Xc
  have hG : Gd X nr nb := by obtain ⟨F, T, A, hB, -⟩ := id hX; exact hB.2.2.2.2.1
  show Ev G μ 6 0 0 0 [(0, .ref go), (1, .ref w), (2, .int (nI (cdW nr (wayX X nr)))), (3, .int (nI r)), (4, .int (nI b)), (5, .int (nI n))] [] σ
  obtain ⟨Fw1, Tw1, Aw1, hBw1, htw1⟩ := id hX
  have hPw1 := hBw1.1
  have hWw1 := hBw1.2.1
  obtain ⟨Fg1, Tg1, Ag1, hPg1, hRGg1, hFg1, hFr1⟩ := id hGX
  refine e_aload_n (pc := 0) Xc (dT hX1_step 0 rfl) 1 rfl ?_
  refine e_iload_n (pc := 1) Xc (dT hX1_step 1 rfl) 3 rfl ?_
  refine e_iload (pc := 2) Xc (dT hX1_step 2 rfl) 4 rfl ?_
  refine cl_X1_75 (pc := 4) (k := 0) (n := 0) (S := []) Xc hPw1.o (c5_trade hX r b hr hb) (dT hX1_step 3 rfl) rfl (Nat.le_of_ble_eq_true rfl) (Nat.le_of_ble_eq_true rfl) (Nat.le_of_ble_eq_true rfl) rfl (Nat.le_of_ble_eq_true rfl) (fun σ3 hq4 => ?_)
  obtain ⟨hX5, ho6⟩ := hq4
  have hGX7 := hGX.off ho6 hgw
  obtain ⟨Fw8, Tw8, Aw8, hBw8, htw8⟩ := id hX5
  have hPw8 := hBw8.1
  have hWw8 := hBw8.2.1
  obtain ⟨Fg8, Tg8, Ag8, hPg8, hRGg8, hFg8, hFr8⟩ := id hGX7
  refine e_aload_n (pc := 7) Xc (dT hX1_step 4 rfl) 0 rfl ?_
  refine e_aload_n (pc := 8) Xc (dT hX1_step 5 rfl) 1 rfl ?_
  refine e_iload (pc := 9) Xc (dT hX1_step 6 rfl) 5 rfl ?_
  refine cl_X1_34 (pc := 11) (k := 0) (n := 0) (S := []) Xc hPg8.o (c1_meet hX5 hok hk hv hGX7 hgw hgt hcv n hn) (dT hX1_step 7 rfl) rfl (Nat.le_of_ble_eq_true rfl) (Nat.le_of_ble_eq_true rfl) (Nat.le_of_ble_eq_true rfl) rfl (Nat.le_of_ble_eq_true rfl) (fun σ10 hq11 => ?_)
  obtain ⟨hGX14, ho13⟩ := hq11
  have hX12 := hX5.off ho13 (Ne.symm hgw) (Ne.symm hgt)
  obtain ⟨Fw15, Tw15, Aw15, hBw15, htw15⟩ := id hX12
  have hPw15 := hBw15.1
  have hWw15 := hBw15.2.1
  obtain ⟨Fg15, Tg15, Ag15, hPg15, hRGg15, hFg15, hFr15⟩ := id hGX14
  refine e_aload_n (pc := 14) Xc (dT hX1_step 8 rfl) 1 rfl ?_
  refine e_iload_n (pc := 15) Xc (dT hX1_step 9 rfl) 2 rfl ?_
  refine cl_X1_54 (pc := 16) (k := 0) (n := 0) (S := []) Xc hPw15.o (c5_hold hX12 (wayX X nr) (okV_way hG)) (dT hX1_step 10 rfl) rfl (Nat.le_of_ble_eq_true rfl) (Nat.le_of_ble_eq_true rfl) (Nat.le_of_ble_eq_true rfl) rfl (Nat.le_of_ble_eq_true rfl) (fun σ17 hq18 => ?_)
  obtain ⟨hX19, ho20⟩ := hq18
  have hGX21 := hGX14.off ho20 hgw
  rw [setW_cg (swap_cg hG hr), set_way hG] at hX19
  obtain ⟨Fw22, Tw22, Aw22, hBw22, htw22⟩ := id hX19
  have hPw22 := hBw22.1
  have hWw22 := hBw22.2.1
  obtain ⟨Fg22, Tg22, Ag22, hPg22, hRGg22, hFg22, hFr22⟩ := id hGX21
  refine e_vret (pc := 19) Xc hQ (dT hX1_step 11 rfl) (Nat.le_refl _) (Nat.le_refl _) ?_
  exact ⟨hGX21, hX19, (((OffS.of ho6 (Or.inr rfl)).tr (OffS.of ho13 (Or.inl rfl))).tr (OffS.of ho20 (Or.inr rfl)))⟩
set_option maxRecDepth 100000 in
set_option maxHeartbeats 4000000 in
theorem c1_spread {G : xG} {σ : xS} {go w tw : Nat} {X0 X : Nat → Int32} {nr nb : Nat} {t : xT} {ln : Nat} (hX0 : WX σ w tw X0 nr nb t ln) (hG : Gd X nr nb) (hXe : setW X0 nr (wayX X nr) = X) (hL : LB X ln) {ql : wQ} {k : Nat} (hok : okQ nr nb ql) (hk : k < 16) (hv : VMq k ql) (hV : VMr k X nr) (hGX : GX σ go nr nb ql) (hgw : go ≠ w) (hgt : go ≠ tw) (n : Nat) (hn : n < 5000) (hnl : n ≤ ql.length) : CV G yX1_spread cX1_spread 6 none 4 0 0 [.ref go, .ref w, .int (nI (cdW nr (wayX X nr))), .int (nI n)] σ (fun σ1 => GX σ1 go nr nb (mL n ql (spL X t nr nb nr)) ∧ WX σ1 w tw X nr nb t ln ∧ OffS (fun o => o = go ∨ o = w) σ σ1) := by
  refine Met.ofX (by decide +kernel) (Nat.le_of_ble_eq_true rfl) (fun μ Xc hQ hnm => ?_)
  have Xc : xC G μ cX1_spread 6 RX1 none 4 0 0 := Xc
  have hr4 := hG.r4
  have hb7 := hG.b7
  show Ev G μ 6 0 0 0 [(0, .ref go), (1, .ref w), (2, .int (nI (cdW nr (wayX X nr)))), (3, .int (nI n))] [] σ
  obtain ⟨Fw1, Tw1, Aw1, hBw1, htw1⟩ := id hX0
  have hPw1 := hBw1.1
  have hWw1 := hBw1.2.1
  obtain ⟨Fg1, Tg1, Ag1, hPg1, hRGg1, hFg1, hFr1⟩ := id hGX
  refine e_aload_n (pc := 0) Xc (dT hX1_spread 0 rfl) 1 rfl ?_
  refine e_iload_n (pc := 1) Xc (dT hX1_spread 1 rfl) 2 rfl ?_
  refine cl_X1_54 (pc := 2) (k := 0) (n := 0) (S := []) Xc hPw1.o (c5_hold hX0 (wayX X nr) (okV_way hG)) (dT hX1_spread 2 rfl) rfl (Nat.le_of_ble_eq_true rfl) (Nat.le_of_ble_eq_true rfl) (Nat.le_of_ble_eq_true rfl) rfl (Nat.le_of_ble_eq_true rfl) (fun σ3 hq4 => ?_)
  obtain ⟨hX5, ho6⟩ := hq4
  have hGX7 := hGX.off ho6 hgw
  rw [hXe] at hX5
  obtain ⟨Fw8, Tw8, Aw8, hBw8, htw8⟩ := id hX5
  have hPw8 := hBw8.1
  have hWw8 := hBw8.2.1
  obtain ⟨Fg8, Tg8, Ag8, hPg8, hRGg8, hFg8, hFr8⟩ := id hGX7
  refine e_iconst (v := 0) (pc := 5) Xc (dT hX1_spread 3 rfl) rfl ?_
  refine e_istore (L' := [(4, .int 0), (0, .ref go), (1, .ref w), (2, .int (nI (cdW nr (wayX X nr)))), (3, .int (nI n))]) (pc := 6) Xc (dT hX1_spread 4 rfl) (by decide) rfl ?_
  have lp8 : ∀ (n8 : Nat) (r_ : Nat) (σ2 : xS), nr - r_ < n8 → (r_ ≤ nr) → (GX σ2 go nr nb (mL n ql (spL X t nr nb r_))) → (WX σ2 w tw X nr nb t ln) → (OffS (fun o => o = go ∨ o = w) σ σ2) → Ev G μ 6 0 0 8 [(0, .ref go), (1, .ref w), (2, .int (nI (cdW nr (wayX X nr)))), (3, .int (nI n)), (4, .int (nI r_))] [] σ2 := by
    intro n8
    induction n8 with
    | zero => intro r_ σ2 hn; exact absurd hn (Nat.not_lt_zero _)
    | succ n8 ih8 =>
      intro r_ σ2 hn8 hr_ hG2 hW2 hO2
      obtain ⟨Fw9, Tw9, Aw9, hBw9, htw9⟩ := id hW2
      have hPw9 := hBw9.1
      have hWw9 := hBw9.2.1
      obtain ⟨Fg9, Tg9, Ag9, hPg9, hRGg9, hFg9, hFr9⟩ := id hG2
      refine e_iload (pc := 8) Xc (dT hX1_spread 5 rfl) 4 rfl ?_
      refine e_aload_n (pc := 10) Xc (dT hX1_spread 6 rfl) 1 rfl ?_
      refine gf_X1_31 (pc := 11) Xc (dT hX1_spread 7 rfl) hPw9.o rfl ?_
      refine e_val (y := nI nr) hWw9.2.2.2.2.2.2.1 ?_
      refine e_icmp_geN (x := r_) (y := nr) (tgt := 113) (pc := 14) Xc (dT hX1_spread 8 rfl) rfl (by omega) (by omega) (fun c14 => ?_) (fun c14 => ?_)
      · skip
        refine e_vret (pc := 113) Xc hQ (dT hX1_spread 56 rfl) (Nat.le_refl _) (Nat.le_refl _) ?_
        have hre_ : r_ = nr := by omega
        have h_ := hG2
        rw [hre_] at h_
        exact ⟨h_, hW2, hO2⟩
      · skip
        refine e_iconst (v := 0) (pc := 17) Xc (dT hX1_spread 9 rfl) rfl ?_
        refine e_istore (L' := [(5, .int 0), (0, .ref go), (1, .ref w), (2, .int (nI (cdW nr (wayX X nr)))), (3, .int (nI n)), (4, .int (nI r_))]) (pc := 18) Xc (dT hX1_spread 10 rfl) (by decide) rfl ?_
        have lp20 : ∀ (n20 : Nat) (b_ : Nat) (σ3 : xS), nb - b_ < n20 → (b_ ≤ nb) → (GX σ3 go nr nb (mL n ql (spL X t nr nb r_ ++ tkB X nr r_ b_))) → (WX σ3 w tw X nr nb t ln) → (OffS (fun o => o = go ∨ o = w) σ σ3) → Ev G μ 6 0 0 20 [(0, .ref go), (1, .ref w), (2, .int (nI (cdW nr (wayX X nr)))), (3, .int (nI n)), (4, .int (nI r_)), (5, .int (nI b_))] [] σ3 := by
          intro n20
          induction n20 with
          | zero => intro b_ σ3 hn; exact absurd hn (Nat.not_lt_zero _)
          | succ n20 ih20 =>
            intro b_ σ3 hn20 hb_ hG3 hW3 hO3
            obtain ⟨Fw10, Tw10, Aw10, hBw10, htw10⟩ := id hW3
            have hPw10 := hBw10.1
            have hWw10 := hBw10.2.1
            obtain ⟨Fg10, Tg10, Ag10, hPg10, hRGg10, hFg10, hFr10⟩ := id hG3
            refine e_iload (pc := 20) Xc (dT hX1_spread 11 rfl) 5 rfl ?_
            refine e_aload_n (pc := 22) Xc (dT hX1_spread 12 rfl) 1 rfl ?_
            refine gf_X1_58 (pc := 23) Xc (dT hX1_spread 13 rfl) hPw10.o rfl ?_
            refine e_val (y := nI nb) hWw10.2.2.2.2.2.1 ?_
            refine e_icmp_geN (x := b_) (y := nb) (tgt := 57) (pc := 26) Xc (dT hX1_spread 14 rfl) rfl (by omega) (by omega) (fun c26 => ?_) (fun c26 => ?_)
            · skip
              have hbe_ : b_ = nb := by omega
              refine e_iload (pc := 57) Xc (dT hX1_spread 29 rfl) 4 rfl ?_
              refine e_iconst (v := 1) (pc := 59) Xc (dT hX1_spread 30 rfl) rfl ?_
              refine e_iaddN (a := r_) (b := 1) (pc := 60) Xc (dT hX1_spread 31 rfl) ?_
              refine e_istore (L' := [(5, .int (nI (r_ + 1))), (0, .ref go), (1, .ref w), (2, .int (nI (cdW nr (wayX X nr)))), (3, .int (nI n)), (4, .int (nI r_))]) (pc := 61) Xc (dT hX1_spread 32 rfl) (by decide) rfl ?_
              have lp63 : ∀ (n63 : Nat) (o_ : Nat) (σ4 : xS), nr - o_ < n63 → (o_ ≤ nr) → (r_ < o_) → (GX σ4 go nr nb (mL n ql (spL X t nr nb r_ ++ tkB X nr r_ nb ++ chB X t nr r_ o_))) → (WX σ4 w tw X nr nb t ln) → (OffS (fun o => o = go ∨ o = w) σ σ4) → Ev G μ 6 0 0 63 [(0, .ref go), (1, .ref w), (2, .int (nI (cdW nr (wayX X nr)))), (3, .int (nI n)), (4, .int (nI r_)), (5, .int (nI o_))] [] σ4 := by
                intro n63
                induction n63 with
                | zero => intro o_ σ4 hn; exact absurd hn (Nat.not_lt_zero _)
                | succ n63 ih63 =>
                  intro o_ σ4 hn63 ho_ hro_ hG4 hW4 hO4
                  obtain ⟨Fw11, Tw11, Aw11, hBw11, htw11⟩ := id hW4
                  have hPw11 := hBw11.1
                  have hWw11 := hBw11.2.1
                  obtain ⟨Fg11, Tg11, Ag11, hPg11, hRGg11, hFg11, hFr11⟩ := id hG4
                  refine e_iload (pc := 63) Xc (dT hX1_spread 33 rfl) 5 rfl ?_
                  refine e_aload_n (pc := 65) Xc (dT hX1_spread 34 rfl) 1 rfl ?_
                  refine gf_X1_31 (pc := 66) Xc (dT hX1_spread 35 rfl) hPw11.o rfl ?_
                  refine e_val (y := nI nr) hWw11.2.2.2.2.2.2.1 ?_
                  refine e_icmp_geN (x := o_) (y := nr) (tgt := 107) (pc := 69) Xc (dT hX1_spread 36 rfl) rfl (by omega) (by omega) (fun c69 => ?_) (fun c69 => ?_)
                  · skip
                    have hoe_ : o_ = nr := by omega
                    refine e_iincN (a := r_) (b := 1) (L' := [(4, .int (nI (r_ + 1))), (0, .ref go), (1, .ref w), (2, .int (nI (cdW nr (wayX X nr)))), (3, .int (nI n)), (5, .int (nI o_))]) (pc := 107) Xc (dT hX1_spread 54 rfl) 4 rfl rfl (by decide) rfl ?_
                    refine e_goto (tgt := 8) (pc := 110) Xc (dT hX1_spread 55 rfl) rfl ?_
                    refine Ev.pick (L' := [(0, .ref go), (1, .ref w), (2, .int (nI (cdW nr (wayX X nr)))), (3, .int (nI n)), (4, .int (nI (r_ + 1)))]) [1, 2, 3, 4, 0] rfl ?_
                    exact ih8 (r_ + 1) σ4 (by omega) (by omega) (by rw [spL]; have h_ := hG4; rw [hoe_] at h_; exact h_) hW4 hO4
                  · skip
                    refine e_aload_n (pc := 72) Xc (dT hX1_spread 37 rfl) 1 rfl ?_
                    refine e_iload (pc := 73) Xc (dT hX1_spread 38 rfl) 4 rfl ?_
                    refine e_iload (pc := 75) Xc (dT hX1_spread 39 rfl) 5 rfl ?_
                    refine cl_X1_69 (pc := 77) (k := 0) (n := 0) (S := []) Xc hPw11.o (c5_wouldChange hBw11 hL r_ o_ (by omega) (by omega)) (dT hX1_spread 40 rfl) rfl (Nat.le_of_ble_eq_true rfl) (Nat.le_of_ble_eq_true rfl) (Nat.le_of_ble_eq_true rfl) rfl (Nat.le_of_ble_eq_true rfl) (fun r12 σ13 hq14 => ?_)
                    obtain ⟨r12e, r12s⟩ := hq14
                    have r12e := r12e.symm; subst r12e; have r12s := r12s.symm; subst r12s
                    refine e_if_eq (tgt := 101) (pc := 80) Xc (dT hX1_spread 41 rfl) rfl (fun c80 => ?_) (fun c80 => ?_)
                    · skip
                      have hch_ : ¬ chF X t r_ o_ = true := by simp only [bI_0] at c80; rw [show chF X t r_ o_ = false from c80]; decide
                      refine e_iincN (a := o_) (b := 1) (L' := [(5, .int (nI (o_ + 1))), (0, .ref go), (1, .ref w), (2, .int (nI (cdW nr (wayX X nr)))), (3, .int (nI n)), (4, .int (nI r_))]) (pc := 101) Xc (dT hX1_spread 52 rfl) 5 rfl rfl (by decide) rfl ?_
                      refine e_goto (tgt := 63) (pc := 104) Xc (dT hX1_spread 53 rfl) rfl ?_
                      refine Ev.pick (L' := [(0, .ref go), (1, .ref w), (2, .int (nI (cdW nr (wayX X nr)))), (3, .int (nI n)), (4, .int (nI r_)), (5, .int (nI (o_ + 1)))]) [1, 2, 3, 4, 5, 0] rfl ?_
                      exact ih63 (o_ + 1) σ4 (by omega) (by omega) (by omega) (by rw [chB, if_neg (fun q => hch_ q.2), List.append_nil]; exact hG4) hW4 hO4
                    · skip
                      have hch_ : chF X t r_ o_ = true := by simp only [bI_0, Bool.not_eq_false] at c80; exact c80
                      have hnq_ := nb_chg (nb := nb) hro_ (by omega) hch_
                      obtain ⟨so1_, so2_, so3_⟩ := sp_ok (n := n) hG hV hok hv hnl (spL X t nr nb r_ ++ tkB X nr r_ nb ++ chB X t nr r_ o_) (fun c hc => sp_pre2 (by omega) (by omega) hc)
                      obtain ⟨hh_, hhl_, hhe_⟩ := hG.has (r := o_) (by omega) (ch_has hch_)
                      have hsw_ := swap_ch hG hV (r := r_) (by omega) (by omega) (by omega) hhe_ (by omega)
                      have hha_ : Aw11 4 o_ = nI hh_ := by rw [hWw11.2.2.2.1 o_ (by omega), hhe_, orN_nI (by omega)]
                      refine e_aload_n (pc := 83) Xc (dT hX1_spread 42 rfl) 0 rfl ?_
                      refine e_aload_n (pc := 84) Xc (dT hX1_spread 43 rfl) 1 rfl ?_
                      refine e_iload_n (pc := 85) Xc (dT hX1_spread 44 rfl) 2 rfl ?_
                      refine e_iload (pc := 86) Xc (dT hX1_spread 45 rfl) 4 rfl ?_
                      refine e_aload_n (pc := 88) Xc (dT hX1_spread 46 rfl) 1 rfl ?_
                      refine gf_X1_72 (pc := 89) Xc (dT hX1_spread 47 rfl) hPw11.o rfl ?_
                      refine e_iload (pc := 92) Xc (dT hX1_spread 48 rfl) 5 rfl ?_
                      refine cl_X1_38 (pc := 94) (k := 0) (n := 0) (S := [.int (nI r_), .int (nI (cdW nr (wayX X nr))), .ref w, .ref go]) Xc (c_get hPw11.a4 (by decide) (by decide) o_ (by omega)) (dT hX1_spread 49 rfl) rfl (Nat.le_of_ble_eq_true rfl) (Nat.le_of_ble_eq_true rfl) (Nat.le_of_ble_eq_true rfl) rfl (Nat.le_of_ble_eq_true rfl) (fun r15 σ16 hq17 => ?_)
                      obtain ⟨r15e, r15s⟩ := hq17
                      have r15e := r15e.symm; subst r15e; have r15s := r15s.symm; subst r15s
                      refine e_val (y := nI hh_) hha_ ?_
                      refine e_iload_n (pc := 97) Xc (dT hX1_spread 50 rfl) 3 rfl ?_
                      refine cl_X1_65 (pc := 98) (k := 0) (n := 0) (S := []) Xc hPg11.o (c1_step hW4 (ql := (mL n ql (spL X t nr nb r_ ++ tkB X nr r_ nb ++ chB X t nr r_ o_))) so1_ hk so3_ hG4 hgw hgt r_ hh_ n (by omega) (by omega) (by rw [hsw_]; exact vm_of (NBq_ok hG hnq_).1 (VM_NB hG hV hnq_)) hn) (dT hX1_spread 51 rfl) rfl (Nat.le_of_ble_eq_true rfl) (Nat.le_of_ble_eq_true rfl) (Nat.le_of_ble_eq_true rfl) rfl (Nat.le_of_ble_eq_true rfl) (fun σ19 hq20 => ?_)
                      obtain ⟨hGX23, hX21, ho22⟩ := hq20
                      rw [hsw_] at hGX23
                      obtain ⟨Fw24, Tw24, Aw24, hBw24, htw24⟩ := id hX21
                      have hPw24 := hBw24.1
                      have hWw24 := hBw24.2.1
                      obtain ⟨Fg24, Tg24, Ag24, hPg24, hRGg24, hFg24, hFr24⟩ := id hGX23
                      refine e_iincN (a := o_) (b := 1) (L' := [(5, .int (nI (o_ + 1))), (0, .ref go), (1, .ref w), (2, .int (nI (cdW nr (wayX X nr)))), (3, .int (nI n)), (4, .int (nI r_))]) (pc := 101) Xc (dT hX1_spread 52 rfl) 5 rfl rfl (by decide) rfl ?_
                      refine e_goto (tgt := 63) (pc := 104) Xc (dT hX1_spread 53 rfl) rfl ?_
                      refine Ev.pick (L' := [(0, .ref go), (1, .ref w), (2, .int (nI (cdW nr (wayX X nr)))), (3, .int (nI n)), (4, .int (nI r_)), (5, .int (nI (o_ + 1)))]) [1, 2, 3, 4, 5, 0] rfl ?_
                      exact ih63 (o_ + 1) σ19 (by omega) (by omega) (by omega) (by rw [chB, if_pos ⟨hro_, hch_⟩, ← List.append_assoc, mL_app]; exact hGX23) hX21 (hO4.tr ho22)
              refine Ev.pick (L' := [(0, .ref go), (1, .ref w), (2, .int (nI (cdW nr (wayX X nr)))), (3, .int (nI n)), (4, .int (nI r_)), (5, .int (nI (r_ + 1)))]) [1, 2, 3, 4, 5, 0] rfl ?_
              exact lp63 ((nr - (r_ + 1)) + 1) (r_ + 1) σ3 (Nat.lt_succ_self _) (by omega) (Nat.lt_succ_self _) (by rw [chB_nil (Nat.le_refl _), List.append_nil]; have h_ := hG3; rw [hbe_] at h_; exact h_) hW3 hO3
            · skip
              refine e_aload_n (pc := 29) Xc (dT hX1_spread 15 rfl) 1 rfl ?_
              refine e_iload (pc := 30) Xc (dT hX1_spread 16 rfl) 4 rfl ?_
              refine e_iload (pc := 32) Xc (dT hX1_spread 17 rfl) 5 rfl ?_
              refine cl_X1_61 (pc := 34) (k := 0) (n := 0) (S := []) Xc hPw10.o (c5_may hBw10 r_ b_ (by omega) (by omega)) (dT hX1_spread 18 rfl) rfl (Nat.le_of_ble_eq_true rfl) (Nat.le_of_ble_eq_true rfl) (Nat.le_of_ble_eq_true rfl) rfl (Nat.le_of_ble_eq_true rfl) (fun r25 σ26 hq27 => ?_)
              obtain ⟨r25e, r25s⟩ := hq27
              have r25e := r25e.symm; subst r25e; have r25s := r25s.symm; subst r25s
              refine e_if_eq (tgt := 51) (pc := 37) Xc (dT hX1_spread 19 rfl) rfl (fun c37 => ?_) (fun c37 => ?_)
              · skip
                have hmay_ : ¬ mayF X nr r_ b_ = true := by simp only [bI_0] at c37; rw [c37]; decide
                refine e_iincN (a := b_) (b := 1) (L' := [(5, .int (nI (b_ + 1))), (0, .ref go), (1, .ref w), (2, .int (nI (cdW nr (wayX X nr)))), (3, .int (nI n)), (4, .int (nI r_))]) (pc := 51) Xc (dT hX1_spread 27 rfl) 5 rfl rfl (by decide) rfl ?_
                refine e_goto (tgt := 20) (pc := 54) Xc (dT hX1_spread 28 rfl) rfl ?_
                refine Ev.pick (L' := [(0, .ref go), (1, .ref w), (2, .int (nI (cdW nr (wayX X nr)))), (3, .int (nI n)), (4, .int (nI r_)), (5, .int (nI (b_ + 1)))]) [1, 2, 3, 4, 5, 0] rfl ?_
                exact ih20 (b_ + 1) σ3 (by omega) (by omega) (by rw [tkB, if_neg hmay_, List.append_nil]; exact hG3) hW3 hO3
              · skip
                have hmay_ : mayF X nr r_ b_ = true := by simp only [bI_0, Bool.not_eq_false] at c37; exact c37
                have hnq_ := nb_take (t := t) (nb := nb) (by omega) (by omega) hmay_
                obtain ⟨so1_, so2_, so3_⟩ := sp_ok (n := n) hG hV hok hv hnl (spL X t nr nb r_ ++ tkB X nr r_ b_) (fun c hc => sp_pre1 (by omega) (by omega) hc)
                have hsw_ := swap_tk (r := r_) hr4 (may_on hmay_)
                refine e_aload_n (pc := 40) Xc (dT hX1_spread 20 rfl) 0 rfl ?_
                refine e_aload_n (pc := 41) Xc (dT hX1_spread 21 rfl) 1 rfl ?_
                refine e_iload_n (pc := 42) Xc (dT hX1_spread 22 rfl) 2 rfl ?_
                refine e_iload (pc := 43) Xc (dT hX1_spread 23 rfl) 4 rfl ?_
                refine e_iload (pc := 45) Xc (dT hX1_spread 24 rfl) 5 rfl ?_
                refine e_iload_n (pc := 47) Xc (dT hX1_spread 25 rfl) 3 rfl ?_
                refine cl_X1_65 (pc := 48) (k := 0) (n := 0) (S := []) Xc hPg10.o (c1_step hW3 (ql := (mL n ql (spL X t nr nb r_ ++ tkB X nr r_ b_))) so1_ hk so3_ hG3 hgw hgt r_ b_ n (by omega) (by omega) (by rw [hsw_]; exact vm_of (NBq_ok hG hnq_).1 (VM_NB hG hV hnq_)) hn) (dT hX1_spread 26 rfl) rfl (Nat.le_of_ble_eq_true rfl) (Nat.le_of_ble_eq_true rfl) (Nat.le_of_ble_eq_true rfl) rfl (Nat.le_of_ble_eq_true rfl) (fun σ29 hq30 => ?_)
                obtain ⟨hGX33, hX31, ho32⟩ := hq30
                rw [hsw_] at hGX33
                obtain ⟨Fw34, Tw34, Aw34, hBw34, htw34⟩ := id hX31
                have hPw34 := hBw34.1
                have hWw34 := hBw34.2.1
                obtain ⟨Fg34, Tg34, Ag34, hPg34, hRGg34, hFg34, hFr34⟩ := id hGX33
                refine e_iincN (a := b_) (b := 1) (L' := [(5, .int (nI (b_ + 1))), (0, .ref go), (1, .ref w), (2, .int (nI (cdW nr (wayX X nr)))), (3, .int (nI n)), (4, .int (nI r_))]) (pc := 51) Xc (dT hX1_spread 27 rfl) 5 rfl rfl (by decide) rfl ?_
                refine e_goto (tgt := 20) (pc := 54) Xc (dT hX1_spread 28 rfl) rfl ?_
                refine Ev.pick (L' := [(0, .ref go), (1, .ref w), (2, .int (nI (cdW nr (wayX X nr)))), (3, .int (nI n)), (4, .int (nI r_)), (5, .int (nI (b_ + 1)))]) [1, 2, 3, 4, 5, 0] rfl ?_
                exact ih20 (b_ + 1) σ29 (by omega) (by omega) (by rw [tkB, if_pos hmay_, ← List.append_assoc, mL_app]; exact hGX33) hX31 (hO3.tr ho32)
        refine Ev.pick (L' := [(0, .ref go), (1, .ref w), (2, .int (nI (cdW nr (wayX X nr)))), (3, .int (nI n)), (4, .int (nI r_)), (5, .int 0)]) [1, 2, 3, 4, 5, 0] rfl ?_
        exact lp20 ((nb - 0) + 1) 0 σ2 (Nat.lt_succ_self _) (Nat.zero_le _) (by rw [tkB, List.append_nil]; exact hG2) hW2 hO2
  refine Ev.pick (L' := [(0, .ref go), (1, .ref w), (2, .int (nI (cdW nr (wayX X nr)))), (3, .int (nI n)), (4, .int 0)]) [1, 2, 3, 4, 0] rfl ?_
  exact lp8 ((nr - 0) + 1) 0 σ3 (Nat.lt_succ_self _) (Nat.zero_le _) hGX7 hX5 (OffS.of ho6 (Or.inr rfl))
