set_option maxRecDepth 100000 in
set_option maxHeartbeats 4000000 in
theorem c1_search {G : xG} {σ : xS} {go : Nat} {w tw : Nat} {X : Nat → Int32} {nr nb : Nat} {t : xT} {ln : Nat} (hX : WX σ w tw X nr nb t ln) {Fg : Nat → Int32} {Tg : Nat → Nat} {Ag : Nat → Nat → Int32} (hPg : PX1 σ go Fg Tg Ag) (hL : LB X ln) (hJ : okJ X nr) (hgw : go ≠ w) (hgt : go ≠ tw) : CV G yX1_search cX1_search 4 none 5 0 0 [.ref go, .ref w] σ (fun σ1 => ∃ ql X1, GX σ1 go nr nb ql ∧ WX σ1 w tw X1 nr nb t ln ∧ RES X t nr nb ql ∧ ql.length ≤ 840 ∧ (∀ j, ¬ (1 ≤ j ∧ j ≤ nr) → X1 j = X j) ∧ OffS (fun o => o = go ∨ o = w) σ σ1) := by
  refine Met.ofX (by decide +kernel) (Nat.le_of_ble_eq_true rfl) (fun μ Xc hQ hnm => ?_)
  have Xc : xC G μ cX1_search 4 RX1 none 5 0 0 := Xc
  obtain ⟨F, T, A, hB, htw⟩ := id hX
  obtain ⟨hP, hW, hTw, hne, hG, hT⟩ := id hB
  have hr4 := hG.r4
  have hb7 := hG.b7
  show Ev G μ 4 0 0 0 [(0, .ref go), (1, .ref w)] [] σ
  refine e_aload_n (pc := 0) Xc (dT hX1_search 0 rfl) 0 rfl ?_
  refine gf_X1_11 (pc := 1) Xc (dT hX1_search 1 rfl) hPg.o rfl ?_
  refine e_bipush (v := -5) (pc := 4) Xc (dT hX1_search 2 rfl) rfl ?_
  refine cl_X1_25 (pc := 6) (k := 0) (n := 0) (S := []) Xc (c_fill hPg.a1 (by decide)) (dT hX1_search 3 rfl) rfl (Nat.le_of_ble_eq_true rfl) (Nat.le_of_ble_eq_true rfl) (Nat.le_of_ble_eq_true rfl) rfl (Nat.le_of_ble_eq_true rfl) (fun σ2 hq3 => ?_)
  obtain ⟨g4, hg5, r1s⟩ := hq3
  subst r1s
  refine Ev.gen (fun z => PX1 z go Fg Tg (upA Ag 1 g4)) (hPg.wa1 (g := g4)) Off.set (fun σ6 hP7 ho8 => ?_)
  have hP9 := hP.off ho8 (Ne.symm hgw)
  refine e_aload_n (pc := 9) Xc (dT hX1_search 4 rfl) 0 rfl ?_
  refine e_iconst (v := 0) (pc := 10) Xc (dT hX1_search 5 rfl) rfl ?_
  refine pf_X1_18 (fs' := olX1 go (upd Fg 2 0) Tg) (pc := 11) Xc (dT hX1_search 6 rfl) hP7.o (Nat.le_of_ble_eq_true rfl) rfl ?_
  refine Ev.gen (fun z => PX1 z go (upd Fg 2 0) Tg (upA Ag 1 g4)) (hP7.wf2 (x := 0)) Off.set (fun σ10 hP11 ho12 => ?_)
  have hP13 := hP9.off ho12 (Ne.symm hgw)
  refine e_aload_n (pc := 14) Xc (dT hX1_search 7 rfl) 0 rfl ?_
  refine e_aload_n (pc := 15) Xc (dT hX1_search 8 rfl) 1 rfl ?_
  refine gf_X1_31 (pc := 16) Xc (dT hX1_search 9 rfl) hP13.o rfl ?_
  refine e_val (y := nI nr) hW.2.2.2.2.2.2.1 ?_
  refine pf_X1_22 (fs' := olX1 go (upd (upd Fg 2 0) 3 (nI nr)) Tg) (pc := 19) Xc (dT hX1_search 10 rfl) hP11.o (Nat.le_of_ble_eq_true rfl) rfl ?_
  refine Ev.gen (fun z => PX1 z go (upd (upd Fg 2 0) 3 (nI nr)) Tg (upA Ag 1 g4)) (hP11.wf3 (x := nI nr)) Off.set (fun σ14 hP15 ho16 => ?_)
  have hP17 := hP13.off ho16 (Ne.symm hgw)
  refine e_aload_n (pc := 22) Xc (dT hX1_search 11 rfl) 0 rfl ?_
  refine e_aload_n (pc := 23) Xc (dT hX1_search 12 rfl) 1 rfl ?_
  refine e_iconst (v := 0) (pc := 24) Xc (dT hX1_search 13 rfl) rfl ?_
  have hXb_ : WX σ14 w tw X nr nb t ln := hX.cg (fun i => ((((OffS.of (S := fun o => o = go) ho8 rfl).tr (OffS.of (S := fun o => o = go) ho12 rfl)).tr (OffS.of (S := fun o => o = go) ho16 rfl))).cell (fun e => hgw e.symm) i) (fun i => ((((OffS.of (S := fun o => o = go) ho8 rfl).tr (OffS.of (S := fun o => o = go) ho12 rfl)).tr (OffS.of (S := fun o => o = go) ho16 rfl))).cell (fun e => hgt e.symm) i)
  have hGXb_ : GX σ14 go nr nb [] := ⟨_, _, _, hP15, ⟨fun i h => absurd h (Nat.not_lt_zero _), fun v hv => hg5 _ (cd_lt hv.1)⟩, rfl, rfl⟩
  obtain ⟨Fw18, Tw18, Aw18, hBw18, htw18⟩ := id hXb_
  have hPw18 := hBw18.1
  have hWw18 := hBw18.2.1
  obtain ⟨Fg18, Tg18, Ag18, hPg18, hRGg18, hFg18, hFr18⟩ := id hGXb_
  refine cl_X1_34 (pc := 25) (k := 0) (n := 0) (S := []) Xc hPg18.o (c1_meet (k := mskX X nr) hXb_ (ql := []) ⟨List.nodup_nil, fun q h => absurd h (List.not_mem_nil), fun i h => absurd h (Nat.not_lt_zero _)⟩ msk_lt (fun q h => absurd h (List.not_mem_nil)) hGXb_ hgw hgt (vm_of hG (VM_0 hG hJ)) 0 (by decide)) (dT hX1_search 14 rfl) rfl (Nat.le_of_ble_eq_true rfl) (Nat.le_of_ble_eq_true rfl) (Nat.le_of_ble_eq_true rfl) rfl (Nat.le_of_ble_eq_true rfl) (fun σ20 hq21 => ?_)
  obtain ⟨hGX24, ho23⟩ := hq21
  have hX22 := hXb_.off ho23 (Ne.symm hgw) (Ne.symm hgt)
  obtain ⟨Fw25, Tw25, Aw25, hBw25, htw25⟩ := id hX22
  have hPw25 := hBw25.1
  have hWw25 := hBw25.2.1
  obtain ⟨Fg25, Tg25, Ag25, hPg25, hRGg25, hFg25, hFr25⟩ := id hGX24
  refine e_iconst (v := 0) (pc := 28) Xc (dT hX1_search 15 rfl) rfl ?_
  refine e_istore_n (L' := [(2, .int 0), (0, .ref go), (1, .ref w)]) (pc := 29) Xc (dT hX1_search 16 rfl) (by decide) rfl ?_
  have lp30 : ∀ (n30 : Nat) (k_ : Nat) (ql : wQ) (X1 : Nat → Int32) (σ2 : xS), 840 - k_ < n30 → (k_ ≤ ql.length) → (BIq X t nr nb ql k_) → (VMq (mskX X nr) ql) → (∀ j, ¬ (1 ≤ j ∧ j ≤ nr) → X1 j = X j) → (GX σ2 go nr nb ql) → (WX σ2 w tw X1 nr nb t ln) → (OffS (fun o => o = go ∨ o = w) σ σ2) → Ev G μ 4 0 0 30 [(0, .ref go), (1, .ref w), (2, .int (nI k_))] [] σ2 := by
    intro n30
    induction n30 with
    | zero => intro k_ ql X1 σ2 hn; exact absurd hn (Nat.not_lt_zero _)
    | succ n30 ih30 =>
      intro k_ ql X1 σ2 hn30 hk_ hBI_ hvq_ hX1_ hG2 hW2 hO2
      have hle_ := VM_le msk_lt hBI_.1 hvq_
      obtain ⟨Fw26, Tw26, Aw26, hBw26, htw26⟩ := id hW2
      have hPw26 := hBw26.1
      have hWw26 := hBw26.2.1
      obtain ⟨Fg26, Tg26, Ag26, hPg26, hRGg26, hFg26, hFr26⟩ := id hG2
      refine e_iload_n (pc := 30) Xc (dT hX1_search 17 rfl) 2 rfl ?_
      refine e_sipush (v := 840) (pc := 31) Xc (dT hX1_search 18 rfl) rfl ?_
      refine e_icmp_geN (x := k_) (y := 840) (tgt := 76) (pc := 34) Xc (dT hX1_search 19 rfl) rfl (by omega) (by omega) (fun c34 => ?_) (fun c34 => ?_)
      · skip
        have hke_ : k_ = ql.length := by omega
        subst hke_
        refine e_vret (pc := 76) Xc hQ (dT hX1_search 41 rfl) (Nat.le_refl _) (Nat.le_refl _) ?_
        exact ⟨ql, X1, hG2, hW2, BIq_e hBI_, hle_, hX1_, hO2⟩
      · skip
        refine e_iload_n (pc := 37) Xc (dT hX1_search 20 rfl) 2 rfl ?_
        refine e_aload_n (pc := 38) Xc (dT hX1_search 21 rfl) 0 rfl ?_
        refine gf_X1_18 (pc := 39) Xc (dT hX1_search 22 rfl) hPg26.o rfl ?_
        refine e_val (y := nI ql.length) hFg26 ?_
        refine e_icmp_geN (x := k_) (y := ql.length) (tgt := 76) (pc := 42) Xc (dT hX1_search 23 rfl) rfl (by omega) (by omega) (fun c42 => ?_) (fun c42 => ?_)
        · skip
          have hke_ : k_ = ql.length := by omega
          subst hke_
          refine e_vret (pc := 76) Xc hQ (dT hX1_search 41 rfl) (Nat.le_refl _) (Nat.le_refl _) ?_
          exact ⟨ql, X1, hG2, hW2, BIq_e hBI_, hle_, hX1_, hO2⟩
        · skip
          have hk1_ : k_ < ql.length := by omega
          have hkm_ := gQ_mem hk1_
          have hvk_ := hBI_.1.2.1 _ hkm_
          obtain ⟨-, hVk_⟩ := Rch_VM hG hJ _ _ (hBI_.2.1 _ hkm_)
          have hGk_ := Gd_setW hG hvk_
          have hwc_ : wayX (setW X nr (gQ ql k_).1) nr = (gQ ql k_).1 := way_set hG hvk_
          have hdl_ := okQ_d hBI_.1 hkm_
          have hcl_ := cd_lt (nr := nr) hvk_.1
          have hnl_ : (gQ ql k_).2 + 1 ≤ ql.length := by have := hBI_.1.2.2 k_ hk1_; omega
          obtain ⟨so1_, so2_, so3_⟩ := sp_ok (t := t) (n := (gQ ql k_).2 + 1) hGk_ hVk_ hBI_.1 hvq_ hnl_ (spL (setW X nr (gQ ql k_).1) t nr nb nr) (fun c hc => spL_nb.mp hc)
          refine e_aload_n (pc := 45) Xc (dT hX1_search 24 rfl) 0 rfl ?_
          refine gf_X1_15 (pc := 46) Xc (dT hX1_search 25 rfl) hPg26.o rfl ?_
          refine e_iload_n (pc := 49) Xc (dT hX1_search 26 rfl) 2 rfl ?_
          refine cl_X1_38 (pc := 50) (k := 0) (n := 0) (S := []) Xc (c_get hPg26.a2 (by decide) (by decide) k_ (by omega)) (dT hX1_search 27 rfl) rfl (Nat.le_of_ble_eq_true rfl) (Nat.le_of_ble_eq_true rfl) (Nat.le_of_ble_eq_true rfl) rfl (Nat.le_of_ble_eq_true rfl) (fun r27 σ28 hq29 => ?_)
          obtain ⟨r27e, r27s⟩ := hq29
          have r27e := r27e.symm; subst r27e; have r27s := r27s.symm; subst r27s
          refine e_val (y := nI (cdW nr (gQ ql k_).1)) (hRGg26.1 k_ hk1_) ?_
          refine e_istore_n (L' := [(3, .int (nI (cdW nr (gQ ql k_).1))), (0, .ref go), (1, .ref w), (2, .int (nI k_))]) (pc := 53) Xc (dT hX1_search 28 rfl) (by decide) rfl ?_
          refine e_aload_n (pc := 54) Xc (dT hX1_search 29 rfl) 1 rfl ?_
          refine e_aload_n (pc := 55) Xc (dT hX1_search 30 rfl) 2 rfl ?_
          refine e_iload_n (pc := 56) Xc (dT hX1_search 31 rfl) 0 rfl ?_
          refine e_aload_n (pc := 57) Xc (dT hX1_search 32 rfl) 1 rfl ?_
          refine gf_X1_11 (pc := 58) Xc (dT hX1_search 33 rfl) hPg26.o rfl ?_
          refine e_iload_n (pc := 61) Xc (dT hX1_search 34 rfl) 0 rfl ?_
          refine cl_X1_38 (pc := 62) (k := 0) (n := 0) (S := [.int (nI (cdW nr (gQ ql k_).1)), .ref w, .ref go]) Xc (c_get hPg26.a1 (by decide) (by decide) (cdW nr (gQ ql k_).1) (by omega)) (dT hX1_search 35 rfl) rfl (Nat.le_of_ble_eq_true rfl) (Nat.le_of_ble_eq_true rfl) (Nat.le_of_ble_eq_true rfl) rfl (Nat.le_of_ble_eq_true rfl) (fun r30 σ31 hq32 => ?_)
          obtain ⟨r30e, r30s⟩ := hq32
          have r30e := r30e.symm; subst r30e; have r30s := r30s.symm; subst r30s
          refine e_val (y := nI ((gQ ql k_).2)) ((hRGg26.2 _ hvk_).trans (by rw [lkQ_mem hBI_.1 hkm_, orN_nI (by omega)])) ?_
          refine e_iconst (v := 1) (pc := 65) Xc (dT hX1_search 36 rfl) rfl ?_
          refine e_iaddN (a := (gQ ql k_).2) (b := 1) (pc := 66) Xc (dT hX1_search 37 rfl) ?_
          have hsp_ := c1_spread (G := G) hW2 hGk_ (by rw [hwc_]; exact setW_cg hX1_) hL.setW hBI_.1 msk_lt hvq_ hVk_ hG2 hgw hgt ((gQ ql k_).2 + 1) (by omega) hnl_
          rw [hwc_] at hsp_
          refine cl_X1_42 (pc := 67) (k := 0) (n := 0) (S := []) Xc hPg26.o hsp_ (dT hX1_search 38 rfl) rfl (Nat.le_of_ble_eq_true rfl) (Nat.le_of_ble_eq_true rfl) (Nat.le_of_ble_eq_true rfl) rfl (Nat.le_of_ble_eq_true rfl) (fun σ34 hq35 => ?_)
          obtain ⟨hGX38, hX36, ho37⟩ := hq35
          refine e_iincN (a := k_) (b := 1) (L' := [(2, .int (nI (k_ + 1))), (3, .int (nI (cdW nr (gQ ql k_).1))), (0, .ref go), (1, .ref w)]) (pc := 70) Xc (dT hX1_search 39 rfl) 3 rfl rfl (by decide) rfl ?_
          refine e_goto (tgt := 30) (pc := 73) Xc (dT hX1_search 40 rfl) rfl ?_
          refine Ev.pick (L' := [(0, .ref go), (1, .ref w), (2, .int (nI (k_ + 1)))]) [2, 3, 0] rfl ?_
          exact ih30 (k_ + 1) (mL ((gQ ql k_).2 + 1) ql (spL (setW X nr (gQ ql k_).1) t nr nb nr)) (setW X nr (gQ ql k_).1) σ34 (by omega) (by omega) (BIq_s hG hBI_ hk1_ (fun c => spL_nb)) so3_ (fun j h => setW_n h) hGX38 hX36 (hO2.tr ho37)
  refine Ev.pick (L' := [(0, .ref go), (1, .ref w), (2, .int 0)]) [1, 2, 0] rfl ?_
  exact lp30 ((840 - 0) + 1) 0 ([(wayX X nr, 0)]) X σ20 (Nat.lt_succ_self _) (Nat.zero_le _) (BIq_0 hG) (fun q h => by rw [List.mem_singleton.mp h]; exact vm_of hG (VM_0 hG hJ)) (fun j h => rfl) hGX24 hX22 ((((OffS.of ho8 (Or.inl rfl)).tr (OffS.of ho12 (Or.inl rfl))).tr (OffS.of ho16 (Or.inl rfl))).tr (OffS.of ho23 (Or.inl rfl)))
set_option maxRecDepth 100000 in
set_option maxHeartbeats 4000000 in
theorem c1_fewest {G : xG} {σ : xS} {go nr nb : Nat} {ql : wQ} (hGX : GX σ go nr nb ql) (hok : okQ nr nb ql) (hle : ql.length ≤ 840) (hr4 : nr ≤ 4) (hb7 : nb ≤ 7) (r b : Nat) (hr : r < nr) (hb : b < nb) : CI G yX1_fewest cX1_fewest 5 (some .int) 1 0 0 [.ref go, .int (nI r), .int (nI b)] σ (fun z σ1 => z = fewL ql r (nI b) ∧ σ1 = σ) := by
  refine Met.ofX (by decide +kernel) (Nat.le_of_ble_eq_true rfl) (fun μ Xc hQ hnm => ?_)
  have Xc : xC G μ cX1_fewest 5 RX1 (some .int) 1 0 0 := Xc
  obtain ⟨Fg, Tg, Ag, hPg, hRG, hFg, hFr⟩ := hGX
  have lp2 : ∀ (n2 : Nat) (k_ : Nat), ql.length - k_ < n2 → (k_ ≤ ql.length) → ((ql.take k_).find? (fun q => hsW q.1 r == nI b) = none) → Ev G μ 5 0 0 2 [(0, .ref go), (1, .int (nI r)), (2, .int (nI b)), (3, .int (nI k_))] [] σ := by
    intro n2
    induction n2 with
    | zero => intro k_ hn; exact absurd hn (Nat.not_lt_zero _)
    | succ n2 ih2 =>
      intro k_ hn2 hk_ hs_
      refine e_iload_n (pc := 2) Xc (dT hX1_fewest 2 rfl) 3 rfl ?_
      refine e_aload_n (pc := 3) Xc (dT hX1_fewest 3 rfl) 0 rfl ?_
      refine gf_X1_18 (pc := 4) Xc (dT hX1_fewest 4 rfl) hPg.o rfl ?_
      refine e_val (y := nI ql.length) hFg ?_
      refine e_icmp_geN (x := k_) (y := ql.length) (tgt := 50) (pc := 7) Xc (dT hX1_fewest 5 rfl) rfl (by omega) (by omega) (fun c7 => ?_) (fun c7 => ?_)
      · skip
        have hke_ : k_ = ql.length := by omega
        refine e_bipush (v := -5) (pc := 50) Xc (dT hX1_fewest 25 rfl) rfl ?_
        refine e_iret (pc := 52) Xc hQ (dT hX1_fewest 26 rfl) (Nat.le_refl _) (Nat.le_refl _) ?_
        rw [tk_e (by omega)] at hs_
        exact ⟨(few_miss hs_).symm, rfl⟩
      · skip
        have hk1_ : k_ < ql.length := by omega
        have hkm_ := gQ_mem hk1_
        have hvk_ := hok.2.1 _ hkm_
        have hcl_ := cd_lt (nr := nr) hvk_.1
        have hdl_ := okQ_d hok hkm_
        have hd8_ : dgW (gQ ql k_).1 r < 8 := Nat.mod_lt _ (by decide)
        refine e_aload_n (pc := 10) Xc (dT hX1_fewest 6 rfl) 0 rfl ?_
        refine gf_X1_15 (pc := 11) Xc (dT hX1_fewest 7 rfl) hPg.o rfl ?_
        refine e_iload_n (pc := 14) Xc (dT hX1_fewest 8 rfl) 3 rfl ?_
        refine cl_X1_38 (pc := 15) (k := 0) (n := 0) (S := []) Xc (c_get hPg.a2 (by decide) (by decide) k_ (by omega)) (dT hX1_fewest 9 rfl) rfl (Nat.le_of_ble_eq_true rfl) (Nat.le_of_ble_eq_true rfl) (Nat.le_of_ble_eq_true rfl) rfl (Nat.le_of_ble_eq_true rfl) (fun r1 σ2 hq3 => ?_)
        obtain ⟨r1e, r1s⟩ := hq3
        have r1e := r1e.symm; subst r1e; have r1s := r1s.symm; subst r1s
        refine e_val (y := nI (cdW nr (gQ ql k_).1)) (hRG.1 k_ hk1_) ?_
        refine e_istore (L' := [(4, .int (nI (cdW nr (gQ ql k_).1))), (0, .ref go), (1, .int (nI r)), (2, .int (nI b)), (3, .int (nI k_))]) (pc := 18) Xc (dT hX1_fewest 10 rfl) (by decide) rfl ?_
        refine e_iload (pc := 20) Xc (dT hX1_fewest 11 rfl) 0 rfl ?_
        refine e_iload_n (pc := 22) Xc (dT hX1_fewest 12 rfl) 2 rfl ?_
        refine e_aload_n (pc := 23) Xc (dT hX1_fewest 13 rfl) 1 rfl ?_
        refine gf_X1_22 (pc := 24) Xc (dT hX1_fewest 14 rfl) hPg.o rfl ?_
        refine e_val (y := nI nr) hFr ?_
        refine cl_X1_79 (pc := 27) (k := 0) (n := 0) (S := []) Xc (c6_heldIn (cdW nr (gQ ql k_).1) r nr (cd_lt hvk_.1) (by omega) hr4) (dT hX1_fewest 15 rfl) rfl (Nat.le_of_ble_eq_true rfl) (Nat.le_of_ble_eq_true rfl) (Nat.le_of_ble_eq_true rfl) rfl (Nat.le_of_ble_eq_true rfl) (fun r4 σ5 hq6 => ?_)
        obtain ⟨r4e, r4s⟩ := hq6
        rw [cd_dg (by omega) hr4] at r4e
        have r4e := r4e.symm; subst r4e; have r4s := r4s.symm; subst r4s
        refine e_iload_n (pc := 30) Xc (dT hX1_fewest 16 rfl) 3 rfl ?_
        refine e_icmp_neN (x := dgW ((gQ ql k_).1) r) (y := b) (tgt := 44) (pc := 31) Xc (dT hX1_fewest 17 rfl) rfl (by omega) (by omega) (fun c31 => ?_) (fun c31 => ?_)
        · skip
          refine e_iincN (a := k_) (b := 1) (L' := [(3, .int (nI (k_ + 1))), (4, .int (nI (cdW nr (gQ ql k_).1))), (0, .ref go), (1, .int (nI r)), (2, .int (nI b))]) (pc := 44) Xc (dT hX1_fewest 23 rfl) 4 rfl rfl (by decide) rfl ?_
          refine e_goto (tgt := 2) (pc := 47) Xc (dT hX1_fewest 24 rfl) rfl ?_
          refine Ev.pick (L' := [(0, .ref go), (1, .int (nI r)), (2, .int (nI b)), (3, .int (nI (k_ + 1)))]) [2, 3, 4, 0] rfl ?_
          exact ih2 (k_ + 1) (by omega) (by omega) (by rw [tk_s hk1_, List.find?_append, hs_]; simp [show ¬ hsW (gQ ql k_).1 r = nI b from fun q => c31 ((hs_eq (by omega)).mp q)])
        · skip
          refine e_aload_n (pc := 34) Xc (dT hX1_fewest 18 rfl) 1 rfl ?_
          refine gf_X1_11 (pc := 35) Xc (dT hX1_fewest 19 rfl) hPg.o rfl ?_
          refine e_iload (pc := 38) Xc (dT hX1_fewest 20 rfl) 0 rfl ?_
          refine cl_X1_38 (pc := 40) (k := 0) (n := 0) (S := []) Xc (c_get hPg.a1 (by decide) (by decide) (cdW nr (gQ ql k_).1) (by omega)) (dT hX1_fewest 21 rfl) rfl (Nat.le_of_ble_eq_true rfl) (Nat.le_of_ble_eq_true rfl) (Nat.le_of_ble_eq_true rfl) rfl (Nat.le_of_ble_eq_true rfl) (fun r7 σ8 hq9 => ?_)
          obtain ⟨r7e, r7s⟩ := hq9
          have r7e := r7e.symm; subst r7e; have r7s := r7s.symm; subst r7s
          refine e_val (y := nI ((gQ ql k_).2)) ((hRG.2 _ hvk_).trans (by rw [lkQ_mem hok hkm_, orN_nI (by omega)])) ?_
          refine e_iret (pc := 43) Xc hQ (dT hX1_fewest 22 rfl) (Nat.le_refl _) (Nat.le_refl _) ?_
          exact ⟨(few_hit hk1_ hs_ ((hs_eq (by omega)).mpr c31)).symm, rfl⟩
  show Ev G μ 5 0 0 0 [(0, .ref go), (1, .int (nI r)), (2, .int (nI b))] [] σ
  refine e_iconst (v := 0) (pc := 0) Xc (dT hX1_fewest 0 rfl) rfl ?_
  refine e_istore_n (L' := [(3, .int 0), (0, .ref go), (1, .int (nI r)), (2, .int (nI b))]) (pc := 1) Xc (dT hX1_fewest 1 rfl) (by decide) rfl ?_
  refine Ev.pick (L' := [(0, .ref go), (1, .int (nI r)), (2, .int (nI b)), (3, .int 0)]) [1, 2, 3, 0] rfl ?_
  exact lp2 ((ql.length - 0) + 1) 0 (Nat.lt_succ_self _) (Nat.zero_le _) rfl
set_option maxRecDepth 100000 in
set_option maxHeartbeats 4000000 in
theorem c1_reached {G : xG} {σ : xS} {go nr nb : Nat} {ql : wQ} (hGX : GX σ go nr nb ql) (hok : okQ nr nb ql) (hle : ql.length ≤ 840) (hr4 : nr ≤ 4) (hb7 : nb ≤ 7) (r : Nat) (hr : r < nr) : CI G yX1_reached cX1_reached 5 (some .int) 1 0 0 [.ref go, .int (nI r)] σ (fun z σ1 => z = reachL ql nb r ∧ σ1 = σ) := by
  refine Met.ofX (by decide +kernel) (Nat.le_of_ble_eq_true rfl) (fun μ Xc hQ hnm => ?_)
  have Xc : xC G μ cX1_reached 5 RX1 (some .int) 1 0 0 := Xc
  obtain ⟨Fg, Tg, Ag, hPg, hRG, hFg, hFr⟩ := hGX
  have lp4 : ∀ (n4 : Nat) (k_ : Nat) (ac_ : Int32), ql.length - k_ < n4 → (k_ ≤ ql.length) → (ac_ = nI (bitN (rchP ql r k_) nb)) → Ev G μ 5 0 0 4 [(0, .ref go), (1, .int (nI r)), (2, .int ac_), (3, .int (nI k_))] [] σ := by
    intro n4
    induction n4 with
    | zero => intro k_ ac_ hn; exact absurd hn (Nat.not_lt_zero _)
    | succ n4 ih4 =>
      intro k_ ac_ hn4 hk_ ha_
      refine e_iload_n (pc := 4) Xc (dT hX1_reached 4 rfl) 3 rfl ?_
      refine e_aload_n (pc := 5) Xc (dT hX1_reached 5 rfl) 0 rfl ?_
      refine gf_X1_18 (pc := 6) Xc (dT hX1_reached 6 rfl) hPg.o rfl ?_
      refine e_val (y := nI ql.length) hFg ?_
      refine e_icmp_geN (x := k_) (y := ql.length) (tgt := 50) (pc := 9) Xc (dT hX1_reached 7 rfl) rfl (by omega) (by omega) (fun c9 => ?_) (fun c9 => ?_)
      · skip
        have hke_ : k_ = ql.length := by omega
        refine e_iload_n (pc := 50) Xc (dT hX1_reached 28 rfl) 2 rfl ?_
        refine e_iret (pc := 51) Xc hQ (dT hX1_reached 29 rfl) (Nat.le_refl _) (Nat.le_refl _) ?_
        refine ⟨?_, rfl⟩
        rw [reach_bits hok hb7, ← hke_]
        exact ha_
      · skip
        have hk1_ : k_ < ql.length := by omega
        have hkm_ := gQ_mem hk1_
        have hvk_ := hok.2.1 _ hkm_
        have hcl_ := cd_lt (nr := nr) hvk_.1
        have hdl_ := okQ_d hok hkm_
        have hd8_ : dgW (gQ ql k_).1 r < 8 := Nat.mod_lt _ (by decide)
        refine e_aload_n (pc := 12) Xc (dT hX1_reached 8 rfl) 0 rfl ?_
        refine gf_X1_15 (pc := 13) Xc (dT hX1_reached 9 rfl) hPg.o rfl ?_
        refine e_iload_n (pc := 16) Xc (dT hX1_reached 10 rfl) 3 rfl ?_
        refine cl_X1_38 (pc := 17) (k := 0) (n := 0) (S := []) Xc (c_get hPg.a2 (by decide) (by decide) k_ (by omega)) (dT hX1_reached 11 rfl) rfl (Nat.le_of_ble_eq_true rfl) (Nat.le_of_ble_eq_true rfl) (Nat.le_of_ble_eq_true rfl) rfl (Nat.le_of_ble_eq_true rfl) (fun r1 σ2 hq3 => ?_)
        obtain ⟨r1e, r1s⟩ := hq3
        have r1e := r1e.symm; subst r1e; have r1s := r1s.symm; subst r1s
        refine e_val (y := nI (cdW nr (gQ ql k_).1)) (hRG.1 k_ hk1_) ?_
        refine e_iload_n (pc := 20) Xc (dT hX1_reached 12 rfl) 1 rfl ?_
        refine e_aload_n (pc := 21) Xc (dT hX1_reached 13 rfl) 0 rfl ?_
        refine gf_X1_22 (pc := 22) Xc (dT hX1_reached 14 rfl) hPg.o rfl ?_
        refine e_val (y := nI nr) hFr ?_
        refine cl_X1_79 (pc := 25) (k := 0) (n := 0) (S := []) Xc (c6_heldIn (cdW nr (gQ ql k_).1) r nr (cd_lt hvk_.1) (by omega) hr4) (dT hX1_reached 15 rfl) rfl (Nat.le_of_ble_eq_true rfl) (Nat.le_of_ble_eq_true rfl) (Nat.le_of_ble_eq_true rfl) rfl (Nat.le_of_ble_eq_true rfl) (fun r4 σ5 hq6 => ?_)
        obtain ⟨r4e, r4s⟩ := hq6
        rw [cd_dg (by omega) hr4] at r4e
        have r4e := r4e.symm; subst r4e; have r4s := r4s.symm; subst r4s
        refine e_istore (L' := [(4, .int (nI (dgW ((gQ ql k_).1) r))), (0, .ref go), (1, .int (nI r)), (2, .int ac_), (3, .int (nI k_))]) (pc := 28) Xc (dT hX1_reached 16 rfl) (by decide) rfl ?_
        refine e_iload (pc := 30) Xc (dT hX1_reached 17 rfl) 0 rfl ?_
        refine e_bipush (v := 7) (pc := 32) Xc (dT hX1_reached 18 rfl) rfl ?_
        refine e_icmp_eqN (x := dgW ((gQ ql k_).1) r) (y := 7) (tgt := 44) (pc := 34) Xc (dT hX1_reached 19 rfl) rfl (by omega) (by omega) (fun c34 => ?_) (fun c34 => ?_)
        · skip
          refine e_iincN (a := k_) (b := 1) (L' := [(3, .int (nI (k_ + 1))), (4, .int (nI (dgW ((gQ ql k_).1) r))), (0, .ref go), (1, .int (nI r)), (2, .int ac_)]) (pc := 44) Xc (dT hX1_reached 26 rfl) 4 rfl rfl (by decide) rfl ?_
          refine e_goto (tgt := 4) (pc := 47) Xc (dT hX1_reached 27 rfl) rfl ?_
          refine Ev.pick (L' := [(0, .ref go), (1, .int (nI r)), (2, .int ac_), (3, .int (nI (k_ + 1)))]) [2, 3, 4, 0] rfl ?_
          exact ih4 (k_ + 1) ac_ (by omega) (by omega) (by rw [ha_]; exact congrArg nI (bitN_cg (fun b hb => by rw [rchP_s hk1_, beq_eq_false_iff_ne.mpr (fun q => by have := (hs_eq (show b < 7 by omega)).mp q; omega), Bool.or_false])))
        · skip
          have hdn_ : dgW (gQ ql k_).1 r < nb := ((hvk_.2 r (by omega)).resolve_left c34).2
          refine e_iload_n (pc := 37) Xc (dT hX1_reached 20 rfl) 3 rfl ?_
          refine e_iconst (v := 1) (pc := 38) Xc (dT hX1_reached 21 rfl) rfl ?_
          refine e_iload (pc := 39) Xc (dT hX1_reached 22 rfl) 0 rfl ?_
          refine e_ishl (pc := 41) Xc (dT hX1_reached 23 rfl) ?_
          refine e_ior (pc := 42) Xc (dT hX1_reached 24 rfl) ?_
          refine e_istore_n (L' := [(2, .int (ac_ ||| (1 <<< ((nI (dgW ((gQ ql k_).1) r)) &&& 31)))), (4, .int (nI (dgW ((gQ ql k_).1) r))), (0, .ref go), (1, .int (nI r)), (3, .int (nI k_))]) (pc := 43) Xc (dT hX1_reached 25 rfl) (by decide) rfl ?_
          refine e_iincN (a := k_) (b := 1) (L' := [(3, .int (nI (k_ + 1))), (2, .int (ac_ ||| (1 <<< ((nI (dgW ((gQ ql k_).1) r)) &&& 31)))), (4, .int (nI (dgW ((gQ ql k_).1) r))), (0, .ref go), (1, .int (nI r))]) (pc := 44) Xc (dT hX1_reached 26 rfl) 4 rfl rfl (by decide) rfl ?_
          refine e_goto (tgt := 4) (pc := 47) Xc (dT hX1_reached 27 rfl) rfl ?_
          refine Ev.pick (L' := [(0, .ref go), (1, .int (nI r)), (2, .int (ac_ ||| (1 <<< ((nI (dgW ((gQ ql k_).1) r)) &&& 31)))), (3, .int (nI (k_ + 1)))]) [3, 4, 1, 0] rfl ?_
          exact ih4 (k_ + 1) (ac_ ||| (1 <<< ((nI (dgW ((gQ ql k_).1) r)) &&& 31))) (by omega) (by omega) (by rw [ha_, bitN_set hb7 hdn_]; exact congrArg nI (bitN_cg (fun b hb => by rw [rchP_s hk1_]; congr 1; by_cases e_ : b = dgW (gQ ql k_).1 r; (rw [e_, (hs_eq (by omega)).mpr rfl]; simp); (rw [beq_eq_false_iff_ne.mpr (fun q => e_ ((hs_eq (by omega)).mp q).symm)]; simp [e_]))))
  show Ev G μ 5 0 0 0 [(0, .ref go), (1, .int (nI r))] [] σ
  refine e_iconst (v := 0) (pc := 0) Xc (dT hX1_reached 0 rfl) rfl ?_
  refine e_istore_n (L' := [(2, .int 0), (0, .ref go), (1, .int (nI r))]) (pc := 1) Xc (dT hX1_reached 1 rfl) (by decide) rfl ?_
  refine e_iconst (v := 0) (pc := 2) Xc (dT hX1_reached 2 rfl) rfl ?_
  refine e_istore_n (L' := [(3, .int 0), (2, .int 0), (0, .ref go), (1, .int (nI r))]) (pc := 3) Xc (dT hX1_reached 3 rfl) (by decide) rfl ?_
  refine Ev.pick (L' := [(0, .ref go), (1, .int (nI r)), (2, .int 0), (3, .int 0)]) [2, 3, 1, 0] rfl ?_
  exact lp4 ((ql.length - 0) + 1) 0 0 (Nat.lt_succ_self _) (Nat.zero_le _) (show (0 : Int32) = nI (bitN (rchP ql r 0) nb) from congrArg nI (bitN_0 nb).symm)
