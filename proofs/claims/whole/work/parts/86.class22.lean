set_option maxRecDepth 100000 in
set_option maxHeartbeats 4000000 in
theorem c5_goBackV {G : xG} {σ : xS} {w o tw tw2 : Nat} {X Y X0 : Nat → Int32} {nr nb : Nat} {t : xT} {ln l2 : Nat} (hX5 : WX σ w tw X nr nb t ln) (hX : WX σ o tw2 X0 nr nb t l2) (hwo : w ≠ o) (hXY : ∀ j, 5 ≤ j → X j = Y j) (hYX : ∀ j, j < 5 → Y j = X0 j) (hGY : Gd Y nr nb) (hTY : Hd Y t) : CV G yX5_goBack cX5_goBack 2 none 2 0 0 [.ref w, .ref o] σ (fun σ1 => WX σ1 w tw Y nr nb t ln ∧ Off w σ σ1) := by
  refine Met.ofX (by decide +kernel) (Nat.le_of_ble_eq_true rfl) (fun μ Xc hQ hnm => ?_)
  have Xc : xC G μ cX5_goBack 2 RX5 none 2 0 0 := Xc
  obtain ⟨F5, T5, A5, hB5, htw5⟩ := id hX5
  obtain ⟨hP5, hW5, hTw5, hne5, hG5, hT5⟩ := id hB5
  obtain ⟨F, T, A, hB, htw⟩ := id hX
  obtain ⟨hP, hW, hTw, hne, hG, hT⟩ := id hB
  have hr4 := hG.r4
  show Ev G μ 2 0 0 0 [(0, .ref w), (1, .ref o)] [] σ
  refine e_aload_n (pc := 0) Xc (dT hX5_goBack 0 rfl) 1 rfl ?_
  refine gf_X5_21 (pc := 1) Xc (dT hX5_goBack 1 rfl) hP.o rfl ?_
  refine e_aload_n (pc := 4) Xc (dT hX5_goBack 2 rfl) 0 rfl ?_
  refine gf_X5_21 (pc := 5) Xc (dT hX5_goBack 3 rfl) hP5.o rfl ?_
  refine cl_X5_56 (pc := 8) (k := 0) (n := 0) (S := []) Xc (c_copyRow hP.a4 hP5.a4 (fun q => absurd (congrArg Prod.fst q) (Ne.symm hwo)) (by decide)) (dT hX5_goBack 4 rfl) rfl (Nat.le_of_ble_eq_true rfl) (Nat.le_of_ble_eq_true rfl) (Nat.le_of_ble_eq_true rfl) rfl (Nat.le_of_ble_eq_true rfl) (fun σ2 hq3 => ?_)
  obtain ⟨g4, hg5, r1s⟩ := hq3
  subst r1s
  refine Ev.gen (fun z => PX5 z w F5 T5 (upA A5 4 g4)) (hP5.wa4 (g := g4)) Off.set (fun σ6 hP7 ho8 => ?_)
  have hP9 := hP.off ho8 (Ne.symm hwo)
  refine e_aload_n (pc := 11) Xc (dT hX5_goBack 5 rfl) 0 rfl ?_
  refine e_aload_n (pc := 12) Xc (dT hX5_goBack 6 rfl) 1 rfl ?_
  refine gf_X5_43 (pc := 13) Xc (dT hX5_goBack 7 rfl) hP9.o rfl ?_
  refine pf_X5_43 (fs' := olX5 w (upd F5 10 (F 10)) T5) (pc := 16) Xc (dT hX5_goBack 8 rfl) hP7.o (Nat.le_of_ble_eq_true rfl) rfl ?_
  refine Ev.gen (fun z => PX5 z w (upd F5 10 (F 10)) T5 (upA A5 4 g4)) (hP7.wf10 (x := F 10)) Off.set (fun σ10 hP11 ho12 => ?_)
  have hP13 := hP9.off ho12 (Ne.symm hwo)
  refine e_vret (pc := 19) Xc hQ (dT hX5_goBack 9 rfl) (Nat.le_refl _) (Nat.le_refl _) ?_
  exact ⟨⟨_, T5, _, ⟨hP11, hW5.backV hW hXY hYX hg5 (fun i hi => upA_n hi) rfl (fun i hi => upd_n hi) hr4, hTw5.off (ho8.tr ho12) (Ne.symm hne5), hne5, hGY, hTY⟩, htw5⟩, (ho8.tr ho12)⟩
set_option maxRecDepth 100000 in
set_option maxHeartbeats 4000000 in
theorem c6_totalBy {G : xG} {σ : xS} {x : Nat} {Fx : Nat → Int32} {Ax : Nat → Nat → Int32} (hx : PX6 σ x Fx (t6 x) Ax) {tw nr nb : Nat} {X : Nat → Int32} {t : xT} {ln : Nat} (hXn : WX σ (x + 1) tw X nr nb t ln) (ht13 : tw ≠ x + 13) {X1 : Nat → Int32} {l1 : Nat} (hXt : WX σ (x + 13) tw X1 nr nb t l1) (hX1 : ∀ j, 5 ≤ j → X1 j = X j) {dy : Nat} (hdy : dy ≤ 9999) (hd0 : X 0 = nI dy) (hbt : l1.testBit (dy % 10) = true) (c : Nat) (hc : c < 256) (hod : isOd c nr = true) : CI G yX6_totalBy cX6_totalBy 3 (some .int) 5 0 0 [.ref x, .int (nI c)] σ (fun z σ1 => z = totF (comesL X t nr nb (odL c nr)) t nr ∧ WX σ1 (x + 13) tw (comesL X t nr nb (odL c nr)) nr nb t l1 ∧ Off (x + 13) σ σ1) := by
  refine Met.ofX (by decide +kernel) (Nat.le_of_ble_eq_true rfl) (fun μ Xc hQ hnm => ?_)
  have Xc : xC G μ cX6_totalBy 3 RX6 (some .int) 5 0 0 := Xc
  have hr4 := hXn.gd.1.r4
  show Ev G μ 3 0 0 0 [(0, .ref x), (1, .int (nI c))] [] σ
  obtain ⟨Fw1, Tw1, Aw1, hBw1, htw1⟩ := id hXn
  have hWw1 := hBw1.2.1
  obtain ⟨Fw2, Tw2, Aw2, hBw2, htw2⟩ := id hXt
  have hWw2 := hBw2.2.1
  refine e_aload_n (pc := 0) Xc (dT hX6_totalBy 0 rfl) 0 rfl ?_
  refine gf_X6_18 (pc := 1) Xc (dT hX6_totalBy 1 rfl) hx.o rfl ?_
  refine e_aload_n (pc := 4) Xc (dT hX6_totalBy 2 rfl) 0 rfl ?_
  refine gf_X6_12 (pc := 5) Xc (dT hX6_totalBy 3 rfl) hx.o rfl ?_
  refine cl_X6_243 (pc := 8) (k := 0) (n := 0) (S := []) Xc hBw2.1.o (c5_goBack ⟨Fw2, Tw2, Aw2, hBw2, htw2⟩ ⟨Fw1, Tw1, Aw1, hBw1, htw1⟩ (by omega) hX1) (dT hX6_totalBy 4 rfl) rfl (Nat.le_of_ble_eq_true rfl) (Nat.le_of_ble_eq_true rfl) (Nat.le_of_ble_eq_true rfl) rfl (Nat.le_of_ble_eq_true rfl) (fun σ4 hq5 => ?_)
  obtain ⟨hT6, ho7⟩ := hq5
  have hP8 := hx.off ho7 (by omega)
  have hB9 := hBw1.off ho7 (by omega) (by rw [htw1]; omega)
  obtain ⟨Fw10, Tw10, Aw10, hBw10, htw10⟩ := id hT6
  have hWw10 := hBw10.2.1
  refine e_iconst (v := 0) (pc := 11) Xc (dT hX6_totalBy 5 rfl) rfl ?_
  refine e_istore_n (L' := [(2, .int 0), (0, .ref x), (1, .int (nI c))]) (pc := 12) Xc (dT hX6_totalBy 6 rfl) (by decide) rfl ?_
  have lp13 : ∀ (n13 : Nat) (k_ : Nat) (σ2 : xS), nr - k_ < n13 → (k_ ≤ nr) → (WX σ2 (x + 13) tw (comesL X t nr nb (pfx c nr k_)) nr nb t l1) → (Off (x + 13) σ4 σ2) → Ev G μ 3 0 0 13 [(0, .ref x), (1, .int (nI c)), (2, .int (nI k_))] [] σ2 := by
    intro n13
    induction n13 with
    | zero => intro k_ σ2 hn; exact absurd hn (Nat.not_lt_zero _)
    | succ n13 ih13 =>
      intro k_ σ2 hn13 hk_ hT2 hO2
      have hP11 := hP8.off hO2 (by omega)
      have hB12 := hB9.off hO2 (by omega) (by rw [htw1]; omega)
      obtain ⟨Fw13, Tw13, Aw13, hBw13, htw13⟩ := id hT2
      have hWw13 := hBw13.2.1
      refine e_iload_n (pc := 13) Xc (dT hX6_totalBy 7 rfl) 2 rfl ?_
      refine e_aload_n (pc := 14) Xc (dT hX6_totalBy 8 rfl) 0 rfl ?_
      refine gf_X6_12 (pc := 15) Xc (dT hX6_totalBy 9 rfl) hP11.o rfl ?_
      refine gf_X6_92 (pc := 18) Xc (dT hX6_totalBy 10 rfl) hB12.1.o rfl ?_
      refine e_val (y := nI nr) hWw1.2.2.2.2.2.2.1 ?_
      refine e_icmp_geN (x := k_) (y := nr) (tgt := 44) (pc := 21) Xc (dT hX6_totalBy 11 rfl) rfl (by omega) (by omega) (fun c21 => ?_) (fun c21 => ?_)
      · skip
        refine e_aload_n (pc := 44) Xc (dT hX6_totalBy 22 rfl) 0 rfl ?_
        refine gf_X6_18 (pc := 45) Xc (dT hX6_totalBy 23 rfl) hP11.o rfl ?_
        refine cl_X6_148 (pc := 48) (k := 0) (n := 0) (S := []) Xc hBw13.1.o (c5_total hBw13 ⟨dy, by omega, (cm_0 _).trans hd0, hbt⟩) (dT hX6_totalBy 24 rfl) rfl (Nat.le_of_ble_eq_true rfl) (Nat.le_of_ble_eq_true rfl) (Nat.le_of_ble_eq_true rfl) rfl (Nat.le_of_ble_eq_true rfl) (fun r14 σ15 hq16 => ?_)
        obtain ⟨r14e, r14s⟩ := hq16
        have r14e := r14e.symm; subst r14e; have r14s := r14s.symm; subst r14s
        refine e_iret (pc := 51) Xc hQ (dT hX6_totalBy 25 rfl) (Nat.le_refl _) (Nat.le_refl _) ?_
        have hke_ : k_ = nr := by omega
        subst hke_
        exact ⟨rfl, ⟨Fw13, Tw13, Aw13, hBw13, htw13⟩, (ho7.tr hO2)⟩
      · skip
        have hdl_ : odg c nr k_ < nr := od_all nr hr4 c hc hod k_ (by omega)
        refine e_aload_n (pc := 24) Xc (dT hX6_totalBy 12 rfl) 0 rfl ?_
        refine gf_X6_18 (pc := 25) Xc (dT hX6_totalBy 13 rfl) hP11.o rfl ?_
        refine e_aload_n (pc := 28) Xc (dT hX6_totalBy 14 rfl) 0 rfl ?_
        refine e_iload_n (pc := 29) Xc (dT hX6_totalBy 15 rfl) 1 rfl ?_
        refine e_iload_n (pc := 30) Xc (dT hX6_totalBy 16 rfl) 2 rfl ?_
        refine cl_X6_210 (pc := 31) (k := 0) (n := 0) (S := [.ref (x + 13)]) Xc hP11.o (c6_comer hP11 ⟨Fw1, Tw1, Aw1, hB12, htw1⟩ c k_ (by omega) (by omega)) (dT hX6_totalBy 17 rfl) rfl (Nat.le_of_ble_eq_true rfl) (Nat.le_of_ble_eq_true rfl) (Nat.le_of_ble_eq_true rfl) rfl (Nat.le_of_ble_eq_true rfl) (fun r17 σ18 hq19 => ?_)
        obtain ⟨r17e, r17s⟩ := hq19
        have r17e := r17e.symm; subst r17e; have r17s := r17s.symm; subst r17s
        refine cl_X6_158 (pc := 34) (k := 0) (n := 0) (S := []) Xc hBw13.1.o (c5_comes ⟨Fw13, Tw13, Aw13, hBw13, htw13⟩ ⟨dy, by omega, (cm_0 _).trans hd0, hbt⟩ (odg c nr k_) hdl_) (dT hX6_totalBy 18 rfl) rfl (Nat.le_of_ble_eq_true rfl) (Nat.le_of_ble_eq_true rfl) (Nat.le_of_ble_eq_true rfl) rfl (Nat.le_of_ble_eq_true rfl) (fun r20 σ21 hq22 => ?_)
        obtain ⟨r20e, hT23, ho24⟩ := hq22
        have r20e := r20e.symm; subst r20e
        have hP25 := hP11.off ho24 (by omega)
        have hB26 := hB12.off ho24 (by omega) (by rw [htw1]; omega)
        obtain ⟨Fw27, Tw27, Aw27, hBw27, htw27⟩ := id hT23
        have hWw27 := hBw27.2.1
        refine e_pop (pc := 37) Xc (dT hX6_totalBy 19 rfl) rfl ?_
        refine e_iincN (a := k_) (b := 1) (L' := [(2, .int (nI (k_ + 1))), (0, .ref x), (1, .int (nI c))]) (pc := 38) Xc (dT hX6_totalBy 20 rfl) 2 rfl rfl (by decide) rfl ?_
        refine e_goto (tgt := 13) (pc := 41) Xc (dT hX6_totalBy 21 rfl) rfl ?_
        refine Ev.pick (L' := [(0, .ref x), (1, .int (nI c)), (2, .int (nI (k_ + 1)))]) [1, 2, 0] rfl ?_
        exact ih13 (k_ + 1) σ21 (by omega) (by omega) (by rw [cm_s]; exact ⟨Fw27, Tw27, Aw27, hBw27, htw27⟩) (hO2.tr ho24)
  refine Ev.pick (L' := [(0, .ref x), (1, .int (nI c)), (2, .int 0)]) [1, 2, 0] rfl ?_
  exact lp13 ((nr - 0) + 1) 0 σ4 (Nat.lt_succ_self _) (Nat.zero_le _) (⟨Fw10, Tw10, Aw10, hBw10, htw10⟩) Off.rf
set_option maxRecDepth 100000 in
set_option maxHeartbeats 4000000 in
theorem c6_bestOrder {G : xG} {σ : xS} {x : Nat} {Fx : Nat → Int32} {Ax : Nat → Nat → Int32} (hx : PX6 σ x Fx (t6 x) Ax) {tw nr nb : Nat} {X : Nat → Int32} {t : xT} {ln : Nat} (hXn : WX σ (x + 1) tw X nr nb t ln) (ht13 : tw ≠ x + 13) {X1 : Nat → Int32} {l1 : Nat} (hXt : WX σ (x + 13) tw X1 nr nb t l1) (hX1 : ∀ j, 5 ≤ j → X1 j = X j) {dy : Nat} (hdy : dy ≤ 9999) (hd0 : X 0 = nI dy) (hbt : l1.testBit (dy % 10) = true) (hW : okW X) : CI G yX6_bestOrder cX6_bestOrder 5 (some .int) 6 0 0 [.ref x] σ (fun z σ1 => (∃ b, b < 256 ∧ isOd b nr = true ∧ z = nI b ∧ (bestO X t nr nb).2 = odL b nr ∧ (bestO X t nr nb).1 = totF (comesL X t nr nb (odL b nr)) t nr) ∧ (∃ X2, WX σ1 (x + 13) tw X2 nr nb t l1 ∧ ∀ j, 5 ≤ j → X2 j = X j) ∧ Off (x + 13) σ σ1) := by
  refine Met.ofX (by decide +kernel) (Nat.le_of_ble_eq_true rfl) (fun μ Xc hQ hnm => ?_)
  have Xc : xC G μ cX6_bestOrder 5 RX6 (some .int) 6 0 0 := Xc
  obtain ⟨hGX, hTX⟩ := hXn.gd
  have hr4 := hGX.r4
  show Ev G μ 5 0 0 0 [(0, .ref x)] [] σ
  obtain ⟨Fw1, Tw1, Aw1, hBw1, htw1⟩ := id hXn
  have hWw1 := hBw1.2.1
  obtain ⟨Fw2, Tw2, Aw2, hBw2, htw2⟩ := id hXt
  have hWw2 := hBw2.2.1
  refine e_bipush (v := -5) (pc := 0) Xc (dT hX6_bestOrder 0 rfl) rfl ?_
  refine e_istore_n (L' := [(1, .int (-5)), (0, .ref x)]) (pc := 2) Xc (dT hX6_bestOrder 1 rfl) (by decide) rfl ?_
  refine e_iconst (v := 0) (pc := 3) Xc (dT hX6_bestOrder 2 rfl) rfl ?_
  refine e_istore_n (L' := [(2, .int 0), (1, .int (-5)), (0, .ref x)]) (pc := 4) Xc (dT hX6_bestOrder 3 rfl) (by decide) rfl ?_
  refine e_iconst (v := 0) (pc := 5) Xc (dT hX6_bestOrder 4 rfl) rfl ?_
  refine e_istore_n (L' := [(3, .int 0), (2, .int 0), (1, .int (-5)), (0, .ref x)]) (pc := 6) Xc (dT hX6_bestOrder 5 rfl) (by decide) rfl ?_
  have lp7 : ∀ (n7 : Nat) (c_ : Nat) (be_ to_ : Int32) (X2_ : Nat → Int32) (σ2 : xS), 2 ^ (2 * nr) - c_ < n7 → (c_ ≤ 2 ^ (2 * nr)) → (relB X t nr nb c_ be_ to_) → (∀ j, 5 ≤ j → X2_ j = X j) → (WX σ2 (x + 13) tw X2_ nr nb t l1) → (Off (x + 13) σ σ2) → Ev G μ 5 0 0 7 [(0, .ref x), (1, .int be_), (2, .int to_), (3, .int (nI c_))] [] σ2 := by
    intro n7
    induction n7 with
    | zero => intro c_ be_ to_ X2_ σ2 hn; exact absurd hn (Nat.not_lt_zero _)
    | succ n7 ih7 =>
      intro c_ be_ to_ X2_ σ2 hn7 hc_ hrel_ hX2_ hT2 hO2
      have hP3 := hx.off hO2 (by omega)
      have hB4 := hBw1.off hO2 (by omega) (by rw [htw1]; omega)
      obtain ⟨Fw5, Tw5, Aw5, hBw5, htw5⟩ := id hT2
      have hWw5 := hBw5.2.1
      refine e_iload_n (pc := 7) Xc (dT hX6_bestOrder 6 rfl) 3 rfl ?_
      refine e_iconst (v := 1) (pc := 8) Xc (dT hX6_bestOrder 7 rfl) rfl ?_
      refine e_iconst (v := 2) (pc := 9) Xc (dT hX6_bestOrder 8 rfl) rfl ?_
      refine e_aload_n (pc := 10) Xc (dT hX6_bestOrder 9 rfl) 0 rfl ?_
      refine gf_X6_12 (pc := 11) Xc (dT hX6_bestOrder 10 rfl) hP3.o rfl ?_
      refine gf_X6_92 (pc := 14) Xc (dT hX6_bestOrder 11 rfl) hB4.1.o rfl ?_
      refine e_val (y := nI nr) hWw1.2.2.2.2.2.2.1 ?_
      refine e_imulN (a := 2) (b := nr) (pc := 17) Xc (dT hX6_bestOrder 12 rfl) ?_
      refine e_ishl (pc := 18) Xc (dT hX6_bestOrder 13 rfl) ?_
      refine e_val (y := nI (2 ^ (2 * nr))) (sh1 (by omega)) ?_
      have hp8_ : 2 ^ (2 * nr) ≤ 2 ^ 8 := Nat.pow_le_pow_right (by decide) (by omega)
      refine e_icmp_geN (x := c_) (y := 2 ^ (2 * nr)) (tgt := 63) (pc := 19) Xc (dT hX6_bestOrder 14 rfl) rfl (by omega) (by omega) (fun c19 => ?_) (fun c19 => ?_)
      · skip
        refine e_iload_n (pc := 63) Xc (dT hX6_bestOrder 36 rfl) 1 rfl ?_
        refine e_iret (pc := 64) Xc hQ (dT hX6_bestOrder 37 rfl) (Nat.le_refl _) (Nat.le_refl _) ?_
        have hce_ : c_ = 2 ^ (2 * nr) := by omega
        rw [hce_] at hrel_
        exact ⟨relB_e hr4 hrel_, ⟨X2_, ⟨Fw5, Tw5, Aw5, hBw5, htw5⟩, hX2_⟩, hO2⟩
      · skip
        refine e_aload_n (pc := 22) Xc (dT hX6_bestOrder 15 rfl) 0 rfl ?_
        refine e_iload_n (pc := 23) Xc (dT hX6_bestOrder 16 rfl) 3 rfl ?_
        refine cl_X6_312 (pc := 24) (k := 0) (n := 0) (S := []) Xc hP3.o (c6_isOrder hP3 ⟨Fw1, Tw1, Aw1, hB4, htw1⟩ c_ (by omega)) (dT hX6_bestOrder 17 rfl) rfl (Nat.le_of_ble_eq_true rfl) (Nat.le_of_ble_eq_true rfl) (Nat.le_of_ble_eq_true rfl) rfl (Nat.le_of_ble_eq_true rfl) (fun r6 σ7 hq8 => ?_)
        obtain ⟨r6e, r6s⟩ := hq8
        have r6e := r6e.symm; subst r6e; have r6s := r6s.symm; subst r6s
        refine e_if_ne (tgt := 33) (pc := 27) Xc (dT hX6_bestOrder 18 rfl) rfl (fun c27 => ?_) (fun c27 => ?_)
        · skip
          have hod_ : isOd c_ nr = true := by cases q_ : isOd c_ nr; exact absurd (show bI (isOd c_ nr) = 0 by rw [q_]; rfl) c27; rfl
          refine e_aload_n (pc := 33) Xc (dT hX6_bestOrder 20 rfl) 0 rfl ?_
          refine e_iload_n (pc := 34) Xc (dT hX6_bestOrder 21 rfl) 3 rfl ?_
          refine cl_X6_207 (pc := 35) (k := 0) (n := 0) (S := []) Xc hP3.o (c6_totalBy hP3 ⟨Fw1, Tw1, Aw1, hB4, htw1⟩ ht13 ⟨Fw5, Tw5, Aw5, hBw5, htw5⟩ hX2_ hdy hd0 hbt c_ (by omega) hod_) (dT hX6_bestOrder 22 rfl) rfl (Nat.le_of_ble_eq_true rfl) (Nat.le_of_ble_eq_true rfl) (Nat.le_of_ble_eq_true rfl) rfl (Nat.le_of_ble_eq_true rfl) (fun r9 σ10 hq11 => ?_)
          obtain ⟨r9e, hT12, ho13⟩ := hq11
          have r9e := r9e.symm; subst r9e
          have hP14 := hP3.off ho13 (by omega)
          have hB15 := hB4.off ho13 (by omega) (by rw [htw1]; omega)
          obtain ⟨Fw16, Tw16, Aw16, hBw16, htw16⟩ := id hT12
          have hWw16 := hBw16.2.1
          refine e_istore (L' := [(4, .int (totF (comesL X t nr nb (odL c_ nr)) t nr)), (0, .ref x), (1, .int be_), (2, .int to_), (3, .int (nI c_))]) (pc := 38) Xc (dT hX6_bestOrder 23 rfl) (by decide) rfl ?_
          refine e_iload_n (pc := 40) Xc (dT hX6_bestOrder 24 rfl) 2 rfl ?_
          refine e_bipush (v := -5) (pc := 41) Xc (dT hX6_bestOrder 25 rfl) rfl ?_
          refine e_icmp_eq (tgt := 52) (pc := 43) Xc (dT hX6_bestOrder 26 rfl) rfl (fun c43 => ?_) (fun c43 => ?_)
          · skip
            refine e_iload_n (pc := 52) Xc (dT hX6_bestOrder 30 rfl) 4 rfl ?_
            refine e_istore_n (L' := [(1, .int (nI c_)), (4, .int (totF (comesL X t nr nb (odL c_ nr)) t nr)), (0, .ref x), (2, .int to_), (3, .int (nI c_))]) (pc := 53) Xc (dT hX6_bestOrder 31 rfl) (by decide) rfl ?_
            refine e_iload (pc := 54) Xc (dT hX6_bestOrder 32 rfl) 1 rfl ?_
            refine e_istore_n (L' := [(2, .int (totF (comesL X t nr nb (odL c_ nr)) t nr)), (1, .int (nI c_)), (4, .int (totF (comesL X t nr nb (odL c_ nr)) t nr)), (0, .ref x), (3, .int (nI c_))]) (pc := 56) Xc (dT hX6_bestOrder 33 rfl) (by decide) rfl ?_
            refine e_iincN (a := c_) (b := 1) (L' := [(3, .int (nI (c_ + 1))), (2, .int (totF (comesL X t nr nb (odL c_ nr)) t nr)), (1, .int (nI c_)), (4, .int (totF (comesL X t nr nb (odL c_ nr)) t nr)), (0, .ref x)]) (pc := 57) Xc (dT hX6_bestOrder 34 rfl) 4 rfl rfl (by decide) rfl ?_
            refine e_goto (tgt := 7) (pc := 60) Xc (dT hX6_bestOrder 35 rfl) rfl ?_
            refine Ev.pick (L' := [(0, .ref x), (1, .int (nI c_)), (2, .int (totF (comesL X t nr nb (odL c_ nr)) t nr)), (3, .int (nI (c_ + 1)))]) [4, 2, 1, 0] rfl ?_
            exact ih7 (c_ + 1) (nI c_) (totF (comesL X t nr nb (odL c_ nr)) t nr) (comesL X t nr nb (odL c_ nr)) σ10 (by omega) (by omega) (relB_y hGX hTX hW (by omega) hrel_ hod_ (Or.inl c43)) (fun j hj => cm_hi hj _ pfx_lt) (⟨Fw16, Tw16, Aw16, hBw16, htw16⟩) (hO2.tr ho13)
          · skip
            refine e_iload (pc := 46) Xc (dT hX6_bestOrder 27 rfl) 0 rfl ?_
            refine e_iload_n (pc := 48) Xc (dT hX6_bestOrder 28 rfl) 3 rfl ?_
            refine e_icmp_le (tgt := 57) (pc := 49) Xc (dT hX6_bestOrder 29 rfl) rfl (fun c49 => ?_) (fun c49 => ?_)
            · skip
              refine e_iincN (a := c_) (b := 1) (L' := [(3, .int (nI (c_ + 1))), (4, .int (totF (comesL X t nr nb (odL c_ nr)) t nr)), (0, .ref x), (1, .int be_), (2, .int to_)]) (pc := 57) Xc (dT hX6_bestOrder 34 rfl) 4 rfl rfl (by decide) rfl ?_
              refine e_goto (tgt := 7) (pc := 60) Xc (dT hX6_bestOrder 35 rfl) rfl ?_
              refine Ev.pick (L' := [(0, .ref x), (1, .int be_), (2, .int to_), (3, .int (nI (c_ + 1)))]) [2, 3, 4, 0] rfl ?_
              exact ih7 (c_ + 1) be_ to_ (comesL X t nr nb (odL c_ nr)) σ10 (by omega) (by omega) (relB_k hrel_ hod_ c43 c49) (fun j hj => cm_hi hj _ pfx_lt) (⟨Fw16, Tw16, Aw16, hBw16, htw16⟩) (hO2.tr ho13)
            · skip
              refine e_iload_n (pc := 52) Xc (dT hX6_bestOrder 30 rfl) 4 rfl ?_
              refine e_istore_n (L' := [(1, .int (nI c_)), (4, .int (totF (comesL X t nr nb (odL c_ nr)) t nr)), (0, .ref x), (2, .int to_), (3, .int (nI c_))]) (pc := 53) Xc (dT hX6_bestOrder 31 rfl) (by decide) rfl ?_
              refine e_iload (pc := 54) Xc (dT hX6_bestOrder 32 rfl) 1 rfl ?_
              refine e_istore_n (L' := [(2, .int (totF (comesL X t nr nb (odL c_ nr)) t nr)), (1, .int (nI c_)), (4, .int (totF (comesL X t nr nb (odL c_ nr)) t nr)), (0, .ref x), (3, .int (nI c_))]) (pc := 56) Xc (dT hX6_bestOrder 33 rfl) (by decide) rfl ?_
              refine e_iincN (a := c_) (b := 1) (L' := [(3, .int (nI (c_ + 1))), (2, .int (totF (comesL X t nr nb (odL c_ nr)) t nr)), (1, .int (nI c_)), (4, .int (totF (comesL X t nr nb (odL c_ nr)) t nr)), (0, .ref x)]) (pc := 57) Xc (dT hX6_bestOrder 34 rfl) 4 rfl rfl (by decide) rfl ?_
              refine e_goto (tgt := 7) (pc := 60) Xc (dT hX6_bestOrder 35 rfl) rfl ?_
              refine Ev.pick (L' := [(0, .ref x), (1, .int (nI c_)), (2, .int (totF (comesL X t nr nb (odL c_ nr)) t nr)), (3, .int (nI (c_ + 1)))]) [4, 2, 1, 0] rfl ?_
              exact ih7 (c_ + 1) (nI c_) (totF (comesL X t nr nb (odL c_ nr)) t nr) (comesL X t nr nb (odL c_ nr)) σ10 (by omega) (by omega) (relB_y hGX hTX hW (by omega) hrel_ hod_ (Or.inr (Int32.not_le.mp c49))) (fun j hj => cm_hi hj _ pfx_lt) (⟨Fw16, Tw16, Aw16, hBw16, htw16⟩) (hO2.tr ho13)
        · skip
          have hod_ : isOd c_ nr = false := bI_0.mp c27
          refine e_goto (tgt := 57) (pc := 30) Xc (dT hX6_bestOrder 19 rfl) rfl ?_
          refine e_iincN (a := c_) (b := 1) (L' := [(3, .int (nI (c_ + 1))), (0, .ref x), (1, .int be_), (2, .int to_)]) (pc := 57) Xc (dT hX6_bestOrder 34 rfl) 3 rfl rfl (by decide) rfl ?_
          refine e_goto (tgt := 7) (pc := 60) Xc (dT hX6_bestOrder 35 rfl) rfl ?_
          refine Ev.pick (L' := [(0, .ref x), (1, .int be_), (2, .int to_), (3, .int (nI (c_ + 1)))]) [1, 2, 3, 0] rfl ?_
          exact ih7 (c_ + 1) be_ to_ X2_ σ2 (by omega) (by omega) (relB_n hrel_ hod_) hX2_ (⟨Fw5, Tw5, Aw5, hBw5, htw5⟩) hO2
  refine Ev.pick (L' := [(0, .ref x), (1, .int (-5)), (2, .int 0), (3, .int 0)]) [3, 2, 1, 0] rfl ?_
  exact lp7 ((2 ^ (2 * nr) - 0) + 1) 0 (-5) 0 X1 σ (Nat.lt_succ_self _) (Nat.zero_le _) relB_0 hX1 (⟨Fw2, Tw2, Aw2, hBw2, htw2⟩) Off.rf
set_option maxRecDepth 100000 in
set_option maxHeartbeats 4000000 in
theorem c6_follow0 {G : xG} {σ : xS} {x : Nat} {Fx : Nat → Int32} {Ax : Nat → Nat → Int32} (hx : PX6 σ x Fx (t6 x) Ax) {tw nr nb dk : Nat} {Y : Nat → Int32} {t : xT} (hWt : WL σ (x + 13) tw Y nr nb t dk) (hdk : dk < 20000) (q : Nat) (hq : q < nr) : CV G yX6_follow cX6_follow 3 none 7 0 0 [.ref x, .int 0, .int (nI q)] σ (fun σ1 => WL σ1 (x + 13) tw (comeF Y t nr nb q) nr nb t dk ∧ Off (x + 13) σ σ1) := by
  refine Met.ofX (by decide +kernel) (Nat.le_of_ble_eq_true rfl) (fun μ Xc hQ hnm => ?_)
  have Xc : xC G μ cX6_follow 3 RX6 none 7 0 0 := Xc
  show Ev G μ 3 0 0 0 [(0, .ref x), (1, .int 0), (2, .int (nI q))] [] σ
  obtain ⟨lnw1, hXw1, hdlw1, hd0w1, hbtw1⟩ := id hWt
  obtain ⟨Fw1, Tw1, Aw1, hBw1, htw1⟩ := id hXw1
  have hWw1 := hBw1.2.1
  refine e_iload_n (pc := 0) Xc (dT hX6_follow 0 rfl) 1 rfl ?_
  refine e_tableIn (x := 0) (off := 27) (tgt := 28) (pc := 1) Xc (dT hX6_follow 1 rfl) (by decide) (by decide) rfl rfl ?_
  refine e_aload_n (pc := 28) Xc (dT hX6_follow 2 rfl) 0 rfl ?_
  refine gf_X6_18 (pc := 29) Xc (dT hX6_follow 3 rfl) hx.o rfl ?_
  refine e_iload_n (pc := 32) Xc (dT hX6_follow 4 rfl) 2 rfl ?_
  refine cl_X6_158 (pc := 33) (k := 0) (n := 0) (S := []) Xc hBw1.1.o (c5_comes ⟨Fw1, Tw1, Aw1, hBw1, htw1⟩ ⟨_, hdlw1, hd0w1, hbtw1⟩ q hq) (dT hX6_follow 5 rfl) rfl (Nat.le_of_ble_eq_true rfl) (Nat.le_of_ble_eq_true rfl) (Nat.le_of_ble_eq_true rfl) rfl (Nat.le_of_ble_eq_true rfl) (fun r2 σ3 hq4 => ?_)
  obtain ⟨r2e, hT5, ho6⟩ := hq4
  have hP7 := hx.off ho6 (by omega)
  refine e_pop (pc := 36) Xc (dT hX6_follow 6 rfl) rfl ?_
  refine e_goto (tgt := 72) (pc := 37) Xc (dT hX6_follow 7 rfl) rfl ?_
  refine e_vret (pc := 72) Xc hQ (dT hX6_follow 24 rfl) (Nat.le_refl _) (Nat.le_refl _) ?_
  exact ⟨⟨lnw1, hT5, hdlw1, ((upd_n (by omega)).trans hd0w1), hbtw1⟩, ho6⟩
set_option maxRecDepth 100000 in
set_option maxHeartbeats 4000000 in
theorem c6_follow1 {G : xG} {σ : xS} {x : Nat} {Fx : Nat → Int32} {Ax : Nat → Nat → Int32} (hx : PX6 σ x Fx (t6 x) Ax) {tw nr nb dk : Nat} {Y : Nat → Int32} {t : xT} (hWt : WL σ (x + 13) tw Y nr nb t dk) (hdk : dk < 20000) (q : Nat) (hq : q < nr) : CV G yX6_follow cX6_follow 3 none 7 0 0 [.ref x, .int 1, .int (nI q)] σ (fun σ1 => WL σ1 (x + 13) tw (pastF Y q 1) nr nb t dk ∧ Off (x + 13) σ σ1) := by
  refine Met.ofX (by decide +kernel) (Nat.le_of_ble_eq_true rfl) (fun μ Xc hQ hnm => ?_)
  have Xc : xC G μ cX6_follow 3 RX6 none 7 0 0 := Xc
  show Ev G μ 3 0 0 0 [(0, .ref x), (1, .int 1), (2, .int (nI q))] [] σ
  obtain ⟨lnw1, hXw1, hdlw1, hd0w1, hbtw1⟩ := id hWt
  obtain ⟨Fw1, Tw1, Aw1, hBw1, htw1⟩ := id hXw1
  have hWw1 := hBw1.2.1
  refine e_iload_n (pc := 0) Xc (dT hX6_follow 0 rfl) 1 rfl ?_
  refine e_tableIn (x := 1) (off := 39) (tgt := 40) (pc := 1) Xc (dT hX6_follow 1 rfl) (by decide) (by decide) rfl rfl ?_
  refine e_aload_n (pc := 40) Xc (dT hX6_follow 8 rfl) 0 rfl ?_
  refine gf_X6_18 (pc := 41) Xc (dT hX6_follow 9 rfl) hx.o rfl ?_
  refine e_iload_n (pc := 44) Xc (dT hX6_follow 10 rfl) 2 rfl ?_
  refine e_iconst (v := 1) (pc := 45) Xc (dT hX6_follow 11 rfl) rfl ?_
  refine cl_X6_161 (pc := 46) (k := 0) (n := 0) (S := []) Xc hBw1.1.o (c5_bind ⟨Fw1, Tw1, Aw1, hBw1, htw1⟩ hdlw1 hd0w1 q hq 1) (dT hX6_follow 12 rfl) rfl (Nat.le_of_ble_eq_true rfl) (Nat.le_of_ble_eq_true rfl) (Nat.le_of_ble_eq_true rfl) rfl (Nat.le_of_ble_eq_true rfl) (fun σ3 hq4 => ?_)
  obtain ⟨l_, hT5, hl_, ho6⟩ := hq4
  have hP7 := hx.off ho6 (by omega)
  refine e_goto (tgt := 72) (pc := 49) Xc (dT hX6_follow 13 rfl) rfl ?_
  refine e_vret (pc := 72) Xc hQ (dT hX6_follow 24 rfl) (Nat.le_refl _) (Nat.le_refl _) ?_
  exact ⟨⟨l_, hT5, hdlw1, ((past_lo (by decide)).trans hd0w1), hl_ hbtw1⟩, ho6⟩
set_option maxRecDepth 100000 in
set_option maxHeartbeats 4000000 in
theorem c6_follow2 {G : xG} {σ : xS} {x : Nat} {Fx : Nat → Int32} {Ax : Nat → Nat → Int32} (hx : PX6 σ x Fx (t6 x) Ax) {tw nr nb dk : Nat} {Y : Nat → Int32} {t : xT} (hWt : WL σ (x + 13) tw Y nr nb t dk) (hdk : dk < 20000) (q : Nat) (hq : q < nr) : CV G yX6_follow cX6_follow 3 none 7 0 0 [.ref x, .int 2, .int (nI q)] σ (fun σ1 => WL σ1 (x + 13) tw (pastF Y q 0) nr nb t dk ∧ Off (x + 13) σ σ1) := by
  refine Met.ofX (by decide +kernel) (Nat.le_of_ble_eq_true rfl) (fun μ Xc hQ hnm => ?_)
  have Xc : xC G μ cX6_follow 3 RX6 none 7 0 0 := Xc
  show Ev G μ 3 0 0 0 [(0, .ref x), (1, .int 2), (2, .int (nI q))] [] σ
  obtain ⟨lnw1, hXw1, hdlw1, hd0w1, hbtw1⟩ := id hWt
  obtain ⟨Fw1, Tw1, Aw1, hBw1, htw1⟩ := id hXw1
  have hWw1 := hBw1.2.1
  refine e_iload_n (pc := 0) Xc (dT hX6_follow 0 rfl) 1 rfl ?_
  refine e_tableIn (x := 2) (off := 51) (tgt := 52) (pc := 1) Xc (dT hX6_follow 1 rfl) (by decide) (by decide) rfl rfl ?_
  refine e_aload_n (pc := 52) Xc (dT hX6_follow 14 rfl) 0 rfl ?_
  refine gf_X6_18 (pc := 53) Xc (dT hX6_follow 15 rfl) hx.o rfl ?_
  refine e_iload_n (pc := 56) Xc (dT hX6_follow 16 rfl) 2 rfl ?_
  refine e_iconst (v := 0) (pc := 57) Xc (dT hX6_follow 17 rfl) rfl ?_
  refine cl_X6_161 (pc := 58) (k := 0) (n := 0) (S := []) Xc hBw1.1.o (c5_bind ⟨Fw1, Tw1, Aw1, hBw1, htw1⟩ hdlw1 hd0w1 q hq 0) (dT hX6_follow 18 rfl) rfl (Nat.le_of_ble_eq_true rfl) (Nat.le_of_ble_eq_true rfl) (Nat.le_of_ble_eq_true rfl) rfl (Nat.le_of_ble_eq_true rfl) (fun σ3 hq4 => ?_)
  obtain ⟨l_, hT5, hl_, ho6⟩ := hq4
  have hP7 := hx.off ho6 (by omega)
  refine e_goto (tgt := 72) (pc := 61) Xc (dT hX6_follow 19 rfl) rfl ?_
  refine e_vret (pc := 72) Xc hQ (dT hX6_follow 24 rfl) (Nat.le_refl _) (Nat.le_refl _) ?_
  exact ⟨⟨l_, hT5, hdlw1, ((past_lo (by decide)).trans hd0w1), hl_ hbtw1⟩, ho6⟩
set_option maxRecDepth 100000 in
set_option maxHeartbeats 4000000 in
theorem c6_follow3 {G : xG} {σ : xS} {x : Nat} {Fx : Nat → Int32} {Ax : Nat → Nat → Int32} (hx : PX6 σ x Fx (t6 x) Ax) {tw nr nb dk : Nat} {Y : Nat → Int32} {t : xT} (hWt : WL σ (x + 13) tw Y nr nb t dk) (hdk : dk < 20000) (v : Int32) : CV G yX6_follow cX6_follow 3 none 7 0 0 [.ref x, .int 3, .int v] σ (fun σ1 => WL σ1 (x + 13) tw (goF Y t nr nb).2 nr nb t (dk + 1) ∧ Off (x + 13) σ σ1) := by
  refine Met.ofX (by decide +kernel) (Nat.le_of_ble_eq_true rfl) (fun μ Xc hQ hnm => ?_)
  have Xc : xC G μ cX6_follow 3 RX6 none 7 0 0 := Xc
  show Ev G μ 3 0 0 0 [(0, .ref x), (1, .int 3), (2, .int v)] [] σ
  obtain ⟨lnw1, hXw1, hdlw1, hd0w1, hbtw1⟩ := id hWt
  obtain ⟨Fw1, Tw1, Aw1, hBw1, htw1⟩ := id hXw1
  have hWw1 := hBw1.2.1
  refine e_iload_n (pc := 0) Xc (dT hX6_follow 0 rfl) 1 rfl ?_
  refine e_tableOut (x := 3) (tgt := 64) (pc := 1) Xc (dT hX6_follow 1 rfl) (by decide) rfl ?_
  refine e_aload_n (pc := 64) Xc (dT hX6_follow 20 rfl) 0 rfl ?_
  refine gf_X6_18 (pc := 65) Xc (dT hX6_follow 21 rfl) hx.o rfl ?_
  refine cl_X6_168 (pc := 68) (k := 0) (n := 0) (S := []) Xc hBw1.1.o (c5_goDay ⟨lnw1, ⟨Fw1, Tw1, Aw1, hBw1, htw1⟩, hdlw1, hd0w1, hbtw1⟩ hdk) (dT hX6_follow 22 rfl) rfl (Nat.le_of_ble_eq_true rfl) (Nat.le_of_ble_eq_true rfl) (Nat.le_of_ble_eq_true rfl) rfl (Nat.le_of_ble_eq_true rfl) (fun r2 σ3 hq4 => ?_)
  obtain ⟨r2e, hT5, ho6⟩ := hq4
  have hP7 := hx.off ho6 (by omega)
  refine e_pop (pc := 71) Xc (dT hX6_follow 23 rfl) rfl ?_
  refine e_vret (pc := 72) Xc hQ (dT hX6_follow 24 rfl) (Nat.le_refl _) (Nat.le_refl _) ?_
  exact ⟨hT5, ho6⟩
