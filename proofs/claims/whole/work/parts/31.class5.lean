set_option maxRecDepth 100000 in
set_option maxHeartbeats 4000000 in
theorem c5_learnAnew {G : xG} {σ : xS} {w tw : Nat} {X : Nat → Int32} {nr nb : Nat} {t : xT} {ln : Nat} (hX : WX σ w tw X nr nb t ln) {dy : Nat} (hdy : dy ≤ 20000) (hd0 : X 0 = nI dy) : CV G yX5_learnAnew cX5_learnAnew 1 none 6 0 0 [.ref w] σ (fun σ1 => WL σ1 w tw X nr nb t dy ∧ Off w σ σ1) := by
  refine Met.ofX (by decide +kernel) (Nat.le_of_ble_eq_true rfl) (fun μ Xc hQ hnm => ?_)
  have Xc : xC G μ cX5_learnAnew 1 RX5 none 6 0 0 := Xc
  obtain ⟨F, T, A, hB, htw⟩ := id hX
  obtain ⟨hP, hW, hTw, hne, hG, hT⟩ := id hB
  have hr4 := hG.r4
  have hb7 := hG.b7
  show Ev G μ 1 0 0 0 [(0, .ref w)] [] σ
  refine e_aload_n (pc := 0) Xc (dT hX5_learnAnew 0 rfl) 0 rfl ?_
  refine e_iconst (v := 0) (pc := 1) Xc (dT hX5_learnAnew 1 rfl) rfl ?_
  refine pf_X5_33 (fs' := olX5 w (upd F 7 0) T) (pc := 2) Xc (dT hX5_learnAnew 2 rfl) hP.o (Nat.le_of_ble_eq_true rfl) rfl ?_
  refine Ev.gen (fun z => PX5 z w (upd F 7 0) T A) (hP.wf7 (x := 0)) Off.set (fun σ1 hP2 ho3 => ?_)
  refine e_aload_n (pc := 5) Xc (dT hX5_learnAnew 3 rfl) 0 rfl ?_
  refine cl_X5_76 (pc := 6) (k := 0) (n := 0) (S := []) Xc hP2.o (c5_learn (ln := 0) ⟨_, T, A, ⟨hP2, hW.unlearn, hTw.off ho3 (Ne.symm hne), hne, hG, hT⟩, htw⟩ hdy hd0 (by decide)) (dT hX5_learnAnew 4 rfl) rfl (Nat.le_of_ble_eq_true rfl) (Nat.le_of_ble_eq_true rfl) (Nat.le_of_ble_eq_true rfl) rfl (Nat.le_of_ble_eq_true rfl) (fun σ5 hq6 => ?_)
  obtain ⟨hL7, ho8⟩ := hq6
  refine e_vret (pc := 9) Xc hQ (dT hX5_learnAnew 5 rfl) (Nat.le_refl _) (Nat.le_refl _) ?_
  exact ⟨hL7, (ho3.tr ho8)⟩
set_option maxRecDepth 100000 in
set_option maxHeartbeats 4000000 in
theorem c5_goDay {G : xG} {σ : xS} {w tw : Nat} {X : Nat → Int32} {nr nb : Nat} {t : xT} {dy : Nat} (hWL : WL σ w tw X nr nb t dy) (hdy : dy < 20000) : CI G yX5_goDay cX5_goDay 3 (some .int) 6 0 0 [.ref w] σ (fun z σ1 => z = (goF X t nr nb).1 ∧ WL σ1 w tw (goF X t nr nb).2 nr nb t (dy + 1) ∧ Off w σ σ1) := by
  refine Met.ofX (by decide +kernel) (Nat.le_of_ble_eq_true rfl) (fun μ Xc hQ hnm => ?_)
  have Xc : xC G μ cX5_goDay 3 RX5 (some .int) 6 0 0 := Xc
  obtain ⟨ln, hX0, hdy1, hd0, hbit⟩ := id hWL
  have hlt := WX_lt hX0 (Nat.mod_lt _ (by decide)) hbit
  have hr4 : nr ≤ 4 := by obtain ⟨F, T, A, hB, -⟩ := id hX0; exact hB.2.2.2.2.1.r4
  have lp4 : ∀ (n4 : Nat) (r : Nat) (ac : Int32) (X1 : Nat → Int32) (σ2 : xS), nr - r < n4 → (r ≤ nr) → ((ac, X1) = itr (goStep t nr nb) (0, X) r) → (WX σ2 w tw X1 nr nb t ln) → (X1 0 = nI dy) → (Off w σ σ2) → Ev G μ 3 0 0 4 [(0, .ref w), (2, .int (nI r)), (1, .int ac)] [] σ2 := by
    intro n4
    induction n4 with
    | zero => intro r ac X1 σ2 hn; exact absurd hn (Nat.not_lt_zero _)
    | succ n4 ih4 =>
      intro r ac X1 σ2 hn4 hr hq hX1 hd1 ho
      obtain ⟨F1, T1, A1, hB1, htw1⟩ := id hX1
      obtain ⟨hP1, hW1, hTw1, hne1, hG1, hT1⟩ := id hB1
      refine e_iload_n (pc := 4) Xc (dT hX5_goDay 4 rfl) 1 rfl ?_
      refine e_aload_n (pc := 5) Xc (dT hX5_goDay 5 rfl) 0 rfl ?_
      refine gf_X5_40 (pc := 6) Xc (dT hX5_goDay 6 rfl) hP1.o rfl ?_
      refine e_val (y := nI nr) hW1.2.2.2.2.2.2.1 ?_
      refine e_icmp_geN (x := r) (y := nr) (tgt := 29) (pc := 9) Xc (dT hX5_goDay 7 rfl) rfl (by omega) (by omega) (fun c9 => ?_) (fun c9 => ?_)
      · skip
        refine e_aload_n (pc := 29) Xc (dT hX5_goDay 15 rfl) 0 rfl ?_
        refine e_dup (pc := 30) Xc (dT hX5_goDay 16 rfl) rfl ?_
        refine gf_X5_43 (pc := 31) Xc (dT hX5_goDay 17 rfl) hP1.o rfl ?_
        refine e_val (y := nI dy) (hW1.day.trans hd1) ?_
        refine e_iconst (v := 1) (pc := 34) Xc (dT hX5_goDay 18 rfl) rfl ?_
        refine e_iaddN (a := dy) (b := 1) (pc := 35) Xc (dT hX5_goDay 19 rfl) ?_
        refine pf_X5_43 (fs' := olX5 w (upd F1 10 (nI (dy + 1))) T1) (pc := 36) Xc (dT hX5_goDay 20 rfl) hP1.o (Nat.le_of_ble_eq_true rfl) rfl ?_
        refine Ev.gen (fun z => PX5 z w (upd F1 10 (nI (dy + 1))) T1 A1) (hP1.wf10 (x := nI (dy + 1))) Off.set (fun σ1 hP2 ho3 => ?_)
        refine e_aload_n (pc := 39) Xc (dT hX5_goDay 21 rfl) 0 rfl ?_
        refine cl_X5_76 (pc := 40) (k := 0) (n := 0) (S := []) Xc hP2.o (c5_learn (X := upd X1 0 (nI (dy + 1))) ⟨_, T1, A1, ⟨hP2, hW1.set_day, hTw1.off ho3 (Ne.symm hne1), hne1, hG1.upd_day, hT1.upd (by decide)⟩, htw1⟩ (by omega) upd_s hlt) (dT hX5_goDay 22 rfl) rfl (Nat.le_of_ble_eq_true rfl) (Nat.le_of_ble_eq_true rfl) (Nat.le_of_ble_eq_true rfl) rfl (Nat.le_of_ble_eq_true rfl) (fun σ5 hq6 => ?_)
        obtain ⟨hL7, ho8⟩ := hq6
        refine e_iload_n (pc := 43) Xc (dT hX5_goDay 23 rfl) 2 rfl ?_
        refine e_iret (pc := 44) Xc hQ (dT hX5_goDay 24 rfl) (Nat.le_refl _) (Nat.le_refl _) ?_
        have hre : r = nr := by omega
        subst hre
        have hq' : goAll X t r nb = (ac, X1) := hq.symm
        refine ⟨by rw [goF, hq'], ?_, ((ho.tr ho3).tr ho8)⟩
        rw [goF, hq']
        have e : X1 0 + 1 = nI (dy + 1) := by rw [hd1, ← nI_succ]
        rw [e]
        exact hL7
      · skip
        refine e_aload_n (pc := 12) Xc (dT hX5_goDay 8 rfl) 0 rfl ?_
        refine e_iload_n (pc := 13) Xc (dT hX5_goDay 9 rfl) 1 rfl ?_
        refine cl_X5_108 (pc := 14) (k := 0) (n := 0) (S := []) Xc hP1.o (c5_comes hX1 ⟨dy, hdy1, hd1, hbit⟩ r (by omega)) (dT hX5_goDay 10 rfl) rfl (Nat.le_of_ble_eq_true rfl) (Nat.le_of_ble_eq_true rfl) (Nat.le_of_ble_eq_true rfl) rfl (Nat.le_of_ble_eq_true rfl) (fun r9 σ10 hq11 => ?_)
        obtain ⟨r9e, hX12, ho13⟩ := hq11
        have r9e := r9e.symm; subst r9e
        obtain ⟨F12, T12, A12, hB12, htw12⟩ := id hX12
        obtain ⟨hP12, hW12, hTw12, hne12, hG12, hT12⟩ := id hB12
        refine e_if_eq (tgt := 23) (pc := 17) Xc (dT hX5_goDay 11 rfl) rfl (fun c17 => ?_) (fun c17 => ?_)
        · skip
          refine e_iincN (a := r) (b := 1) (L' := [(2, .int (nI (r + 1))), (0, .ref w), (1, .int ac)]) (pc := 23) Xc (dT hX5_goDay 13 rfl) 1 rfl rfl (by decide) rfl ?_
          refine e_goto (tgt := 4) (pc := 26) Xc (dT hX5_goDay 14 rfl) rfl ?_
          refine Ev.pick (L' := [(0, .ref w), (2, .int (nI (r + 1))), (1, .int ac)]) [1, 0, 2] rfl ?_
          exact ih4 (r + 1) ac (comeF X1 t nr nb r) σ10 (by omega) (by omega) (by rw [itr, ← hq, goStep]; simp only [bI_0] at c17; simp at c17; simp [c17]) hX12 ((upd_n (by omega)).trans hd1) (ho.tr ho13)
        · skip
          refine e_iinc (v := ac + 1) (L' := [(1, .int (ac + 1)), (0, .ref w), (2, .int (nI r))]) (pc := 20) Xc (dT hX5_goDay 12 rfl) 2 rfl rfl (by decide) rfl ?_
          refine e_iincN (a := r) (b := 1) (L' := [(2, .int (nI (r + 1))), (1, .int (ac + 1)), (0, .ref w)]) (pc := 23) Xc (dT hX5_goDay 13 rfl) 2 rfl rfl (by decide) rfl ?_
          refine e_goto (tgt := 4) (pc := 26) Xc (dT hX5_goDay 14 rfl) rfl ?_
          refine Ev.pick (L' := [(0, .ref w), (2, .int (nI (r + 1))), (1, .int (ac + 1))]) [2, 0, 1] rfl ?_
          exact ih4 (r + 1) (ac + 1) (comeF X1 t nr nb r) σ10 (by omega) (by omega) (by rw [itr, ← hq, goStep]; simp only [bI_0] at c17; simp at c17; simp [c17]) hX12 ((upd_n (by omega)).trans hd1) (ho.tr ho13)
  show Ev G μ 3 0 0 0 [(0, .ref w)] [] σ
  refine e_iconst (v := 0) (pc := 0) Xc (dT hX5_goDay 0 rfl) rfl ?_
  refine e_istore_n (L' := [(1, .int 0), (0, .ref w)]) (pc := 1) Xc (dT hX5_goDay 1 rfl) (by decide) rfl ?_
  refine e_iconst (v := 0) (pc := 2) Xc (dT hX5_goDay 2 rfl) rfl ?_
  refine e_istore_n (L' := [(2, .int 0), (1, .int 0), (0, .ref w)]) (pc := 3) Xc (dT hX5_goDay 3 rfl) (by decide) rfl ?_
  refine Ev.pick (L' := [(0, .ref w), (2, .int 0), (1, .int 0)]) [2, 0, 1] rfl ?_
  exact lp4 ((nr - 0) + 1) 0 0 X σ (Nat.lt_succ_self _) (Nat.zero_le _) rfl hX0 hd0 Off.rf
set_option maxRecDepth 100000 in
set_option maxHeartbeats 4000000 in
theorem c5_bind {G : xG} {σ : xS} {w tw : Nat} {X : Nat → Int32} {nr nb : Nat} {t : xT} {ln : Nat} (hX : WX σ w tw X nr nb t ln) {dy : Nat} (hdy : dy ≤ 20000) (hd0 : X 0 = nI dy) (r : Nat) (hr : r < nr) (is : Int32) : CV G yX5_bind cX5_bind 5 none 6 0 0 [.ref w, .int (nI r), .int is] σ (fun σ1 => ∃ ln1, WX σ1 w tw (pastF X r is) nr nb t ln1 ∧ (ln.testBit (dy % 10) = true → ln1.testBit (dy % 10) = true) ∧ Off w σ σ1) := by
  refine Met.ofX (by decide +kernel) (Nat.le_of_ble_eq_true rfl) (fun μ Xc hQ hnm => ?_)
  have Xc : xC G μ cX5_bind 5 RX5 none 6 0 0 := Xc
  obtain ⟨F, T, A, hB, htw⟩ := id hX
  obtain ⟨hP, hW, hTw, hne, hG, hT⟩ := id hB
  have hr4 := hG.r4
  have hb7 := hG.b7
  obtain ⟨Ft, Tt, At, hTP, hTc⟩ := id hTw
  show Ev G μ 5 0 0 0 [(0, .ref w), (1, .int (nI r)), (2, .int is)] [] σ
  refine e_aload_n (pc := 0) Xc (dT hX5_bind 0 rfl) 0 rfl ?_
  refine gf_X5_21 (pc := 1) Xc (dT hX5_bind 1 rfl) hP.o rfl ?_
  refine e_iload_n (pc := 4) Xc (dT hX5_bind 2 rfl) 1 rfl ?_
  refine cl_X5_68 (pc := 5) (k := 0) (n := 0) (S := []) Xc (c_get hP.a4 (by decide) (by decide) r (by omega)) (dT hX5_bind 3 rfl) rfl (Nat.le_of_ble_eq_true rfl) (Nat.le_of_ble_eq_true rfl) (Nat.le_of_ble_eq_true rfl) rfl (Nat.le_of_ble_eq_true rfl) (fun r1 σ2 hq3 => ?_)
  obtain ⟨r1e, r1s⟩ := hq3
  have r1e := r1e.symm; subst r1e; have r1s := r1s.symm; subst r1s
  refine e_istore_n (L' := [(3, .int (A 4 r)), (0, .ref w), (1, .int (nI r)), (2, .int is)]) (pc := 8) Xc (dT hX5_bind 4 rfl) (by decide) rfl ?_
  refine e_iload_n (pc := 9) Xc (dT hX5_bind 5 rfl) 0 rfl ?_
  refine e_bipush (v := -5) (pc := 10) Xc (dT hX5_bind 6 rfl) rfl ?_
  refine e_icmp_ne (tgt := 16) (pc := 12) Xc (dT hX5_bind 7 rfl) rfl (fun c12 => ?_) (fun c12 => ?_)
  · skip
    obtain ⟨h, hl, he⟩ := hG.has (r := r) (by omega) (orN_ne (by rw [← hW.2.2.2.1 r (by omega)]; exact c12))
    have ha : A 4 r = nI h := by rw [hW.2.2.2.1 r (by omega), he, orN_nI (by omega)]
    refine e_iload_n (pc := 16) Xc (dT hX5_bind 9 rfl) 3 rfl ?_
    refine e_if_eq (tgt := 30) (pc := 17) Xc (dT hX5_bind 10 rfl) rfl (fun c17 => ?_) (fun c17 => ?_)
    · skip
      refine e_aload_n (pc := 30) Xc (dT hX5_bind 15 rfl) 1 rfl ?_
      refine gf_X5_52 (pc := 31) Xc (dT hX5_bind 16 rfl) hP.o rfl ?_
      refine gf_X5_112 (pc := 34) Xc (dT hX5_bind 17 rfl) hTP.o rfl ?_
      refine e_ineg (pc := 37) Xc (dT hX5_bind 18 rfl) ?_
      refine e_val (y := (if is = 0 then -pasteF X else pasteF X)) (by rw [if_pos c17, hT.paste, ← hTc.2.1]) ?_
      refine e_istore (L' := [(4, .int (if is = 0 then -pasteF X else pasteF X)), (3, .int (A 4 r)), (0, .ref w), (1, .int (nI r)), (2, .int is)]) (pc := 38) Xc (dT hX5_bind 19 rfl) (by decide) rfl ?_
      refine e_aload_n (pc := 40) Xc (dT hX5_bind 20 rfl) 2 rfl ?_
      refine gf_X5_9 (pc := 41) Xc (dT hX5_bind 21 rfl) hP.o rfl ?_
      refine e_iload_n (pc := 44) Xc (dT hX5_bind 22 rfl) 1 rfl ?_
      refine e_val (y := nI h) ha ?_
      refine e_iconst (v := 1) (pc := 45) Xc (dT hX5_bind 23 rfl) rfl ?_
      refine e_bipush (v := 99) (pc := 46) Xc (dT hX5_bind 24 rfl) rfl ?_
      refine e_aload_n (pc := 48) Xc (dT hX5_bind 25 rfl) 2 rfl ?_
      refine gf_X5_9 (pc := 49) Xc (dT hX5_bind 26 rfl) hP.o rfl ?_
      refine e_iload_n (pc := 52) Xc (dT hX5_bind 27 rfl) 1 rfl ?_
      refine e_val (y := nI h) ha ?_
      refine cl_X5_68 (pc := 53) (k := 0) (n := 0) (S := [.int 99, .int 1, .int (nI h), .ref (w + 1)]) Xc (c_get hP.a1 (by decide) (by decide) h (by omega)) (dT hX5_bind 28 rfl) rfl (Nat.le_of_ble_eq_true rfl) (Nat.le_of_ble_eq_true rfl) (Nat.le_of_ble_eq_true rfl) rfl (Nat.le_of_ble_eq_true rfl) (fun r4 σ5 hq6 => ?_)
      obtain ⟨r4e, r4s⟩ := hq6
      have r4e := r4e.symm; subst r4e; have r4s := r4s.symm; subst r4s
      refine e_val (y := X (5 + h)) (hW.1 h (by omega)) ?_
      refine e_iload (pc := 56) Xc (dT hX5_bind 29 rfl) 0 rfl ?_
      refine e_iadd (pc := 58) Xc (dT hX5_bind 30 rfl) ?_
      refine e_min (pc := 59) Xc w_ml_X5_115 (dT hX5_bind 31 rfl) (by decide) (Nat.le_refl _) (Nat.le_refl _) (Nat.le_of_ble_eq_true rfl) ?_
      refine e_val (y := minF 99 ((X (5 + h)) + (if is = 0 then -pasteF X else pasteF X))) rfl ?_
      refine e_max (pc := 62) Xc w_ml_X5_90 (dT hX5_bind 32 rfl) (by decide) (Nat.le_refl _) (Nat.le_refl _) (Nat.le_of_ble_eq_true rfl) ?_
      refine e_val (y := maxF 1 (minF 99 ((X (5 + h)) + (if is = 0 then -pasteF X else pasteF X)))) rfl ?_
      refine e_val (y := wiF (X (5 + h) + (if is = 0 then -pasteF X else pasteF X)) 1 99) (maxmin _) ?_
      refine cl_X5_60 (pc := 65) (k := 0) (n := 0) (S := []) Xc (c_put hP.a1 (by decide) h (by omega) (wiF (X (5 + h) + (if is = 0 then -pasteF X else pasteF X)) 1 99)) (dT hX5_bind 33 rfl) rfl (Nat.le_of_ble_eq_true rfl) (Nat.le_of_ble_eq_true rfl) (Nat.le_of_ble_eq_true rfl) rfl (Nat.le_of_ble_eq_true rfl) (fun σ8 hq9 => ?_)
      subst hq9
      refine Ev.gen (fun z => PX5 z w F T (upA A 1 (upd (A 1) h (wiF (X (5 + h) + (if is = 0 then -pasteF X else pasteF X)) 1 99)))) (hP.wa1 (g := (upd (A 1) h (wiF (X (5 + h) + (if is = 0 then -pasteF X else pasteF X)) 1 99)))) Off.set (fun σ10 hP11 ho12 => ?_)
      have hP13 := hTP.off ho12 (Ne.symm hne)
      refine e_aload_n (pc := 68) Xc (dT hX5_bind 34 rfl) 2 rfl ?_
      refine e_iconst (v := 0) (pc := 69) Xc (dT hX5_bind 35 rfl) rfl ?_
      refine pf_X5_33 (fs' := olX5 w (upd F 7 0) T) (pc := 70) Xc (dT hX5_bind 36 rfl) hP11.o (Nat.le_of_ble_eq_true rfl) rfl ?_
      refine Ev.gen (fun z => PX5 z w (upd F 7 0) T (upA A 1 (upd (A 1) h (wiF (X (5 + h) + (if is = 0 then -pasteF X else pasteF X)) 1 99)))) (hP11.wf7 (x := 0)) Off.set (fun σ14 hP15 ho16 => ?_)
      have hP17 := hP13.off ho16 (Ne.symm hne)
      refine e_aload_n (pc := 73) Xc (dT hX5_bind 37 rfl) 2 rfl ?_
      refine cl_X5_76 (pc := 74) (k := 0) (n := 0) (S := []) Xc hP15.o (c5_learn (X := upd X (5 + h) (wiF (X (5 + h) + (if is = 0 then -pasteF X else pasteF X)) 1 99)) ⟨_, T, _, ⟨hP15, hW.set_thick hr4 (by omega), hTw.off (ho12.tr ho16) (Ne.symm hne), hne, hG.upd_thick (by omega) wiF_in, hT.upd (by omega)⟩, htw⟩ hdy ((upd_n (by omega)).trans hd0) (by decide)) (dT hX5_bind 38 rfl) rfl (Nat.le_of_ble_eq_true rfl) (Nat.le_of_ble_eq_true rfl) (Nat.le_of_ble_eq_true rfl) rfl (Nat.le_of_ble_eq_true rfl) (fun σ19 hq20 => ?_)
      obtain ⟨hL21, ho22⟩ := hq20
      have hP23 := hP17.off ho22 (Ne.symm hne)
      refine e_vret (pc := 77) Xc hQ (dT hX5_bind 39 rfl) (Nat.le_refl _) (Nat.le_refl _) ?_
      obtain ⟨ln', hx1, -, -, hx4⟩ := hL21
      exact ⟨ln', by rw [pastF, if_neg (by rw [he]; exact nI_nm1 (by omega)), he, nI_clamp (by omega)]; exact hx1, fun _ => hx4, ((ho12.tr ho16).tr ho22)⟩
    · skip
      refine e_aload_n (pc := 20) Xc (dT hX5_bind 11 rfl) 1 rfl ?_
      refine gf_X5_52 (pc := 21) Xc (dT hX5_bind 12 rfl) hP.o rfl ?_
      refine gf_X5_112 (pc := 24) Xc (dT hX5_bind 13 rfl) hTP.o rfl ?_
      refine e_goto (tgt := 38) (pc := 27) Xc (dT hX5_bind 14 rfl) rfl ?_
      refine e_val (y := (if is = 0 then -pasteF X else pasteF X)) (by rw [if_neg c17, hT.paste, ← hTc.2.1]) ?_
      refine e_istore (L' := [(4, .int (if is = 0 then -pasteF X else pasteF X)), (3, .int (A 4 r)), (0, .ref w), (1, .int (nI r)), (2, .int is)]) (pc := 38) Xc (dT hX5_bind 19 rfl) (by decide) rfl ?_
      refine e_aload_n (pc := 40) Xc (dT hX5_bind 20 rfl) 2 rfl ?_
      refine gf_X5_9 (pc := 41) Xc (dT hX5_bind 21 rfl) hP.o rfl ?_
      refine e_iload_n (pc := 44) Xc (dT hX5_bind 22 rfl) 1 rfl ?_
      refine e_val (y := nI h) ha ?_
      refine e_iconst (v := 1) (pc := 45) Xc (dT hX5_bind 23 rfl) rfl ?_
      refine e_bipush (v := 99) (pc := 46) Xc (dT hX5_bind 24 rfl) rfl ?_
      refine e_aload_n (pc := 48) Xc (dT hX5_bind 25 rfl) 2 rfl ?_
      refine gf_X5_9 (pc := 49) Xc (dT hX5_bind 26 rfl) hP.o rfl ?_
      refine e_iload_n (pc := 52) Xc (dT hX5_bind 27 rfl) 1 rfl ?_
      refine e_val (y := nI h) ha ?_
      refine cl_X5_68 (pc := 53) (k := 0) (n := 0) (S := [.int 99, .int 1, .int (nI h), .ref (w + 1)]) Xc (c_get hP.a1 (by decide) (by decide) h (by omega)) (dT hX5_bind 28 rfl) rfl (Nat.le_of_ble_eq_true rfl) (Nat.le_of_ble_eq_true rfl) (Nat.le_of_ble_eq_true rfl) rfl (Nat.le_of_ble_eq_true rfl) (fun r24 σ25 hq26 => ?_)
      obtain ⟨r24e, r24s⟩ := hq26
      have r24e := r24e.symm; subst r24e; have r24s := r24s.symm; subst r24s
      refine e_val (y := X (5 + h)) (hW.1 h (by omega)) ?_
      refine e_iload (pc := 56) Xc (dT hX5_bind 29 rfl) 0 rfl ?_
      refine e_iadd (pc := 58) Xc (dT hX5_bind 30 rfl) ?_
      refine e_min (pc := 59) Xc w_ml_X5_115 (dT hX5_bind 31 rfl) (by decide) (Nat.le_refl _) (Nat.le_refl _) (Nat.le_of_ble_eq_true rfl) ?_
      refine e_val (y := minF 99 ((X (5 + h)) + (if is = 0 then -pasteF X else pasteF X))) rfl ?_
      refine e_max (pc := 62) Xc w_ml_X5_90 (dT hX5_bind 32 rfl) (by decide) (Nat.le_refl _) (Nat.le_refl _) (Nat.le_of_ble_eq_true rfl) ?_
      refine e_val (y := maxF 1 (minF 99 ((X (5 + h)) + (if is = 0 then -pasteF X else pasteF X)))) rfl ?_
      refine e_val (y := wiF (X (5 + h) + (if is = 0 then -pasteF X else pasteF X)) 1 99) (maxmin _) ?_
      refine cl_X5_60 (pc := 65) (k := 0) (n := 0) (S := []) Xc (c_put hP.a1 (by decide) h (by omega) (wiF (X (5 + h) + (if is = 0 then -pasteF X else pasteF X)) 1 99)) (dT hX5_bind 33 rfl) rfl (Nat.le_of_ble_eq_true rfl) (Nat.le_of_ble_eq_true rfl) (Nat.le_of_ble_eq_true rfl) rfl (Nat.le_of_ble_eq_true rfl) (fun σ28 hq29 => ?_)
      subst hq29
      refine Ev.gen (fun z => PX5 z w F T (upA A 1 (upd (A 1) h (wiF (X (5 + h) + (if is = 0 then -pasteF X else pasteF X)) 1 99)))) (hP.wa1 (g := (upd (A 1) h (wiF (X (5 + h) + (if is = 0 then -pasteF X else pasteF X)) 1 99)))) Off.set (fun σ30 hP31 ho32 => ?_)
      have hP33 := hTP.off ho32 (Ne.symm hne)
      refine e_aload_n (pc := 68) Xc (dT hX5_bind 34 rfl) 2 rfl ?_
      refine e_iconst (v := 0) (pc := 69) Xc (dT hX5_bind 35 rfl) rfl ?_
      refine pf_X5_33 (fs' := olX5 w (upd F 7 0) T) (pc := 70) Xc (dT hX5_bind 36 rfl) hP31.o (Nat.le_of_ble_eq_true rfl) rfl ?_
      refine Ev.gen (fun z => PX5 z w (upd F 7 0) T (upA A 1 (upd (A 1) h (wiF (X (5 + h) + (if is = 0 then -pasteF X else pasteF X)) 1 99)))) (hP31.wf7 (x := 0)) Off.set (fun σ34 hP35 ho36 => ?_)
      have hP37 := hP33.off ho36 (Ne.symm hne)
      refine e_aload_n (pc := 73) Xc (dT hX5_bind 37 rfl) 2 rfl ?_
      refine cl_X5_76 (pc := 74) (k := 0) (n := 0) (S := []) Xc hP35.o (c5_learn (X := upd X (5 + h) (wiF (X (5 + h) + (if is = 0 then -pasteF X else pasteF X)) 1 99)) ⟨_, T, _, ⟨hP35, hW.set_thick hr4 (by omega), hTw.off (ho32.tr ho36) (Ne.symm hne), hne, hG.upd_thick (by omega) wiF_in, hT.upd (by omega)⟩, htw⟩ hdy ((upd_n (by omega)).trans hd0) (by decide)) (dT hX5_bind 38 rfl) rfl (Nat.le_of_ble_eq_true rfl) (Nat.le_of_ble_eq_true rfl) (Nat.le_of_ble_eq_true rfl) rfl (Nat.le_of_ble_eq_true rfl) (fun σ39 hq40 => ?_)
      obtain ⟨hL41, ho42⟩ := hq40
      have hP43 := hP37.off ho42 (Ne.symm hne)
      refine e_vret (pc := 77) Xc hQ (dT hX5_bind 39 rfl) (Nat.le_refl _) (Nat.le_refl _) ?_
      obtain ⟨ln', hx1, -, -, hx4⟩ := hL41
      exact ⟨ln', by rw [pastF, if_neg (by rw [he]; exact nI_nm1 (by omega)), he, nI_clamp (by omega)]; exact hx1, fun _ => hx4, ((ho32.tr ho36).tr ho42)⟩
  · skip
    have hn : X (1 + r) = -1 := WB.has5 hG (by omega) (by rw [← hW.2.2.2.1 r (by omega)]; exact c12)
    refine e_vret (pc := 15) Xc hQ (dT hX5_bind 8 rfl) (Nat.le_refl _) (Nat.le_refl _) ?_
    exact ⟨ln, by rw [pastF, if_pos hn]; exact hX, id, Off.rf⟩
