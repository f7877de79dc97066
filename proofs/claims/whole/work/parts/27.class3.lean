set_option maxRecDepth 100000 in
set_option maxHeartbeats 4000000 in
theorem c5_comes {G : xG} {σ : xS} {w tw : Nat} {X : Nat → Int32} {nr nb : Nat} {t : xT} {ln : Nat} (hX : WX σ w tw X nr nb t ln) (hL : LB X ln) (r : Nat) (hr : r < nr) : CI G yX5_comes cX5_comes 3 (some .boolean) 4 0 0 [.ref w, .int (nI r)] σ (fun z σ1 => z = bI (decide (choF X t nr nb r ≠ -1)) ∧ WX σ1 w tw (comeF X t nr nb r) nr nb t ln ∧ Off w σ σ1) := by
  refine Met.ofX (by decide +kernel) (Nat.le_of_ble_eq_true rfl) (fun μ Xc hQ hnm => ?_)
  have Xc : xC G μ cX5_comes 3 RX5 (some .boolean) 4 0 0 := Xc
  obtain ⟨F, T, A, hB, htw⟩ := id hX
  obtain ⟨hP, hW, hTw, hne, hG, hT⟩ := id hB
  have hr4 := hG.r4
  have hb7 := hG.b7
  show Ev G μ 3 0 0 0 [(0, .ref w), (1, .int (nI r))] [] σ
  refine e_aload_n (pc := 0) Xc (dT hX5_comes 0 rfl) 0 rfl ?_
  refine e_iload_n (pc := 1) Xc (dT hX5_comes 1 rfl) 1 rfl ?_
  refine cl_X5_102 (pc := 2) (k := 0) (n := 0) (S := []) Xc hP.o (c5_choice hB hL r (by omega)) (dT hX5_comes 2 rfl) rfl (Nat.le_of_ble_eq_true rfl) (Nat.le_of_ble_eq_true rfl) (Nat.le_of_ble_eq_true rfl) rfl (Nat.le_of_ble_eq_true rfl) (fun r1 σ2 hq3 => ?_)
  obtain ⟨r1e, r1s⟩ := hq3
  have r1e := r1e.symm; subst r1e; have r1s := r1s.symm; subst r1s
  refine e_istore_n (L' := [(2, .int (orN (choF X t nr nb r))), (0, .ref w), (1, .int (nI r))]) (pc := 5) Xc (dT hX5_comes 3 rfl) (by decide) rfl ?_
  refine e_iload_n (pc := 6) Xc (dT hX5_comes 4 rfl) 0 rfl ?_
  refine e_bipush (v := -5) (pc := 7) Xc (dT hX5_comes 5 rfl) rfl ?_
  refine e_icmp_ne (tgt := 14) (pc := 9) Xc (dT hX5_comes 6 rfl) rfl (fun c9 => ?_) (fun c9 => ?_)
  · skip
    refine e_aload_n (pc := 14) Xc (dT hX5_comes 9 rfl) 1 rfl ?_
    refine gf_X5_21 (pc := 15) Xc (dT hX5_comes 10 rfl) hP.o rfl ?_
    refine e_iload_n (pc := 18) Xc (dT hX5_comes 11 rfl) 2 rfl ?_
    refine e_iload_n (pc := 19) Xc (dT hX5_comes 12 rfl) 0 rfl ?_
    refine cl_X5_60 (pc := 20) (k := 0) (n := 0) (S := []) Xc (c_put hP.a4 (by decide) r (by omega) (orN (choF X t nr nb r))) (dT hX5_comes 13 rfl) rfl (Nat.le_of_ble_eq_true rfl) (Nat.le_of_ble_eq_true rfl) (Nat.le_of_ble_eq_true rfl) rfl (Nat.le_of_ble_eq_true rfl) (fun σ5 hq6 => ?_)
    subst hq6
    refine Ev.gen (fun z => PX5 z w F T (upA A 4 (upd (A 4) r (orN (choF X t nr nb r))))) (hP.wa4 (g := (upd (A 4) r (orN (choF X t nr nb r))))) Off.set (fun σ7 hP8 ho9 => ?_)
    refine e_iconst (v := 1) (pc := 23) Xc (dT hX5_comes 14 rfl) rfl ?_
    refine e_zret (pc := 24) Xc hQ (dT hX5_comes 15 rfl) (Nat.le_refl _) (Nat.le_refl _) (Or.inr rfl) ?_
    have hn : ¬ choF X t nr nb r = -1 := fun q => c9 ((orN_5 hb7).mpr q)
    refine ⟨by simp [bI, hn], ⟨F, T, _, ⟨hP8, ?_, hTw.off ho9 (Ne.symm hne), hne, hG.come hr, hT.come hr4 hr⟩, htw⟩, ho9⟩
    rw [comeF, if_neg hn]
    exact hW.set_has (by omega)
  · skip
    refine e_iconst (v := 0) (pc := 12) Xc (dT hX5_comes 7 rfl) rfl ?_
    refine e_zret (pc := 13) Xc hQ (dT hX5_comes 8 rfl) (Nat.le_refl _) (Nat.le_refl _) (Or.inl rfl) ?_
    have hn : choF X t nr nb r = -1 := (orN_5 hb7).mp c9
    refine ⟨by rw [hn]; rfl, ?_, Off.rf⟩
    rw [comeF, if_pos hn, upd_self]
    exact hX
set_option maxRecDepth 100000 in
set_option maxHeartbeats 4000000 in
theorem c5_rests {G : xG} {σ : xS} {w : Nat} {X : Nat → Int32} {nr nb : Nat} {t : xT} {F : Nat → Int32} {T : Nat → Nat} {A : Nat → Nat → Int32} {ln : Nat} (hB : WB σ w X nr nb t F T A ln) (hL : LB X ln) : CI G yX5_rests cX5_rests 2 (some .boolean) 4 0 0 [.ref w] σ (fun z σ1 => z = bI (allTo (fun q => decide (choF X t nr nb q = -1)) nr) ∧ σ1 = σ) := by
  refine Met.ofX (by decide +kernel) (Nat.le_of_ble_eq_true rfl) (fun μ Xc hQ hnm => ?_)
  have Xc : xC G μ cX5_rests 2 RX5 (some .boolean) 4 0 0 := Xc
  obtain ⟨hP, hW, hTw, hne, hG, hT⟩ := id hB
  have hr4 := hG.r4
  have hb7 := hG.b7
  have lp2 : ∀ (n2 : Nat) (r : Nat), nr - r < n2 → (r ≤ nr) → (∀ j, j < r → (fun q => decide (choF X t nr nb q = -1)) j = true) → Ev G μ 2 0 0 2 [(0, .ref w), (1, .int (nI r))] [] σ := by
    intro n2
    induction n2 with
    | zero => intro r hn; exact absurd hn (Nat.not_lt_zero _)
    | succ n2 ih2 =>
      intro r hn2 hr hs
      refine e_iload_n (pc := 2) Xc (dT hX5_rests 2 rfl) 1 rfl ?_
      refine e_aload_n (pc := 3) Xc (dT hX5_rests 3 rfl) 0 rfl ?_
      refine gf_X5_40 (pc := 4) Xc (dT hX5_rests 4 rfl) hP.o rfl ?_
      refine e_val (y := nI nr) hW.2.2.2.2.2.2.1 ?_
      refine e_icmp_geN (x := r) (y := nr) (tgt := 28) (pc := 7) Xc (dT hX5_rests 5 rfl) rfl (by omega) (by omega) (fun c7 => ?_) (fun c7 => ?_)
      · skip
        refine e_iconst (v := 1) (pc := 28) Xc (dT hX5_rests 15 rfl) rfl ?_
        refine e_zret (pc := 29) Xc hQ (dT hX5_rests 16 rfl) (Nat.le_refl _) (Nat.le_refl _) (Or.inr rfl) ?_
        refine ⟨?_, rfl⟩
        have hre : r = nr := by omega
        subst hre
        symm
        show bI _ = 1
        rw [bI_1]
        exact allTo_iff.mpr hs
      · skip
        refine e_aload_n (pc := 10) Xc (dT hX5_rests 6 rfl) 0 rfl ?_
        refine e_iload_n (pc := 11) Xc (dT hX5_rests 7 rfl) 1 rfl ?_
        refine cl_X5_102 (pc := 12) (k := 0) (n := 0) (S := []) Xc hP.o (c5_choice hB hL r (by omega)) (dT hX5_rests 8 rfl) rfl (Nat.le_of_ble_eq_true rfl) (Nat.le_of_ble_eq_true rfl) (Nat.le_of_ble_eq_true rfl) rfl (Nat.le_of_ble_eq_true rfl) (fun r1 σ2 hq3 => ?_)
        obtain ⟨r1e, r1s⟩ := hq3
        have r1e := r1e.symm; subst r1e; have r1s := r1s.symm; subst r1s
        refine e_bipush (v := -5) (pc := 15) Xc (dT hX5_rests 9 rfl) rfl ?_
        refine e_icmp_eq (tgt := 22) (pc := 17) Xc (dT hX5_rests 10 rfl) rfl (fun c17 => ?_) (fun c17 => ?_)
        · skip
          refine e_iincN (a := r) (b := 1) (L' := [(1, .int (nI (r + 1))), (0, .ref w)]) (pc := 22) Xc (dT hX5_rests 13 rfl) 1 rfl rfl (by decide) rfl ?_
          refine e_goto (tgt := 2) (pc := 25) Xc (dT hX5_rests 14 rfl) rfl ?_
          refine Ev.pick (L' := [(0, .ref w), (1, .int (nI (r + 1)))]) [1, 0] rfl ?_
          exact ih2 (r + 1) (by omega) (by omega) (fun j hj => by by_cases e : j = r; (· subst e; simpa using (orN_5 hb7).mp c17); (· exact hs j (by omega)))
        · skip
          refine e_iconst (v := 0) (pc := 20) Xc (dT hX5_rests 11 rfl) rfl ?_
          refine e_zret (pc := 21) Xc hQ (dT hX5_rests 12 rfl) (Nat.le_refl _) (Nat.le_refl _) (Or.inl rfl) ?_
          refine ⟨?_, rfl⟩
          symm
          rw [bI_0]
          cases hq : allTo (fun q => decide (choF X t nr nb q = -1)) nr with
          | false => rfl
          | true =>
            have := allTo_iff.mp hq r (by omega)
            simp only [decide_eq_true_eq] at this
            exact absurd this ((fun q => c17 ((orN_5 hb7).mpr q)))
  show Ev G μ 2 0 0 0 [(0, .ref w)] [] σ
  refine e_iconst (v := 0) (pc := 0) Xc (dT hX5_rests 0 rfl) rfl ?_
  refine e_istore_n (L' := [(1, .int 0), (0, .ref w)]) (pc := 1) Xc (dT hX5_rests 1 rfl) (by decide) rfl ?_
  refine Ev.pick (L' := [(0, .ref w), (1, .int 0)]) [1, 0] rfl ?_
  exact lp2 ((nr - 0) + 1) 0 (Nat.lt_succ_self _) (Nat.zero_le _) (fun j hj => absurd hj (Nat.not_lt_zero j))
set_option maxRecDepth 100000 in
set_option maxHeartbeats 4000000 in
theorem c5_isStuck {G : xG} {σ : xS} {w : Nat} {X : Nat → Int32} {nr nb : Nat} {t : xT} {F : Nat → Int32} {T : Nat → Nat} {A : Nat → Nat → Int32} {ln : Nat} (hB : WB σ w X nr nb t F T A ln)  : CI G yX5_isStuck cX5_isStuck 2 (some .boolean) 4 0 0 [.ref w] σ (fun z σ1 => z = bI (allTo (fun q => decide (mayTakeF X nr nb q = 0)) nr) ∧ σ1 = σ) := by
  refine Met.ofX (by decide +kernel) (Nat.le_of_ble_eq_true rfl) (fun μ Xc hQ hnm => ?_)
  have Xc : xC G μ cX5_isStuck 2 RX5 (some .boolean) 4 0 0 := Xc
  obtain ⟨hP, hW, hTw, hne, hG, hT⟩ := id hB
  have hr4 := hG.r4
  have hb7 := hG.b7
  have lp2 : ∀ (n2 : Nat) (r : Nat), nr - r < n2 → (r ≤ nr) → (∀ j, j < r → (fun q => decide (mayTakeF X nr nb q = 0)) j = true) → Ev G μ 2 0 0 2 [(0, .ref w), (1, .int (nI r))] [] σ := by
    intro n2
    induction n2 with
    | zero => intro r hn; exact absurd hn (Nat.not_lt_zero _)
    | succ n2 ih2 =>
      intro r hn2 hr hs
      refine e_iload_n (pc := 2) Xc (dT hX5_isStuck 2 rfl) 1 rfl ?_
      refine e_aload_n (pc := 3) Xc (dT hX5_isStuck 3 rfl) 0 rfl ?_
      refine gf_X5_40 (pc := 4) Xc (dT hX5_isStuck 4 rfl) hP.o rfl ?_
      refine e_val (y := nI nr) hW.2.2.2.2.2.2.1 ?_
      refine e_icmp_geN (x := r) (y := nr) (tgt := 26) (pc := 7) Xc (dT hX5_isStuck 5 rfl) rfl (by omega) (by omega) (fun c7 => ?_) (fun c7 => ?_)
      · skip
        refine e_iconst (v := 1) (pc := 26) Xc (dT hX5_isStuck 14 rfl) rfl ?_
        refine e_zret (pc := 27) Xc hQ (dT hX5_isStuck 15 rfl) (Nat.le_refl _) (Nat.le_refl _) (Or.inr rfl) ?_
        refine ⟨?_, rfl⟩
        have hre : r = nr := by omega
        subst hre
        symm
        show bI _ = 1
        rw [bI_1]
        exact allTo_iff.mpr hs
      · skip
        refine e_aload_n (pc := 10) Xc (dT hX5_isStuck 6 rfl) 0 rfl ?_
        refine e_iload_n (pc := 11) Xc (dT hX5_isStuck 7 rfl) 1 rfl ?_
        refine cl_X5_105 (pc := 12) (k := 0) (n := 0) (S := []) Xc hP.o (c5_takeable hB r (by omega)) (dT hX5_isStuck 8 rfl) rfl (Nat.le_of_ble_eq_true rfl) (Nat.le_of_ble_eq_true rfl) (Nat.le_of_ble_eq_true rfl) rfl (Nat.le_of_ble_eq_true rfl) (fun r1 σ2 hq3 => ?_)
        obtain ⟨r1e, r1s⟩ := hq3
        have r1e := r1e.symm; subst r1e; have r1s := r1s.symm; subst r1s
        refine e_if_eq (tgt := 20) (pc := 15) Xc (dT hX5_isStuck 9 rfl) rfl (fun c15 => ?_) (fun c15 => ?_)
        · skip
          refine e_iincN (a := r) (b := 1) (L' := [(1, .int (nI (r + 1))), (0, .ref w)]) (pc := 20) Xc (dT hX5_isStuck 12 rfl) 1 rfl rfl (by decide) rfl ?_
          refine e_goto (tgt := 2) (pc := 23) Xc (dT hX5_isStuck 13 rfl) rfl ?_
          refine Ev.pick (L' := [(0, .ref w), (1, .int (nI (r + 1)))]) [1, 0] rfl ?_
          exact ih2 (r + 1) (by omega) (by omega) (fun j hj => by by_cases e : j = r; (· subst e; simpa using c15); (· exact hs j (by omega)))
        · skip
          refine e_iconst (v := 0) (pc := 18) Xc (dT hX5_isStuck 10 rfl) rfl ?_
          refine e_zret (pc := 19) Xc hQ (dT hX5_isStuck 11 rfl) (Nat.le_refl _) (Nat.le_refl _) (Or.inl rfl) ?_
          refine ⟨?_, rfl⟩
          symm
          rw [bI_0]
          cases hq : allTo (fun q => decide (mayTakeF X nr nb q = 0)) nr with
          | false => rfl
          | true =>
            have := allTo_iff.mp hq r (by omega)
            simp only [decide_eq_true_eq] at this
            exact absurd this (c15)
  show Ev G μ 2 0 0 0 [(0, .ref w)] [] σ
  refine e_iconst (v := 0) (pc := 0) Xc (dT hX5_isStuck 0 rfl) rfl ?_
  refine e_istore_n (L' := [(1, .int 0), (0, .ref w)]) (pc := 1) Xc (dT hX5_isStuck 1 rfl) (by decide) rfl ?_
  refine Ev.pick (L' := [(0, .ref w), (1, .int 0)]) [1, 0] rfl ?_
  exact lp2 ((nr - 0) + 1) 0 (Nat.lt_succ_self _) (Nat.zero_le _) (fun j hj => absurd hj (Nat.not_lt_zero j))
