set_option maxRecDepth 100000 in
set_option maxHeartbeats 4000000 in
theorem c1_best {G : xG} {σ : xS} {go w tw : Nat} {X X0 : Nat → Int32} {nr nb : Nat} {t : xT} {ln : Nat} {ql : wQ} (hX : WX σ w tw X0 nr nb t ln) (hG : Gd X nr nb) (hL : LB X ln) (hX0c : ∀ j, ¬ (1 ≤ j ∧ j ≤ nr) → X0 j = X j) (hGX : GX σ go nr nb ql) (hRES : RES X t nr nb ql) (hle : ql.length ≤ 840) (hgw : go ≠ w) (hgt : go ≠ tw) : CI G yX1_best cX1_best 7 (some .int) 3 0 0 [.ref go, .ref w] σ (fun z σ1 => (∃ pw : Nat × Int32, mostL X t nr ql = some pw ∧ okV nr nb pw.1 ∧ z = nI (cdW nr pw.1)) ∧ (∃ X1, WX σ1 w tw X1 nr nb t ln ∧ ∀ j, ¬ (1 ≤ j ∧ j ≤ nr) → X1 j = X j) ∧ GX σ1 go nr nb ql ∧ Off w σ σ1) := by
  refine Met.ofX (by decide +kernel) (Nat.le_of_ble_eq_true rfl) (fun μ Xc hQ hnm => ?_)
  have Xc : xC G μ cX1_best 7 RX1 (some .int) 3 0 0 := Xc
  have hr4 := hG.r4
  have hb7 := hG.b7
  show Ev G μ 7 0 0 0 [(0, .ref go), (1, .ref w)] [] σ
  obtain ⟨Fw1, Tw1, Aw1, hBw1, htw1⟩ := id hX
  have hPw1 := hBw1.1
  have hWw1 := hBw1.2.1
  obtain ⟨Fg1, Tg1, Ag1, hPg1, hRGg1, hFg1, hFr1⟩ := id hGX
  refine e_bipush (v := -5) (pc := 0) Xc (dT hX1_best 0 rfl) rfl ?_
  refine e_istore_n (L' := [(2, .int (-5)), (0, .ref go), (1, .ref w)]) (pc := 2) Xc (dT hX1_best 1 rfl) (by decide) rfl ?_
  refine e_iconst (v := 0) (pc := 3) Xc (dT hX1_best 2 rfl) rfl ?_
  refine e_istore_n (L' := [(3, .int 0), (2, .int (-5)), (0, .ref go), (1, .ref w)]) (pc := 4) Xc (dT hX1_best 3 rfl) (by decide) rfl ?_
  refine e_iconst (v := 0) (pc := 5) Xc (dT hX1_best 4 rfl) rfl ?_
  refine e_istore (L' := [(4, .int 0), (3, .int 0), (2, .int (-5)), (0, .ref go), (1, .ref w)]) (pc := 6) Xc (dT hX1_best 5 rfl) (by decide) rfl ?_
  have lp8 : ∀ (n8 : Nat) (k_ : Nat) (be_ to_ : Int32) (o_ : Option (Nat × Int32)) (X1 : Nat → Int32) (σ2 : xS), ql.length - k_ < n8 → (k_ ≤ ql.length) → (mostL X t nr (ql.take k_) = o_) → (relC nr nb o_ be_ to_) → (∀ j, ¬ (1 ≤ j ∧ j ≤ nr) → X1 j = X j) → (GX σ2 go nr nb ql) → (WX σ2 w tw X1 nr nb t ln) → (Off w σ σ2) → Ev G μ 7 0 0 8 [(0, .ref go), (1, .ref w), (2, .int be_), (3, .int to_), (4, .int (nI k_))] [] σ2 := by
    intro n8
    induction n8 with
    | zero => intro k_ be_ to_ o_ X1 σ2 hn; exact absurd hn (Nat.not_lt_zero _)
    | succ n8 ih8 =>
      intro k_ be_ to_ o_ X1 σ2 hn8 hk_ ho_ hrl_ hX1_ hG2 hW2 hO2
      obtain ⟨Fw2, Tw2, Aw2, hBw2, htw2⟩ := id hW2
      have hPw2 := hBw2.1
      have hWw2 := hBw2.2.1
      obtain ⟨Fg2, Tg2, Ag2, hPg2, hRGg2, hFg2, hFr2⟩ := id hG2
      refine e_iload (pc := 8) Xc (dT hX1_best 6 rfl) 4 rfl ?_
      refine e_aload_n (pc := 10) Xc (dT hX1_best 7 rfl) 0 rfl ?_
      refine gf_X1_18 (pc := 11) Xc (dT hX1_best 8 rfl) hPg2.o rfl ?_
      refine e_val (y := nI ql.length) hFg2 ?_
      refine e_icmp_geN (x := k_) (y := ql.length) (tgt := 76) (pc := 14) Xc (dT hX1_best 9 rfl) rfl (by omega) (by omega) (fun c14 => ?_) (fun c14 => ?_)
      · skip
        have hke_ : k_ = ql.length := by omega
        refine e_iload_n (pc := 76) Xc (dT hX1_best 39 rfl) 2 rfl ?_
        refine e_iret (pc := 77) Xc hQ (dT hX1_best 40 rfl) (Nat.le_refl _) (Nat.le_refl _) ?_
        rw [tk_e (by omega)] at ho_
        obtain ⟨pw_, hmo_, -⟩ := mostL_top hRES
        rw [hmo_] at ho_
        subst ho_
        obtain ⟨hbe_, hto_, hpv_⟩ : be_ = nI (cdW nr pw_.1) ∧ to_ = pw_.2 ∧ okV nr nb pw_.1 := hrl_
        exact ⟨⟨pw_, hmo_, hpv_, hbe_⟩, ⟨X1, hW2, hX1_⟩, hG2, hO2⟩
      · skip
        have hk1_ : k_ < ql.length := by omega
        have hkm_ := gQ_mem hk1_
        have hvk_ := hRES.1.2.1 _ hkm_
        have hcl_ := cd_lt (nr := nr) hvk_.1
        refine e_aload_n (pc := 17) Xc (dT hX1_best 10 rfl) 0 rfl ?_
        refine gf_X1_15 (pc := 18) Xc (dT hX1_best 11 rfl) hPg2.o rfl ?_
        refine e_iload (pc := 21) Xc (dT hX1_best 12 rfl) 4 rfl ?_
        refine cl_X1_38 (pc := 23) (k := 0) (n := 0) (S := []) Xc (c_get hPg2.a2 (by decide) (by decide) k_ (by omega)) (dT hX1_best 13 rfl) rfl (Nat.le_of_ble_eq_true rfl) (Nat.le_of_ble_eq_true rfl) (Nat.le_of_ble_eq_true rfl) rfl (Nat.le_of_ble_eq_true rfl) (fun r3 σ4 hq5 => ?_)
        obtain ⟨r3e, r3s⟩ := hq5
        have r3e := r3e.symm; subst r3e; have r3s := r3s.symm; subst r3s
        refine e_val (y := nI (cdW nr (gQ ql k_).1)) (hRGg2.1 k_ hk1_) ?_
        refine e_istore (L' := [(5, .int (nI (cdW nr (gQ ql k_).1))), (0, .ref go), (1, .ref w), (2, .int be_), (3, .int to_), (4, .int (nI k_))]) (pc := 26) Xc (dT hX1_best 14 rfl) (by decide) rfl ?_
        refine e_aload_n (pc := 28) Xc (dT hX1_best 15 rfl) 2 rfl ?_
        refine e_iload (pc := 29) Xc (dT hX1_best 16 rfl) 0 rfl ?_
        refine cl_X1_54 (pc := 31) (k := 0) (n := 0) (S := []) Xc hPw2.o (c5_hold hW2 (gQ ql k_).1 hvk_) (dT hX1_best 17 rfl) rfl (Nat.le_of_ble_eq_true rfl) (Nat.le_of_ble_eq_true rfl) (Nat.le_of_ble_eq_true rfl) rfl (Nat.le_of_ble_eq_true rfl) (fun σ7 hq8 => ?_)
        obtain ⟨hX9, ho10⟩ := hq8
        have hGX11 := hG2.off ho10 hgw
        rw [setW_cg hX1_] at hX9
        obtain ⟨Fw12, Tw12, Aw12, hBw12, htw12⟩ := id hX9
        have hPw12 := hBw12.1
        have hWw12 := hBw12.2.1
        obtain ⟨Fg12, Tg12, Ag12, hPg12, hRGg12, hFg12, hFr12⟩ := id hGX11
        refine e_aload_n (pc := 34) Xc (dT hX1_best 18 rfl) 2 rfl ?_
        refine cl_X1_83 (pc := 35) (k := 0) (n := 0) (S := []) Xc hPw12.o (c5_total hBw12 hL.setW) (dT hX1_best 19 rfl) rfl (Nat.le_of_ble_eq_true rfl) (Nat.le_of_ble_eq_true rfl) (Nat.le_of_ble_eq_true rfl) rfl (Nat.le_of_ble_eq_true rfl) (fun r13 σ14 hq15 => ?_)
        obtain ⟨r13e, r13s⟩ := hq15
        have r13e := r13e.symm; subst r13e; have r13s := r13s.symm; subst r13s
        refine e_istore (L' := [(6, .int (totF (setW X nr (gQ ql k_).1) t nr)), (5, .int (nI (cdW nr (gQ ql k_).1))), (0, .ref go), (1, .ref w), (2, .int be_), (3, .int to_), (4, .int (nI k_))]) (pc := 38) Xc (dT hX1_best 20 rfl) (by decide) rfl ?_
        rcases o_ with _ | pw_
        · skip
          have hbe_ : be_ = -5 := hrl_
          subst hbe_
          refine e_iload_n (pc := 40) Xc (dT hX1_best 21 rfl) 4 rfl ?_
          refine e_bipush (v := -5) (pc := 41) Xc (dT hX1_best 22 rfl) rfl ?_
          refine e_icmp_eq (tgt := 64) (pc := 43) Xc (dT hX1_best 23 rfl) rfl (fun c43 => ?_) (fun c43 => ?_)
          · skip
            refine e_iload (pc := 64) Xc (dT hX1_best 33 rfl) 1 rfl ?_
            refine e_istore_n (L' := [(2, .int (nI (cdW nr (gQ ql k_).1))), (6, .int (totF (setW X nr (gQ ql k_).1) t nr)), (5, .int (nI (cdW nr (gQ ql k_).1))), (0, .ref go), (1, .ref w), (3, .int to_), (4, .int (nI k_))]) (pc := 66) Xc (dT hX1_best 34 rfl) (by decide) rfl ?_
            refine e_iload (pc := 67) Xc (dT hX1_best 35 rfl) 1 rfl ?_
            refine e_istore_n (L' := [(3, .int (totF (setW X nr (gQ ql k_).1) t nr)), (2, .int (nI (cdW nr (gQ ql k_).1))), (6, .int (totF (setW X nr (gQ ql k_).1) t nr)), (5, .int (nI (cdW nr (gQ ql k_).1))), (0, .ref go), (1, .ref w), (4, .int (nI k_))]) (pc := 69) Xc (dT hX1_best 36 rfl) (by decide) rfl ?_
            refine e_iincN (a := k_) (b := 1) (L' := [(4, .int (nI (k_ + 1))), (3, .int (totF (setW X nr (gQ ql k_).1) t nr)), (2, .int (nI (cdW nr (gQ ql k_).1))), (6, .int (totF (setW X nr (gQ ql k_).1) t nr)), (5, .int (nI (cdW nr (gQ ql k_).1))), (0, .ref go), (1, .ref w)]) (pc := 70) Xc (dT hX1_best 37 rfl) 6 rfl rfl (by decide) rfl ?_
            refine e_goto (tgt := 8) (pc := 73) Xc (dT hX1_best 38 rfl) rfl ?_
            refine Ev.pick (L' := [(0, .ref go), (1, .ref w), (2, .int (nI (cdW nr (gQ ql k_).1))), (3, .int (totF (setW X nr (gQ ql k_).1) t nr)), (4, .int (nI (k_ + 1)))]) [5, 6, 2, 1, 0] rfl ?_
            exact ih8 (k_ + 1) (nI (cdW nr (gQ ql k_).1)) (totF (setW X nr (gQ ql k_).1) t nr) (some ((gQ ql k_).1, (totF (setW X nr (gQ ql k_).1) t nr))) (setW X nr (gQ ql k_).1) σ7 (by omega) (by omega) (by rw [mostL_s hk1_, ho_]; exact rfl) (⟨rfl, rfl, hvk_⟩) (fun j h => setW_n h) hGX11 hX9 (hO2.tr ho10)
          · skip
            exact absurd c43 (by decide)
        · skip
          obtain ⟨hbe_, hto_, hpv_⟩ : be_ = nI (cdW nr pw_.1) ∧ to_ = pw_.2 ∧ okV nr nb pw_.1 := hrl_
          subst hbe_ hto_
          have hpl_ := cd_lt (nr := nr) hpv_.1
          refine e_iload_n (pc := 40) Xc (dT hX1_best 21 rfl) 4 rfl ?_
          refine e_bipush (v := -5) (pc := 41) Xc (dT hX1_best 22 rfl) rfl ?_
          refine e_icmp_eq (tgt := 64) (pc := 43) Xc (dT hX1_best 23 rfl) rfl (fun c43 => ?_) (fun c43 => ?_)
          · skip
            exact absurd c43 (nI_nneg (by omega) (by decide))
          · skip
            refine e_iload (pc := 46) Xc (dT hX1_best 24 rfl) 0 rfl ?_
            refine e_iload_n (pc := 48) Xc (dT hX1_best 25 rfl) 5 rfl ?_
            refine e_icmp_gt (tgt := 64) (pc := 49) Xc (dT hX1_best 26 rfl) rfl (fun c49 => ?_) (fun c49 => ?_)
            · skip
              refine e_iload (pc := 64) Xc (dT hX1_best 33 rfl) 1 rfl ?_
              refine e_istore_n (L' := [(2, .int (nI (cdW nr (gQ ql k_).1))), (6, .int (totF (setW X nr (gQ ql k_).1) t nr)), (5, .int (nI (cdW nr (gQ ql k_).1))), (0, .ref go), (1, .ref w), (3, .int pw_.2), (4, .int (nI k_))]) (pc := 66) Xc (dT hX1_best 34 rfl) (by decide) rfl ?_
              refine e_iload (pc := 67) Xc (dT hX1_best 35 rfl) 1 rfl ?_
              refine e_istore_n (L' := [(3, .int (totF (setW X nr (gQ ql k_).1) t nr)), (2, .int (nI (cdW nr (gQ ql k_).1))), (6, .int (totF (setW X nr (gQ ql k_).1) t nr)), (5, .int (nI (cdW nr (gQ ql k_).1))), (0, .ref go), (1, .ref w), (4, .int (nI k_))]) (pc := 69) Xc (dT hX1_best 36 rfl) (by decide) rfl ?_
              refine e_iincN (a := k_) (b := 1) (L' := [(4, .int (nI (k_ + 1))), (3, .int (totF (setW X nr (gQ ql k_).1) t nr)), (2, .int (nI (cdW nr (gQ ql k_).1))), (6, .int (totF (setW X nr (gQ ql k_).1) t nr)), (5, .int (nI (cdW nr (gQ ql k_).1))), (0, .ref go), (1, .ref w)]) (pc := 70) Xc (dT hX1_best 37 rfl) 6 rfl rfl (by decide) rfl ?_
              refine e_goto (tgt := 8) (pc := 73) Xc (dT hX1_best 38 rfl) rfl ?_
              refine Ev.pick (L' := [(0, .ref go), (1, .ref w), (2, .int (nI (cdW nr (gQ ql k_).1))), (3, .int (totF (setW X nr (gQ ql k_).1) t nr)), (4, .int (nI (k_ + 1)))]) [5, 6, 2, 1, 0] rfl ?_
              exact ih8 (k_ + 1) (nI (cdW nr (gQ ql k_).1)) (totF (setW X nr (gQ ql k_).1) t nr) (some ((gQ ql k_).1, (totF (setW X nr (gQ ql k_).1) t nr))) (setW X nr (gQ ql k_).1) σ7 (by omega) (by omega) (by rw [mostL_s hk1_, ho_]; exact (if_pos (Or.inl c49))) (⟨rfl, rfl, hvk_⟩) (fun j h => setW_n h) hGX11 hX9 (hO2.tr ho10)
            · skip
              refine e_iload (pc := 52) Xc (dT hX1_best 27 rfl) 0 rfl ?_
              refine e_iload_n (pc := 54) Xc (dT hX1_best 28 rfl) 5 rfl ?_
              refine e_icmp_ne (tgt := 70) (pc := 55) Xc (dT hX1_best 29 rfl) rfl (fun c55 => ?_) (fun c55 => ?_)
              · skip
                refine e_iincN (a := k_) (b := 1) (L' := [(4, .int (nI (k_ + 1))), (6, .int (totF (setW X nr (gQ ql k_).1) t nr)), (5, .int (nI (cdW nr (gQ ql k_).1))), (0, .ref go), (1, .ref w), (2, .int (nI (cdW nr pw_.1))), (3, .int pw_.2)]) (pc := 70) Xc (dT hX1_best 37 rfl) 6 rfl rfl (by decide) rfl ?_
                refine e_goto (tgt := 8) (pc := 73) Xc (dT hX1_best 38 rfl) rfl ?_
                refine Ev.pick (L' := [(0, .ref go), (1, .ref w), (2, .int (nI (cdW nr pw_.1))), (3, .int pw_.2), (4, .int (nI (k_ + 1)))]) [3, 4, 5, 6, 0] rfl ?_
                exact ih8 (k_ + 1) (nI (cdW nr pw_.1)) pw_.2 (some pw_) (setW X nr (gQ ql k_).1) σ7 (by omega) (by omega) (by rw [mostL_s hk1_, ho_]; exact (if_neg (fun q => q.elim c49 (fun q => c55 q.1)))) (⟨rfl, rfl, hpv_⟩) (fun j h => setW_n h) hGX11 hX9 (hO2.tr ho10)
              · skip
                refine e_iload (pc := 58) Xc (dT hX1_best 30 rfl) 1 rfl ?_
                refine e_iload_n (pc := 60) Xc (dT hX1_best 31 rfl) 4 rfl ?_
                refine e_icmp_geN (x := cdW nr (gQ ql k_).1) (y := cdW nr pw_.1) (tgt := 70) (pc := 61) Xc (dT hX1_best 32 rfl) rfl (by omega) (by omega) (fun c61 => ?_) (fun c61 => ?_)
                · skip
                  refine e_iincN (a := k_) (b := 1) (L' := [(4, .int (nI (k_ + 1))), (6, .int (totF (setW X nr (gQ ql k_).1) t nr)), (5, .int (nI (cdW nr (gQ ql k_).1))), (0, .ref go), (1, .ref w), (2, .int (nI (cdW nr pw_.1))), (3, .int pw_.2)]) (pc := 70) Xc (dT hX1_best 37 rfl) 6 rfl rfl (by decide) rfl ?_
                  refine e_goto (tgt := 8) (pc := 73) Xc (dT hX1_best 38 rfl) rfl ?_
                  refine Ev.pick (L' := [(0, .ref go), (1, .ref w), (2, .int (nI (cdW nr pw_.1))), (3, .int pw_.2), (4, .int (nI (k_ + 1)))]) [3, 4, 5, 6, 0] rfl ?_
                  exact ih8 (k_ + 1) (nI (cdW nr pw_.1)) pw_.2 (some pw_) (setW X nr (gQ ql k_).1) σ7 (by omega) (by omega) (by rw [mostL_s hk1_, ho_]; exact (if_neg (fun q => q.elim c49 (fun q => by have := (cd_ord hr4 hvk_ hpv_).mpr q.2; omega)))) (⟨rfl, rfl, hpv_⟩) (fun j h => setW_n h) hGX11 hX9 (hO2.tr ho10)
                · skip
                  refine e_iload (pc := 64) Xc (dT hX1_best 33 rfl) 1 rfl ?_
                  refine e_istore_n (L' := [(2, .int (nI (cdW nr (gQ ql k_).1))), (6, .int (totF (setW X nr (gQ ql k_).1) t nr)), (5, .int (nI (cdW nr (gQ ql k_).1))), (0, .ref go), (1, .ref w), (3, .int pw_.2), (4, .int (nI k_))]) (pc := 66) Xc (dT hX1_best 34 rfl) (by decide) rfl ?_
                  refine e_iload (pc := 67) Xc (dT hX1_best 35 rfl) 1 rfl ?_
                  refine e_istore_n (L' := [(3, .int (totF (setW X nr (gQ ql k_).1) t nr)), (2, .int (nI (cdW nr (gQ ql k_).1))), (6, .int (totF (setW X nr (gQ ql k_).1) t nr)), (5, .int (nI (cdW nr (gQ ql k_).1))), (0, .ref go), (1, .ref w), (4, .int (nI k_))]) (pc := 69) Xc (dT hX1_best 36 rfl) (by decide) rfl ?_
                  refine e_iincN (a := k_) (b := 1) (L' := [(4, .int (nI (k_ + 1))), (3, .int (totF (setW X nr (gQ ql k_).1) t nr)), (2, .int (nI (cdW nr (gQ ql k_).1))), (6, .int (totF (setW X nr (gQ ql k_).1) t nr)), (5, .int (nI (cdW nr (gQ ql k_).1))), (0, .ref go), (1, .ref w)]) (pc := 70) Xc (dT hX1_best 37 rfl) 6 rfl rfl (by decide) rfl ?_
                  refine e_goto (tgt := 8) (pc := 73) Xc (dT hX1_best 38 rfl) rfl ?_
                  refine Ev.pick (L' := [(0, .ref go), (1, .ref w), (2, .int (nI (cdW nr (gQ ql k_).1))), (3, .int (totF (setW X nr (gQ ql k_).1) t nr)), (4, .int (nI (k_ + 1)))]) [5, 6, 2, 1, 0] rfl ?_
                  exact ih8 (k_ + 1) (nI (cdW nr (gQ ql k_).1)) (totF (setW X nr (gQ ql k_).1) t nr) (some ((gQ ql k_).1, (totF (setW X nr (gQ ql k_).1) t nr))) (setW X nr (gQ ql k_).1) σ7 (by omega) (by omega) (by rw [mostL_s hk1_, ho_]; exact (if_pos (Or.inr ⟨c55, (cd_ord hr4 hvk_ hpv_).mp (by omega)⟩))) (⟨rfl, rfl, hvk_⟩) (fun j h => setW_n h) hGX11 hX9 (hO2.tr ho10)
  refine Ev.pick (L' := [(0, .ref go), (1, .ref w), (2, .int (-5)), (3, .int 0), (4, .int 0)]) [3, 4, 2, 1, 0] rfl ?_
  exact lp8 ((ql.length - 0) + 1) 0 (-5) 0 none X0 σ (Nat.lt_succ_self _) (Nat.zero_le _) rfl rfl hX0c hGX hX Off.rf
