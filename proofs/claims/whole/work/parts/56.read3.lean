set_option maxRecDepth 100000 in
set_option maxHeartbeats 4000000 in
theorem c_factor4 {G : xG} {σ : xS} {m : Nat} {F : Nat → Int32} {T : Nat → Nat} {A : Nat → Nat → Int32} (hP : PX7 σ m F T A) {H : Nat → Int32} {nt a n0 : Nat} (hp : PH (A 1) F H nt a n0) (s : Bool × Nat) (hs : s.2 ≤ nt) (hF : F 6 = nI s.2 ∧ F 8 = bI (!s.1)) (hn : n0 ≤ s.2) (h9 : F 9 = 1) : CV G yX7_factor cX7_factor 5 none 17 0 0 [.ref m] σ (fun σ1 => pP σ1 m F T A a (gFa H 4 s) ∧ Off m σ σ1) := by
  refine Met.ofX (by decide +kernel) (Nat.le_of_ble_eq_true rfl) (fun μ Xc hQ hnm => ?_)
  have Xc : xC G μ cX7_factor 5 RX7 none 17 0 0 := Xc
  have hnt_ := hp.1
  have ha5_ := hp.2.1
  show Ev G μ 5 0 0 0 [(0, .ref m)] [] σ
  rcases s with ⟨_ | _, p_⟩
  · skip
    have hF6_ : F 6 = nI p_ := hF.1
    have hF8_ : F 8 = 1 := hF.2
    have hs_ : p_ ≤ nt := hs
    refine e_aload_n (pc := 0) Xc (dT hX7_factor 0 rfl) 0 rfl ?_
    refine gf_X7_60 (pc := 1) Xc (dT hX7_factor 1 rfl) hP.o rfl ?_
    refine e_val (y := 1) hF8_ ?_
    refine e_if_eq (tgt := 8) (pc := 4) Xc (dT hX7_factor 2 rfl) rfl (fun c4 => ?_) (fun c4 => ?_)
    · skip
      exact absurd c4 (by decide)
    · skip
      refine e_vret (pc := 7) Xc hQ (dT hX7_factor 3 rfl) (Nat.le_refl _) (Nat.le_refl _) ?_
      rw [show gFa H 4 (false, p_) = (false, p_, []) from rfl]
      refine ⟨?_, Off.rf⟩
      show PX7 _ m (fP F (false, p_)) T (upA A 1 (wrL a (A 1) (([]).map encR)))
      rw [show (upA A 1 (wrL a (A 1) (([] : List xI).map encR))) = A from upA_id, show fP F (false, p_) = F from (F_ext (by first | rfl | exact hF6_.symm) (by first | rfl | exact hF8_.symm) (by first | rfl | exact h9) (fun j q6 q8 q9 => by simp only [fP, upd, if_neg q6, if_neg q8, if_neg q9]))]
      exact hP
  · skip
    have hF6_ : F 6 = nI p_ := hF.1
    have hF8_ : F 8 = 0 := hF.2
    have hs_ : p_ ≤ nt := hs
    refine e_aload_n (pc := 0) Xc (dT hX7_factor 0 rfl) 0 rfl ?_
    refine gf_X7_60 (pc := 1) Xc (dT hX7_factor 1 rfl) hP.o rfl ?_
    refine e_val (y := 0) hF8_ ?_
    refine e_if_eq (tgt := 8) (pc := 4) Xc (dT hX7_factor 2 rfl) rfl (fun c4 => ?_) (fun c4 => ?_)
    · skip
      refine e_aload_n (pc := 8) Xc (dT hX7_factor 4 rfl) 0 rfl ?_
      have hph1 : PH (A 1) F H nt a n0 := ⟨hp.1, hp.2.1, hp.2.2.1, hp.2.2.2.1, hp.2.2.2.2.1, hp.2.2.2.2.2.1, hp.2.2.2.2.2.2⟩
      refine cl_X7_64 (pc := 9) (k := 0) (n := 0) (S := []) Xc hP.o (c_here hP hph1 (true, p_) hs hF) (dT hX7_factor 5 rfl) rfl (Nat.le_of_ble_eq_true rfl) (Nat.le_of_ble_eq_true rfl) (Nat.le_of_ble_eq_true rfl) rfl (Nat.le_of_ble_eq_true rfl) (fun r2 σ3 hq4 => ?_)
      obtain ⟨r2e, r2s⟩ := hq4
      have r2e := r2e.symm; subst r2e; have r2s := r2s.symm; subst r2s
      refine e_val (y := H p_) rfl ?_
      refine e_istore_n (L' := [(1, .int (H p_)), (0, .ref m)]) (pc := 12) Xc (dT hX7_factor 6 rfl) (by decide) rfl ?_
      refine e_iload_n (pc := 13) Xc (dT hX7_factor 7 rfl) 0 rfl ?_
      refine e_bipush (v := 33) (pc := 14) Xc (dT hX7_factor 8 rfl) rfl ?_
      refine e_icmp_eq (tgt := 25) (pc := 16) Xc (dT hX7_factor 9 rfl) rfl (fun c16 => ?_) (fun c16 => ?_)
      · skip
        refine e_aload_n (pc := 25) Xc (dT hX7_factor 13 rfl) 1 rfl ?_
        refine e_aload_n (pc := 26) Xc (dT hX7_factor 14 rfl) 1 rfl ?_
        refine gf_X7_84 (pc := 27) Xc (dT hX7_factor 15 rfl) hP.o rfl ?_
        refine e_val (y := 1) h9 ?_
        refine e_iconst (v := 5) (pc := 30) Xc (dT hX7_factor 16 rfl) rfl ?_
        refine e_icmp_neN (x := 1) (y := 5) (tgt := 38) (pc := 31) Xc (dT hX7_factor 17 rfl) rfl (by omega) (by omega) (fun c31 => ?_) (fun c31 => ?_)
        · skip
          refine e_iconst (v := 0) (pc := 38) Xc (dT hX7_factor 20 rfl) rfl ?_
          refine pf_X7_60 (fs' := olX7 m (upd F 8 0) T) (pc := 39) Xc (dT hX7_factor 21 rfl) (Or.inl rfl) hP.o (Nat.le_of_ble_eq_true rfl) rfl ?_
          refine Ev.gen (fun z => PX7 z m (upd F 8 0) T A) (hP.wf8 (x := 0)) Off.set (fun σ5 hP6 ho7 => ?_)
          refine e_aload_n (pc := 42) Xc (dT hX7_factor 22 rfl) 1 rfl ?_
          refine e_dup (pc := 43) Xc (dT hX7_factor 23 rfl) rfl ?_
          refine gf_X7_84 (pc := 44) Xc (dT hX7_factor 24 rfl) hP6.o rfl ?_
          refine e_val (y := F 9) rfl ?_
          refine e_val (y := 1) h9 ?_
          refine e_iconst (v := 1) (pc := 47) Xc (dT hX7_factor 25 rfl) rfl ?_
          refine e_iaddN (a := 1) (b := 1) (pc := 48) Xc (dT hX7_factor 26 rfl) ?_
          refine e_val (y := 2) rfl ?_
          refine pf_X7_84 (fs' := olX7 m (upd (upd F 8 0) 9 2) T) (pc := 49) Xc (dT hX7_factor 27 rfl) hP6.o (Nat.le_of_ble_eq_true rfl) rfl ?_
          refine Ev.gen (fun z => PX7 z m (upd (upd F 8 0) 9 2) T A) (hP6.wf9 (x := 2)) Off.set (fun σ8 hP9 ho10 => ?_)
          refine e_aload_n (pc := 52) Xc (dT hX7_factor 28 rfl) 1 rfl ?_
          refine e_dup (pc := 53) Xc (dT hX7_factor 29 rfl) rfl ?_
          refine gf_X7_54 (pc := 54) Xc (dT hX7_factor 30 rfl) hP9.o rfl ?_
          refine e_val (y := F 6) rfl ?_
          refine e_val (y := nI p_) hF6_ ?_
          refine e_aload_n (pc := 57) Xc (dT hX7_factor 31 rfl) 1 rfl ?_
          refine gf_X7_60 (pc := 58) Xc (dT hX7_factor 32 rfl) hP9.o rfl ?_
          refine e_val (y := 0) rfl ?_
          refine e_if_eq (tgt := 68) (pc := 61) Xc (dT hX7_factor 33 rfl) rfl (fun c61 => ?_) (fun c61 => ?_)
          · skip
            refine e_iconst (v := 1) (pc := 68) Xc (dT hX7_factor 36 rfl) rfl ?_
            refine e_iaddN (a := p_) (b := 1) (pc := 69) Xc (dT hX7_factor 37 rfl) ?_
            refine pf_X7_54 (fs' := olX7 m (upd (upd (upd F 8 0) 9 2) 6 (nI (p_ + 1))) T) (pc := 70) Xc (dT hX7_factor 38 rfl) hP9.o (Nat.le_of_ble_eq_true rfl) rfl ?_
            refine Ev.gen (fun z => PX7 z m (upd (upd (upd F 8 0) 9 2) 6 (nI (p_ + 1))) T A) (hP9.wf6 (x := nI (p_ + 1))) Off.set (fun σ11 hP12 ho13 => ?_)
            refine e_iload_n (pc := 73) Xc (dT hX7_factor 39 rfl) 0 rfl ?_
            refine e_bipush (v := 33) (pc := 74) Xc (dT hX7_factor 40 rfl) rfl ?_
            refine e_icmp_ne (tgt := 91) (pc := 76) Xc (dT hX7_factor 41 rfl) rfl (fun c76 => ?_) (fun c76 => ?_)
            · skip
              exact absurd c16 c76
            · skip
              refine e_aload_n (pc := 79) Xc (dT hX7_factor 42 rfl) 1 rfl ?_
              have hlt_ := hp.2.2.1.lt c16 (by decide)
              have hn_ : n0 ≤ p_ := hn
              have hph14 : PH (A 1) (upd (upd (upd F 8 0) 9 2) 6 (nI (p_ + 1))) H nt a n0 := ⟨hp.1, hp.2.1, hp.2.2.1, hp.2.2.2.1, hp.2.2.2.2.1, hp.2.2.2.2.2.1, hp.2.2.2.2.2.2⟩
              refine cl_X7_87 (pc := 80) (k := 0) (n := 0) (S := []) Xc hP12.o (c_factor3 hP12 hph14 (true, p_ + 1) (by show p_ + 1 ≤ nt; omega) ⟨rfl, rfl⟩ (by show n0 ≤ p_ + 1; omega) rfl) (dT hX7_factor 43 rfl) rfl (Nat.le_of_ble_eq_true rfl) (Nat.le_of_ble_eq_true rfl) (Nat.le_of_ble_eq_true rfl) rfl (Nat.le_of_ble_eq_true rfl) (fun σ16 hq17 => ?_)
              obtain ⟨hP18, ho19⟩ := hq17
              have hP18 : PX7 σ16 m (fP (upd (upd (upd F 8 0) 9 2) 6 (nI (p_ + 1))) ((factP H 3 (p_ + 1)).1, (factP H 3 (p_ + 1)).2.1)) T (upA A 1 (wrL a (A 1) ((factP H 3 (p_ + 1)).2.2.map encR))) := hP18
              obtain ⟨hg1_, hg2_, hg3_, hg4_⟩ : goP nt (p_ + 1) (factP H 3 (p_ + 1)) := factP_go hp.2.2.1 3 (p_ + 1) (by omega)
              have hll_ : ((factP H 3 (p_ + 1)).2.2.map encR).length = (factP H 3 (p_ + 1)).2.2.length := List.length_map _
              refine e_aload_n (pc := 83) Xc (dT hX7_factor 44 rfl) 1 rfl ?_
              refine e_iconst (v := -1) (pc := 84) Xc (dT hX7_factor 45 rfl) rfl ?_
              have hph20 : PH (wrL a (A 1) ((factP H 3 (p_ + 1)).2.2.map encR)) (fP (upd (upd (upd F 8 0) 9 2) 6 (nI (p_ + 1))) ((factP H 3 (p_ + 1)).1, (factP H 3 (p_ + 1)).2.1)) H nt a (n0 + ((factP H 3 (p_ + 1)).2.2.map encR).length) := ⟨hp.1, hp.2.1, hp.2.2.1, fun q hq => (wrL_lo (by omega) _ _).trans (hp.2.2.2.1 q hq), hp.2.2.2.2.1, hp.2.2.2.2.2.1, wrL_n _ _ _ hp.2.2.2.2.2.2⟩
              refine cl_X7_90 (pc := 85) (k := 0) (n := 0) (S := []) Xc hP18.o (c_emits hP18 hph20 ((factP H 3 (p_ + 1)).1, (factP H 3 (p_ + 1)).2.1) hg2_ ⟨rfl, rfl⟩ (by have hn_ : n0 ≤ p_ := hn; omega) (-1)) (dT hX7_factor 46 rfl) rfl (Nat.le_of_ble_eq_true rfl) (Nat.le_of_ble_eq_true rfl) (Nat.le_of_ble_eq_true rfl) rfl (Nat.le_of_ble_eq_true rfl) (fun σ22 hq23 => ?_)
              obtain ⟨hP24, ho25⟩ := hq23
              have hP24 : PX7 σ22 m (fP (upd (upd (upd F 8 0) 9 2) 6 (nI (p_ + 1))) ((factP H 3 (p_ + 1)).1, (factP H 3 (p_ + 1)).2.1)) T (upA (upA A 1 (wrL a (A 1) ((factP H 3 (p_ + 1)).2.2.map encR))) 1 (wrL a (wrL a (A 1) ((factP H 3 (p_ + 1)).2.2.map encR)) (if ((factP H 3 (p_ + 1)).1, (factP H 3 (p_ + 1)).2.1).1 = true then [(-1)] else []))) := hP24
              rw [upA_2, wrL_app] at hP24
              refine e_goto (tgt := 101) (pc := 88) Xc (dT hX7_factor 47 rfl) rfl ?_
              refine e_aload_n (pc := 101) Xc (dT hX7_factor 53 rfl) 1 rfl ?_
              refine e_dup (pc := 102) Xc (dT hX7_factor 54 rfl) rfl ?_
              refine gf_X7_84 (pc := 103) Xc (dT hX7_factor 55 rfl) hP24.o rfl ?_
              refine e_val (y := 2) rfl ?_
              refine e_iconst (v := 1) (pc := 106) Xc (dT hX7_factor 56 rfl) rfl ?_
              refine e_isubN (a := 2) (b := 1) (pc := 107) Xc (dT hX7_factor 57 rfl) (by omega) ?_
              refine e_val (y := 1) rfl ?_
              refine pf_X7_84 (fs' := olX7 m (upd (fP (upd (upd (upd F 8 0) 9 2) 6 (nI (p_ + 1))) ((factP H 3 (p_ + 1)).1, (factP H 3 (p_ + 1)).2.1)) 9 1) T) (pc := 108) Xc (dT hX7_factor 58 rfl) hP24.o (Nat.le_of_ble_eq_true rfl) rfl ?_
              refine Ev.gen (fun z => PX7 z m (upd (fP (upd (upd (upd F 8 0) 9 2) 6 (nI (p_ + 1))) ((factP H 3 (p_ + 1)).1, (factP H 3 (p_ + 1)).2.1)) 9 1) T (upA A 1 (wrL a (A 1) (((factP H 3 (p_ + 1)).2.2.map encR) ++ (if ((factP H 3 (p_ + 1)).1, (factP H 3 (p_ + 1)).2.1).1 = true then [(-1)] else []))))) (hP24.wf9 (x := 1)) Off.set (fun σ26 hP27 ho28 => ?_)
              refine e_vret (pc := 111) Xc hQ (dT hX7_factor 59 rfl) (Nat.le_refl _) (Nat.le_refl _) ?_
              rw [show gFa H 4 (true, p_) = ((factP H 3 (p_ + 1)).1, (factP H 3 (p_ + 1)).2.1, (factP H 3 (p_ + 1)).2.2 ++ (if (factP H 3 (p_ + 1)).1 = true then [Sum.inr 0] else ([] : List xI))) from fa_bang c16]
              refine ⟨?_, (((((ho7.tr ho10).tr ho13).tr ho19).tr ho25).tr ho28)⟩
              show PX7 _ m (fP F ((factP H 3 (p_ + 1)).1, (factP H 3 (p_ + 1)).2.1)) T (upA A 1 (wrL a (A 1) (((factP H 3 (p_ + 1)).2.2 ++ (if (factP H 3 (p_ + 1)).1 = true then [Sum.inr 0] else ([] : List xI))).map encR)))
              rw [enc_if, show fP F ((factP H 3 (p_ + 1)).1, (factP H 3 (p_ + 1)).2.1) = (upd (fP (upd (upd (upd F 8 0) 9 2) 6 (nI (p_ + 1))) ((factP H 3 (p_ + 1)).1, (factP H 3 (p_ + 1)).2.1)) 9 1) from (F_ext (by first | rfl | exact hF6_.symm) (by first | rfl | exact hF8_.symm) (by first | rfl | exact h9) (fun j q6 q8 q9 => by simp only [fP, upd, if_neg q6, if_neg q8, if_neg q9]))]
              exact hP27
          · skip
            exact absurd c61 (by decide)
        · skip
          exact absurd c31 (by decide)
      · skip
        refine e_iload_n (pc := 19) Xc (dT hX7_factor 10 rfl) 0 rfl ?_
        refine e_bipush (v := 40) (pc := 20) Xc (dT hX7_factor 11 rfl) rfl ?_
        refine e_icmp_ne (tgt := 112) (pc := 22) Xc (dT hX7_factor 12 rfl) rfl (fun c22 => ?_) (fun c22 => ?_)
        · skip
          refine e_aload_n (pc := 112) Xc (dT hX7_factor 60 rfl) 1 rfl ?_
          refine e_ldcS (i := 4) (pc := 113) Xc (dT hX7_factor 61 rfl) (by decide) rfl rfl ?_
          have hph29 : PH (A 1) F H nt a n0 := ⟨hp.1, hp.2.1, hp.2.2.1, hp.2.2.2.1, hp.2.2.2.2.1, hp.2.2.2.2.2.1, hp.2.2.2.2.2.2⟩
          refine cl_X7_98 (pc := 115) (k := 0) (n := 0) (S := []) Xc hP.o (c_among hP hph29 (p_) (by omega) ⟨hF6_, hF8_⟩ 4 (by decide)) (dT hX7_factor 62 rfl) rfl (Nat.le_of_ble_eq_true rfl) (Nat.le_of_ble_eq_true rfl) (Nat.le_of_ble_eq_true rfl) rfl (Nat.le_of_ble_eq_true rfl) (fun r30 σ31 hq32 => ?_)
          rcases hq32 with ⟨k4_, hk4_, r30e, hPa4_, hoa4_⟩ | ⟨hk4_, r30e, r30s⟩
          · skip
            have r30e := r30e.symm; subst r30e
            have hkl4_ := amo_lt hk4_
            have hkq4_ : k4_ < 6 := Nat.lt_of_lt_of_le hkl4_ (by decide)
            have hps4_ := hp.2.2.1.lt rfl (amo_ne (by decide) hk4_)
            refine e_istore_n (L' := [(2, .int (nI k4_)), (1, .int (H p_)), (0, .ref m)]) (pc := 118) Xc (dT hX7_factor 63 rfl) (by decide) rfl ?_
            refine e_aload_n (pc := 119) Xc (dT hX7_factor 64 rfl) 2 rfl ?_
            refine e_iload_n (pc := 120) Xc (dT hX7_factor 65 rfl) 0 rfl ?_
            refine e_iconst (v := -1) (pc := 121) Xc (dT hX7_factor 66 rfl) rfl ?_
            refine e_icmp_ne (tgt := 129) (pc := 122) Xc (dT hX7_factor 67 rfl) rfl (fun c122 => ?_) (fun c122 => ?_)
            · skip
              refine e_iconst (v := 0) (pc := 129) Xc (dT hX7_factor 70 rfl) rfl ?_
              refine pf_X7_60 (fs' := olX7 m (upd (upd F 6 (nI (p_ + 1))) 8 0) T) (pc := 130) Xc (dT hX7_factor 71 rfl) (Or.inl rfl) hPa4_.o (Nat.le_of_ble_eq_true rfl) rfl ?_
              refine Ev.gen (fun z => PX7 z m (upd (upd F 6 (nI (p_ + 1))) 8 0) T A) (hPa4_.wf8 (x := 0)) Off.set (fun σ33 hP34 ho35 => ?_)
              refine e_aload_n (pc := 133) Xc (dT hX7_factor 72 rfl) 2 rfl ?_
              refine gf_X7_60 (pc := 134) Xc (dT hX7_factor 73 rfl) hP34.o rfl ?_
              refine e_val (y := 0) rfl ?_
              refine e_if_eq (tgt := 144) (pc := 137) Xc (dT hX7_factor 74 rfl) rfl (fun c137 => ?_) (fun c137 => ?_)
              · skip
                refine e_aload_n (pc := 144) Xc (dT hX7_factor 77 rfl) 2 rfl ?_
                refine e_ldcS (i := 5) (pc := 145) Xc (dT hX7_factor 78 rfl) (by decide) rfl rfl ?_
                have hph36 : PH (A 1) (upd (upd F 6 (nI (p_ + 1))) 8 0) H nt a n0 := ⟨hp.1, hp.2.1, hp.2.2.1, hp.2.2.2.1, hp.2.2.2.2.1, hp.2.2.2.2.2.1, hp.2.2.2.2.2.2⟩
                refine cl_X7_98 (pc := 147) (k := 0) (n := 0) (S := []) Xc hP34.o (c_among hP34 hph36 (p_ + 1) (by omega) ⟨rfl, rfl⟩ 5 (by decide)) (dT hX7_factor 79 rfl) rfl (Nat.le_of_ble_eq_true rfl) (Nat.le_of_ble_eq_true rfl) (Nat.le_of_ble_eq_true rfl) rfl (Nat.le_of_ble_eq_true rfl) (fun r37 σ38 hq39 => ?_)
                rcases hq39 with ⟨k5_, hk5_, r37e, hPa5_, hoa5_⟩ | ⟨hk5_, r37e, r37s⟩
                · skip
                  have r37e := r37e.symm; subst r37e
                  have hkl5_ := amo_lt hk5_
                  have hkq5_ : k5_ < 6 := Nat.lt_of_lt_of_le hkl5_ (by decide)
                  have hps5_ := hp.2.2.1.lt rfl (amo_ne (by decide) hk5_)
                  refine e_istore_n (L' := [(3, .int (nI k5_)), (2, .int (nI k4_)), (1, .int (H p_)), (0, .ref m)]) (pc := 150) Xc (dT hX7_factor 80 rfl) (by decide) rfl ?_
                  refine e_aload_n (pc := 151) Xc (dT hX7_factor 81 rfl) 3 rfl ?_
                  refine e_aload_n (pc := 152) Xc (dT hX7_factor 82 rfl) 3 rfl ?_
                  refine gf_X7_60 (pc := 153) Xc (dT hX7_factor 83 rfl) hPa5_.o rfl ?_
                  refine e_val (y := 0) rfl ?_
                  refine e_if_ne (tgt := 164) (pc := 156) Xc (dT hX7_factor 84 rfl) rfl (fun c156 => ?_) (fun c156 => ?_)
                  · skip
                    exact absurd c156 (by decide)
                  · skip
                    refine e_iload_n (pc := 159) Xc (dT hX7_factor 85 rfl) 0 rfl ?_
                    refine e_iconst (v := -1) (pc := 160) Xc (dT hX7_factor 86 rfl) rfl ?_
                    refine e_icmp_ne (tgt := 168) (pc := 161) Xc (dT hX7_factor 87 rfl) rfl (fun c161 => ?_) (fun c161 => ?_)
                    · skip
                      refine e_iconst (v := 0) (pc := 168) Xc (dT hX7_factor 90 rfl) rfl ?_
                      refine pf_X7_60 (fs' := olX7 m (upd (upd (upd (upd F 6 (nI (p_ + 1))) 8 0) 6 (nI (p_ + 1 + 1))) 8 0) T) (pc := 169) Xc (dT hX7_factor 91 rfl) (Or.inl rfl) hPa5_.o (Nat.le_of_ble_eq_true rfl) rfl ?_
                      refine Ev.gen (fun z => PX7 z m (upd (upd (upd (upd F 6 (nI (p_ + 1))) 8 0) 6 (nI (p_ + 1 + 1))) 8 0) T A) (hPa5_.wf8 (x := 0)) Off.set (fun σ40 hP41 ho42 => ?_)
                      refine e_aload_n (pc := 172) Xc (dT hX7_factor 92 rfl) 3 rfl ?_
                      have hph43 : PH (A 1) (upd (upd (upd (upd F 6 (nI (p_ + 1))) 8 0) 6 (nI (p_ + 1 + 1))) 8 0) H nt a n0 := ⟨hp.1, hp.2.1, hp.2.2.1, hp.2.2.2.1, hp.2.2.2.2.1, hp.2.2.2.2.2.1, hp.2.2.2.2.2.2⟩
                      refine cl_X7_104 (pc := 173) (k := 0) (n := 0) (S := []) Xc hP41.o (c_figures hP41 hph43 (true, p_ + 2) (by show _ ≤ nt; omega) ⟨rfl, rfl⟩) (dT hX7_factor 93 rfl) rfl (Nat.le_of_ble_eq_true rfl) (Nat.le_of_ble_eq_true rfl) (Nat.le_of_ble_eq_true rfl) rfl (Nat.le_of_ble_eq_true rfl) (fun r44 σ45 hq46 => ?_)
                      obtain ⟨r44e, hP47, ho48⟩ := hq46
                      have r44e := r44e.symm; subst r44e
                      refine e_istore (L' := [(4, .int (nI ((figP H (true, p_ + 2)).2))), (3, .int (nI k5_)), (2, .int (nI k4_)), (1, .int (H p_)), (0, .ref m)]) (pc := 176) Xc (dT hX7_factor 94 rfl) (by decide) rfl ?_
                      refine e_aload_n (pc := 178) Xc (dT hX7_factor 95 rfl) 4 rfl ?_
                      refine e_iload_n (pc := 179) Xc (dT hX7_factor 96 rfl) 2 rfl ?_
                      refine e_bipush (v := 8) (pc := 180) Xc (dT hX7_factor 97 rfl) rfl ?_
                      refine e_iload_n (pc := 182) Xc (dT hX7_factor 98 rfl) 1 rfl ?_
                      refine e_imulN (a := 8) (b := k5_) (pc := 183) Xc (dT hX7_factor 99 rfl) ?_
                      refine e_iaddN (a := k4_) (b := 8 * k5_) (pc := 184) Xc (dT hX7_factor 100 rfl) ?_
                      refine e_bipush (v := 32) (pc := 185) Xc (dT hX7_factor 101 rfl) rfl ?_
                      refine e_iload (pc := 187) Xc (dT hX7_factor 102 rfl) 0 rfl ?_
                      refine e_imulN (a := 32) (b := (figP H (true, p_ + 2)).2) (pc := 189) Xc (dT hX7_factor 103 rfl) ?_
                      refine e_iaddN (a := k4_ + (8 * k5_)) (b := 32 * ((figP H (true, p_ + 2)).2)) (pc := 190) Xc (dT hX7_factor 104 rfl) ?_
                      refine e_val (y := encR (.inl (k4_, k5_, (figP H (true, p_ + 2)).2))) rfl ?_
                      have hgf_ := figP_go hp.2.2.1 (s := (true, p_ + 2)) (by show p_ + 2 ≤ nt; omega)
                      have hn_ : n0 ≤ p_ := hn
                      have hph49 : PH (A 1) (fP (upd (upd (upd (upd F 6 (nI (p_ + 1))) 8 0) 6 (nI (p_ + 1 + 1))) 8 0) (figP H (true, p_ + 2)).1) H nt a n0 := ⟨hp.1, hp.2.1, hp.2.2.1, hp.2.2.2.1, hp.2.2.2.2.1, hp.2.2.2.2.2.1, hp.2.2.2.2.2.2⟩
                      refine cl_X7_90 (pc := 191) (k := 0) (n := 0) (S := []) Xc hP47.o (c_emits hP47 hph49 (figP H (true, p_ + 2)).1 hgf_.2.1 ⟨rfl, rfl⟩ (by omega) (encR (.inl (k4_, k5_, (figP H (true, p_ + 2)).2)))) (dT hX7_factor 105 rfl) rfl (Nat.le_of_ble_eq_true rfl) (Nat.le_of_ble_eq_true rfl) (Nat.le_of_ble_eq_true rfl) rfl (Nat.le_of_ble_eq_true rfl) (fun σ51 hq52 => ?_)
                      obtain ⟨hP53, ho54⟩ := hq52
                      refine e_vret (pc := 194) Xc hQ (dT hX7_factor 106 rfl) (Nat.le_refl _) (Nat.le_refl _) ?_
                      rw [show gFa H 4 (true, p_) = ((figP H (true, p_ + 2)).1.1, (figP H (true, p_ + 2)).1.2, if (figP H (true, p_ + 2)).1.1 = true then [.inl (k4_, k5_, (figP H (true, p_ + 2)).2)] else []) from (fa_test c16 c22).trans (te_s hk4_ hk5_)]
                      refine ⟨?_, (((((hoa4_.tr ho35).tr hoa5_).tr ho42).tr ho48).tr ho54)⟩
                      show PX7 _ m (fP F ((figP H (true, p_ + 2)).1.1, (figP H (true, p_ + 2)).1.2)) T (upA A 1 (wrL a (A 1) ((if (figP H (true, p_ + 2)).1.1 = true then [.inl (k4_, k5_, (figP H (true, p_ + 2)).2)] else []).map encR)))
                      rw [show (if (figP H (true, p_ + 2)).1.1 = true then [.inl (k4_, k5_, (figP H (true, p_ + 2)).2)] else []).map encR = (if (figP H (true, p_ + 2)).1.1 = true then [encR (.inl (k4_, k5_, (figP H (true, p_ + 2)).2))] else []) by split <;> rfl, show fP F ((figP H (true, p_ + 2)).1.1, (figP H (true, p_ + 2)).1.2) = (fP (upd (upd (upd (upd F 6 (nI (p_ + 1))) 8 0) 6 (nI (p_ + 1 + 1))) 8 0) (figP H (true, p_ + 2)).1) from (F_ext (by first | rfl | exact hF6_.symm) (by first | rfl | exact hF8_.symm) (by first | rfl | exact h9) (fun j q6 q8 q9 => by simp only [fP, upd, if_neg q6, if_neg q8, if_neg q9]))]
                      exact hP53
                    · skip
                      exact absurd c161 (nI_nneg (by omega) (by decide))
                · skip
                  have r37e := r37e.symm; subst r37e; have r37s := r37s.symm; subst r37s
                  refine e_istore_n (L' := [(3, .int (-1)), (2, .int (nI k4_)), (1, .int (H p_)), (0, .ref m)]) (pc := 150) Xc (dT hX7_factor 80 rfl) (by decide) rfl ?_
                  refine e_aload_n (pc := 151) Xc (dT hX7_factor 81 rfl) 3 rfl ?_
                  refine e_aload_n (pc := 152) Xc (dT hX7_factor 82 rfl) 3 rfl ?_
                  refine gf_X7_60 (pc := 153) Xc (dT hX7_factor 83 rfl) hP34.o rfl ?_
                  refine e_val (y := 0) rfl ?_
                  refine e_if_ne (tgt := 164) (pc := 156) Xc (dT hX7_factor 84 rfl) rfl (fun c156 => ?_) (fun c156 => ?_)
                  · skip
                    exact absurd c156 (by decide)
                  · skip
                    refine e_iload_n (pc := 159) Xc (dT hX7_factor 85 rfl) 0 rfl ?_
                    refine e_iconst (v := -1) (pc := 160) Xc (dT hX7_factor 86 rfl) rfl ?_
                    refine e_icmp_ne (tgt := 168) (pc := 161) Xc (dT hX7_factor 87 rfl) rfl (fun c161 => ?_) (fun c161 => ?_)
                    · skip
                      exact absurd c161 (by decide)
                    · skip
                      refine e_iconst (v := 1) (pc := 164) Xc (dT hX7_factor 88 rfl) rfl ?_
                      refine e_goto (tgt := 169) (pc := 165) Xc (dT hX7_factor 89 rfl) rfl ?_
                      refine pf_X7_60 (fs' := olX7 m (upd (upd (upd F 6 (nI (p_ + 1))) 8 0) 8 1) T) (pc := 169) Xc (dT hX7_factor 91 rfl) (Or.inr rfl) hP34.o (Nat.le_of_ble_eq_true rfl) rfl ?_
                      refine Ev.gen (fun z => PX7 z m (upd (upd (upd F 6 (nI (p_ + 1))) 8 0) 8 1) T A) (hP34.wf8 (x := 1)) Off.set (fun σ55 hP56 ho57 => ?_)
                      refine e_aload_n (pc := 172) Xc (dT hX7_factor 92 rfl) 3 rfl ?_
                      have hph58 : PH (A 1) (upd (upd (upd F 6 (nI (p_ + 1))) 8 0) 8 1) H nt a n0 := ⟨hp.1, hp.2.1, hp.2.2.1, hp.2.2.2.1, hp.2.2.2.2.1, hp.2.2.2.2.2.1, hp.2.2.2.2.2.2⟩
                      refine cl_X7_104 (pc := 173) (k := 0) (n := 0) (S := []) Xc hP56.o (c_figures hP56 hph58 (false, p_ + 1) (by show _ ≤ nt; omega) ⟨rfl, rfl⟩) (dT hX7_factor 93 rfl) rfl (Nat.le_of_ble_eq_true rfl) (Nat.le_of_ble_eq_true rfl) (Nat.le_of_ble_eq_true rfl) rfl (Nat.le_of_ble_eq_true rfl) (fun r59 σ60 hq61 => ?_)
                      obtain ⟨r59e, hP62, ho63⟩ := hq61
                      rw [show figP H (false, p_ + 1) = ((false, p_ + 1), 0) from if_neg (fun q => Bool.noConfusion q.1)] at r59e hP62
                      have r59e := r59e.symm; subst r59e
                      refine e_istore (L' := [(4, .int 0), (3, .int (-1)), (2, .int (nI k4_)), (1, .int (H p_)), (0, .ref m)]) (pc := 176) Xc (dT hX7_factor 94 rfl) (by decide) rfl ?_
                      refine e_aload_n (pc := 178) Xc (dT hX7_factor 95 rfl) 4 rfl ?_
                      refine e_iload_n (pc := 179) Xc (dT hX7_factor 96 rfl) 2 rfl ?_
                      refine e_bipush (v := 8) (pc := 180) Xc (dT hX7_factor 97 rfl) rfl ?_
                      refine e_iload_n (pc := 182) Xc (dT hX7_factor 98 rfl) 1 rfl ?_
                      refine e_imul (pc := 183) Xc (dT hX7_factor 99 rfl) ?_
                      refine e_iadd (pc := 184) Xc (dT hX7_factor 100 rfl) ?_
                      refine e_bipush (v := 32) (pc := 185) Xc (dT hX7_factor 101 rfl) rfl ?_
                      refine e_iload (pc := 187) Xc (dT hX7_factor 102 rfl) 0 rfl ?_
                      refine e_imulN (a := 32) (b := 0) (pc := 189) Xc (dT hX7_factor 103 rfl) ?_
                      refine e_val (y := 0) rfl ?_
                      refine e_iadd (pc := 190) Xc (dT hX7_factor 104 rfl) ?_
                      have hn_ : n0 ≤ p_ := hn
                      have hph64 : PH (A 1) (fP (upd (upd (upd F 6 (nI (p_ + 1))) 8 0) 8 1) (false, p_ + 1)) H nt a n0 := ⟨hp.1, hp.2.1, hp.2.2.1, hp.2.2.2.1, hp.2.2.2.2.1, hp.2.2.2.2.2.1, hp.2.2.2.2.2.2⟩
                      refine cl_X7_90 (pc := 191) (k := 0) (n := 0) (S := []) Xc hP62.o (c_emits hP62 hph64 (false, p_ + 1) (by show _ ≤ nt; omega) ⟨rfl, rfl⟩ (by omega) (((nI k4_) + (8 * (-1))) + 0)) (dT hX7_factor 105 rfl) rfl (Nat.le_of_ble_eq_true rfl) (Nat.le_of_ble_eq_true rfl) (Nat.le_of_ble_eq_true rfl) rfl (Nat.le_of_ble_eq_true rfl) (fun σ66 hq67 => ?_)
                      obtain ⟨hP68, ho69⟩ := hq67
                      have hP68 : PX7 σ66 m (fP (upd (upd (upd F 6 (nI (p_ + 1))) 8 0) 8 1) (false, p_ + 1)) T (upA A 1 (A 1)) := hP68
                      rw [show upA A 1 (A 1) = A from upA_id] at hP68
                      refine e_vret (pc := 194) Xc hQ (dT hX7_factor 106 rfl) (Nat.le_refl _) (Nat.le_refl _) ?_
                      rw [show gFa H 4 (true, p_) = (false, p_ + 1, []) from (fa_test c16 c22).trans (te_n2 hk4_ hk5_)]
                      refine ⟨?_, ((((hoa4_.tr ho35).tr ho57).tr ho63).tr ho69)⟩
                      show PX7 _ m (fP F (false, p_ + 1)) T (upA A 1 (wrL a (A 1) (([]).map encR)))
                      rw [show (upA A 1 (wrL a (A 1) (([] : List xI).map encR))) = A from upA_id, show fP F (false, p_ + 1) = (fP (upd (upd (upd F 6 (nI (p_ + 1))) 8 0) 8 1) (false, p_ + 1)) from (F_ext (by first | rfl | exact hF6_.symm) (by first | rfl | exact hF8_.symm) (by first | rfl | exact h9) (fun j q6 q8 q9 => by simp only [fP, upd, if_neg q6, if_neg q8, if_neg q9]))]
                      exact hP68
              · skip
                exact absurd c137 (by decide)
            · skip
              exact absurd c122 (nI_nneg (by omega) (by decide))
          · skip
            have r30e := r30e.symm; subst r30e; have r30s := r30s.symm; subst r30s
            refine e_istore_n (L' := [(2, .int (-1)), (1, .int (H p_)), (0, .ref m)]) (pc := 118) Xc (dT hX7_factor 63 rfl) (by decide) rfl ?_
            refine e_aload_n (pc := 119) Xc (dT hX7_factor 64 rfl) 2 rfl ?_
            refine e_iload_n (pc := 120) Xc (dT hX7_factor 65 rfl) 0 rfl ?_
            refine e_iconst (v := -1) (pc := 121) Xc (dT hX7_factor 66 rfl) rfl ?_
            refine e_icmp_ne (tgt := 129) (pc := 122) Xc (dT hX7_factor 67 rfl) rfl (fun c122 => ?_) (fun c122 => ?_)
            · skip
              exact absurd c122 (by decide)
            · skip
              refine e_iconst (v := 1) (pc := 125) Xc (dT hX7_factor 68 rfl) rfl ?_
              refine e_goto (tgt := 130) (pc := 126) Xc (dT hX7_factor 69 rfl) rfl ?_
              refine pf_X7_60 (fs' := olX7 m (upd F 8 1) T) (pc := 130) Xc (dT hX7_factor 71 rfl) (Or.inr rfl) hP.o (Nat.le_of_ble_eq_true rfl) rfl ?_
              refine Ev.gen (fun z => PX7 z m (upd F 8 1) T A) (hP.wf8 (x := 1)) Off.set (fun σ70 hP71 ho72 => ?_)
              refine e_aload_n (pc := 133) Xc (dT hX7_factor 72 rfl) 2 rfl ?_
              refine gf_X7_60 (pc := 134) Xc (dT hX7_factor 73 rfl) hP71.o rfl ?_
              refine e_val (y := 1) rfl ?_
              refine e_if_eq (tgt := 144) (pc := 137) Xc (dT hX7_factor 74 rfl) rfl (fun c137 => ?_) (fun c137 => ?_)
              · skip
                exact absurd c137 (by decide)
              · skip
                refine e_iconst (v := 0) (pc := 140) Xc (dT hX7_factor 75 rfl) rfl ?_
                refine e_goto (tgt := 150) (pc := 141) Xc (dT hX7_factor 76 rfl) rfl ?_
                refine e_istore_n (L' := [(3, .int 0), (2, .int (-1)), (1, .int (H p_)), (0, .ref m)]) (pc := 150) Xc (dT hX7_factor 80 rfl) (by decide) rfl ?_
                refine e_aload_n (pc := 151) Xc (dT hX7_factor 81 rfl) 3 rfl ?_
                refine e_aload_n (pc := 152) Xc (dT hX7_factor 82 rfl) 3 rfl ?_
                refine gf_X7_60 (pc := 153) Xc (dT hX7_factor 83 rfl) hP71.o rfl ?_
                refine e_val (y := 1) rfl ?_
                refine e_if_ne (tgt := 164) (pc := 156) Xc (dT hX7_factor 84 rfl) rfl (fun c156 => ?_) (fun c156 => ?_)
                · skip
                  refine e_iconst (v := 1) (pc := 164) Xc (dT hX7_factor 88 rfl) rfl ?_
                  refine e_goto (tgt := 169) (pc := 165) Xc (dT hX7_factor 89 rfl) rfl ?_
                  refine pf_X7_60 (fs' := olX7 m (upd (upd F 8 1) 8 1) T) (pc := 169) Xc (dT hX7_factor 91 rfl) (Or.inr rfl) hP71.o (Nat.le_of_ble_eq_true rfl) rfl ?_
                  refine Ev.gen (fun z => PX7 z m (upd (upd F 8 1) 8 1) T A) (hP71.wf8 (x := 1)) Off.set (fun σ73 hP74 ho75 => ?_)
                  refine e_aload_n (pc := 172) Xc (dT hX7_factor 92 rfl) 3 rfl ?_
                  have hph76 : PH (A 1) (upd (upd F 8 1) 8 1) H nt a n0 := ⟨hp.1, hp.2.1, hp.2.2.1, hp.2.2.2.1, hp.2.2.2.2.1, hp.2.2.2.2.2.1, hp.2.2.2.2.2.2⟩
                  refine cl_X7_104 (pc := 173) (k := 0) (n := 0) (S := []) Xc hP74.o (c_figures hP74 hph76 (false, p_) (by show _ ≤ nt; omega) ⟨hF6_, rfl⟩) (dT hX7_factor 93 rfl) rfl (Nat.le_of_ble_eq_true rfl) (Nat.le_of_ble_eq_true rfl) (Nat.le_of_ble_eq_true rfl) rfl (Nat.le_of_ble_eq_true rfl) (fun r77 σ78 hq79 => ?_)
                  obtain ⟨r77e, hP80, ho81⟩ := hq79
                  rw [show figP H (false, p_) = ((false, p_), 0) from if_neg (fun q => Bool.noConfusion q.1)] at r77e hP80
                  have r77e := r77e.symm; subst r77e
                  refine e_istore (L' := [(4, .int 0), (3, .int 0), (2, .int (-1)), (1, .int (H p_)), (0, .ref m)]) (pc := 176) Xc (dT hX7_factor 94 rfl) (by decide) rfl ?_
                  refine e_aload_n (pc := 178) Xc (dT hX7_factor 95 rfl) 4 rfl ?_
                  refine e_iload_n (pc := 179) Xc (dT hX7_factor 96 rfl) 2 rfl ?_
                  refine e_bipush (v := 8) (pc := 180) Xc (dT hX7_factor 97 rfl) rfl ?_
                  refine e_iload_n (pc := 182) Xc (dT hX7_factor 98 rfl) 1 rfl ?_
                  refine e_imulN (a := 8) (b := 0) (pc := 183) Xc (dT hX7_factor 99 rfl) ?_
                  refine e_val (y := 0) rfl ?_
                  refine e_iadd (pc := 184) Xc (dT hX7_factor 100 rfl) ?_
                  refine e_bipush (v := 32) (pc := 185) Xc (dT hX7_factor 101 rfl) rfl ?_
                  refine e_iload (pc := 187) Xc (dT hX7_factor 102 rfl) 0 rfl ?_
                  refine e_imulN (a := 32) (b := 0) (pc := 189) Xc (dT hX7_factor 103 rfl) ?_
                  refine e_val (y := 0) rfl ?_
                  refine e_iadd (pc := 190) Xc (dT hX7_factor 104 rfl) ?_
                  have hn_ : n0 ≤ p_ := hn
                  have hph82 : PH (A 1) (fP (upd (upd F 8 1) 8 1) (false, p_)) H nt a n0 := ⟨hp.1, hp.2.1, hp.2.2.1, hp.2.2.2.1, hp.2.2.2.2.1, hp.2.2.2.2.2.1, hp.2.2.2.2.2.2⟩
                  refine cl_X7_90 (pc := 191) (k := 0) (n := 0) (S := []) Xc hP80.o (c_emits hP80 hph82 (false, p_) (by show _ ≤ nt; omega) ⟨rfl, rfl⟩ (by omega) (((-1) + 0) + 0)) (dT hX7_factor 105 rfl) rfl (Nat.le_of_ble_eq_true rfl) (Nat.le_of_ble_eq_true rfl) (Nat.le_of_ble_eq_true rfl) rfl (Nat.le_of_ble_eq_true rfl) (fun σ84 hq85 => ?_)
                  obtain ⟨hP86, ho87⟩ := hq85
                  have hP86 : PX7 σ84 m (fP (upd (upd F 8 1) 8 1) (false, p_)) T (upA A 1 (A 1)) := hP86
                  rw [show upA A 1 (A 1) = A from upA_id] at hP86
                  refine e_vret (pc := 194) Xc hQ (dT hX7_factor 106 rfl) (Nat.le_refl _) (Nat.le_refl _) ?_
                  rw [show gFa H 4 (true, p_) = (false, p_, []) from (fa_test c16 c22).trans (te_n1 hk4_)]
                  refine ⟨?_, (((ho72.tr ho75).tr ho81).tr ho87)⟩
                  show PX7 _ m (fP F (false, p_)) T (upA A 1 (wrL a (A 1) (([]).map encR)))
                  rw [show (upA A 1 (wrL a (A 1) (([] : List xI).map encR))) = A from upA_id, show fP F (false, p_) = (fP (upd (upd F 8 1) 8 1) (false, p_)) from (F_ext (by first | rfl | exact hF6_.symm) (by first | rfl | exact hF8_.symm) (by first | rfl | exact h9) (fun j q6 q8 q9 => by simp only [fP, upd, if_neg q6, if_neg q8, if_neg q9]))]
                  exact hP86
                · skip
                  exact absurd c156 (by decide)
        · skip
          refine e_aload_n (pc := 25) Xc (dT hX7_factor 13 rfl) 1 rfl ?_
          refine e_aload_n (pc := 26) Xc (dT hX7_factor 14 rfl) 1 rfl ?_
          refine gf_X7_84 (pc := 27) Xc (dT hX7_factor 15 rfl) hP.o rfl ?_
          refine e_val (y := 1) h9 ?_
          refine e_iconst (v := 5) (pc := 30) Xc (dT hX7_factor 16 rfl) rfl ?_
          refine e_icmp_neN (x := 1) (y := 5) (tgt := 38) (pc := 31) Xc (dT hX7_factor 17 rfl) rfl (by omega) (by omega) (fun c31 => ?_) (fun c31 => ?_)
          · skip
            refine e_iconst (v := 0) (pc := 38) Xc (dT hX7_factor 20 rfl) rfl ?_
            refine pf_X7_60 (fs' := olX7 m (upd F 8 0) T) (pc := 39) Xc (dT hX7_factor 21 rfl) (Or.inl rfl) hP.o (Nat.le_of_ble_eq_true rfl) rfl ?_
            refine Ev.gen (fun z => PX7 z m (upd F 8 0) T A) (hP.wf8 (x := 0)) Off.set (fun σ88 hP89 ho90 => ?_)
            refine e_aload_n (pc := 42) Xc (dT hX7_factor 22 rfl) 1 rfl ?_
            refine e_dup (pc := 43) Xc (dT hX7_factor 23 rfl) rfl ?_
            refine gf_X7_84 (pc := 44) Xc (dT hX7_factor 24 rfl) hP89.o rfl ?_
            refine e_val (y := F 9) rfl ?_
            refine e_val (y := 1) h9 ?_
            refine e_iconst (v := 1) (pc := 47) Xc (dT hX7_factor 25 rfl) rfl ?_
            refine e_iaddN (a := 1) (b := 1) (pc := 48) Xc (dT hX7_factor 26 rfl) ?_
            refine e_val (y := 2) rfl ?_
            refine pf_X7_84 (fs' := olX7 m (upd (upd F 8 0) 9 2) T) (pc := 49) Xc (dT hX7_factor 27 rfl) hP89.o (Nat.le_of_ble_eq_true rfl) rfl ?_
            refine Ev.gen (fun z => PX7 z m (upd (upd F 8 0) 9 2) T A) (hP89.wf9 (x := 2)) Off.set (fun σ91 hP92 ho93 => ?_)
            refine e_aload_n (pc := 52) Xc (dT hX7_factor 28 rfl) 1 rfl ?_
            refine e_dup (pc := 53) Xc (dT hX7_factor 29 rfl) rfl ?_
            refine gf_X7_54 (pc := 54) Xc (dT hX7_factor 30 rfl) hP92.o rfl ?_
            refine e_val (y := F 6) rfl ?_
            refine e_val (y := nI p_) hF6_ ?_
            refine e_aload_n (pc := 57) Xc (dT hX7_factor 31 rfl) 1 rfl ?_
            refine gf_X7_60 (pc := 58) Xc (dT hX7_factor 32 rfl) hP92.o rfl ?_
            refine e_val (y := 0) rfl ?_
            refine e_if_eq (tgt := 68) (pc := 61) Xc (dT hX7_factor 33 rfl) rfl (fun c61 => ?_) (fun c61 => ?_)
            · skip
              refine e_iconst (v := 1) (pc := 68) Xc (dT hX7_factor 36 rfl) rfl ?_
              refine e_iaddN (a := p_) (b := 1) (pc := 69) Xc (dT hX7_factor 37 rfl) ?_
              refine pf_X7_54 (fs' := olX7 m (upd (upd (upd F 8 0) 9 2) 6 (nI (p_ + 1))) T) (pc := 70) Xc (dT hX7_factor 38 rfl) hP92.o (Nat.le_of_ble_eq_true rfl) rfl ?_
              refine Ev.gen (fun z => PX7 z m (upd (upd (upd F 8 0) 9 2) 6 (nI (p_ + 1))) T A) (hP92.wf6 (x := nI (p_ + 1))) Off.set (fun σ94 hP95 ho96 => ?_)
              refine e_iload_n (pc := 73) Xc (dT hX7_factor 39 rfl) 0 rfl ?_
              refine e_bipush (v := 33) (pc := 74) Xc (dT hX7_factor 40 rfl) rfl ?_
              refine e_icmp_ne (tgt := 91) (pc := 76) Xc (dT hX7_factor 41 rfl) rfl (fun c76 => ?_) (fun c76 => ?_)
              · skip
                refine e_aload_n (pc := 91) Xc (dT hX7_factor 48 rfl) 1 rfl ?_
                have hlt_ := hp.2.2.1.lt c22 (by decide)
                have hn_ : n0 ≤ p_ := hn
                have hph97 : PH (A 1) (upd (upd (upd F 8 0) 9 2) 6 (nI (p_ + 1))) H nt a n0 := ⟨hp.1, hp.2.1, hp.2.2.1, hp.2.2.2.1, hp.2.2.2.2.1, hp.2.2.2.2.2.1, hp.2.2.2.2.2.2⟩
                refine cl_X7_93 (pc := 92) (k := 0) (n := 0) (S := []) Xc hP95.o (c_some3 hP95 hph97 (true, p_ + 1) (by show p_ + 1 ≤ nt; omega) ⟨rfl, rfl⟩ (by show n0 ≤ p_ + 1; omega) rfl) (dT hX7_factor 49 rfl) rfl (Nat.le_of_ble_eq_true rfl) (Nat.le_of_ble_eq_true rfl) (Nat.le_of_ble_eq_true rfl) rfl (Nat.le_of_ble_eq_true rfl) (fun σ99 hq100 => ?_)
                obtain ⟨hP101, ho102⟩ := hq100
                have hP101 : PX7 σ99 m (fP (upd (upd (upd F 8 0) 9 2) 6 (nI (p_ + 1))) ((eofP H (factP H 3) (p_ + 1)).1, (eofP H (factP H 3) (p_ + 1)).2.1)) T (upA A 1 (wrL a (A 1) ((eofP H (factP H 3) (p_ + 1)).2.2.map encR))) := hP101
                obtain ⟨hg1_, hg2_, hg3_, hg4_⟩ : goP nt (p_ + 1) (eofP H (factP H 3) (p_ + 1)) := eofP_go hp.2.2.1 (fun q hq => factP_go hp.2.2.1 3 q hq) (by omega)
                have hll_ : ((eofP H (factP H 3) (p_ + 1)).2.2.map encR).length = (eofP H (factP H 3) (p_ + 1)).2.2.length := List.length_map _
                refine e_aload_n (pc := 95) Xc (dT hX7_factor 50 rfl) 1 rfl ?_
                refine e_bipush (v := 41) (pc := 96) Xc (dT hX7_factor 51 rfl) rfl ?_
                have hph103 : PH (wrL a (A 1) ((eofP H (factP H 3) (p_ + 1)).2.2.map encR)) (fP (upd (upd (upd F 8 0) 9 2) 6 (nI (p_ + 1))) ((eofP H (factP H 3) (p_ + 1)).1, (eofP H (factP H 3) (p_ + 1)).2.1)) H nt a (n0 + ((eofP H (factP H 3) (p_ + 1)).2.2.map encR).length) := ⟨hp.1, hp.2.1, hp.2.2.1, fun q hq => (wrL_lo (by omega) _ _).trans (hp.2.2.2.1 q hq), hp.2.2.2.2.1, hp.2.2.2.2.2.1, wrL_n _ _ _ hp.2.2.2.2.2.2⟩
                refine cl_X7_77 (pc := 98) (k := 0) (n := 0) (S := []) Xc hP101.o (c_must hP101 hph103 ((eofP H (factP H 3) (p_ + 1)).1, (eofP H (factP H 3) (p_ + 1)).2.1) hg2_ ⟨rfl, rfl⟩ 41) (dT hX7_factor 52 rfl) rfl (Nat.le_of_ble_eq_true rfl) (Nat.le_of_ble_eq_true rfl) (Nat.le_of_ble_eq_true rfl) rfl (Nat.le_of_ble_eq_true rfl) (fun σ105 hq106 => ?_)
                obtain ⟨hP107, ho108⟩ := hq106
                have hP107 : PX7 σ105 m (fP (fP (upd (upd (upd F 8 0) 9 2) 6 (nI (p_ + 1))) ((eofP H (factP H 3) (p_ + 1)).1, (eofP H (factP H 3) (p_ + 1)).2.1)) (mustP H 41 ((eofP H (factP H 3) (p_ + 1)).1, (eofP H (factP H 3) (p_ + 1)).2.1))) T (upA A 1 (wrL a (A 1) ((eofP H (factP H 3) (p_ + 1)).2.2.map encR))) := hP107
                refine e_aload_n (pc := 101) Xc (dT hX7_factor 53 rfl) 1 rfl ?_
                refine e_dup (pc := 102) Xc (dT hX7_factor 54 rfl) rfl ?_
                refine gf_X7_84 (pc := 103) Xc (dT hX7_factor 55 rfl) hP107.o rfl ?_
                refine e_val (y := 2) rfl ?_
                refine e_iconst (v := 1) (pc := 106) Xc (dT hX7_factor 56 rfl) rfl ?_
                refine e_isubN (a := 2) (b := 1) (pc := 107) Xc (dT hX7_factor 57 rfl) (by omega) ?_
                refine e_val (y := 1) rfl ?_
                refine pf_X7_84 (fs' := olX7 m (upd (fP (fP (upd (upd (upd F 8 0) 9 2) 6 (nI (p_ + 1))) ((eofP H (factP H 3) (p_ + 1)).1, (eofP H (factP H 3) (p_ + 1)).2.1)) (mustP H 41 ((eofP H (factP H 3) (p_ + 1)).1, (eofP H (factP H 3) (p_ + 1)).2.1))) 9 1) T) (pc := 108) Xc (dT hX7_factor 58 rfl) hP107.o (Nat.le_of_ble_eq_true rfl) rfl ?_
                refine Ev.gen (fun z => PX7 z m (upd (fP (fP (upd (upd (upd F 8 0) 9 2) 6 (nI (p_ + 1))) ((eofP H (factP H 3) (p_ + 1)).1, (eofP H (factP H 3) (p_ + 1)).2.1)) (mustP H 41 ((eofP H (factP H 3) (p_ + 1)).1, (eofP H (factP H 3) (p_ + 1)).2.1))) 9 1) T (upA A 1 (wrL a (A 1) ((eofP H (factP H 3) (p_ + 1)).2.2.map encR)))) (hP107.wf9 (x := 1)) Off.set (fun σ109 hP110 ho111 => ?_)
                refine e_vret (pc := 111) Xc hQ (dT hX7_factor 59 rfl) (Nat.le_refl _) (Nat.le_refl _) ?_
                rw [show gFa H 4 (true, p_) = ((mustP H 41 ((eofP H (factP H 3) (p_ + 1)).1, (eofP H (factP H 3) (p_ + 1)).2.1)).1, (mustP H 41 ((eofP H (factP H 3) (p_ + 1)).1, (eofP H (factP H 3) (p_ + 1)).2.1)).2, (eofP H (factP H 3) (p_ + 1)).2.2) from fa_par c16 c22]
                refine ⟨?_, (((((ho90.tr ho93).tr ho96).tr ho102).tr ho108).tr ho111)⟩
                show PX7 _ m (fP F ((mustP H 41 ((eofP H (factP H 3) (p_ + 1)).1, (eofP H (factP H 3) (p_ + 1)).2.1)).1, (mustP H 41 ((eofP H (factP H 3) (p_ + 1)).1, (eofP H (factP H 3) (p_ + 1)).2.1)).2)) T (upA A 1 (wrL a (A 1) (((eofP H (factP H 3) (p_ + 1)).2.2).map encR)))
                rw [show fP F ((mustP H 41 ((eofP H (factP H 3) (p_ + 1)).1, (eofP H (factP H 3) (p_ + 1)).2.1)).1, (mustP H 41 ((eofP H (factP H 3) (p_ + 1)).1, (eofP H (factP H 3) (p_ + 1)).2.1)).2) = (upd (fP (fP (upd (upd (upd F 8 0) 9 2) 6 (nI (p_ + 1))) ((eofP H (factP H 3) (p_ + 1)).1, (eofP H (factP H 3) (p_ + 1)).2.1)) (mustP H 41 ((eofP H (factP H 3) (p_ + 1)).1, (eofP H (factP H 3) (p_ + 1)).2.1))) 9 1) from (F_ext (by first | rfl | exact hF6_.symm) (by first | rfl | exact hF8_.symm) (by first | rfl | exact h9) (fun j q6 q8 q9 => by simp only [fP, upd, if_neg q6, if_neg q8, if_neg q9]))]
                exact hP110
              · skip
                exact absurd c76 c16
            · skip
              exact absurd c61 (by decide)
          · skip
            exact absurd c31 (by decide)
    · skip
      exact absurd c4 (by decide)
set_option maxRecDepth 100000 in
set_option maxHeartbeats 4000000 in
theorem c_every4 {G : xG} {σ : xS} {m : Nat} {F : Nat → Int32} {T : Nat → Nat} {A : Nat → Nat → Int32} (hP : PX7 σ m F T A) {H : Nat → Int32} {nt a n0 : Nat} (hp : PH (A 1) F H nt a n0) (s : Bool × Nat) (hs : s.2 ≤ nt) (hF : F 6 = nI s.2 ∧ F 8 = bI (!s.1)) (hn : n0 ≤ s.2) (h9 : F 9 = 1) : CV G yX7_every cX7_every 1 none 18 0 0 [.ref m] σ (fun σ1 => pP σ1 m F T A a (gTa H 4 s) ∧ Off m σ σ1) := by
  refine Met.ofX (by decide +kernel) (Nat.le_of_ble_eq_true rfl) (fun μ Xc hQ hnm => ?_)
  have Xc : xC G μ cX7_every 1 RX7 none 18 0 0 := Xc
  have hnt_ := hp.1
  have ha5_ := hp.2.1
  show Ev G μ 1 0 0 0 [(0, .ref m)] [] σ
  refine e_aload_n (pc := 0) Xc (dT hX7_every 0 rfl) 0 rfl ?_
  refine cl_X7_87 (pc := 1) (k := 0) (n := 0) (S := []) Xc hP.o (c_factor4 hP hp s hs hF hn h9) (dT hX7_every 1 rfl) rfl (Nat.le_of_ble_eq_true rfl) (Nat.le_of_ble_eq_true rfl) (Nat.le_of_ble_eq_true rfl) rfl (Nat.le_of_ble_eq_true rfl) (fun σ2 hq3 => ?_)
  obtain ⟨hP4, ho5⟩ := hq3
  have hP4 : PX7 σ2 m (fP F ((gFa H 4 s).1, (gFa H 4 s).2.1)) T (upA A 1 (wrL a (A 1) ((gFa H 4 s).2.2.map encR))) := hP4
  have lp4 : ∀ (n4 : Nat) (k_ : Nat) (ok_ : Bool) (p_ : Nat) (l_ : List xI) (σ2 : xS), k_ < n4 → (ok_ = true → nt < p_ + k_) → (lpJ H (factP H 4) 38 1 k_ (ok_, p_, l_) = (gTa H 4 s)) → (goP nt s.2 (ok_, p_, l_)) → (PX7 σ2 m (fP F (ok_, p_)) T (upA A 1 (wrL a (A 1) (l_.map encR)))) → (Off m σ σ2) → Ev G μ 1 0 0 4 [(0, .ref m)] [] σ2 := by
    intro n4
    induction n4 with
    | zero => intro k_ ok_ p_ l_ σ2 hn; exact absurd hn (Nat.not_lt_zero _)
    | succ n4 ih4 =>
      intro k_ ok_ p_ l_ σ2 hn4 hk_ hR_ hgo_ hp2 ho2
      refine e_aload_n (pc := 4) Xc (dT hX7_every 2 rfl) 0 rfl ?_
      refine gf_X7_60 (pc := 5) Xc (dT hX7_every 3 rfl) hp2.o rfl ?_
      refine e_val (y := bI (!ok_)) rfl ?_
      refine e_if_ne (tgt := 43) (pc := 8) Xc (dT hX7_every 4 rfl) rfl (fun c8 => ?_) (fun c8 => ?_)
      · skip
        refine e_vret (pc := 43) Xc hQ (dT hX7_every 21 rfl) (Nat.le_refl _) (Nat.le_refl _) ?_
        rw [lpJ_x (r := (ok_, p_, l_)) (fun q => by have q1 : ok_ = true := q.1; rw [q1] at c8; exact c8 rfl)] at hR_
        rw [← hR_]
        exact ⟨hp2, ho2⟩
      · skip
        have hok_ : ok_ = true := by cases ok_; exact absurd c8 (by decide); rfl
        subst hok_
        refine e_aload_n (pc := 11) Xc (dT hX7_every 5 rfl) 0 rfl ?_
        have hph6 : PH (wrL a (A 1) (l_.map encR)) (fP F (true, p_)) H nt a (n0 + (l_.map encR).length) := ⟨hp.1, hp.2.1, hp.2.2.1, fun q hq => (wrL_lo (by omega) _ _).trans (hp.2.2.2.1 q hq), hp.2.2.2.2.1, hp.2.2.2.2.2.1, wrL_n _ _ _ hp.2.2.2.2.2.2⟩
        refine cl_X7_64 (pc := 12) (k := 0) (n := 0) (S := []) Xc hp2.o (c_here hp2 hph6 (true, p_) hgo_.2.1 ⟨rfl, rfl⟩) (dT hX7_every 6 rfl) rfl (Nat.le_of_ble_eq_true rfl) (Nat.le_of_ble_eq_true rfl) (Nat.le_of_ble_eq_true rfl) rfl (Nat.le_of_ble_eq_true rfl) (fun r7 σ8 hq9 => ?_)
        obtain ⟨r7e, r7s⟩ := hq9
        have r7e := r7e.symm; subst r7e; have r7s := r7s.symm; subst r7s
        refine e_val (y := H p_) rfl ?_
        refine e_bipush (v := 38) (pc := 15) Xc (dT hX7_every 7 rfl) rfl ?_
        refine e_icmp_ne (tgt := 43) (pc := 17) Xc (dT hX7_every 8 rfl) rfl (fun c17 => ?_) (fun c17 => ?_)
        · skip
          refine e_vret (pc := 43) Xc hQ (dT hX7_every 21 rfl) (Nat.le_refl _) (Nat.le_refl _) ?_
          rw [lpJ_x (r := (true, p_, l_)) (fun q => c17 q.2)] at hR_
          rw [← hR_]
          exact ⟨hp2, ho2⟩
        · skip
          have hlt_ := hp.2.2.1.lt c17 (by decide)
          obtain ⟨k_, rfl⟩ : ∃ k, k_ = k + 1 := ⟨k_ - 1, by have := hk_ rfl; omega⟩
          refine e_aload_n (pc := 20) Xc (dT hX7_every 9 rfl) 0 rfl ?_
          refine e_dup (pc := 21) Xc (dT hX7_every 10 rfl) rfl ?_
          refine gf_X7_54 (pc := 22) Xc (dT hX7_every 11 rfl) hp2.o rfl ?_
          refine e_val (y := nI p_) rfl ?_
          refine e_iconst (v := 1) (pc := 25) Xc (dT hX7_every 12 rfl) rfl ?_
          refine e_iaddN (a := p_) (b := 1) (pc := 26) Xc (dT hX7_every 13 rfl) ?_
          refine pf_X7_54 (fs' := olX7 m (upd (fP F (true, p_)) 6 (nI (p_ + 1))) T) (pc := 27) Xc (dT hX7_every 14 rfl) hp2.o (Nat.le_of_ble_eq_true rfl) rfl ?_
          refine Ev.gen (fun z => PX7 z m (upd (fP F (true, p_)) 6 (nI (p_ + 1))) T (upA A 1 (wrL a (A 1) (l_.map encR)))) (hp2.wf6 (x := nI (p_ + 1))) Off.set (fun σ10 hP11 ho12 => ?_)
          obtain ⟨hgo1_, hgo2a_, hgo3_, hgo4_⟩ := id hgo_
          have hgo1_ : s.2 ≤ p_ := hgo1_
          have hgo2a_ : p_ ≤ nt := hgo2a_
          have hgo4_ : l_.length + s.2 ≤ p_ := hgo4_
          have hll_ : (l_.map encR).length = l_.length := List.length_map _
          have hph13 : PH (wrL a (A 1) (l_.map encR)) (upd (fP F (true, p_)) 6 (nI (p_ + 1))) H nt a (n0 + (l_.map encR).length) := ⟨hp.1, hp.2.1, hp.2.2.1, fun q hq => (wrL_lo (by omega) _ _).trans (hp.2.2.2.1 q hq), hp.2.2.2.2.1, hp.2.2.2.2.2.1, wrL_n _ _ _ hp.2.2.2.2.2.2⟩
          refine e_aload_n (pc := 30) Xc (dT hX7_every 15 rfl) 0 rfl ?_
          obtain ⟨hgo1_, hgo2a_, hgo3_, hgo4_⟩ := id hgo_
          have hgo1_ : s.2 ≤ p_ := hgo1_
          have hgo2a_ : p_ ≤ nt := hgo2a_
          have hgo4_ : l_.length + s.2 ≤ p_ := hgo4_
          have hll_ : (l_.map encR).length = l_.length := List.length_map _
          have hph14 : PH (wrL a (A 1) (l_.map encR)) (upd (fP F (true, p_)) 6 (nI (p_ + 1))) H nt a (n0 + (l_.map encR).length) := ⟨hp.1, hp.2.1, hp.2.2.1, fun q hq => (wrL_lo (by omega) _ _).trans (hp.2.2.2.1 q hq), hp.2.2.2.2.1, hp.2.2.2.2.2.1, wrL_n _ _ _ hp.2.2.2.2.2.2⟩
          refine cl_X7_87 (pc := 31) (k := 0) (n := 0) (S := []) Xc hP11.o (c_factor4 hP11 hph14 (true, p_ + 1) (by show p_ + 1 ≤ nt; omega) ⟨rfl, rfl⟩ (by show n0 + (l_.map encR).length ≤ p_ + 1; omega) h9) (dT hX7_every 16 rfl) rfl (Nat.le_of_ble_eq_true rfl) (Nat.le_of_ble_eq_true rfl) (Nat.le_of_ble_eq_true rfl) rfl (Nat.le_of_ble_eq_true rfl) (fun σ16 hq17 => ?_)
          obtain ⟨hP18, ho19⟩ := hq17
          have hP18 : PX7 σ16 m (fP (upd (fP F (true, p_)) 6 (nI (p_ + 1))) (((factP H 4) (p_ + 1)).1, ((factP H 4) (p_ + 1)).2.1)) T (upA (upA A 1 (wrL a (A 1) (l_.map encR))) 1 (wrL a (wrL a (A 1) (l_.map encR)) (((factP H 4) (p_ + 1)).2.2.map encR))) := hP18
          rw [upA_2, wrL_app] at hP18
          obtain ⟨hq1_, hq2_, hq3_, hq4_⟩ : goP nt (p_ + 1) ((factP H 4) (p_ + 1)) := (fun q hq => factP_go hp.2.2.1 4 q hq) (p_ + 1) (by omega)
          have hll2_ : (((factP H 4) (p_ + 1)).2.2.map encR).length = ((factP H 4) (p_ + 1)).2.2.length := List.length_map _
          have hll3_ : ((l_.map encR) ++ (((factP H 4) (p_ + 1)).2.2.map encR)).length = l_.length + ((factP H 4) (p_ + 1)).2.2.length := by rw [List.length_append, hll_, hll2_]
          have hgo2_ : goP nt s.2 (((factP H 4) (p_ + 1)).1, ((factP H 4) (p_ + 1)).2.1, l_ ++ (((factP H 4) (p_ + 1)).2.2 ++ (if ((factP H 4) (p_ + 1)).1 = true then [.inr 1] else []))) := by
            refine ⟨?_, hq2_, fun _ => ?_, ?_⟩
            · show s.2 ≤ ((factP H 4) (p_ + 1)).2.1; omega
            · show s.2 < ((factP H 4) (p_ + 1)).2.1; omega
            · show (l_ ++ (((factP H 4) (p_ + 1)).2.2 ++ (if ((factP H 4) (p_ + 1)).1 = true then [Sum.inr 1] else ([] : List xI)))).length + s.2 ≤ ((factP H 4) (p_ + 1)).2.1
              rw [List.length_append, List.length_append]
              split
              · rw [List.length_singleton]; omega
              · rw [List.length_nil]; omega
          refine e_aload_n (pc := 34) Xc (dT hX7_every 17 rfl) 0 rfl ?_
          have hph20 : PH (wrL a (A 1) ((l_.map encR) ++ (((factP H 4) (p_ + 1)).2.2.map encR))) (fP (upd (fP F (true, p_)) 6 (nI (p_ + 1))) (((factP H 4) (p_ + 1)).1, ((factP H 4) (p_ + 1)).2.1)) H nt a (n0 + ((l_.map encR) ++ (((factP H 4) (p_ + 1)).2.2.map encR)).length) := ⟨hp.1, hp.2.1, hp.2.2.1, fun q hq => (wrL_lo (by omega) _ _).trans (hp.2.2.2.1 q hq), hp.2.2.2.2.1, hp.2.2.2.2.2.1, wrL_n _ _ _ hp.2.2.2.2.2.2⟩
          refine e_bipush (v := -2) (pc := 35) Xc (dT hX7_every 18 rfl) rfl ?_
          have hph21 : PH (wrL a (A 1) ((l_.map encR) ++ (((factP H 4) (p_ + 1)).2.2.map encR))) (fP (upd (fP F (true, p_)) 6 (nI (p_ + 1))) (((factP H 4) (p_ + 1)).1, ((factP H 4) (p_ + 1)).2.1)) H nt a (n0 + ((l_.map encR) ++ (((factP H 4) (p_ + 1)).2.2.map encR)).length) := ⟨hp.1, hp.2.1, hp.2.2.1, fun q hq => (wrL_lo (by omega) _ _).trans (hp.2.2.2.1 q hq), hp.2.2.2.2.1, hp.2.2.2.2.2.1, wrL_n _ _ _ hp.2.2.2.2.2.2⟩
          refine cl_X7_90 (pc := 37) (k := 0) (n := 0) (S := []) Xc hP18.o (c_emits hP18 hph21 (((factP H 4) (p_ + 1)).1, ((factP H 4) (p_ + 1)).2.1) hq2_ ⟨rfl, rfl⟩ (by omega) (-2)) (dT hX7_every 19 rfl) rfl (Nat.le_of_ble_eq_true rfl) (Nat.le_of_ble_eq_true rfl) (Nat.le_of_ble_eq_true rfl) rfl (Nat.le_of_ble_eq_true rfl) (fun σ23 hq24 => ?_)
          obtain ⟨hP25, ho26⟩ := hq24
          have hP25 : PX7 σ23 m (fP (upd (fP F (true, p_)) 6 (nI (p_ + 1))) (((factP H 4) (p_ + 1)).1, ((factP H 4) (p_ + 1)).2.1)) T (upA (upA A 1 (wrL a (A 1) ((l_.map encR) ++ (((factP H 4) (p_ + 1)).2.2.map encR)))) 1 (wrL a (wrL a (A 1) ((l_.map encR) ++ (((factP H 4) (p_ + 1)).2.2.map encR))) (if (((factP H 4) (p_ + 1)).1, ((factP H 4) (p_ + 1)).2.1).1 = true then [(-2)] else []))) := hP25
          rw [upA_2, wrL_app] at hP25
          refine e_goto (tgt := 4) (pc := 40) Xc (dT hX7_every 20 rfl) rfl ?_
          refine Ev.pick (L' := [(0, .ref m)]) [0] rfl ?_
          exact ih4 k_ (((factP H 4) (p_ + 1)).1) (((factP H 4) (p_ + 1)).2.1) (l_ ++ (((factP H 4) (p_ + 1)).2.2 ++ (if ((factP H 4) (p_ + 1)).1 = true then [.inr 1] else []))) σ23 (by omega) (fun q => by have := hk_ rfl; omega) ((lpJ_s c17).symm.trans hR_) hgo2_ (by rw [show List.map encR (l_ ++ (((factP H 4) (p_ + 1)).2.2 ++ (if ((factP H 4) (p_ + 1)).1 = true then [Sum.inr 1] else []))) = (((l_.map encR) ++ (((factP H 4) (p_ + 1)).2.2.map encR)) ++ (if (((factP H 4) (p_ + 1)).1, ((factP H 4) (p_ + 1)).2.1).1 = true then [(-2)] else [])) by rw [List.map_append, enc_if, List.append_assoc]; rfl]; rw [← show (fP (upd (fP F (true, p_)) 6 (nI (p_ + 1))) (((factP H 4) (p_ + 1)).1, ((factP H 4) (p_ + 1)).2.1)) = fP F (((factP H 4) (p_ + 1)).1, ((factP H 4) (p_ + 1)).2.1) from (F_ext rfl rfl rfl (fun j q6 q8 q9 => by simp only [fP, upd, if_neg q6, if_neg q8, if_neg q9]))]; exact hP25) (((ho2.tr ho12).tr ho19).tr ho26)
  refine Ev.pick (L' := [(0, .ref m)]) [0] rfl ?_
  exact lp4 ((100) + 1) 100 ((gFa H 4 s).1) ((gFa H 4 s).2.1) ((gFa H 4 s).2.2) σ2 (Nat.lt_succ_self _) (fun q => by have := (gFa_go (d := 4) hp.2.2.1 hs).2.2.1 q; have := hp.1; omega) rfl (gFa_go (d := 4) hp.2.2.1 hs) hP4 ho5
set_option maxRecDepth 100000 in
set_option maxHeartbeats 4000000 in
theorem c_some4 {G : xG} {σ : xS} {m : Nat} {F : Nat → Int32} {T : Nat → Nat} {A : Nat → Nat → Int32} (hP : PX7 σ m F T A) {H : Nat → Int32} {nt a n0 : Nat} (hp : PH (A 1) F H nt a n0) (s : Bool × Nat) (hs : s.2 ≤ nt) (hF : F 6 = nI s.2 ∧ F 8 = bI (!s.1)) (hn : n0 ≤ s.2) (h9 : F 9 = 1) : CV G yX7_some cX7_some 1 none 19 0 0 [.ref m] σ (fun σ1 => pP σ1 m F T A a (gEa H 4 s) ∧ Off m σ σ1) := by
  refine Met.ofX (by decide +kernel) (Nat.le_of_ble_eq_true rfl) (fun μ Xc hQ hnm => ?_)
  have Xc : xC G μ cX7_some 1 RX7 none 19 0 0 := Xc
  have hnt_ := hp.1
  have ha5_ := hp.2.1
  show Ev G μ 1 0 0 0 [(0, .ref m)] [] σ
  refine e_aload_n (pc := 0) Xc (dT hX7_some 0 rfl) 0 rfl ?_
  refine cl_X7_107 (pc := 1) (k := 0) (n := 0) (S := []) Xc hP.o (c_every4 hP hp s hs hF hn h9) (dT hX7_some 1 rfl) rfl (Nat.le_of_ble_eq_true rfl) (Nat.le_of_ble_eq_true rfl) (Nat.le_of_ble_eq_true rfl) rfl (Nat.le_of_ble_eq_true rfl) (fun σ2 hq3 => ?_)
  obtain ⟨hP4, ho5⟩ := hq3
  have hP4 : PX7 σ2 m (fP F ((gTa H 4 s).1, (gTa H 4 s).2.1)) T (upA A 1 (wrL a (A 1) ((gTa H 4 s).2.2.map encR))) := hP4
  have lp4 : ∀ (n4 : Nat) (k_ : Nat) (ok_ : Bool) (p_ : Nat) (l_ : List xI) (σ2 : xS), k_ < n4 → (ok_ = true → nt < p_ + k_) → (lpJ H (tofP H (factP H 4)) 124 2 k_ (ok_, p_, l_) = (gEa H 4 s)) → (goP nt s.2 (ok_, p_, l_)) → (PX7 σ2 m (fP F (ok_, p_)) T (upA A 1 (wrL a (A 1) (l_.map encR)))) → (Off m σ σ2) → Ev G μ 1 0 0 4 [(0, .ref m)] [] σ2 := by
    intro n4
    induction n4 with
    | zero => intro k_ ok_ p_ l_ σ2 hn; exact absurd hn (Nat.not_lt_zero _)
    | succ n4 ih4 =>
      intro k_ ok_ p_ l_ σ2 hn4 hk_ hR_ hgo_ hp2 ho2
      refine e_aload_n (pc := 4) Xc (dT hX7_some 2 rfl) 0 rfl ?_
      refine gf_X7_60 (pc := 5) Xc (dT hX7_some 3 rfl) hp2.o rfl ?_
      refine e_val (y := bI (!ok_)) rfl ?_
      refine e_if_ne (tgt := 43) (pc := 8) Xc (dT hX7_some 4 rfl) rfl (fun c8 => ?_) (fun c8 => ?_)
      · skip
        refine e_vret (pc := 43) Xc hQ (dT hX7_some 21 rfl) (Nat.le_refl _) (Nat.le_refl _) ?_
        rw [lpJ_x (r := (ok_, p_, l_)) (fun q => by have q1 : ok_ = true := q.1; rw [q1] at c8; exact c8 rfl)] at hR_
        rw [← hR_]
        exact ⟨hp2, ho2⟩
      · skip
        have hok_ : ok_ = true := by cases ok_; exact absurd c8 (by decide); rfl
        subst hok_
        refine e_aload_n (pc := 11) Xc (dT hX7_some 5 rfl) 0 rfl ?_
        have hph6 : PH (wrL a (A 1) (l_.map encR)) (fP F (true, p_)) H nt a (n0 + (l_.map encR).length) := ⟨hp.1, hp.2.1, hp.2.2.1, fun q hq => (wrL_lo (by omega) _ _).trans (hp.2.2.2.1 q hq), hp.2.2.2.2.1, hp.2.2.2.2.2.1, wrL_n _ _ _ hp.2.2.2.2.2.2⟩
        refine cl_X7_64 (pc := 12) (k := 0) (n := 0) (S := []) Xc hp2.o (c_here hp2 hph6 (true, p_) hgo_.2.1 ⟨rfl, rfl⟩) (dT hX7_some 6 rfl) rfl (Nat.le_of_ble_eq_true rfl) (Nat.le_of_ble_eq_true rfl) (Nat.le_of_ble_eq_true rfl) rfl (Nat.le_of_ble_eq_true rfl) (fun r7 σ8 hq9 => ?_)
        obtain ⟨r7e, r7s⟩ := hq9
        have r7e := r7e.symm; subst r7e; have r7s := r7s.symm; subst r7s
        refine e_val (y := H p_) rfl ?_
        refine e_bipush (v := 124) (pc := 15) Xc (dT hX7_some 7 rfl) rfl ?_
        refine e_icmp_ne (tgt := 43) (pc := 17) Xc (dT hX7_some 8 rfl) rfl (fun c17 => ?_) (fun c17 => ?_)
        · skip
          refine e_vret (pc := 43) Xc hQ (dT hX7_some 21 rfl) (Nat.le_refl _) (Nat.le_refl _) ?_
          rw [lpJ_x (r := (true, p_, l_)) (fun q => c17 q.2)] at hR_
          rw [← hR_]
          exact ⟨hp2, ho2⟩
        · skip
          have hlt_ := hp.2.2.1.lt c17 (by decide)
          obtain ⟨k_, rfl⟩ : ∃ k, k_ = k + 1 := ⟨k_ - 1, by have := hk_ rfl; omega⟩
          refine e_aload_n (pc := 20) Xc (dT hX7_some 9 rfl) 0 rfl ?_
          refine e_dup (pc := 21) Xc (dT hX7_some 10 rfl) rfl ?_
          refine gf_X7_54 (pc := 22) Xc (dT hX7_some 11 rfl) hp2.o rfl ?_
          refine e_val (y := nI p_) rfl ?_
          refine e_iconst (v := 1) (pc := 25) Xc (dT hX7_some 12 rfl) rfl ?_
          refine e_iaddN (a := p_) (b := 1) (pc := 26) Xc (dT hX7_some 13 rfl) ?_
          refine pf_X7_54 (fs' := olX7 m (upd (fP F (true, p_)) 6 (nI (p_ + 1))) T) (pc := 27) Xc (dT hX7_some 14 rfl) hp2.o (Nat.le_of_ble_eq_true rfl) rfl ?_
          refine Ev.gen (fun z => PX7 z m (upd (fP F (true, p_)) 6 (nI (p_ + 1))) T (upA A 1 (wrL a (A 1) (l_.map encR)))) (hp2.wf6 (x := nI (p_ + 1))) Off.set (fun σ10 hP11 ho12 => ?_)
          obtain ⟨hgo1_, hgo2a_, hgo3_, hgo4_⟩ := id hgo_
          have hgo1_ : s.2 ≤ p_ := hgo1_
          have hgo2a_ : p_ ≤ nt := hgo2a_
          have hgo4_ : l_.length + s.2 ≤ p_ := hgo4_
          have hll_ : (l_.map encR).length = l_.length := List.length_map _
          have hph13 : PH (wrL a (A 1) (l_.map encR)) (upd (fP F (true, p_)) 6 (nI (p_ + 1))) H nt a (n0 + (l_.map encR).length) := ⟨hp.1, hp.2.1, hp.2.2.1, fun q hq => (wrL_lo (by omega) _ _).trans (hp.2.2.2.1 q hq), hp.2.2.2.2.1, hp.2.2.2.2.2.1, wrL_n _ _ _ hp.2.2.2.2.2.2⟩
          refine e_aload_n (pc := 30) Xc (dT hX7_some 15 rfl) 0 rfl ?_
          obtain ⟨hgo1_, hgo2a_, hgo3_, hgo4_⟩ := id hgo_
          have hgo1_ : s.2 ≤ p_ := hgo1_
          have hgo2a_ : p_ ≤ nt := hgo2a_
          have hgo4_ : l_.length + s.2 ≤ p_ := hgo4_
          have hll_ : (l_.map encR).length = l_.length := List.length_map _
          have hph14 : PH (wrL a (A 1) (l_.map encR)) (upd (fP F (true, p_)) 6 (nI (p_ + 1))) H nt a (n0 + (l_.map encR).length) := ⟨hp.1, hp.2.1, hp.2.2.1, fun q hq => (wrL_lo (by omega) _ _).trans (hp.2.2.2.1 q hq), hp.2.2.2.2.1, hp.2.2.2.2.2.1, wrL_n _ _ _ hp.2.2.2.2.2.2⟩
          refine cl_X7_107 (pc := 31) (k := 0) (n := 0) (S := []) Xc hP11.o (c_every4 hP11 hph14 (true, p_ + 1) (by show p_ + 1 ≤ nt; omega) ⟨rfl, rfl⟩ (by show n0 + (l_.map encR).length ≤ p_ + 1; omega) h9) (dT hX7_some 16 rfl) rfl (Nat.le_of_ble_eq_true rfl) (Nat.le_of_ble_eq_true rfl) (Nat.le_of_ble_eq_true rfl) rfl (Nat.le_of_ble_eq_true rfl) (fun σ16 hq17 => ?_)
          obtain ⟨hP18, ho19⟩ := hq17
          have hP18 : PX7 σ16 m (fP (upd (fP F (true, p_)) 6 (nI (p_ + 1))) (((tofP H (factP H 4)) (p_ + 1)).1, ((tofP H (factP H 4)) (p_ + 1)).2.1)) T (upA (upA A 1 (wrL a (A 1) (l_.map encR))) 1 (wrL a (wrL a (A 1) (l_.map encR)) (((tofP H (factP H 4)) (p_ + 1)).2.2.map encR))) := hP18
          rw [upA_2, wrL_app] at hP18
          obtain ⟨hq1_, hq2_, hq3_, hq4_⟩ : goP nt (p_ + 1) ((tofP H (factP H 4)) (p_ + 1)) := (fun q hq => tofP_go hp.2.2.1 (fun q hq => factP_go hp.2.2.1 4 q hq) hq) (p_ + 1) (by omega)
          have hll2_ : (((tofP H (factP H 4)) (p_ + 1)).2.2.map encR).length = ((tofP H (factP H 4)) (p_ + 1)).2.2.length := List.length_map _
          have hll3_ : ((l_.map encR) ++ (((tofP H (factP H 4)) (p_ + 1)).2.2.map encR)).length = l_.length + ((tofP H (factP H 4)) (p_ + 1)).2.2.length := by rw [List.length_append, hll_, hll2_]
          have hgo2_ : goP nt s.2 (((tofP H (factP H 4)) (p_ + 1)).1, ((tofP H (factP H 4)) (p_ + 1)).2.1, l_ ++ (((tofP H (factP H 4)) (p_ + 1)).2.2 ++ (if ((tofP H (factP H 4)) (p_ + 1)).1 = true then [.inr 2] else []))) := by
            refine ⟨?_, hq2_, fun _ => ?_, ?_⟩
            · show s.2 ≤ ((tofP H (factP H 4)) (p_ + 1)).2.1; omega
            · show s.2 < ((tofP H (factP H 4)) (p_ + 1)).2.1; omega
            · show (l_ ++ (((tofP H (factP H 4)) (p_ + 1)).2.2 ++ (if ((tofP H (factP H 4)) (p_ + 1)).1 = true then [Sum.inr 2] else ([] : List xI)))).length + s.2 ≤ ((tofP H (factP H 4)) (p_ + 1)).2.1
              rw [List.length_append, List.length_append]
              split
              · rw [List.length_singleton]; omega
              · rw [List.length_nil]; omega
          refine e_aload_n (pc := 34) Xc (dT hX7_some 17 rfl) 0 rfl ?_
          have hph20 : PH (wrL a (A 1) ((l_.map encR) ++ (((tofP H (factP H 4)) (p_ + 1)).2.2.map encR))) (fP (upd (fP F (true, p_)) 6 (nI (p_ + 1))) (((tofP H (factP H 4)) (p_ + 1)).1, ((tofP H (factP H 4)) (p_ + 1)).2.1)) H nt a (n0 + ((l_.map encR) ++ (((tofP H (factP H 4)) (p_ + 1)).2.2.map encR)).length) := ⟨hp.1, hp.2.1, hp.2.2.1, fun q hq => (wrL_lo (by omega) _ _).trans (hp.2.2.2.1 q hq), hp.2.2.2.2.1, hp.2.2.2.2.2.1, wrL_n _ _ _ hp.2.2.2.2.2.2⟩
          refine e_bipush (v := -3) (pc := 35) Xc (dT hX7_some 18 rfl) rfl ?_
          have hph21 : PH (wrL a (A 1) ((l_.map encR) ++ (((tofP H (factP H 4)) (p_ + 1)).2.2.map encR))) (fP (upd (fP F (true, p_)) 6 (nI (p_ + 1))) (((tofP H (factP H 4)) (p_ + 1)).1, ((tofP H (factP H 4)) (p_ + 1)).2.1)) H nt a (n0 + ((l_.map encR) ++ (((tofP H (factP H 4)) (p_ + 1)).2.2.map encR)).length) := ⟨hp.1, hp.2.1, hp.2.2.1, fun q hq => (wrL_lo (by omega) _ _).trans (hp.2.2.2.1 q hq), hp.2.2.2.2.1, hp.2.2.2.2.2.1, wrL_n _ _ _ hp.2.2.2.2.2.2⟩
          refine cl_X7_90 (pc := 37) (k := 0) (n := 0) (S := []) Xc hP18.o (c_emits hP18 hph21 (((tofP H (factP H 4)) (p_ + 1)).1, ((tofP H (factP H 4)) (p_ + 1)).2.1) hq2_ ⟨rfl, rfl⟩ (by omega) (-3)) (dT hX7_some 19 rfl) rfl (Nat.le_of_ble_eq_true rfl) (Nat.le_of_ble_eq_true rfl) (Nat.le_of_ble_eq_true rfl) rfl (Nat.le_of_ble_eq_true rfl) (fun σ23 hq24 => ?_)
          obtain ⟨hP25, ho26⟩ := hq24
          have hP25 : PX7 σ23 m (fP (upd (fP F (true, p_)) 6 (nI (p_ + 1))) (((tofP H (factP H 4)) (p_ + 1)).1, ((tofP H (factP H 4)) (p_ + 1)).2.1)) T (upA (upA A 1 (wrL a (A 1) ((l_.map encR) ++ (((tofP H (factP H 4)) (p_ + 1)).2.2.map encR)))) 1 (wrL a (wrL a (A 1) ((l_.map encR) ++ (((tofP H (factP H 4)) (p_ + 1)).2.2.map encR))) (if (((tofP H (factP H 4)) (p_ + 1)).1, ((tofP H (factP H 4)) (p_ + 1)).2.1).1 = true then [(-3)] else []))) := hP25
          rw [upA_2, wrL_app] at hP25
          refine e_goto (tgt := 4) (pc := 40) Xc (dT hX7_some 20 rfl) rfl ?_
          refine Ev.pick (L' := [(0, .ref m)]) [0] rfl ?_
          exact ih4 k_ (((tofP H (factP H 4)) (p_ + 1)).1) (((tofP H (factP H 4)) (p_ + 1)).2.1) (l_ ++ (((tofP H (factP H 4)) (p_ + 1)).2.2 ++ (if ((tofP H (factP H 4)) (p_ + 1)).1 = true then [.inr 2] else []))) σ23 (by omega) (fun q => by have := hk_ rfl; omega) ((lpJ_s c17).symm.trans hR_) hgo2_ (by rw [show List.map encR (l_ ++ (((tofP H (factP H 4)) (p_ + 1)).2.2 ++ (if ((tofP H (factP H 4)) (p_ + 1)).1 = true then [Sum.inr 2] else []))) = (((l_.map encR) ++ (((tofP H (factP H 4)) (p_ + 1)).2.2.map encR)) ++ (if (((tofP H (factP H 4)) (p_ + 1)).1, ((tofP H (factP H 4)) (p_ + 1)).2.1).1 = true then [(-3)] else [])) by rw [List.map_append, enc_if, List.append_assoc]; rfl]; rw [← show (fP (upd (fP F (true, p_)) 6 (nI (p_ + 1))) (((tofP H (factP H 4)) (p_ + 1)).1, ((tofP H (factP H 4)) (p_ + 1)).2.1)) = fP F (((tofP H (factP H 4)) (p_ + 1)).1, ((tofP H (factP H 4)) (p_ + 1)).2.1) from (F_ext rfl rfl rfl (fun j q6 q8 q9 => by simp only [fP, upd, if_neg q6, if_neg q8, if_neg q9]))]; exact hP25) (((ho2.tr ho12).tr ho19).tr ho26)
  refine Ev.pick (L' := [(0, .ref m)]) [0] rfl ?_
  exact lp4 ((100) + 1) 100 ((gTa H 4 s).1) ((gTa H 4 s).2.1) ((gTa H 4 s).2.2) σ2 (Nat.lt_succ_self _) (fun q => by have := (gTa_go (d := 4) hp.2.2.1 hs).2.2.1 q; have := hp.1; omega) rfl (gTa_go (d := 4) hp.2.2.1 hs) hP4 ho5
set_option maxRecDepth 100000 in
set_option maxHeartbeats 4000000 in
theorem c_factor5 {G : xG} {σ : xS} {m : Nat} {F : Nat → Int32} {T : Nat → Nat} {A : Nat → Nat → Int32} (hP : PX7 σ m F T A) {H : Nat → Int32} {nt a n0 : Nat} (hp : PH (A 1) F H nt a n0) (s : Bool × Nat) (hs : s.2 ≤ nt) (hF : F 6 = nI s.2 ∧ F 8 = bI (!s.1)) (hn : n0 ≤ s.2) (h9 : F 9 = 0) : CV G yX7_factor cX7_factor 5 none 20 0 0 [.ref m] σ (fun σ1 => pP σ1 m F T A a (gFa H 5 s) ∧ Off m σ σ1) := by
  refine Met.ofX (by decide +kernel) (Nat.le_of_ble_eq_true rfl) (fun μ Xc hQ hnm => ?_)
  have Xc : xC G μ cX7_factor 5 RX7 none 20 0 0 := Xc
  have hnt_ := hp.1
  have ha5_ := hp.2.1
  show Ev G μ 5 0 0 0 [(0, .ref m)] [] σ
  rcases s with ⟨_ | _, p_⟩
  · skip
    have hF6_ : F 6 = nI p_ := hF.1
    have hF8_ : F 8 = 1 := hF.2
    have hs_ : p_ ≤ nt := hs
    refine e_aload_n (pc := 0) Xc (dT hX7_factor 0 rfl) 0 rfl ?_
    refine gf_X7_60 (pc := 1) Xc (dT hX7_factor 1 rfl) hP.o rfl ?_
    refine e_val (y := 1) hF8_ ?_
    refine e_if_eq (tgt := 8) (pc := 4) Xc (dT hX7_factor 2 rfl) rfl (fun c4 => ?_) (fun c4 => ?_)
    · skip
      exact absurd c4 (by decide)
    · skip
      refine e_vret (pc := 7) Xc hQ (dT hX7_factor 3 rfl) (Nat.le_refl _) (Nat.le_refl _) ?_
      rw [show gFa H 5 (false, p_) = (false, p_, []) from rfl]
      refine ⟨?_, Off.rf⟩
      show PX7 _ m (fP F (false, p_)) T (upA A 1 (wrL a (A 1) (([]).map encR)))
      rw [show (upA A 1 (wrL a (A 1) (([] : List xI).map encR))) = A from upA_id, show fP F (false, p_) = F from (F_ext (by first | rfl | exact hF6_.symm) (by first | rfl | exact hF8_.symm) (by first | rfl | exact h9) (fun j q6 q8 q9 => by simp only [fP, upd, if_neg q6, if_neg q8, if_neg q9]))]
      exact hP
  · skip
    have hF6_ : F 6 = nI p_ := hF.1
    have hF8_ : F 8 = 0 := hF.2
    have hs_ : p_ ≤ nt := hs
    refine e_aload_n (pc := 0) Xc (dT hX7_factor 0 rfl) 0 rfl ?_
    refine gf_X7_60 (pc := 1) Xc (dT hX7_factor 1 rfl) hP.o rfl ?_
    refine e_val (y := 0) hF8_ ?_
    refine e_if_eq (tgt := 8) (pc := 4) Xc (dT hX7_factor 2 rfl) rfl (fun c4 => ?_) (fun c4 => ?_)
    · skip
      refine e_aload_n (pc := 8) Xc (dT hX7_factor 4 rfl) 0 rfl ?_
      have hph1 : PH (A 1) F H nt a n0 := ⟨hp.1, hp.2.1, hp.2.2.1, hp.2.2.2.1, hp.2.2.2.2.1, hp.2.2.2.2.2.1, hp.2.2.2.2.2.2⟩
      refine cl_X7_64 (pc := 9) (k := 0) (n := 0) (S := []) Xc hP.o (c_here hP hph1 (true, p_) hs hF) (dT hX7_factor 5 rfl) rfl (Nat.le_of_ble_eq_true rfl) (Nat.le_of_ble_eq_true rfl) (Nat.le_of_ble_eq_true rfl) rfl (Nat.le_of_ble_eq_true rfl) (fun r2 σ3 hq4 => ?_)
      obtain ⟨r2e, r2s⟩ := hq4
      have r2e := r2e.symm; subst r2e; have r2s := r2s.symm; subst r2s
      refine e_val (y := H p_) rfl ?_
      refine e_istore_n (L' := [(1, .int (H p_)), (0, .ref m)]) (pc := 12) Xc (dT hX7_factor 6 rfl) (by decide) rfl ?_
      refine e_iload_n (pc := 13) Xc (dT hX7_factor 7 rfl) 0 rfl ?_
      refine e_bipush (v := 33) (pc := 14) Xc (dT hX7_factor 8 rfl) rfl ?_
      refine e_icmp_eq (tgt := 25) (pc := 16) Xc (dT hX7_factor 9 rfl) rfl (fun c16 => ?_) (fun c16 => ?_)
      · skip
        refine e_aload_n (pc := 25) Xc (dT hX7_factor 13 rfl) 1 rfl ?_
        refine e_aload_n (pc := 26) Xc (dT hX7_factor 14 rfl) 1 rfl ?_
        refine gf_X7_84 (pc := 27) Xc (dT hX7_factor 15 rfl) hP.o rfl ?_
        refine e_val (y := 0) h9 ?_
        refine e_iconst (v := 5) (pc := 30) Xc (dT hX7_factor 16 rfl) rfl ?_
        refine e_icmp_neN (x := 0) (y := 5) (tgt := 38) (pc := 31) Xc (dT hX7_factor 17 rfl) rfl (by omega) (by omega) (fun c31 => ?_) (fun c31 => ?_)
        · skip
          refine e_iconst (v := 0) (pc := 38) Xc (dT hX7_factor 20 rfl) rfl ?_
          refine pf_X7_60 (fs' := olX7 m (upd F 8 0) T) (pc := 39) Xc (dT hX7_factor 21 rfl) (Or.inl rfl) hP.o (Nat.le_of_ble_eq_true rfl) rfl ?_
          refine Ev.gen (fun z => PX7 z m (upd F 8 0) T A) (hP.wf8 (x := 0)) Off.set (fun σ5 hP6 ho7 => ?_)
          refine e_aload_n (pc := 42) Xc (dT hX7_factor 22 rfl) 1 rfl ?_
          refine e_dup (pc := 43) Xc (dT hX7_factor 23 rfl) rfl ?_
          refine gf_X7_84 (pc := 44) Xc (dT hX7_factor 24 rfl) hP6.o rfl ?_
          refine e_val (y := F 9) rfl ?_
          refine e_val (y := 0) h9 ?_
          refine e_iconst (v := 1) (pc := 47) Xc (dT hX7_factor 25 rfl) rfl ?_
          refine e_iaddN (a := 0) (b := 1) (pc := 48) Xc (dT hX7_factor 26 rfl) ?_
          refine e_val (y := 1) rfl ?_
          refine pf_X7_84 (fs' := olX7 m (upd (upd F 8 0) 9 1) T) (pc := 49) Xc (dT hX7_factor 27 rfl) hP6.o (Nat.le_of_ble_eq_true rfl) rfl ?_
          refine Ev.gen (fun z => PX7 z m (upd (upd F 8 0) 9 1) T A) (hP6.wf9 (x := 1)) Off.set (fun σ8 hP9 ho10 => ?_)
          refine e_aload_n (pc := 52) Xc (dT hX7_factor 28 rfl) 1 rfl ?_
          refine e_dup (pc := 53) Xc (dT hX7_factor 29 rfl) rfl ?_
          refine gf_X7_54 (pc := 54) Xc (dT hX7_factor 30 rfl) hP9.o rfl ?_
          refine e_val (y := F 6) rfl ?_
          refine e_val (y := nI p_) hF6_ ?_
          refine e_aload_n (pc := 57) Xc (dT hX7_factor 31 rfl) 1 rfl ?_
          refine gf_X7_60 (pc := 58) Xc (dT hX7_factor 32 rfl) hP9.o rfl ?_
          refine e_val (y := 0) rfl ?_
          refine e_if_eq (tgt := 68) (pc := 61) Xc (dT hX7_factor 33 rfl) rfl (fun c61 => ?_) (fun c61 => ?_)
          · skip
            refine e_iconst (v := 1) (pc := 68) Xc (dT hX7_factor 36 rfl) rfl ?_
            refine e_iaddN (a := p_) (b := 1) (pc := 69) Xc (dT hX7_factor 37 rfl) ?_
            refine pf_X7_54 (fs' := olX7 m (upd (upd (upd F 8 0) 9 1) 6 (nI (p_ + 1))) T) (pc := 70) Xc (dT hX7_factor 38 rfl) hP9.o (Nat.le_of_ble_eq_true rfl) rfl ?_
            refine Ev.gen (fun z => PX7 z m (upd (upd (upd F 8 0) 9 1) 6 (nI (p_ + 1))) T A) (hP9.wf6 (x := nI (p_ + 1))) Off.set (fun σ11 hP12 ho13 => ?_)
            refine e_iload_n (pc := 73) Xc (dT hX7_factor 39 rfl) 0 rfl ?_
            refine e_bipush (v := 33) (pc := 74) Xc (dT hX7_factor 40 rfl) rfl ?_
            refine e_icmp_ne (tgt := 91) (pc := 76) Xc (dT hX7_factor 41 rfl) rfl (fun c76 => ?_) (fun c76 => ?_)
            · skip
              exact absurd c16 c76
            · skip
              refine e_aload_n (pc := 79) Xc (dT hX7_factor 42 rfl) 1 rfl ?_
              have hlt_ := hp.2.2.1.lt c16 (by decide)
              have hn_ : n0 ≤ p_ := hn
              have hph14 : PH (A 1) (upd (upd (upd F 8 0) 9 1) 6 (nI (p_ + 1))) H nt a n0 := ⟨hp.1, hp.2.1, hp.2.2.1, hp.2.2.2.1, hp.2.2.2.2.1, hp.2.2.2.2.2.1, hp.2.2.2.2.2.2⟩
              refine cl_X7_87 (pc := 80) (k := 0) (n := 0) (S := []) Xc hP12.o (c_factor4 hP12 hph14 (true, p_ + 1) (by show p_ + 1 ≤ nt; omega) ⟨rfl, rfl⟩ (by show n0 ≤ p_ + 1; omega) rfl) (dT hX7_factor 43 rfl) rfl (Nat.le_of_ble_eq_true rfl) (Nat.le_of_ble_eq_true rfl) (Nat.le_of_ble_eq_true rfl) rfl (Nat.le_of_ble_eq_true rfl) (fun σ16 hq17 => ?_)
              obtain ⟨hP18, ho19⟩ := hq17
              have hP18 : PX7 σ16 m (fP (upd (upd (upd F 8 0) 9 1) 6 (nI (p_ + 1))) ((factP H 4 (p_ + 1)).1, (factP H 4 (p_ + 1)).2.1)) T (upA A 1 (wrL a (A 1) ((factP H 4 (p_ + 1)).2.2.map encR))) := hP18
              obtain ⟨hg1_, hg2_, hg3_, hg4_⟩ : goP nt (p_ + 1) (factP H 4 (p_ + 1)) := factP_go hp.2.2.1 4 (p_ + 1) (by omega)
              have hll_ : ((factP H 4 (p_ + 1)).2.2.map encR).length = (factP H 4 (p_ + 1)).2.2.length := List.length_map _
              refine e_aload_n (pc := 83) Xc (dT hX7_factor 44 rfl) 1 rfl ?_
              refine e_iconst (v := -1) (pc := 84) Xc (dT hX7_factor 45 rfl) rfl ?_
              have hph20 : PH (wrL a (A 1) ((factP H 4 (p_ + 1)).2.2.map encR)) (fP (upd (upd (upd F 8 0) 9 1) 6 (nI (p_ + 1))) ((factP H 4 (p_ + 1)).1, (factP H 4 (p_ + 1)).2.1)) H nt a (n0 + ((factP H 4 (p_ + 1)).2.2.map encR).length) := ⟨hp.1, hp.2.1, hp.2.2.1, fun q hq => (wrL_lo (by omega) _ _).trans (hp.2.2.2.1 q hq), hp.2.2.2.2.1, hp.2.2.2.2.2.1, wrL_n _ _ _ hp.2.2.2.2.2.2⟩
              refine cl_X7_90 (pc := 85) (k := 0) (n := 0) (S := []) Xc hP18.o (c_emits hP18 hph20 ((factP H 4 (p_ + 1)).1, (factP H 4 (p_ + 1)).2.1) hg2_ ⟨rfl, rfl⟩ (by have hn_ : n0 ≤ p_ := hn; omega) (-1)) (dT hX7_factor 46 rfl) rfl (Nat.le_of_ble_eq_true rfl) (Nat.le_of_ble_eq_true rfl) (Nat.le_of_ble_eq_true rfl) rfl (Nat.le_of_ble_eq_true rfl) (fun σ22 hq23 => ?_)
              obtain ⟨hP24, ho25⟩ := hq23
              have hP24 : PX7 σ22 m (fP (upd (upd (upd F 8 0) 9 1) 6 (nI (p_ + 1))) ((factP H 4 (p_ + 1)).1, (factP H 4 (p_ + 1)).2.1)) T (upA (upA A 1 (wrL a (A 1) ((factP H 4 (p_ + 1)).2.2.map encR))) 1 (wrL a (wrL a (A 1) ((factP H 4 (p_ + 1)).2.2.map encR)) (if ((factP H 4 (p_ + 1)).1, (factP H 4 (p_ + 1)).2.1).1 = true then [(-1)] else []))) := hP24
              rw [upA_2, wrL_app] at hP24
              refine e_goto (tgt := 101) (pc := 88) Xc (dT hX7_factor 47 rfl) rfl ?_
              refine e_aload_n (pc := 101) Xc (dT hX7_factor 53 rfl) 1 rfl ?_
              refine e_dup (pc := 102) Xc (dT hX7_factor 54 rfl) rfl ?_
              refine gf_X7_84 (pc := 103) Xc (dT hX7_factor 55 rfl) hP24.o rfl ?_
              refine e_val (y := 1) rfl ?_
              refine e_iconst (v := 1) (pc := 106) Xc (dT hX7_factor 56 rfl) rfl ?_
              refine e_isubN (a := 1) (b := 1) (pc := 107) Xc (dT hX7_factor 57 rfl) (by omega) ?_
              refine e_val (y := 0) rfl ?_
              refine pf_X7_84 (fs' := olX7 m (upd (fP (upd (upd (upd F 8 0) 9 1) 6 (nI (p_ + 1))) ((factP H 4 (p_ + 1)).1, (factP H 4 (p_ + 1)).2.1)) 9 0) T) (pc := 108) Xc (dT hX7_factor 58 rfl) hP24.o (Nat.le_of_ble_eq_true rfl) rfl ?_
              refine Ev.gen (fun z => PX7 z m (upd (fP (upd (upd (upd F 8 0) 9 1) 6 (nI (p_ + 1))) ((factP H 4 (p_ + 1)).1, (factP H 4 (p_ + 1)).2.1)) 9 0) T (upA A 1 (wrL a (A 1) (((factP H 4 (p_ + 1)).2.2.map encR) ++ (if ((factP H 4 (p_ + 1)).1, (factP H 4 (p_ + 1)).2.1).1 = true then [(-1)] else []))))) (hP24.wf9 (x := 0)) Off.set (fun σ26 hP27 ho28 => ?_)
              refine e_vret (pc := 111) Xc hQ (dT hX7_factor 59 rfl) (Nat.le_refl _) (Nat.le_refl _) ?_
              rw [show gFa H 5 (true, p_) = ((factP H 4 (p_ + 1)).1, (factP H 4 (p_ + 1)).2.1, (factP H 4 (p_ + 1)).2.2 ++ (if (factP H 4 (p_ + 1)).1 = true then [Sum.inr 0] else ([] : List xI))) from fa_bang c16]
              refine ⟨?_, (((((ho7.tr ho10).tr ho13).tr ho19).tr ho25).tr ho28)⟩
              show PX7 _ m (fP F ((factP H 4 (p_ + 1)).1, (factP H 4 (p_ + 1)).2.1)) T (upA A 1 (wrL a (A 1) (((factP H 4 (p_ + 1)).2.2 ++ (if (factP H 4 (p_ + 1)).1 = true then [Sum.inr 0] else ([] : List xI))).map encR)))
              rw [enc_if, show fP F ((factP H 4 (p_ + 1)).1, (factP H 4 (p_ + 1)).2.1) = (upd (fP (upd (upd (upd F 8 0) 9 1) 6 (nI (p_ + 1))) ((factP H 4 (p_ + 1)).1, (factP H 4 (p_ + 1)).2.1)) 9 0) from (F_ext (by first | rfl | exact hF6_.symm) (by first | rfl | exact hF8_.symm) (by first | rfl | exact h9) (fun j q6 q8 q9 => by simp only [fP, upd, if_neg q6, if_neg q8, if_neg q9]))]
              exact hP27
          · skip
            exact absurd c61 (by decide)
        · skip
          exact absurd c31 (by decide)
      · skip
        refine e_iload_n (pc := 19) Xc (dT hX7_factor 10 rfl) 0 rfl ?_
        refine e_bipush (v := 40) (pc := 20) Xc (dT hX7_factor 11 rfl) rfl ?_
        refine e_icmp_ne (tgt := 112) (pc := 22) Xc (dT hX7_factor 12 rfl) rfl (fun c22 => ?_) (fun c22 => ?_)
        · skip
          refine e_aload_n (pc := 112) Xc (dT hX7_factor 60 rfl) 1 rfl ?_
          refine e_ldcS (i := 4) (pc := 113) Xc (dT hX7_factor 61 rfl) (by decide) rfl rfl ?_
          have hph29 : PH (A 1) F H nt a n0 := ⟨hp.1, hp.2.1, hp.2.2.1, hp.2.2.2.1, hp.2.2.2.2.1, hp.2.2.2.2.2.1, hp.2.2.2.2.2.2⟩
          refine cl_X7_98 (pc := 115) (k := 0) (n := 0) (S := []) Xc hP.o (c_among hP hph29 (p_) (by omega) ⟨hF6_, hF8_⟩ 4 (by decide)) (dT hX7_factor 62 rfl) rfl (Nat.le_of_ble_eq_true rfl) (Nat.le_of_ble_eq_true rfl) (Nat.le_of_ble_eq_true rfl) rfl (Nat.le_of_ble_eq_true rfl) (fun r30 σ31 hq32 => ?_)
          rcases hq32 with ⟨k4_, hk4_, r30e, hPa4_, hoa4_⟩ | ⟨hk4_, r30e, r30s⟩
          · skip
            have r30e := r30e.symm; subst r30e
            have hkl4_ := amo_lt hk4_
            have hkq4_ : k4_ < 6 := Nat.lt_of_lt_of_le hkl4_ (by decide)
            have hps4_ := hp.2.2.1.lt rfl (amo_ne (by decide) hk4_)
            refine e_istore_n (L' := [(2, .int (nI k4_)), (1, .int (H p_)), (0, .ref m)]) (pc := 118) Xc (dT hX7_factor 63 rfl) (by decide) rfl ?_
            refine e_aload_n (pc := 119) Xc (dT hX7_factor 64 rfl) 2 rfl ?_
            refine e_iload_n (pc := 120) Xc (dT hX7_factor 65 rfl) 0 rfl ?_
            refine e_iconst (v := -1) (pc := 121) Xc (dT hX7_factor 66 rfl) rfl ?_
            refine e_icmp_ne (tgt := 129) (pc := 122) Xc (dT hX7_factor 67 rfl) rfl (fun c122 => ?_) (fun c122 => ?_)
            · skip
              refine e_iconst (v := 0) (pc := 129) Xc (dT hX7_factor 70 rfl) rfl ?_
              refine pf_X7_60 (fs' := olX7 m (upd (upd F 6 (nI (p_ + 1))) 8 0) T) (pc := 130) Xc (dT hX7_factor 71 rfl) (Or.inl rfl) hPa4_.o (Nat.le_of_ble_eq_true rfl) rfl ?_
              refine Ev.gen (fun z => PX7 z m (upd (upd F 6 (nI (p_ + 1))) 8 0) T A) (hPa4_.wf8 (x := 0)) Off.set (fun σ33 hP34 ho35 => ?_)
              refine e_aload_n (pc := 133) Xc (dT hX7_factor 72 rfl) 2 rfl ?_
              refine gf_X7_60 (pc := 134) Xc (dT hX7_factor 73 rfl) hP34.o rfl ?_
              refine e_val (y := 0) rfl ?_
              refine e_if_eq (tgt := 144) (pc := 137) Xc (dT hX7_factor 74 rfl) rfl (fun c137 => ?_) (fun c137 => ?_)
              · skip
                refine e_aload_n (pc := 144) Xc (dT hX7_factor 77 rfl) 2 rfl ?_
                refine e_ldcS (i := 5) (pc := 145) Xc (dT hX7_factor 78 rfl) (by decide) rfl rfl ?_
                have hph36 : PH (A 1) (upd (upd F 6 (nI (p_ + 1))) 8 0) H nt a n0 := ⟨hp.1, hp.2.1, hp.2.2.1, hp.2.2.2.1, hp.2.2.2.2.1, hp.2.2.2.2.2.1, hp.2.2.2.2.2.2⟩
                refine cl_X7_98 (pc := 147) (k := 0) (n := 0) (S := []) Xc hP34.o (c_among hP34 hph36 (p_ + 1) (by omega) ⟨rfl, rfl⟩ 5 (by decide)) (dT hX7_factor 79 rfl) rfl (Nat.le_of_ble_eq_true rfl) (Nat.le_of_ble_eq_true rfl) (Nat.le_of_ble_eq_true rfl) rfl (Nat.le_of_ble_eq_true rfl) (fun r37 σ38 hq39 => ?_)
                rcases hq39 with ⟨k5_, hk5_, r37e, hPa5_, hoa5_⟩ | ⟨hk5_, r37e, r37s⟩
                · skip
                  have r37e := r37e.symm; subst r37e
                  have hkl5_ := amo_lt hk5_
                  have hkq5_ : k5_ < 6 := Nat.lt_of_lt_of_le hkl5_ (by decide)
                  have hps5_ := hp.2.2.1.lt rfl (amo_ne (by decide) hk5_)
                  refine e_istore_n (L' := [(3, .int (nI k5_)), (2, .int (nI k4_)), (1, .int (H p_)), (0, .ref m)]) (pc := 150) Xc (dT hX7_factor 80 rfl) (by decide) rfl ?_
                  refine e_aload_n (pc := 151) Xc (dT hX7_factor 81 rfl) 3 rfl ?_
                  refine e_aload_n (pc := 152) Xc (dT hX7_factor 82 rfl) 3 rfl ?_
                  refine gf_X7_60 (pc := 153) Xc (dT hX7_factor 83 rfl) hPa5_.o rfl ?_
                  refine e_val (y := 0) rfl ?_
                  refine e_if_ne (tgt := 164) (pc := 156) Xc (dT hX7_factor 84 rfl) rfl (fun c156 => ?_) (fun c156 => ?_)
                  · skip
                    exact absurd c156 (by decide)
                  · skip
                    refine e_iload_n (pc := 159) Xc (dT hX7_factor 85 rfl) 0 rfl ?_
                    refine e_iconst (v := -1) (pc := 160) Xc (dT hX7_factor 86 rfl) rfl ?_
                    refine e_icmp_ne (tgt := 168) (pc := 161) Xc (dT hX7_factor 87 rfl) rfl (fun c161 => ?_) (fun c161 => ?_)
                    · skip
                      refine e_iconst (v := 0) (pc := 168) Xc (dT hX7_factor 90 rfl) rfl ?_
                      refine pf_X7_60 (fs' := olX7 m (upd (upd (upd (upd F 6 (nI (p_ + 1))) 8 0) 6 (nI (p_ + 1 + 1))) 8 0) T) (pc := 169) Xc (dT hX7_factor 91 rfl) (Or.inl rfl) hPa5_.o (Nat.le_of_ble_eq_true rfl) rfl ?_
                      refine Ev.gen (fun z => PX7 z m (upd (upd (upd (upd F 6 (nI (p_ + 1))) 8 0) 6 (nI (p_ + 1 + 1))) 8 0) T A) (hPa5_.wf8 (x := 0)) Off.set (fun σ40 hP41 ho42 => ?_)
                      refine e_aload_n (pc := 172) Xc (dT hX7_factor 92 rfl) 3 rfl ?_
                      have hph43 : PH (A 1) (upd (upd (upd (upd F 6 (nI (p_ + 1))) 8 0) 6 (nI (p_ + 1 + 1))) 8 0) H nt a n0 := ⟨hp.1, hp.2.1, hp.2.2.1, hp.2.2.2.1, hp.2.2.2.2.1, hp.2.2.2.2.2.1, hp.2.2.2.2.2.2⟩
                      refine cl_X7_104 (pc := 173) (k := 0) (n := 0) (S := []) Xc hP41.o (c_figures hP41 hph43 (true, p_ + 2) (by show _ ≤ nt; omega) ⟨rfl, rfl⟩) (dT hX7_factor 93 rfl) rfl (Nat.le_of_ble_eq_true rfl) (Nat.le_of_ble_eq_true rfl) (Nat.le_of_ble_eq_true rfl) rfl (Nat.le_of_ble_eq_true rfl) (fun r44 σ45 hq46 => ?_)
                      obtain ⟨r44e, hP47, ho48⟩ := hq46
                      have r44e := r44e.symm; subst r44e
                      refine e_istore (L' := [(4, .int (nI ((figP H (true, p_ + 2)).2))), (3, .int (nI k5_)), (2, .int (nI k4_)), (1, .int (H p_)), (0, .ref m)]) (pc := 176) Xc (dT hX7_factor 94 rfl) (by decide) rfl ?_
                      refine e_aload_n (pc := 178) Xc (dT hX7_factor 95 rfl) 4 rfl ?_
                      refine e_iload_n (pc := 179) Xc (dT hX7_factor 96 rfl) 2 rfl ?_
                      refine e_bipush (v := 8) (pc := 180) Xc (dT hX7_factor 97 rfl) rfl ?_
                      refine e_iload_n (pc := 182) Xc (dT hX7_factor 98 rfl) 1 rfl ?_
                      refine e_imulN (a := 8) (b := k5_) (pc := 183) Xc (dT hX7_factor 99 rfl) ?_
                      refine e_iaddN (a := k4_) (b := 8 * k5_) (pc := 184) Xc (dT hX7_factor 100 rfl) ?_
                      refine e_bipush (v := 32) (pc := 185) Xc (dT hX7_factor 101 rfl) rfl ?_
                      refine e_iload (pc := 187) Xc (dT hX7_factor 102 rfl) 0 rfl ?_
                      refine e_imulN (a := 32) (b := (figP H (true, p_ + 2)).2) (pc := 189) Xc (dT hX7_factor 103 rfl) ?_
                      refine e_iaddN (a := k4_ + (8 * k5_)) (b := 32 * ((figP H (true, p_ + 2)).2)) (pc := 190) Xc (dT hX7_factor 104 rfl) ?_
                      refine e_val (y := encR (.inl (k4_, k5_, (figP H (true, p_ + 2)).2))) rfl ?_
                      have hgf_ := figP_go hp.2.2.1 (s := (true, p_ + 2)) (by show p_ + 2 ≤ nt; omega)
                      have hn_ : n0 ≤ p_ := hn
                      have hph49 : PH (A 1) (fP (upd (upd (upd (upd F 6 (nI (p_ + 1))) 8 0) 6 (nI (p_ + 1 + 1))) 8 0) (figP H (true, p_ + 2)).1) H nt a n0 := ⟨hp.1, hp.2.1, hp.2.2.1, hp.2.2.2.1, hp.2.2.2.2.1, hp.2.2.2.2.2.1, hp.2.2.2.2.2.2⟩
                      refine cl_X7_90 (pc := 191) (k := 0) (n := 0) (S := []) Xc hP47.o (c_emits hP47 hph49 (figP H (true, p_ + 2)).1 hgf_.2.1 ⟨rfl, rfl⟩ (by omega) (encR (.inl (k4_, k5_, (figP H (true, p_ + 2)).2)))) (dT hX7_factor 105 rfl) rfl (Nat.le_of_ble_eq_true rfl) (Nat.le_of_ble_eq_true rfl) (Nat.le_of_ble_eq_true rfl) rfl (Nat.le_of_ble_eq_true rfl) (fun σ51 hq52 => ?_)
                      obtain ⟨hP53, ho54⟩ := hq52
                      refine e_vret (pc := 194) Xc hQ (dT hX7_factor 106 rfl) (Nat.le_refl _) (Nat.le_refl _) ?_
                      rw [show gFa H 5 (true, p_) = ((figP H (true, p_ + 2)).1.1, (figP H (true, p_ + 2)).1.2, if (figP H (true, p_ + 2)).1.1 = true then [.inl (k4_, k5_, (figP H (true, p_ + 2)).2)] else []) from (fa_test c16 c22).trans (te_s hk4_ hk5_)]
                      refine ⟨?_, (((((hoa4_.tr ho35).tr hoa5_).tr ho42).tr ho48).tr ho54)⟩
                      show PX7 _ m (fP F ((figP H (true, p_ + 2)).1.1, (figP H (true, p_ + 2)).1.2)) T (upA A 1 (wrL a (A 1) ((if (figP H (true, p_ + 2)).1.1 = true then [.inl (k4_, k5_, (figP H (true, p_ + 2)).2)] else []).map encR)))
                      rw [show (if (figP H (true, p_ + 2)).1.1 = true then [.inl (k4_, k5_, (figP H (true, p_ + 2)).2)] else []).map encR = (if (figP H (true, p_ + 2)).1.1 = true then [encR (.inl (k4_, k5_, (figP H (true, p_ + 2)).2))] else []) by split <;> rfl, show fP F ((figP H (true, p_ + 2)).1.1, (figP H (true, p_ + 2)).1.2) = (fP (upd (upd (upd (upd F 6 (nI (p_ + 1))) 8 0) 6 (nI (p_ + 1 + 1))) 8 0) (figP H (true, p_ + 2)).1) from (F_ext (by first | rfl | exact hF6_.symm) (by first | rfl | exact hF8_.symm) (by first | rfl | exact h9) (fun j q6 q8 q9 => by simp only [fP, upd, if_neg q6, if_neg q8, if_neg q9]))]
                      exact hP53
                    · skip
                      exact absurd c161 (nI_nneg (by omega) (by decide))
                · skip
                  have r37e := r37e.symm; subst r37e; have r37s := r37s.symm; subst r37s
                  refine e_istore_n (L' := [(3, .int (-1)), (2, .int (nI k4_)), (1, .int (H p_)), (0, .ref m)]) (pc := 150) Xc (dT hX7_factor 80 rfl) (by decide) rfl ?_
                  refine e_aload_n (pc := 151) Xc (dT hX7_factor 81 rfl) 3 rfl ?_
                  refine e_aload_n (pc := 152) Xc (dT hX7_factor 82 rfl) 3 rfl ?_
                  refine gf_X7_60 (pc := 153) Xc (dT hX7_factor 83 rfl) hP34.o rfl ?_
                  refine e_val (y := 0) rfl ?_
                  refine e_if_ne (tgt := 164) (pc := 156) Xc (dT hX7_factor 84 rfl) rfl (fun c156 => ?_) (fun c156 => ?_)
                  · skip
                    exact absurd c156 (by decide)
                  · skip
                    refine e_iload_n (pc := 159) Xc (dT hX7_factor 85 rfl) 0 rfl ?_
                    refine e_iconst (v := -1) (pc := 160) Xc (dT hX7_factor 86 rfl) rfl ?_
                    refine e_icmp_ne (tgt := 168) (pc := 161) Xc (dT hX7_factor 87 rfl) rfl (fun c161 => ?_) (fun c161 => ?_)
                    · skip
                      exact absurd c161 (by decide)
                    · skip
                      refine e_iconst (v := 1) (pc := 164) Xc (dT hX7_factor 88 rfl) rfl ?_
                      refine e_goto (tgt := 169) (pc := 165) Xc (dT hX7_factor 89 rfl) rfl ?_
                      refine pf_X7_60 (fs' := olX7 m (upd (upd (upd F 6 (nI (p_ + 1))) 8 0) 8 1) T) (pc := 169) Xc (dT hX7_factor 91 rfl) (Or.inr rfl) hP34.o (Nat.le_of_ble_eq_true rfl) rfl ?_
                      refine Ev.gen (fun z => PX7 z m (upd (upd (upd F 6 (nI (p_ + 1))) 8 0) 8 1) T A) (hP34.wf8 (x := 1)) Off.set (fun σ55 hP56 ho57 => ?_)
                      refine e_aload_n (pc := 172) Xc (dT hX7_factor 92 rfl) 3 rfl ?_
                      have hph58 : PH (A 1) (upd (upd (upd F 6 (nI (p_ + 1))) 8 0) 8 1) H nt a n0 := ⟨hp.1, hp.2.1, hp.2.2.1, hp.2.2.2.1, hp.2.2.2.2.1, hp.2.2.2.2.2.1, hp.2.2.2.2.2.2⟩
                      refine cl_X7_104 (pc := 173) (k := 0) (n := 0) (S := []) Xc hP56.o (c_figures hP56 hph58 (false, p_ + 1) (by show _ ≤ nt; omega) ⟨rfl, rfl⟩) (dT hX7_factor 93 rfl) rfl (Nat.le_of_ble_eq_true rfl) (Nat.le_of_ble_eq_true rfl) (Nat.le_of_ble_eq_true rfl) rfl (Nat.le_of_ble_eq_true rfl) (fun r59 σ60 hq61 => ?_)
                      obtain ⟨r59e, hP62, ho63⟩ := hq61
                      rw [show figP H (false, p_ + 1) = ((false, p_ + 1), 0) from if_neg (fun q => Bool.noConfusion q.1)] at r59e hP62
                      have r59e := r59e.symm; subst r59e
                      refine e_istore (L' := [(4, .int 0), (3, .int (-1)), (2, .int (nI k4_)), (1, .int (H p_)), (0, .ref m)]) (pc := 176) Xc (dT hX7_factor 94 rfl) (by decide) rfl ?_
                      refine e_aload_n (pc := 178) Xc (dT hX7_factor 95 rfl) 4 rfl ?_
                      refine e_iload_n (pc := 179) Xc (dT hX7_factor 96 rfl) 2 rfl ?_
                      refine e_bipush (v := 8) (pc := 180) Xc (dT hX7_factor 97 rfl) rfl ?_
                      refine e_iload_n (pc := 182) Xc (dT hX7_factor 98 rfl) 1 rfl ?_
                      refine e_imul (pc := 183) Xc (dT hX7_factor 99 rfl) ?_
                      refine e_iadd (pc := 184) Xc (dT hX7_factor 100 rfl) ?_
                      refine e_bipush (v := 32) (pc := 185) Xc (dT hX7_factor 101 rfl) rfl ?_
                      refine e_iload (pc := 187) Xc (dT hX7_factor 102 rfl) 0 rfl ?_
                      refine e_imulN (a := 32) (b := 0) (pc := 189) Xc (dT hX7_factor 103 rfl) ?_
                      refine e_val (y := 0) rfl ?_
                      refine e_iadd (pc := 190) Xc (dT hX7_factor 104 rfl) ?_
                      have hn_ : n0 ≤ p_ := hn
                      have hph64 : PH (A 1) (fP (upd (upd (upd F 6 (nI (p_ + 1))) 8 0) 8 1) (false, p_ + 1)) H nt a n0 := ⟨hp.1, hp.2.1, hp.2.2.1, hp.2.2.2.1, hp.2.2.2.2.1, hp.2.2.2.2.2.1, hp.2.2.2.2.2.2⟩
                      refine cl_X7_90 (pc := 191) (k := 0) (n := 0) (S := []) Xc hP62.o (c_emits hP62 hph64 (false, p_ + 1) (by show _ ≤ nt; omega) ⟨rfl, rfl⟩ (by omega) (((nI k4_) + (8 * (-1))) + 0)) (dT hX7_factor 105 rfl) rfl (Nat.le_of_ble_eq_true rfl) (Nat.le_of_ble_eq_true rfl) (Nat.le_of_ble_eq_true rfl) rfl (Nat.le_of_ble_eq_true rfl) (fun σ66 hq67 => ?_)
                      obtain ⟨hP68, ho69⟩ := hq67
                      have hP68 : PX7 σ66 m (fP (upd (upd (upd F 6 (nI (p_ + 1))) 8 0) 8 1) (false, p_ + 1)) T (upA A 1 (A 1)) := hP68
                      rw [show upA A 1 (A 1) = A from upA_id] at hP68
                      refine e_vret (pc := 194) Xc hQ (dT hX7_factor 106 rfl) (Nat.le_refl _) (Nat.le_refl _) ?_
                      rw [show gFa H 5 (true, p_) = (false, p_ + 1, []) from (fa_test c16 c22).trans (te_n2 hk4_ hk5_)]
                      refine ⟨?_, ((((hoa4_.tr ho35).tr ho57).tr ho63).tr ho69)⟩
                      show PX7 _ m (fP F (false, p_ + 1)) T (upA A 1 (wrL a (A 1) (([]).map encR)))
                      rw [show (upA A 1 (wrL a (A 1) (([] : List xI).map encR))) = A from upA_id, show fP F (false, p_ + 1) = (fP (upd (upd (upd F 6 (nI (p_ + 1))) 8 0) 8 1) (false, p_ + 1)) from (F_ext (by first | rfl | exact hF6_.symm) (by first | rfl | exact hF8_.symm) (by first | rfl | exact h9) (fun j q6 q8 q9 => by simp only [fP, upd, if_neg q6, if_neg q8, if_neg q9]))]
                      exact hP68
              · skip
                exact absurd c137 (by decide)
            · skip
              exact absurd c122 (nI_nneg (by omega) (by decide))
          · skip
            have r30e := r30e.symm; subst r30e; have r30s := r30s.symm; subst r30s
            refine e_istore_n (L' := [(2, .int (-1)), (1, .int (H p_)), (0, .ref m)]) (pc := 118) Xc (dT hX7_factor 63 rfl) (by decide) rfl ?_
            refine e_aload_n (pc := 119) Xc (dT hX7_factor 64 rfl) 2 rfl ?_
            refine e_iload_n (pc := 120) Xc (dT hX7_factor 65 rfl) 0 rfl ?_
            refine e_iconst (v := -1) (pc := 121) Xc (dT hX7_factor 66 rfl) rfl ?_
            refine e_icmp_ne (tgt := 129) (pc := 122) Xc (dT hX7_factor 67 rfl) rfl (fun c122 => ?_) (fun c122 => ?_)
            · skip
              exact absurd c122 (by decide)
            · skip
              refine e_iconst (v := 1) (pc := 125) Xc (dT hX7_factor 68 rfl) rfl ?_
              refine e_goto (tgt := 130) (pc := 126) Xc (dT hX7_factor 69 rfl) rfl ?_
              refine pf_X7_60 (fs' := olX7 m (upd F 8 1) T) (pc := 130) Xc (dT hX7_factor 71 rfl) (Or.inr rfl) hP.o (Nat.le_of_ble_eq_true rfl) rfl ?_
              refine Ev.gen (fun z => PX7 z m (upd F 8 1) T A) (hP.wf8 (x := 1)) Off.set (fun σ70 hP71 ho72 => ?_)
              refine e_aload_n (pc := 133) Xc (dT hX7_factor 72 rfl) 2 rfl ?_
              refine gf_X7_60 (pc := 134) Xc (dT hX7_factor 73 rfl) hP71.o rfl ?_
              refine e_val (y := 1) rfl ?_
              refine e_if_eq (tgt := 144) (pc := 137) Xc (dT hX7_factor 74 rfl) rfl (fun c137 => ?_) (fun c137 => ?_)
              · skip
                exact absurd c137 (by decide)
              · skip
                refine e_iconst (v := 0) (pc := 140) Xc (dT hX7_factor 75 rfl) rfl ?_
                refine e_goto (tgt := 150) (pc := 141) Xc (dT hX7_factor 76 rfl) rfl ?_
                refine e_istore_n (L' := [(3, .int 0), (2, .int (-1)), (1, .int (H p_)), (0, .ref m)]) (pc := 150) Xc (dT hX7_factor 80 rfl) (by decide) rfl ?_
                refine e_aload_n (pc := 151) Xc (dT hX7_factor 81 rfl) 3 rfl ?_
                refine e_aload_n (pc := 152) Xc (dT hX7_factor 82 rfl) 3 rfl ?_
                refine gf_X7_60 (pc := 153) Xc (dT hX7_factor 83 rfl) hP71.o rfl ?_
                refine e_val (y := 1) rfl ?_
                refine e_if_ne (tgt := 164) (pc := 156) Xc (dT hX7_factor 84 rfl) rfl (fun c156 => ?_) (fun c156 => ?_)
                · skip
                  refine e_iconst (v := 1) (pc := 164) Xc (dT hX7_factor 88 rfl) rfl ?_
                  refine e_goto (tgt := 169) (pc := 165) Xc (dT hX7_factor 89 rfl) rfl ?_
                  refine pf_X7_60 (fs' := olX7 m (upd (upd F 8 1) 8 1) T) (pc := 169) Xc (dT hX7_factor 91 rfl) (Or.inr rfl) hP71.o (Nat.le_of_ble_eq_true rfl) rfl ?_
                  refine Ev.gen (fun z => PX7 z m (upd (upd F 8 1) 8 1) T A) (hP71.wf8 (x := 1)) Off.set (fun σ73 hP74 ho75 => ?_)
                  refine e_aload_n (pc := 172) Xc (dT hX7_factor 92 rfl) 3 rfl ?_
                  have hph76 : PH (A 1) (upd (upd F 8 1) 8 1) H nt a n0 := ⟨hp.1, hp.2.1, hp.2.2.1, hp.2.2.2.1, hp.2.2.2.2.1, hp.2.2.2.2.2.1, hp.2.2.2.2.2.2⟩
                  refine cl_X7_104 (pc := 173) (k := 0) (n := 0) (S := []) Xc hP74.o (c_figures hP74 hph76 (false, p_) (by show _ ≤ nt; omega) ⟨hF6_, rfl⟩) (dT hX7_factor 93 rfl) rfl (Nat.le_of_ble_eq_true rfl) (Nat.le_of_ble_eq_true rfl) (Nat.le_of_ble_eq_true rfl) rfl (Nat.le_of_ble_eq_true rfl) (fun r77 σ78 hq79 => ?_)
                  obtain ⟨r77e, hP80, ho81⟩ := hq79
                  rw [show figP H (false, p_) = ((false, p_), 0) from if_neg (fun q => Bool.noConfusion q.1)] at r77e hP80
                  have r77e := r77e.symm; subst r77e
                  refine e_istore (L' := [(4, .int 0), (3, .int 0), (2, .int (-1)), (1, .int (H p_)), (0, .ref m)]) (pc := 176) Xc (dT hX7_factor 94 rfl) (by decide) rfl ?_
                  refine e_aload_n (pc := 178) Xc (dT hX7_factor 95 rfl) 4 rfl ?_
                  refine e_iload_n (pc := 179) Xc (dT hX7_factor 96 rfl) 2 rfl ?_
                  refine e_bipush (v := 8) (pc := 180) Xc (dT hX7_factor 97 rfl) rfl ?_
                  refine e_iload_n (pc := 182) Xc (dT hX7_factor 98 rfl) 1 rfl ?_
                  refine e_imulN (a := 8) (b := 0) (pc := 183) Xc (dT hX7_factor 99 rfl) ?_
                  refine e_val (y := 0) rfl ?_
                  refine e_iadd (pc := 184) Xc (dT hX7_factor 100 rfl) ?_
                  refine e_bipush (v := 32) (pc := 185) Xc (dT hX7_factor 101 rfl) rfl ?_
                  refine e_iload (pc := 187) Xc (dT hX7_factor 102 rfl) 0 rfl ?_
                  refine e_imulN (a := 32) (b := 0) (pc := 189) Xc (dT hX7_factor 103 rfl) ?_
                  refine e_val (y := 0) rfl ?_
                  refine e_iadd (pc := 190) Xc (dT hX7_factor 104 rfl) ?_
                  have hn_ : n0 ≤ p_ := hn
                  have hph82 : PH (A 1) (fP (upd (upd F 8 1) 8 1) (false, p_)) H nt a n0 := ⟨hp.1, hp.2.1, hp.2.2.1, hp.2.2.2.1, hp.2.2.2.2.1, hp.2.2.2.2.2.1, hp.2.2.2.2.2.2⟩
                  refine cl_X7_90 (pc := 191) (k := 0) (n := 0) (S := []) Xc hP80.o (c_emits hP80 hph82 (false, p_) (by show _ ≤ nt; omega) ⟨rfl, rfl⟩ (by omega) (((-1) + 0) + 0)) (dT hX7_factor 105 rfl) rfl (Nat.le_of_ble_eq_true rfl) (Nat.le_of_ble_eq_true rfl) (Nat.le_of_ble_eq_true rfl) rfl (Nat.le_of_ble_eq_true rfl) (fun σ84 hq85 => ?_)
                  obtain ⟨hP86, ho87⟩ := hq85
                  have hP86 : PX7 σ84 m (fP (upd (upd F 8 1) 8 1) (false, p_)) T (upA A 1 (A 1)) := hP86
                  rw [show upA A 1 (A 1) = A from upA_id] at hP86
                  refine e_vret (pc := 194) Xc hQ (dT hX7_factor 106 rfl) (Nat.le_refl _) (Nat.le_refl _) ?_
                  rw [show gFa H 5 (true, p_) = (false, p_, []) from (fa_test c16 c22).trans (te_n1 hk4_)]
                  refine ⟨?_, (((ho72.tr ho75).tr ho81).tr ho87)⟩
                  show PX7 _ m (fP F (false, p_)) T (upA A 1 (wrL a (A 1) (([]).map encR)))
                  rw [show (upA A 1 (wrL a (A 1) (([] : List xI).map encR))) = A from upA_id, show fP F (false, p_) = (fP (upd (upd F 8 1) 8 1) (false, p_)) from (F_ext (by first | rfl | exact hF6_.symm) (by first | rfl | exact hF8_.symm) (by first | rfl | exact h9) (fun j q6 q8 q9 => by simp only [fP, upd, if_neg q6, if_neg q8, if_neg q9]))]
                  exact hP86
                · skip
                  exact absurd c156 (by decide)
        · skip
          refine e_aload_n (pc := 25) Xc (dT hX7_factor 13 rfl) 1 rfl ?_
          refine e_aload_n (pc := 26) Xc (dT hX7_factor 14 rfl) 1 rfl ?_
          refine gf_X7_84 (pc := 27) Xc (dT hX7_factor 15 rfl) hP.o rfl ?_
          refine e_val (y := 0) h9 ?_
          refine e_iconst (v := 5) (pc := 30) Xc (dT hX7_factor 16 rfl) rfl ?_
          refine e_icmp_neN (x := 0) (y := 5) (tgt := 38) (pc := 31) Xc (dT hX7_factor 17 rfl) rfl (by omega) (by omega) (fun c31 => ?_) (fun c31 => ?_)
          · skip
            refine e_iconst (v := 0) (pc := 38) Xc (dT hX7_factor 20 rfl) rfl ?_
            refine pf_X7_60 (fs' := olX7 m (upd F 8 0) T) (pc := 39) Xc (dT hX7_factor 21 rfl) (Or.inl rfl) hP.o (Nat.le_of_ble_eq_true rfl) rfl ?_
            refine Ev.gen (fun z => PX7 z m (upd F 8 0) T A) (hP.wf8 (x := 0)) Off.set (fun σ88 hP89 ho90 => ?_)
            refine e_aload_n (pc := 42) Xc (dT hX7_factor 22 rfl) 1 rfl ?_
            refine e_dup (pc := 43) Xc (dT hX7_factor 23 rfl) rfl ?_
            refine gf_X7_84 (pc := 44) Xc (dT hX7_factor 24 rfl) hP89.o rfl ?_
            refine e_val (y := F 9) rfl ?_
            refine e_val (y := 0) h9 ?_
            refine e_iconst (v := 1) (pc := 47) Xc (dT hX7_factor 25 rfl) rfl ?_
            refine e_iaddN (a := 0) (b := 1) (pc := 48) Xc (dT hX7_factor 26 rfl) ?_
            refine e_val (y := 1) rfl ?_
            refine pf_X7_84 (fs' := olX7 m (upd (upd F 8 0) 9 1) T) (pc := 49) Xc (dT hX7_factor 27 rfl) hP89.o (Nat.le_of_ble_eq_true rfl) rfl ?_
            refine Ev.gen (fun z => PX7 z m (upd (upd F 8 0) 9 1) T A) (hP89.wf9 (x := 1)) Off.set (fun σ91 hP92 ho93 => ?_)
            refine e_aload_n (pc := 52) Xc (dT hX7_factor 28 rfl) 1 rfl ?_
            refine e_dup (pc := 53) Xc (dT hX7_factor 29 rfl) rfl ?_
            refine gf_X7_54 (pc := 54) Xc (dT hX7_factor 30 rfl) hP92.o rfl ?_
            refine e_val (y := F 6) rfl ?_
            refine e_val (y := nI p_) hF6_ ?_
            refine e_aload_n (pc := 57) Xc (dT hX7_factor 31 rfl) 1 rfl ?_
            refine gf_X7_60 (pc := 58) Xc (dT hX7_factor 32 rfl) hP92.o rfl ?_
            refine e_val (y := 0) rfl ?_
            refine e_if_eq (tgt := 68) (pc := 61) Xc (dT hX7_factor 33 rfl) rfl (fun c61 => ?_) (fun c61 => ?_)
            · skip
              refine e_iconst (v := 1) (pc := 68) Xc (dT hX7_factor 36 rfl) rfl ?_
              refine e_iaddN (a := p_) (b := 1) (pc := 69) Xc (dT hX7_factor 37 rfl) ?_
              refine pf_X7_54 (fs' := olX7 m (upd (upd (upd F 8 0) 9 1) 6 (nI (p_ + 1))) T) (pc := 70) Xc (dT hX7_factor 38 rfl) hP92.o (Nat.le_of_ble_eq_true rfl) rfl ?_
              refine Ev.gen (fun z => PX7 z m (upd (upd (upd F 8 0) 9 1) 6 (nI (p_ + 1))) T A) (hP92.wf6 (x := nI (p_ + 1))) Off.set (fun σ94 hP95 ho96 => ?_)
              refine e_iload_n (pc := 73) Xc (dT hX7_factor 39 rfl) 0 rfl ?_
              refine e_bipush (v := 33) (pc := 74) Xc (dT hX7_factor 40 rfl) rfl ?_
              refine e_icmp_ne (tgt := 91) (pc := 76) Xc (dT hX7_factor 41 rfl) rfl (fun c76 => ?_) (fun c76 => ?_)
              · skip
                refine e_aload_n (pc := 91) Xc (dT hX7_factor 48 rfl) 1 rfl ?_
                have hlt_ := hp.2.2.1.lt c22 (by decide)
                have hn_ : n0 ≤ p_ := hn
                have hph97 : PH (A 1) (upd (upd (upd F 8 0) 9 1) 6 (nI (p_ + 1))) H nt a n0 := ⟨hp.1, hp.2.1, hp.2.2.1, hp.2.2.2.1, hp.2.2.2.2.1, hp.2.2.2.2.2.1, hp.2.2.2.2.2.2⟩
                refine cl_X7_93 (pc := 92) (k := 0) (n := 0) (S := []) Xc hP95.o (c_some4 hP95 hph97 (true, p_ + 1) (by show p_ + 1 ≤ nt; omega) ⟨rfl, rfl⟩ (by show n0 ≤ p_ + 1; omega) rfl) (dT hX7_factor 49 rfl) rfl (Nat.le_of_ble_eq_true rfl) (Nat.le_of_ble_eq_true rfl) (Nat.le_of_ble_eq_true rfl) rfl (Nat.le_of_ble_eq_true rfl) (fun σ99 hq100 => ?_)
                obtain ⟨hP101, ho102⟩ := hq100
                have hP101 : PX7 σ99 m (fP (upd (upd (upd F 8 0) 9 1) 6 (nI (p_ + 1))) ((eofP H (factP H 4) (p_ + 1)).1, (eofP H (factP H 4) (p_ + 1)).2.1)) T (upA A 1 (wrL a (A 1) ((eofP H (factP H 4) (p_ + 1)).2.2.map encR))) := hP101
                obtain ⟨hg1_, hg2_, hg3_, hg4_⟩ : goP nt (p_ + 1) (eofP H (factP H 4) (p_ + 1)) := eofP_go hp.2.2.1 (fun q hq => factP_go hp.2.2.1 4 q hq) (by omega)
                have hll_ : ((eofP H (factP H 4) (p_ + 1)).2.2.map encR).length = (eofP H (factP H 4) (p_ + 1)).2.2.length := List.length_map _
                refine e_aload_n (pc := 95) Xc (dT hX7_factor 50 rfl) 1 rfl ?_
                refine e_bipush (v := 41) (pc := 96) Xc (dT hX7_factor 51 rfl) rfl ?_
                have hph103 : PH (wrL a (A 1) ((eofP H (factP H 4) (p_ + 1)).2.2.map encR)) (fP (upd (upd (upd F 8 0) 9 1) 6 (nI (p_ + 1))) ((eofP H (factP H 4) (p_ + 1)).1, (eofP H (factP H 4) (p_ + 1)).2.1)) H nt a (n0 + ((eofP H (factP H 4) (p_ + 1)).2.2.map encR).length) := ⟨hp.1, hp.2.1, hp.2.2.1, fun q hq => (wrL_lo (by omega) _ _).trans (hp.2.2.2.1 q hq), hp.2.2.2.2.1, hp.2.2.2.2.2.1, wrL_n _ _ _ hp.2.2.2.2.2.2⟩
                refine cl_X7_77 (pc := 98) (k := 0) (n := 0) (S := []) Xc hP101.o (c_must hP101 hph103 ((eofP H (factP H 4) (p_ + 1)).1, (eofP H (factP H 4) (p_ + 1)).2.1) hg2_ ⟨rfl, rfl⟩ 41) (dT hX7_factor 52 rfl) rfl (Nat.le_of_ble_eq_true rfl) (Nat.le_of_ble_eq_true rfl) (Nat.le_of_ble_eq_true rfl) rfl (Nat.le_of_ble_eq_true rfl) (fun σ105 hq106 => ?_)
                obtain ⟨hP107, ho108⟩ := hq106
                have hP107 : PX7 σ105 m (fP (fP (upd (upd (upd F 8 0) 9 1) 6 (nI (p_ + 1))) ((eofP H (factP H 4) (p_ + 1)).1, (eofP H (factP H 4) (p_ + 1)).2.1)) (mustP H 41 ((eofP H (factP H 4) (p_ + 1)).1, (eofP H (factP H 4) (p_ + 1)).2.1))) T (upA A 1 (wrL a (A 1) ((eofP H (factP H 4) (p_ + 1)).2.2.map encR))) := hP107
                refine e_aload_n (pc := 101) Xc (dT hX7_factor 53 rfl) 1 rfl ?_
                refine e_dup (pc := 102) Xc (dT hX7_factor 54 rfl) rfl ?_
                refine gf_X7_84 (pc := 103) Xc (dT hX7_factor 55 rfl) hP107.o rfl ?_
                refine e_val (y := 1) rfl ?_
                refine e_iconst (v := 1) (pc := 106) Xc (dT hX7_factor 56 rfl) rfl ?_
                refine e_isubN (a := 1) (b := 1) (pc := 107) Xc (dT hX7_factor 57 rfl) (by omega) ?_
                refine e_val (y := 0) rfl ?_
                refine pf_X7_84 (fs' := olX7 m (upd (fP (fP (upd (upd (upd F 8 0) 9 1) 6 (nI (p_ + 1))) ((eofP H (factP H 4) (p_ + 1)).1, (eofP H (factP H 4) (p_ + 1)).2.1)) (mustP H 41 ((eofP H (factP H 4) (p_ + 1)).1, (eofP H (factP H 4) (p_ + 1)).2.1))) 9 0) T) (pc := 108) Xc (dT hX7_factor 58 rfl) hP107.o (Nat.le_of_ble_eq_true rfl) rfl ?_
                refine Ev.gen (fun z => PX7 z m (upd (fP (fP (upd (upd (upd F 8 0) 9 1) 6 (nI (p_ + 1))) ((eofP H (factP H 4) (p_ + 1)).1, (eofP H (factP H 4) (p_ + 1)).2.1)) (mustP H 41 ((eofP H (factP H 4) (p_ + 1)).1, (eofP H (factP H 4) (p_ + 1)).2.1))) 9 0) T (upA A 1 (wrL a (A 1) ((eofP H (factP H 4) (p_ + 1)).2.2.map encR)))) (hP107.wf9 (x := 0)) Off.set (fun σ109 hP110 ho111 => ?_)
                refine e_vret (pc := 111) Xc hQ (dT hX7_factor 59 rfl) (Nat.le_refl _) (Nat.le_refl _) ?_
                rw [show gFa H 5 (true, p_) = ((mustP H 41 ((eofP H (factP H 4) (p_ + 1)).1, (eofP H (factP H 4) (p_ + 1)).2.1)).1, (mustP H 41 ((eofP H (factP H 4) (p_ + 1)).1, (eofP H (factP H 4) (p_ + 1)).2.1)).2, (eofP H (factP H 4) (p_ + 1)).2.2) from fa_par c16 c22]
                refine ⟨?_, (((((ho90.tr ho93).tr ho96).tr ho102).tr ho108).tr ho111)⟩
                show PX7 _ m (fP F ((mustP H 41 ((eofP H (factP H 4) (p_ + 1)).1, (eofP H (factP H 4) (p_ + 1)).2.1)).1, (mustP H 41 ((eofP H (factP H 4) (p_ + 1)).1, (eofP H (factP H 4) (p_ + 1)).2.1)).2)) T (upA A 1 (wrL a (A 1) (((eofP H (factP H 4) (p_ + 1)).2.2).map encR)))
                rw [show fP F ((mustP H 41 ((eofP H (factP H 4) (p_ + 1)).1, (eofP H (factP H 4) (p_ + 1)).2.1)).1, (mustP H 41 ((eofP H (factP H 4) (p_ + 1)).1, (eofP H (factP H 4) (p_ + 1)).2.1)).2) = (upd (fP (fP (upd (upd (upd F 8 0) 9 1) 6 (nI (p_ + 1))) ((eofP H (factP H 4) (p_ + 1)).1, (eofP H (factP H 4) (p_ + 1)).2.1)) (mustP H 41 ((eofP H (factP H 4) (p_ + 1)).1, (eofP H (factP H 4) (p_ + 1)).2.1))) 9 0) from (F_ext (by first | rfl | exact hF6_.symm) (by first | rfl | exact hF8_.symm) (by first | rfl | exact h9) (fun j q6 q8 q9 => by simp only [fP, upd, if_neg q6, if_neg q8, if_neg q9]))]
                exact hP110
              · skip
                exact absurd c76 c16
            · skip
              exact absurd c61 (by decide)
          · skip
            exact absurd c31 (by decide)
    · skip
      exact absurd c4 (by decide)
set_option maxRecDepth 100000 in
set_option maxHeartbeats 4000000 in
theorem c_every5 {G : xG} {σ : xS} {m : Nat} {F : Nat → Int32} {T : Nat → Nat} {A : Nat → Nat → Int32} (hP : PX7 σ m F T A) {H : Nat → Int32} {nt a n0 : Nat} (hp : PH (A 1) F H nt a n0) (s : Bool × Nat) (hs : s.2 ≤ nt) (hF : F 6 = nI s.2 ∧ F 8 = bI (!s.1)) (hn : n0 ≤ s.2) (h9 : F 9 = 0) : CV G yX7_every cX7_every 1 none 21 0 0 [.ref m] σ (fun σ1 => pP σ1 m F T A a (gTa H 5 s) ∧ Off m σ σ1) := by
  refine Met.ofX (by decide +kernel) (Nat.le_of_ble_eq_true rfl) (fun μ Xc hQ hnm => ?_)
  have Xc : xC G μ cX7_every 1 RX7 none 21 0 0 := Xc
  have hnt_ := hp.1
  have ha5_ := hp.2.1
  show Ev G μ 1 0 0 0 [(0, .ref m)] [] σ
  refine e_aload_n (pc := 0) Xc (dT hX7_every 0 rfl) 0 rfl ?_
  refine cl_X7_87 (pc := 1) (k := 0) (n := 0) (S := []) Xc hP.o (c_factor5 hP hp s hs hF hn h9) (dT hX7_every 1 rfl) rfl (Nat.le_of_ble_eq_true rfl) (Nat.le_of_ble_eq_true rfl) (Nat.le_of_ble_eq_true rfl) rfl (Nat.le_of_ble_eq_true rfl) (fun σ2 hq3 => ?_)
  obtain ⟨hP4, ho5⟩ := hq3
  have hP4 : PX7 σ2 m (fP F ((gFa H 5 s).1, (gFa H 5 s).2.1)) T (upA A 1 (wrL a (A 1) ((gFa H 5 s).2.2.map encR))) := hP4
  have lp4 : ∀ (n4 : Nat) (k_ : Nat) (ok_ : Bool) (p_ : Nat) (l_ : List xI) (σ2 : xS), k_ < n4 → (ok_ = true → nt < p_ + k_) → (lpJ H (factP H 5) 38 1 k_ (ok_, p_, l_) = (gTa H 5 s)) → (goP nt s.2 (ok_, p_, l_)) → (PX7 σ2 m (fP F (ok_, p_)) T (upA A 1 (wrL a (A 1) (l_.map encR)))) → (Off m σ σ2) → Ev G μ 1 0 0 4 [(0, .ref m)] [] σ2 := by
    intro n4
    induction n4 with
    | zero => intro k_ ok_ p_ l_ σ2 hn; exact absurd hn (Nat.not_lt_zero _)
    | succ n4 ih4 =>
      intro k_ ok_ p_ l_ σ2 hn4 hk_ hR_ hgo_ hp2 ho2
      refine e_aload_n (pc := 4) Xc (dT hX7_every 2 rfl) 0 rfl ?_
      refine gf_X7_60 (pc := 5) Xc (dT hX7_every 3 rfl) hp2.o rfl ?_
      refine e_val (y := bI (!ok_)) rfl ?_
      refine e_if_ne (tgt := 43) (pc := 8) Xc (dT hX7_every 4 rfl) rfl (fun c8 => ?_) (fun c8 => ?_)
      · skip
        refine e_vret (pc := 43) Xc hQ (dT hX7_every 21 rfl) (Nat.le_refl _) (Nat.le_refl _) ?_
        rw [lpJ_x (r := (ok_, p_, l_)) (fun q => by have q1 : ok_ = true := q.1; rw [q1] at c8; exact c8 rfl)] at hR_
        rw [← hR_]
        exact ⟨hp2, ho2⟩
      · skip
        have hok_ : ok_ = true := by cases ok_; exact absurd c8 (by decide); rfl
        subst hok_
        refine e_aload_n (pc := 11) Xc (dT hX7_every 5 rfl) 0 rfl ?_
        have hph6 : PH (wrL a (A 1) (l_.map encR)) (fP F (true, p_)) H nt a (n0 + (l_.map encR).length) := ⟨hp.1, hp.2.1, hp.2.2.1, fun q hq => (wrL_lo (by omega) _ _).trans (hp.2.2.2.1 q hq), hp.2.2.2.2.1, hp.2.2.2.2.2.1, wrL_n _ _ _ hp.2.2.2.2.2.2⟩
        refine cl_X7_64 (pc := 12) (k := 0) (n := 0) (S := []) Xc hp2.o (c_here hp2 hph6 (true, p_) hgo_.2.1 ⟨rfl, rfl⟩) (dT hX7_every 6 rfl) rfl (Nat.le_of_ble_eq_true rfl) (Nat.le_of_ble_eq_true rfl) (Nat.le_of_ble_eq_true rfl) rfl (Nat.le_of_ble_eq_true rfl) (fun r7 σ8 hq9 => ?_)
        obtain ⟨r7e, r7s⟩ := hq9
        have r7e := r7e.symm; subst r7e; have r7s := r7s.symm; subst r7s
        refine e_val (y := H p_) rfl ?_
        refine e_bipush (v := 38) (pc := 15) Xc (dT hX7_every 7 rfl) rfl ?_
        refine e_icmp_ne (tgt := 43) (pc := 17) Xc (dT hX7_every 8 rfl) rfl (fun c17 => ?_) (fun c17 => ?_)
        · skip
          refine e_vret (pc := 43) Xc hQ (dT hX7_every 21 rfl) (Nat.le_refl _) (Nat.le_refl _) ?_
          rw [lpJ_x (r := (true, p_, l_)) (fun q => c17 q.2)] at hR_
          rw [← hR_]
          exact ⟨hp2, ho2⟩
        · skip
          have hlt_ := hp.2.2.1.lt c17 (by decide)
          obtain ⟨k_, rfl⟩ : ∃ k, k_ = k + 1 := ⟨k_ - 1, by have := hk_ rfl; omega⟩
          refine e_aload_n (pc := 20) Xc (dT hX7_every 9 rfl) 0 rfl ?_
          refine e_dup (pc := 21) Xc (dT hX7_every 10 rfl) rfl ?_
          refine gf_X7_54 (pc := 22) Xc (dT hX7_every 11 rfl) hp2.o rfl ?_
          refine e_val (y := nI p_) rfl ?_
          refine e_iconst (v := 1) (pc := 25) Xc (dT hX7_every 12 rfl) rfl ?_
          refine e_iaddN (a := p_) (b := 1) (pc := 26) Xc (dT hX7_every 13 rfl) ?_
          refine pf_X7_54 (fs' := olX7 m (upd (fP F (true, p_)) 6 (nI (p_ + 1))) T) (pc := 27) Xc (dT hX7_every 14 rfl) hp2.o (Nat.le_of_ble_eq_true rfl) rfl ?_
          refine Ev.gen (fun z => PX7 z m (upd (fP F (true, p_)) 6 (nI (p_ + 1))) T (upA A 1 (wrL a (A 1) (l_.map encR)))) (hp2.wf6 (x := nI (p_ + 1))) Off.set (fun σ10 hP11 ho12 => ?_)
          obtain ⟨hgo1_, hgo2a_, hgo3_, hgo4_⟩ := id hgo_
          have hgo1_ : s.2 ≤ p_ := hgo1_
          have hgo2a_ : p_ ≤ nt := hgo2a_
          have hgo4_ : l_.length + s.2 ≤ p_ := hgo4_
          have hll_ : (l_.map encR).length = l_.length := List.length_map _
          have hph13 : PH (wrL a (A 1) (l_.map encR)) (upd (fP F (true, p_)) 6 (nI (p_ + 1))) H nt a (n0 + (l_.map encR).length) := ⟨hp.1, hp.2.1, hp.2.2.1, fun q hq => (wrL_lo (by omega) _ _).trans (hp.2.2.2.1 q hq), hp.2.2.2.2.1, hp.2.2.2.2.2.1, wrL_n _ _ _ hp.2.2.2.2.2.2⟩
          refine e_aload_n (pc := 30) Xc (dT hX7_every 15 rfl) 0 rfl ?_
          obtain ⟨hgo1_, hgo2a_, hgo3_, hgo4_⟩ := id hgo_
          have hgo1_ : s.2 ≤ p_ := hgo1_
          have hgo2a_ : p_ ≤ nt := hgo2a_
          have hgo4_ : l_.length + s.2 ≤ p_ := hgo4_
          have hll_ : (l_.map encR).length = l_.length := List.length_map _
          have hph14 : PH (wrL a (A 1) (l_.map encR)) (upd (fP F (true, p_)) 6 (nI (p_ + 1))) H nt a (n0 + (l_.map encR).length) := ⟨hp.1, hp.2.1, hp.2.2.1, fun q hq => (wrL_lo (by omega) _ _).trans (hp.2.2.2.1 q hq), hp.2.2.2.2.1, hp.2.2.2.2.2.1, wrL_n _ _ _ hp.2.2.2.2.2.2⟩
          refine cl_X7_87 (pc := 31) (k := 0) (n := 0) (S := []) Xc hP11.o (c_factor5 hP11 hph14 (true, p_ + 1) (by show p_ + 1 ≤ nt; omega) ⟨rfl, rfl⟩ (by show n0 + (l_.map encR).length ≤ p_ + 1; omega) h9) (dT hX7_every 16 rfl) rfl (Nat.le_of_ble_eq_true rfl) (Nat.le_of_ble_eq_true rfl) (Nat.le_of_ble_eq_true rfl) rfl (Nat.le_of_ble_eq_true rfl) (fun σ16 hq17 => ?_)
          obtain ⟨hP18, ho19⟩ := hq17
          have hP18 : PX7 σ16 m (fP (upd (fP F (true, p_)) 6 (nI (p_ + 1))) (((factP H 5) (p_ + 1)).1, ((factP H 5) (p_ + 1)).2.1)) T (upA (upA A 1 (wrL a (A 1) (l_.map encR))) 1 (wrL a (wrL a (A 1) (l_.map encR)) (((factP H 5) (p_ + 1)).2.2.map encR))) := hP18
          rw [upA_2, wrL_app] at hP18
          obtain ⟨hq1_, hq2_, hq3_, hq4_⟩ : goP nt (p_ + 1) ((factP H 5) (p_ + 1)) := (fun q hq => factP_go hp.2.2.1 5 q hq) (p_ + 1) (by omega)
          have hll2_ : (((factP H 5) (p_ + 1)).2.2.map encR).length = ((factP H 5) (p_ + 1)).2.2.length := List.length_map _
          have hll3_ : ((l_.map encR) ++ (((factP H 5) (p_ + 1)).2.2.map encR)).length = l_.length + ((factP H 5) (p_ + 1)).2.2.length := by rw [List.length_append, hll_, hll2_]
          have hgo2_ : goP nt s.2 (((factP H 5) (p_ + 1)).1, ((factP H 5) (p_ + 1)).2.1, l_ ++ (((factP H 5) (p_ + 1)).2.2 ++ (if ((factP H 5) (p_ + 1)).1 = true then [.inr 1] else []))) := by
            refine ⟨?_, hq2_, fun _ => ?_, ?_⟩
            · show s.2 ≤ ((factP H 5) (p_ + 1)).2.1; omega
            · show s.2 < ((factP H 5) (p_ + 1)).2.1; omega
            · show (l_ ++ (((factP H 5) (p_ + 1)).2.2 ++ (if ((factP H 5) (p_ + 1)).1 = true then [Sum.inr 1] else ([] : List xI)))).length + s.2 ≤ ((factP H 5) (p_ + 1)).2.1
              rw [List.length_append, List.length_append]
              split
              · rw [List.length_singleton]; omega
              · rw [List.length_nil]; omega
          refine e_aload_n (pc := 34) Xc (dT hX7_every 17 rfl) 0 rfl ?_
          have hph20 : PH (wrL a (A 1) ((l_.map encR) ++ (((factP H 5) (p_ + 1)).2.2.map encR))) (fP (upd (fP F (true, p_)) 6 (nI (p_ + 1))) (((factP H 5) (p_ + 1)).1, ((factP H 5) (p_ + 1)).2.1)) H nt a (n0 + ((l_.map encR) ++ (((factP H 5) (p_ + 1)).2.2.map encR)).length) := ⟨hp.1, hp.2.1, hp.2.2.1, fun q hq => (wrL_lo (by omega) _ _).trans (hp.2.2.2.1 q hq), hp.2.2.2.2.1, hp.2.2.2.2.2.1, wrL_n _ _ _ hp.2.2.2.2.2.2⟩
          refine e_bipush (v := -2) (pc := 35) Xc (dT hX7_every 18 rfl) rfl ?_
          have hph21 : PH (wrL a (A 1) ((l_.map encR) ++ (((factP H 5) (p_ + 1)).2.2.map encR))) (fP (upd (fP F (true, p_)) 6 (nI (p_ + 1))) (((factP H 5) (p_ + 1)).1, ((factP H 5) (p_ + 1)).2.1)) H nt a (n0 + ((l_.map encR) ++ (((factP H 5) (p_ + 1)).2.2.map encR)).length) := ⟨hp.1, hp.2.1, hp.2.2.1, fun q hq => (wrL_lo (by omega) _ _).trans (hp.2.2.2.1 q hq), hp.2.2.2.2.1, hp.2.2.2.2.2.1, wrL_n _ _ _ hp.2.2.2.2.2.2⟩
          refine cl_X7_90 (pc := 37) (k := 0) (n := 0) (S := []) Xc hP18.o (c_emits hP18 hph21 (((factP H 5) (p_ + 1)).1, ((factP H 5) (p_ + 1)).2.1) hq2_ ⟨rfl, rfl⟩ (by omega) (-2)) (dT hX7_every 19 rfl) rfl (Nat.le_of_ble_eq_true rfl) (Nat.le_of_ble_eq_true rfl) (Nat.le_of_ble_eq_true rfl) rfl (Nat.le_of_ble_eq_true rfl) (fun σ23 hq24 => ?_)
          obtain ⟨hP25, ho26⟩ := hq24
          have hP25 : PX7 σ23 m (fP (upd (fP F (true, p_)) 6 (nI (p_ + 1))) (((factP H 5) (p_ + 1)).1, ((factP H 5) (p_ + 1)).2.1)) T (upA (upA A 1 (wrL a (A 1) ((l_.map encR) ++ (((factP H 5) (p_ + 1)).2.2.map encR)))) 1 (wrL a (wrL a (A 1) ((l_.map encR) ++ (((factP H 5) (p_ + 1)).2.2.map encR))) (if (((factP H 5) (p_ + 1)).1, ((factP H 5) (p_ + 1)).2.1).1 = true then [(-2)] else []))) := hP25
          rw [upA_2, wrL_app] at hP25
          refine e_goto (tgt := 4) (pc := 40) Xc (dT hX7_every 20 rfl) rfl ?_
          refine Ev.pick (L' := [(0, .ref m)]) [0] rfl ?_
          exact ih4 k_ (((factP H 5) (p_ + 1)).1) (((factP H 5) (p_ + 1)).2.1) (l_ ++ (((factP H 5) (p_ + 1)).2.2 ++ (if ((factP H 5) (p_ + 1)).1 = true then [.inr 1] else []))) σ23 (by omega) (fun q => by have := hk_ rfl; omega) ((lpJ_s c17).symm.trans hR_) hgo2_ (by rw [show List.map encR (l_ ++ (((factP H 5) (p_ + 1)).2.2 ++ (if ((factP H 5) (p_ + 1)).1 = true then [Sum.inr 1] else []))) = (((l_.map encR) ++ (((factP H 5) (p_ + 1)).2.2.map encR)) ++ (if (((factP H 5) (p_ + 1)).1, ((factP H 5) (p_ + 1)).2.1).1 = true then [(-2)] else [])) by rw [List.map_append, enc_if, List.append_assoc]; rfl]; rw [← show (fP (upd (fP F (true, p_)) 6 (nI (p_ + 1))) (((factP H 5) (p_ + 1)).1, ((factP H 5) (p_ + 1)).2.1)) = fP F (((factP H 5) (p_ + 1)).1, ((factP H 5) (p_ + 1)).2.1) from (F_ext rfl rfl rfl (fun j q6 q8 q9 => by simp only [fP, upd, if_neg q6, if_neg q8, if_neg q9]))]; exact hP25) (((ho2.tr ho12).tr ho19).tr ho26)
  refine Ev.pick (L' := [(0, .ref m)]) [0] rfl ?_
  exact lp4 ((100) + 1) 100 ((gFa H 5 s).1) ((gFa H 5 s).2.1) ((gFa H 5 s).2.2) σ2 (Nat.lt_succ_self _) (fun q => by have := (gFa_go (d := 5) hp.2.2.1 hs).2.2.1 q; have := hp.1; omega) rfl (gFa_go (d := 5) hp.2.2.1 hs) hP4 ho5
set_option maxRecDepth 100000 in
set_option maxHeartbeats 4000000 in
theorem c_some5 {G : xG} {σ : xS} {m : Nat} {F : Nat → Int32} {T : Nat → Nat} {A : Nat → Nat → Int32} (hP : PX7 σ m F T A) {H : Nat → Int32} {nt a n0 : Nat} (hp : PH (A 1) F H nt a n0) (s : Bool × Nat) (hs : s.2 ≤ nt) (hF : F 6 = nI s.2 ∧ F 8 = bI (!s.1)) (hn : n0 ≤ s.2) (h9 : F 9 = 0) : CV G yX7_some cX7_some 1 none 22 0 0 [.ref m] σ (fun σ1 => pP σ1 m F T A a (gEa H 5 s) ∧ Off m σ σ1) := by
  refine Met.ofX (by decide +kernel) (Nat.le_of_ble_eq_true rfl) (fun μ Xc hQ hnm => ?_)
  have Xc : xC G μ cX7_some 1 RX7 none 22 0 0 := Xc
  have hnt_ := hp.1
  have ha5_ := hp.2.1
  show Ev G μ 1 0 0 0 [(0, .ref m)] [] σ
  refine e_aload_n (pc := 0) Xc (dT hX7_some 0 rfl) 0 rfl ?_
  refine cl_X7_107 (pc := 1) (k := 0) (n := 0) (S := []) Xc hP.o (c_every5 hP hp s hs hF hn h9) (dT hX7_some 1 rfl) rfl (Nat.le_of_ble_eq_true rfl) (Nat.le_of_ble_eq_true rfl) (Nat.le_of_ble_eq_true rfl) rfl (Nat.le_of_ble_eq_true rfl) (fun σ2 hq3 => ?_)
  obtain ⟨hP4, ho5⟩ := hq3
  have hP4 : PX7 σ2 m (fP F ((gTa H 5 s).1, (gTa H 5 s).2.1)) T (upA A 1 (wrL a (A 1) ((gTa H 5 s).2.2.map encR))) := hP4
  have lp4 : ∀ (n4 : Nat) (k_ : Nat) (ok_ : Bool) (p_ : Nat) (l_ : List xI) (σ2 : xS), k_ < n4 → (ok_ = true → nt < p_ + k_) → (lpJ H (tofP H (factP H 5)) 124 2 k_ (ok_, p_, l_) = (gEa H 5 s)) → (goP nt s.2 (ok_, p_, l_)) → (PX7 σ2 m (fP F (ok_, p_)) T (upA A 1 (wrL a (A 1) (l_.map encR)))) → (Off m σ σ2) → Ev G μ 1 0 0 4 [(0, .ref m)] [] σ2 := by
    intro n4
    induction n4 with
    | zero => intro k_ ok_ p_ l_ σ2 hn; exact absurd hn (Nat.not_lt_zero _)
    | succ n4 ih4 =>
      intro k_ ok_ p_ l_ σ2 hn4 hk_ hR_ hgo_ hp2 ho2
      refine e_aload_n (pc := 4) Xc (dT hX7_some 2 rfl) 0 rfl ?_
      refine gf_X7_60 (pc := 5) Xc (dT hX7_some 3 rfl) hp2.o rfl ?_
      refine e_val (y := bI (!ok_)) rfl ?_
      refine e_if_ne (tgt := 43) (pc := 8) Xc (dT hX7_some 4 rfl) rfl (fun c8 => ?_) (fun c8 => ?_)
      · skip
        refine e_vret (pc := 43) Xc hQ (dT hX7_some 21 rfl) (Nat.le_refl _) (Nat.le_refl _) ?_
        rw [lpJ_x (r := (ok_, p_, l_)) (fun q => by have q1 : ok_ = true := q.1; rw [q1] at c8; exact c8 rfl)] at hR_
        rw [← hR_]
        exact ⟨hp2, ho2⟩
      · skip
        have hok_ : ok_ = true := by cases ok_; exact absurd c8 (by decide); rfl
        subst hok_
        refine e_aload_n (pc := 11) Xc (dT hX7_some 5 rfl) 0 rfl ?_
        have hph6 : PH (wrL a (A 1) (l_.map encR)) (fP F (true, p_)) H nt a (n0 + (l_.map encR).length) := ⟨hp.1, hp.2.1, hp.2.2.1, fun q hq => (wrL_lo (by omega) _ _).trans (hp.2.2.2.1 q hq), hp.2.2.2.2.1, hp.2.2.2.2.2.1, wrL_n _ _ _ hp.2.2.2.2.2.2⟩
        refine cl_X7_64 (pc := 12) (k := 0) (n := 0) (S := []) Xc hp2.o (c_here hp2 hph6 (true, p_) hgo_.2.1 ⟨rfl, rfl⟩) (dT hX7_some 6 rfl) rfl (Nat.le_of_ble_eq_true rfl) (Nat.le_of_ble_eq_true rfl) (Nat.le_of_ble_eq_true rfl) rfl (Nat.le_of_ble_eq_true rfl) (fun r7 σ8 hq9 => ?_)
        obtain ⟨r7e, r7s⟩ := hq9
        have r7e := r7e.symm; subst r7e; have r7s := r7s.symm; subst r7s
        refine e_val (y := H p_) rfl ?_
        refine e_bipush (v := 124) (pc := 15) Xc (dT hX7_some 7 rfl) rfl ?_
        refine e_icmp_ne (tgt := 43) (pc := 17) Xc (dT hX7_some 8 rfl) rfl (fun c17 => ?_) (fun c17 => ?_)
        · skip
          refine e_vret (pc := 43) Xc hQ (dT hX7_some 21 rfl) (Nat.le_refl _) (Nat.le_refl _) ?_
          rw [lpJ_x (r := (true, p_, l_)) (fun q => c17 q.2)] at hR_
          rw [← hR_]
          exact ⟨hp2, ho2⟩
        · skip
          have hlt_ := hp.2.2.1.lt c17 (by decide)
          obtain ⟨k_, rfl⟩ : ∃ k, k_ = k + 1 := ⟨k_ - 1, by have := hk_ rfl; omega⟩
          refine e_aload_n (pc := 20) Xc (dT hX7_some 9 rfl) 0 rfl ?_
          refine e_dup (pc := 21) Xc (dT hX7_some 10 rfl) rfl ?_
          refine gf_X7_54 (pc := 22) Xc (dT hX7_some 11 rfl) hp2.o rfl ?_
          refine e_val (y := nI p_) rfl ?_
          refine e_iconst (v := 1) (pc := 25) Xc (dT hX7_some 12 rfl) rfl ?_
          refine e_iaddN (a := p_) (b := 1) (pc := 26) Xc (dT hX7_some 13 rfl) ?_
          refine pf_X7_54 (fs' := olX7 m (upd (fP F (true, p_)) 6 (nI (p_ + 1))) T) (pc := 27) Xc (dT hX7_some 14 rfl) hp2.o (Nat.le_of_ble_eq_true rfl) rfl ?_
          refine Ev.gen (fun z => PX7 z m (upd (fP F (true, p_)) 6 (nI (p_ + 1))) T (upA A 1 (wrL a (A 1) (l_.map encR)))) (hp2.wf6 (x := nI (p_ + 1))) Off.set (fun σ10 hP11 ho12 => ?_)
          obtain ⟨hgo1_, hgo2a_, hgo3_, hgo4_⟩ := id hgo_
          have hgo1_ : s.2 ≤ p_ := hgo1_
          have hgo2a_ : p_ ≤ nt := hgo2a_
          have hgo4_ : l_.length + s.2 ≤ p_ := hgo4_
          have hll_ : (l_.map encR).length = l_.length := List.length_map _
          have hph13 : PH (wrL a (A 1) (l_.map encR)) (upd (fP F (true, p_)) 6 (nI (p_ + 1))) H nt a (n0 + (l_.map encR).length) := ⟨hp.1, hp.2.1, hp.2.2.1, fun q hq => (wrL_lo (by omega) _ _).trans (hp.2.2.2.1 q hq), hp.2.2.2.2.1, hp.2.2.2.2.2.1, wrL_n _ _ _ hp.2.2.2.2.2.2⟩
          refine e_aload_n (pc := 30) Xc (dT hX7_some 15 rfl) 0 rfl ?_
          obtain ⟨hgo1_, hgo2a_, hgo3_, hgo4_⟩ := id hgo_
          have hgo1_ : s.2 ≤ p_ := hgo1_
          have hgo2a_ : p_ ≤ nt := hgo2a_
          have hgo4_ : l_.length + s.2 ≤ p_ := hgo4_
          have hll_ : (l_.map encR).length = l_.length := List.length_map _
          have hph14 : PH (wrL a (A 1) (l_.map encR)) (upd (fP F (true, p_)) 6 (nI (p_ + 1))) H nt a (n0 + (l_.map encR).length) := ⟨hp.1, hp.2.1, hp.2.2.1, fun q hq => (wrL_lo (by omega) _ _).trans (hp.2.2.2.1 q hq), hp.2.2.2.2.1, hp.2.2.2.2.2.1, wrL_n _ _ _ hp.2.2.2.2.2.2⟩
          refine cl_X7_107 (pc := 31) (k := 0) (n := 0) (S := []) Xc hP11.o (c_every5 hP11 hph14 (true, p_ + 1) (by show p_ + 1 ≤ nt; omega) ⟨rfl, rfl⟩ (by show n0 + (l_.map encR).length ≤ p_ + 1; omega) h9) (dT hX7_some 16 rfl) rfl (Nat.le_of_ble_eq_true rfl) (Nat.le_of_ble_eq_true rfl) (Nat.le_of_ble_eq_true rfl) rfl (Nat.le_of_ble_eq_true rfl) (fun σ16 hq17 => ?_)
          obtain ⟨hP18, ho19⟩ := hq17
          have hP18 : PX7 σ16 m (fP (upd (fP F (true, p_)) 6 (nI (p_ + 1))) (((tofP H (factP H 5)) (p_ + 1)).1, ((tofP H (factP H 5)) (p_ + 1)).2.1)) T (upA (upA A 1 (wrL a (A 1) (l_.map encR))) 1 (wrL a (wrL a (A 1) (l_.map encR)) (((tofP H (factP H 5)) (p_ + 1)).2.2.map encR))) := hP18
          rw [upA_2, wrL_app] at hP18
          obtain ⟨hq1_, hq2_, hq3_, hq4_⟩ : goP nt (p_ + 1) ((tofP H (factP H 5)) (p_ + 1)) := (fun q hq => tofP_go hp.2.2.1 (fun q hq => factP_go hp.2.2.1 5 q hq) hq) (p_ + 1) (by omega)
          have hll2_ : (((tofP H (factP H 5)) (p_ + 1)).2.2.map encR).length = ((tofP H (factP H 5)) (p_ + 1)).2.2.length := List.length_map _
          have hll3_ : ((l_.map encR) ++ (((tofP H (factP H 5)) (p_ + 1)).2.2.map encR)).length = l_.length + ((tofP H (factP H 5)) (p_ + 1)).2.2.length := by rw [List.length_append, hll_, hll2_]
          have hgo2_ : goP nt s.2 (((tofP H (factP H 5)) (p_ + 1)).1, ((tofP H (factP H 5)) (p_ + 1)).2.1, l_ ++ (((tofP H (factP H 5)) (p_ + 1)).2.2 ++ (if ((tofP H (factP H 5)) (p_ + 1)).1 = true then [.inr 2] else []))) := by
            refine ⟨?_, hq2_, fun _ => ?_, ?_⟩
            · show s.2 ≤ ((tofP H (factP H 5)) (p_ + 1)).2.1; omega
            · show s.2 < ((tofP H (factP H 5)) (p_ + 1)).2.1; omega
            · show (l_ ++ (((tofP H (factP H 5)) (p_ + 1)).2.2 ++ (if ((tofP H (factP H 5)) (p_ + 1)).1 = true then [Sum.inr 2] else ([] : List xI)))).length + s.2 ≤ ((tofP H (factP H 5)) (p_ + 1)).2.1
              rw [List.length_append, List.length_append]
              split
              · rw [List.length_singleton]; omega
              · rw [List.length_nil]; omega
          refine e_aload_n (pc := 34) Xc (dT hX7_some 17 rfl) 0 rfl ?_
          have hph20 : PH (wrL a (A 1) ((l_.map encR) ++ (((tofP H (factP H 5)) (p_ + 1)).2.2.map encR))) (fP (upd (fP F (true, p_)) 6 (nI (p_ + 1))) (((tofP H (factP H 5)) (p_ + 1)).1, ((tofP H (factP H 5)) (p_ + 1)).2.1)) H nt a (n0 + ((l_.map encR) ++ (((tofP H (factP H 5)) (p_ + 1)).2.2.map encR)).length) := ⟨hp.1, hp.2.1, hp.2.2.1, fun q hq => (wrL_lo (by omega) _ _).trans (hp.2.2.2.1 q hq), hp.2.2.2.2.1, hp.2.2.2.2.2.1, wrL_n _ _ _ hp.2.2.2.2.2.2⟩
          refine e_bipush (v := -3) (pc := 35) Xc (dT hX7_some 18 rfl) rfl ?_
          have hph21 : PH (wrL a (A 1) ((l_.map encR) ++ (((tofP H (factP H 5)) (p_ + 1)).2.2.map encR))) (fP (upd (fP F (true, p_)) 6 (nI (p_ + 1))) (((tofP H (factP H 5)) (p_ + 1)).1, ((tofP H (factP H 5)) (p_ + 1)).2.1)) H nt a (n0 + ((l_.map encR) ++ (((tofP H (factP H 5)) (p_ + 1)).2.2.map encR)).length) := ⟨hp.1, hp.2.1, hp.2.2.1, fun q hq => (wrL_lo (by omega) _ _).trans (hp.2.2.2.1 q hq), hp.2.2.2.2.1, hp.2.2.2.2.2.1, wrL_n _ _ _ hp.2.2.2.2.2.2⟩
          refine cl_X7_90 (pc := 37) (k := 0) (n := 0) (S := []) Xc hP18.o (c_emits hP18 hph21 (((tofP H (factP H 5)) (p_ + 1)).1, ((tofP H (factP H 5)) (p_ + 1)).2.1) hq2_ ⟨rfl, rfl⟩ (by omega) (-3)) (dT hX7_some 19 rfl) rfl (Nat.le_of_ble_eq_true rfl) (Nat.le_of_ble_eq_true rfl) (Nat.le_of_ble_eq_true rfl) rfl (Nat.le_of_ble_eq_true rfl) (fun σ23 hq24 => ?_)
          obtain ⟨hP25, ho26⟩ := hq24
          have hP25 : PX7 σ23 m (fP (upd (fP F (true, p_)) 6 (nI (p_ + 1))) (((tofP H (factP H 5)) (p_ + 1)).1, ((tofP H (factP H 5)) (p_ + 1)).2.1)) T (upA (upA A 1 (wrL a (A 1) ((l_.map encR) ++ (((tofP H (factP H 5)) (p_ + 1)).2.2.map encR)))) 1 (wrL a (wrL a (A 1) ((l_.map encR) ++ (((tofP H (factP H 5)) (p_ + 1)).2.2.map encR))) (if (((tofP H (factP H 5)) (p_ + 1)).1, ((tofP H (factP H 5)) (p_ + 1)).2.1).1 = true then [(-3)] else []))) := hP25
          rw [upA_2, wrL_app] at hP25
          refine e_goto (tgt := 4) (pc := 40) Xc (dT hX7_some 20 rfl) rfl ?_
          refine Ev.pick (L' := [(0, .ref m)]) [0] rfl ?_
          exact ih4 k_ (((tofP H (factP H 5)) (p_ + 1)).1) (((tofP H (factP H 5)) (p_ + 1)).2.1) (l_ ++ (((tofP H (factP H 5)) (p_ + 1)).2.2 ++ (if ((tofP H (factP H 5)) (p_ + 1)).1 = true then [.inr 2] else []))) σ23 (by omega) (fun q => by have := hk_ rfl; omega) ((lpJ_s c17).symm.trans hR_) hgo2_ (by rw [show List.map encR (l_ ++ (((tofP H (factP H 5)) (p_ + 1)).2.2 ++ (if ((tofP H (factP H 5)) (p_ + 1)).1 = true then [Sum.inr 2] else []))) = (((l_.map encR) ++ (((tofP H (factP H 5)) (p_ + 1)).2.2.map encR)) ++ (if (((tofP H (factP H 5)) (p_ + 1)).1, ((tofP H (factP H 5)) (p_ + 1)).2.1).1 = true then [(-3)] else [])) by rw [List.map_append, enc_if, List.append_assoc]; rfl]; rw [← show (fP (upd (fP F (true, p_)) 6 (nI (p_ + 1))) (((tofP H (factP H 5)) (p_ + 1)).1, ((tofP H (factP H 5)) (p_ + 1)).2.1)) = fP F (((tofP H (factP H 5)) (p_ + 1)).1, ((tofP H (factP H 5)) (p_ + 1)).2.1) from (F_ext rfl rfl rfl (fun j q6 q8 q9 => by simp only [fP, upd, if_neg q6, if_neg q8, if_neg q9]))]; exact hP25) (((ho2.tr ho12).tr ho19).tr ho26)
  refine Ev.pick (L' := [(0, .ref m)]) [0] rfl ?_
  exact lp4 ((100) + 1) 100 ((gTa H 5 s).1) ((gTa H 5 s).2.1) ((gTa H 5 s).2.2) σ2 (Nat.lt_succ_self _) (fun q => by have := (gTa_go (d := 5) hp.2.2.1 hs).2.2.1 q; have := hp.1; omega) rfl (gTa_go (d := 5) hp.2.2.1 hs) hP4 ho5
