set_option maxRecDepth 100000 in
set_option maxHeartbeats 4000000 in
theorem b_tears {G : xG} {σ : xS} {x m : Nat} {X Y bd : Nat → Int32} {hi : Int32} {rr : Nat} {nr nb ns np nn nt na dy : Nat} {t : xT} (hB : BK G σ x m X Y bd hi rr nr nb ns np nn nt t) (hK : OK X nr nb t ns np nn nt na dy) (hPa9 : okPt X) (v : Int32) (o : Int32) : CI G yX6_tears cX6_tears 7 (some .int) 3 0 0 [.ref x, .int v, .int o] σ (fun z σ1 => z = v_tears X nr v o ∧ BK G σ1 x m X Y bd hi rr nr nb ns np nn nt t ∧ OffB x σ σ1) := by
  refine Met.ofX (by decide +kernel) (Nat.le_of_ble_eq_true rfl) (fun μ Xc hQ hnm => ?_)
  have Xc : xC G μ cX6_tears 7 RX6 (some .int) 3 0 0 := Xc
  obtain ⟨hSA, ⟨hgA, hgO⟩, hxm, hms, ⟨Fx, Ax, hx, hF7⟩, ⟨tw, htw, hXn⟩, ⟨F5, T5, A5, hP5⟩, ⟨Fp, Tp, Ap, hPp, hRP⟩, ⟨Fg, Tg, Ag, hPg⟩, ⟨Fa, Ta, Aa, hPa, hFa1, hAa⟩, hBI⟩ := id hB
  obtain ⟨htw1, htw2, htw3⟩ := id htw
  obtain ⟨hG, hT, hS, hPl, hNo, hTa, hA, hJ, hR, hD⟩ := id hK
  have hr4 := hG.r4
  have hb7 := hG.b7
  have hs6 := hS.1
  have hp8 := hPl.1
  have hn8 := hNo.1
  have ht100 := hTa.1
  have ha5 := hA.1
  have hdy := hD.1
  have hd0 := hD.2
  have ht13 : tw ≠ x + 13 := by omega
  have hb8 : ns ≤ 6 ∧ np ≤ 8 ∧ nn ≤ 8 ∧ nt ≤ 100 := ⟨hs6, hp8, hn8, ht100⟩
  show Ev G μ 7 0 0 0 [(0, .ref x), (1, .int v), (2, .int o)] [] σ
  obtain ⟨Fw1, Tw1, Aw1, hBw1, htw1⟩ := id hXn
  have hWw1 := hBw1.2.1
  refine e_aload_n (pc := 0) Xc (dT hX6_tears 0 rfl) 0 rfl ?_
  refine gf_X6_12 (pc := 1) Xc (dT hX6_tears 1 rfl) hx.o rfl ?_
  refine e_iload_n (pc := 4) Xc (dT hX6_tears 2 rfl) 1 rfl ?_
  refine cl_X6_99 (pc := 5) (k := 0) (n := 0) (S := []) Xc hBw1.1.o (c5_isReader hBw1 v) (dT hX6_tears 3 rfl) rfl (Nat.le_of_ble_eq_true rfl) (Nat.le_of_ble_eq_true rfl) (Nat.le_of_ble_eq_true rfl) rfl (Nat.le_of_ble_eq_true rfl) (fun r2 σ3 hq4 => ?_)
  obtain ⟨r2e, r2s⟩ := hq4
  have r2e := r2e.symm; subst r2e; have r2s := r2s.symm; subst r2s
  refine e_if_eq (tgt := 22) (pc := 8) Xc (dT hX6_tears 4 rfl) rfl (fun c8 => ?_) (fun c8 => ?_)
  · skip
    refine e_iconst (v := -1) (pc := 22) Xc (dT hX6_tears 10 rfl) rfl ?_
    refine e_iret (pc := 23) Xc hQ (dT hX6_tears 11 rfl) (Nat.le_refl _) (Nat.le_refl _) ?_
    have hz : v_tears X nr v o = (-1) := by
      try simp only [bI_0, bI_1, Bool.not_eq_true, Bool.not_eq_false] at c8
      first | (simp [v_tears, c8]; done) | (clear hB hK hSA hx hXn hP5 hPp hRP hPg hPa hBI hG hT hS hPl hNo hTa hA hJ hR hD hQ Xc; simp_all [v_tears]; done)
    exact ⟨hz.symm, hB, OffB.rf⟩
  · skip
    obtain ⟨q, hq, rfl⟩ := inF_nat (v := v) (n := nr) (by omega) (by simpa [bI_0, bI_1] using c8)
    have hc_q : cl (nI q) = q := cl_nI (by omega)
    refine e_aload_n (pc := 11) Xc (dT hX6_tears 5 rfl) 0 rfl ?_
    refine gf_X6_12 (pc := 12) Xc (dT hX6_tears 6 rfl) hx.o rfl ?_
    refine e_iload_n (pc := 15) Xc (dT hX6_tears 7 rfl) 2 rfl ?_
    refine cl_X6_99 (pc := 16) (k := 0) (n := 0) (S := []) Xc hBw1.1.o (c5_isReader hBw1 o) (dT hX6_tears 8 rfl) rfl (Nat.le_of_ble_eq_true rfl) (Nat.le_of_ble_eq_true rfl) (Nat.le_of_ble_eq_true rfl) rfl (Nat.le_of_ble_eq_true rfl) (fun r5 σ6 hq7 => ?_)
    obtain ⟨r5e, r5s⟩ := hq7
    have r5e := r5e.symm; subst r5e; have r5s := r5s.symm; subst r5s
    refine e_if_ne (tgt := 24) (pc := 19) Xc (dT hX6_tears 9 rfl) rfl (fun c19 => ?_) (fun c19 => ?_)
    · skip
      obtain ⟨p, hp, rfl⟩ := inF_nat (v := o) (n := nr) (by omega) (by simpa [bI_0, bI_1] using c19)
      have hc_p : cl (nI p) = p := cl_nI (by omega)
      refine e_iload_n (pc := 24) Xc (dT hX6_tears 12 rfl) 1 rfl ?_
      refine e_iload_n (pc := 25) Xc (dT hX6_tears 13 rfl) 2 rfl ?_
      refine e_icmp_neN (x := q) (y := p) (tgt := 32) (pc := 26) Xc (dT hX6_tears 14 rfl) rfl (by omega) (by omega) (fun c26 => ?_) (fun c26 => ?_)
      · skip
        have hqp_ : q ≠ p := c26
        have hqpI_ : ¬ nI q = nI p := fun e_ => c26 ((nI_eq (by omega) (by omega)).mp e_)
        refine e_aload_n (pc := 32) Xc (dT hX6_tears 17 rfl) 0 rfl ?_
        refine gf_X6_12 (pc := 33) Xc (dT hX6_tears 18 rfl) hx.o rfl ?_
        refine gf_X6_113 (pc := 36) Xc (dT hX6_tears 19 rfl) hBw1.1.o rfl ?_
        refine e_iload_n (pc := 39) Xc (dT hX6_tears 20 rfl) 1 rfl ?_
        refine cl_X6_106 (pc := 40) (k := 0) (n := 0) (S := []) Xc (c_get hBw1.1.a4 (by decide) (by decide) q (by omega)) (dT hX6_tears 21 rfl) rfl (Nat.le_of_ble_eq_true rfl) (Nat.le_of_ble_eq_true rfl) (Nat.le_of_ble_eq_true rfl) rfl (Nat.le_of_ble_eq_true rfl) (fun r8 σ9 hq10 => ?_)
        obtain ⟨r8e, r8s⟩ := hq10
        have r8e := r8e.symm; subst r8e; have r8s := r8s.symm; subst r8s
        refine e_val (y := orN (X (1 + q))) (hWw1.2.2.2.1 q (by omega)) ?_
        refine e_istore_n (L' := [(3, .int (orN (X (1 + q)))), (0, .ref x), (1, .int (nI q)), (2, .int (nI p))]) (pc := 43) Xc (dT hX6_tears 22 rfl) (by decide) rfl ?_
        refine e_aload_n (pc := 44) Xc (dT hX6_tears 23 rfl) 1 rfl ?_
        refine gf_X6_12 (pc := 45) Xc (dT hX6_tears 24 rfl) hx.o rfl ?_
        refine gf_X6_113 (pc := 48) Xc (dT hX6_tears 25 rfl) hBw1.1.o rfl ?_
        refine e_iload_n (pc := 51) Xc (dT hX6_tears 26 rfl) 3 rfl ?_
        refine cl_X6_106 (pc := 52) (k := 0) (n := 0) (S := []) Xc (c_get hBw1.1.a4 (by decide) (by decide) p (by omega)) (dT hX6_tears 27 rfl) rfl (Nat.le_of_ble_eq_true rfl) (Nat.le_of_ble_eq_true rfl) (Nat.le_of_ble_eq_true rfl) rfl (Nat.le_of_ble_eq_true rfl) (fun r11 σ12 hq13 => ?_)
        obtain ⟨r11e, r11s⟩ := hq13
        have r11e := r11e.symm; subst r11e; have r11s := r11s.symm; subst r11s
        refine e_val (y := orN (X (1 + p))) (hWw1.2.2.2.1 p (by omega)) ?_
        refine e_istore (L' := [(4, .int (orN (X (1 + p)))), (3, .int (orN (X (1 + q)))), (0, .ref x), (1, .int (nI q)), (2, .int (nI p))]) (pc := 55) Xc (dT hX6_tears 28 rfl) (by decide) rfl ?_
        refine e_iload_n (pc := 57) Xc (dT hX6_tears 29 rfl) 1 rfl ?_
        refine e_bipush (v := -5) (pc := 58) Xc (dT hX6_tears 30 rfl) rfl ?_
        refine e_icmp_eq (tgt := 70) (pc := 60) Xc (dT hX6_tears 31 rfl) rfl (fun c60 => ?_) (fun c60 => ?_)
        · skip
          have hno_ : X (1 + q) = -1 := WB.has5 hG (by omega) c60
          refine e_bipush (v := -5) (pc := 70) Xc (dT hX6_tears 35 rfl) rfl ?_
          refine e_iret (pc := 72) Xc hQ (dT hX6_tears 36 rfl) (Nat.le_refl _) (Nat.le_refl _) ?_
          have hz : v_tears X nr (nI q) (nI p) = -5 := by rw [v_tears, if_pos ⟨inF_of (by omega) hq, inF_of (by omega) hp⟩, if_neg hqpI_, hc_q, hc_p, if_pos (Or.inl hno_)]
          exact ⟨hz.symm, hB, OffB.rf⟩
        · skip
          have hnh_ : ¬ X (1 + q) = -1 := fun e_ => c60 (by rw [e_]; rfl)
          obtain ⟨h_, h_l, h_e⟩ := hG.has (r := q) (by omega) hnh_
          have h_o : orN (X (1 + q)) = nI h_ := by rw [h_e, orN_nI (by omega)]
          refine e_iload (pc := 63) Xc (dT hX6_tears 32 rfl) 0 rfl ?_
          refine e_bipush (v := -5) (pc := 65) Xc (dT hX6_tears 33 rfl) rfl ?_
          refine e_icmp_ne (tgt := 73) (pc := 67) Xc (dT hX6_tears 34 rfl) rfl (fun c67 => ?_) (fun c67 => ?_)
          · skip
            have hng_ : ¬ X (1 + p) = -1 := fun e_ => c67 (by rw [e_]; rfl)
            obtain ⟨g_, g_l, g_e⟩ := hG.has (r := p) (by omega) hng_
            have g_o : orN (X (1 + p)) = nI g_ := by rw [g_e, orN_nI (by omega)]
            obtain ⟨Ft, Tt, At, hTP, hTc⟩ := id hBw1.2.2.1
            obtain ⟨t0_, t0_1, t0_9, t0_e⟩ := hG.2.2.1 h_ h_l
            obtain ⟨pa_, pa1_, pa9_, pae_⟩ := hPa9
            have hgh_ : g_ ≠ h_ := fun e_ => hqp_ (hJ q p hq hp (by rw [h_e, g_e, e_]) hnh_)
            refine e_iconst (v := 0) (pc := 73) Xc (dT hX6_tears 37 rfl) rfl ?_
            refine e_istore (L' := [(5, .int 0), (4, .int (orN (X (1 + p)))), (3, .int (orN (X (1 + q)))), (0, .ref x), (1, .int (nI q)), (2, .int (nI p))]) (pc := 74) Xc (dT hX6_tears 38 rfl) (by decide) rfl ?_
            have lp76 : ∀ (n76 : Nat) (n_ : Nat), 21 - n_ < n76 → (n_ ≤ 21) → (∀ i, i < n_ → (fun n => tearP X q h_ g_ n) i = false) → Ev G μ 7 0 0 76 [(0, .ref x), (1, .int (nI q)), (2, .int (nI p)), (3, .int (orN (X (1 + q)))), (4, .int (orN (X (1 + p)))), (5, .int (nI n_))] [] σ := by
              intro n76
              induction n76 with
              | zero => intro n_ hn; exact absurd hn (Nat.not_lt_zero _)
              | succ n76 ih76 =>
                intro n_ hn76 hn_ hno2_
                refine e_iload (pc := 76) Xc (dT hX6_tears 39 rfl) 5 rfl ?_
                refine e_bipush (v := 20) (pc := 78) Xc (dT hX6_tears 40 rfl) rfl ?_
                refine e_icmp_gtN (x := n_) (y := 20) (tgt := 147) (pc := 80) Xc (dT hX6_tears 41 rfl) rfl (by omega) (by omega) (fun c80 => ?_) (fun c80 => ?_)
                · skip
                  refine e_bipush (v := -5) (pc := 147) Xc (dT hX6_tears 71 rfl) rfl ?_
                  refine e_iret (pc := 149) Xc hQ (dT hX6_tears 72 rfl) (Nat.le_refl _) (Nat.le_refl _) ?_
                  have hne_ : n_ = 21 := by omega
                  subst hne_
                  have hz : v_tears X nr (nI q) (nI p) = -5 := by rw [v_tears, if_pos ⟨inF_of (by omega) hq, inF_of (by omega) hp⟩, if_neg hqpI_, hc_q, hc_p, if_neg (fun e_ => e_.elim hnh_ hng_), h_e, g_e, cl_nI (by omega), cl_nI (by omega)]; exact fnd_miss hno2_
                  exact ⟨hz.symm, hB, OffB.rf⟩
                · skip
                  refine e_iconst (v := 1) (pc := 83) Xc (dT hX6_tears 42 rfl) rfl ?_
                  refine e_aload_n (pc := 84) Xc (dT hX6_tears 43 rfl) 0 rfl ?_
                  refine gf_X6_12 (pc := 85) Xc (dT hX6_tears 44 rfl) hx.o rfl ?_
                  refine gf_X6_89 (pc := 88) Xc (dT hX6_tears 45 rfl) hBw1.1.o rfl ?_
                  refine e_iload_n (pc := 91) Xc (dT hX6_tears 46 rfl) 3 rfl ?_
                  refine e_val (y := nI h_) h_o ?_
                  refine cl_X6_106 (pc := 92) (k := 0) (n := 0) (S := [.int 1]) Xc (c_get hBw1.1.a1 (by decide) (by decide) h_ (by omega)) (dT hX6_tears 47 rfl) rfl (Nat.le_of_ble_eq_true rfl) (Nat.le_of_ble_eq_true rfl) (Nat.le_of_ble_eq_true rfl) rfl (Nat.le_of_ble_eq_true rfl) (fun r14 σ15 hq16 => ?_)
                  obtain ⟨r14e, r14s⟩ := hq16
                  have r14e := r14e.symm; subst r14e; have r14s := r14s.symm; subst r14s
                  refine e_val (y := X (5 + h_)) (hWw1.1 h_ (by omega)) ?_
                  refine e_val (y := nI t0_) t0_e ?_
                  refine e_iload (pc := 95) Xc (dT hX6_tears 48 rfl) 5 rfl ?_
                  refine e_aload_n (pc := 97) Xc (dT hX6_tears 49 rfl) 0 rfl ?_
                  refine gf_X6_12 (pc := 98) Xc (dT hX6_tears 50 rfl) hx.o rfl ?_
                  refine gf_X6_82 (pc := 101) Xc (dT hX6_tears 51 rfl) hBw1.1.o rfl ?_
                  refine gf_X6_145 (pc := 104) Xc (dT hX6_tears 52 rfl) hTP.o rfl ?_
                  refine e_val (y := pasteF X) (hTc.2.1.trans hT.paste.symm) ?_
                  refine e_val (y := nI pa_) pae_ ?_
                  refine e_imulN (a := n_) (b := pa_) (pc := 107) Xc (dT hX6_tears 53 rfl) ?_
                  refine e_isub (pc := 108) Xc (dT hX6_tears 54 rfl) ?_
                  refine e_max (pc := 109) Xc w_ml_X6_222 (dT hX6_tears 55 rfl) (by decide) (Nat.le_refl _) (Nat.le_refl _) (Nat.le_of_ble_eq_true rfl) ?_
                  refine e_val (y := maxF 1 ((nI t0_) - (nI (n_ * pa_)))) rfl ?_
                  refine e_istore (L' := [(6, .int (maxF 1 ((nI t0_) - (nI (n_ * pa_))))), (0, .ref x), (1, .int (nI q)), (2, .int (nI p)), (3, .int (orN (X (1 + q)))), (4, .int (orN (X (1 + p)))), (5, .int (nI n_))]) (pc := 112) Xc (dT hX6_tears 56 rfl) (by decide) rfl ?_
                  refine e_aload_n (pc := 114) Xc (dT hX6_tears 57 rfl) 1 rfl ?_
                  refine gf_X6_12 (pc := 115) Xc (dT hX6_tears 58 rfl) hx.o rfl ?_
                  refine e_aload_n (pc := 118) Xc (dT hX6_tears 59 rfl) 1 rfl ?_
                  refine gf_X6_12 (pc := 119) Xc (dT hX6_tears 60 rfl) hx.o rfl ?_
                  refine gf_X6_89 (pc := 122) Xc (dT hX6_tears 61 rfl) hBw1.1.o rfl ?_
                  refine e_iload (pc := 125) Xc (dT hX6_tears 62 rfl) 5 rfl ?_
                  refine e_val (y := nI g_) g_o ?_
                  refine cl_X6_106 (pc := 127) (k := 0) (n := 0) (S := [.ref (x + 1)]) Xc (c_get hBw1.1.a1 (by decide) (by decide) g_ (by omega)) (dT hX6_tears 63 rfl) rfl (Nat.le_of_ble_eq_true rfl) (Nat.le_of_ble_eq_true rfl) (Nat.le_of_ble_eq_true rfl) rfl (Nat.le_of_ble_eq_true rfl) (fun r17 σ18 hq19 => ?_)
                  obtain ⟨r17e, r17s⟩ := hq19
                  have r17e := r17e.symm; subst r17e; have r17s := r17s.symm; subst r17s
                  refine e_val (y := X (5 + g_)) (hWw1.1 g_ (by omega)) ?_
                  refine e_iload (pc := 130) Xc (dT hX6_tears 64 rfl) 0 rfl ?_
                  refine cl_X6_218 (pc := 132) (k := 0) (n := 0) (S := []) Xc hBw1.1.o (c5_isThicker hBw1 (X (5 + g_)) (maxF 1 ((nI t0_) - (nI (n_ * pa_))))) (dT hX6_tears 65 rfl) rfl (Nat.le_of_ble_eq_true rfl) (Nat.le_of_ble_eq_true rfl) (Nat.le_of_ble_eq_true rfl) rfl (Nat.le_of_ble_eq_true rfl) (fun r20 σ21 hq22 => ?_)
                  obtain ⟨r20e, r20s⟩ := hq22
                  have r20e := r20e.symm; subst r20e; have r20s := r20s.symm; subst r20s
                  refine e_if_eq (tgt := 141) (pc := 135) Xc (dT hX6_tears 66 rfl) rfl (fun c135 => ?_) (fun c135 => ?_)
                  · skip
                    refine e_iincN (a := n_) (b := 1) (L' := [(5, .int (nI (n_ + 1))), (6, .int (maxF 1 ((nI t0_) - (nI (n_ * pa_))))), (0, .ref x), (1, .int (nI q)), (2, .int (nI p)), (3, .int (orN (X (1 + q)))), (4, .int (orN (X (1 + p))))]) (pc := 141) Xc (dT hX6_tears 69 rfl) 6 rfl rfl (by decide) rfl ?_
                    refine e_goto (tgt := 76) (pc := 144) Xc (dT hX6_tears 70 rfl) rfl ?_
                    refine Ev.pick (L' := [(0, .ref x), (1, .int (nI q)), (2, .int (nI p)), (3, .int (orN (X (1 + q)))), (4, .int (orN (X (1 + p)))), (5, .int (nI (n_ + 1)))]) [2, 3, 4, 5, 6, 0] rfl ?_
                    exact ih76 (n_ + 1) (by omega) (by omega) (no_next hno2_ (by rw [te_may hG hT hq g_l h_l hgh_ h_e t0_e t0_1 t0_9 pae_ pa9_ (by omega)]; exact bI_0.mp c135))
                  · skip
                    refine e_iload (pc := 138) Xc (dT hX6_tears 67 rfl) 6 rfl ?_
                    refine e_iret (pc := 140) Xc hQ (dT hX6_tears 68 rfl) (Nat.le_refl _) (Nat.le_refl _) ?_
                    have hz : v_tears X nr (nI q) (nI p) = nI n_ := by rw [v_tears, if_pos ⟨inF_of (by omega) hq, inF_of (by omega) hp⟩, if_neg hqpI_, hc_q, hc_p, if_neg (fun e_ => e_.elim hnh_ hng_), h_e, g_e, cl_nI (by omega), cl_nI (by omega)]; exact fnd_hit (by omega) (by show tearP X q h_ g_ n_ = true; rw [te_may hG hT hq g_l h_l hgh_ h_e t0_e t0_1 t0_9 pae_ pa9_ (by omega)]; cases q_ : thF t.1 (X (5 + g_)) (maxF 1 (nI t0_ - nI (n_ * pa_))); exact absurd (bI_0.mpr q_) c135; rfl) hno2_
                    exact ⟨hz.symm, hB, OffB.rf⟩
            refine Ev.pick (L' := [(0, .ref x), (1, .int (nI q)), (2, .int (nI p)), (3, .int (orN (X (1 + q)))), (4, .int (orN (X (1 + p)))), (5, .int 0)]) [3, 4, 5, 2, 1, 0] rfl ?_
            exact lp76 ((21 - 0) + 1) 0 (Nat.lt_succ_self _) (by omega) (fun j hj => absurd hj (Nat.not_lt_zero j))
          · skip
            have hno_ : X (1 + p) = -1 := WB.has5 hG (by omega) c67
            refine e_bipush (v := -5) (pc := 70) Xc (dT hX6_tears 35 rfl) rfl ?_
            refine e_iret (pc := 72) Xc hQ (dT hX6_tears 36 rfl) (Nat.le_refl _) (Nat.le_refl _) ?_
            have hz : v_tears X nr (nI q) (nI p) = -5 := by rw [v_tears, if_pos ⟨inF_of (by omega) hq, inF_of (by omega) hp⟩, if_neg hqpI_, hc_q, hc_p, if_pos (Or.inr hno_)]
            exact ⟨hz.symm, hB, OffB.rf⟩
      · skip
        have hqpI_ : nI q = nI p := congrArg nI c26
        refine e_bipush (v := -2) (pc := 29) Xc (dT hX6_tears 15 rfl) rfl ?_
        refine e_iret (pc := 31) Xc hQ (dT hX6_tears 16 rfl) (Nat.le_refl _) (Nat.le_refl _) ?_
        have hz : v_tears X nr (nI q) (nI p) = -2 := by rw [v_tears, if_pos ⟨inF_of (by omega) hq, inF_of (by omega) hp⟩, if_pos hqpI_]
        exact ⟨hz.symm, hB, OffB.rf⟩
    · skip
      refine e_iconst (v := -1) (pc := 22) Xc (dT hX6_tears 10 rfl) rfl ?_
      refine e_iret (pc := 23) Xc hQ (dT hX6_tears 11 rfl) (Nat.le_refl _) (Nat.le_refl _) ?_
      have hz : v_tears X nr (nI q) o = (-1) := by
        try simp only [bI_0, bI_1, Bool.not_eq_true, Bool.not_eq_false] at c8 c19
        first | (simp [v_tears, c8, c19, hc_q]; done) | (clear hB hK hSA hx hXn hP5 hPp hRP hPg hPa hBI hG hT hS hPl hNo hTa hA hJ hR hD hQ Xc; simp_all [v_tears]; done)
      exact ⟨hz.symm, hB, OffB.rf⟩
set_option maxRecDepth 100000 in
set_option maxHeartbeats 4000000 in
theorem b_had {G : xG} {σ : xS} {x m : Nat} {X Y bd : Nat → Int32} {hi : Int32} {rr : Nat} {nr nb ns np nn nt na dy : Nat} {t : xT} (hB : BK G σ x m X Y bd hi rr nr nb ns np nn nt t) (hK : OK X nr nb t ns np nn nt na dy) (v : Int32) : CI G yX6_had cX6_had 4 (some .int) 8 0 0 [.ref x, .int v] σ (fun z σ1 => z = v_had X t nr nb ns v ∧ BK G σ1 x m X Y bd hi rr nr nb ns np nn nt t ∧ OffB x σ σ1) := by
  refine Met.ofX (by decide +kernel) (Nat.le_of_ble_eq_true rfl) (fun μ Xc hQ hnm => ?_)
  have Xc : xC G μ cX6_had 4 RX6 (some .int) 8 0 0 := Xc
  obtain ⟨hSA, ⟨hgA, hgO⟩, hxm, hms, ⟨Fx, Ax, hx, hF7⟩, ⟨tw, htw, hXn⟩, ⟨F5, T5, A5, hP5⟩, ⟨Fp, Tp, Ap, hPp, hRP⟩, ⟨Fg, Tg, Ag, hPg⟩, ⟨Fa, Ta, Aa, hPa, hFa1, hAa⟩, hBI⟩ := id hB
  obtain ⟨htw1, htw2, htw3⟩ := id htw
  obtain ⟨hG, hT, hS, hPl, hNo, hTa, hA, hJ, hR, hD⟩ := id hK
  have hr4 := hG.r4
  have hb7 := hG.b7
  have hs6 := hS.1
  have hp8 := hPl.1
  have hn8 := hNo.1
  have ht100 := hTa.1
  have ha5 := hA.1
  have hdy := hD.1
  have hd0 := hD.2
  have ht13 : tw ≠ x + 13 := by omega
  have hb8 : ns ≤ 6 ∧ np ≤ 8 ∧ nn ≤ 8 ∧ nt ≤ 100 := ⟨hs6, hp8, hn8, ht100⟩
  show Ev G μ 4 0 0 0 [(0, .ref x), (1, .int v)] [] σ
  obtain ⟨Fw1, Tw1, Aw1, hBw1, htw1⟩ := id hXn
  have hWw1 := hBw1.2.1
  refine e_aload_n (pc := 0) Xc (dT hX6_had 0 rfl) 0 rfl ?_
  refine gf_X6_12 (pc := 1) Xc (dT hX6_had 1 rfl) hx.o rfl ?_
  refine e_iload_n (pc := 4) Xc (dT hX6_had 2 rfl) 1 rfl ?_
  refine cl_X6_99 (pc := 5) (k := 0) (n := 0) (S := []) Xc hBw1.1.o (c5_isReader hBw1 v) (dT hX6_had 3 rfl) rfl (Nat.le_of_ble_eq_true rfl) (Nat.le_of_ble_eq_true rfl) (Nat.le_of_ble_eq_true rfl) rfl (Nat.le_of_ble_eq_true rfl) (fun r2 σ3 hq4 => ?_)
  obtain ⟨r2e, r2s⟩ := hq4
  have r2e := r2e.symm; subst r2e; have r2s := r2s.symm; subst r2s
  refine e_if_ne (tgt := 13) (pc := 8) Xc (dT hX6_had 4 rfl) rfl (fun c8 => ?_) (fun c8 => ?_)
  · skip
    obtain ⟨q, hq, rfl⟩ := inF_nat (v := v) (n := nr) (by omega) (by simpa [bI_0, bI_1] using c8)
    have hc_q : cl (nI q) = q := cl_nI (by omega)
    refine e_aload_n (pc := 13) Xc (dT hX6_had 7 rfl) 0 rfl ?_
    refine cl_X6_116 (pc := 14) (k := 0) (n := 0) (S := []) Xc hx.o (c6_fresh hx ⟨Fw1, Tw1, Aw1, hBw1, htw1⟩ ht13 hP5 hdy hd0) (dT hX6_had 8 rfl) rfl (Nat.le_of_ble_eq_true rfl) (Nat.le_of_ble_eq_true rfl) (Nat.le_of_ble_eq_true rfl) rfl (Nat.le_of_ble_eq_true rfl) (fun σ6 hq7 => ?_)
    obtain ⟨hT8, ho9⟩ := hq7
    have hP10 := hx.off ho9 (by omega)
    have hP11 := hPp.off ho9 (by omega)
    have hP12 := hPg.off ho9 (by omega)
    have hP13 := hPa.off ho9 (by omega)
    have hB14 := hBw1.off ho9 (by omega) (by rw [htw1]; omega)
    obtain ⟨lnw15, hXw15, hdlw15, hd0w15, hbtw15⟩ := id hT8
    obtain ⟨Fw15, Tw15, Aw15, hBw15, htw15⟩ := id hXw15
    have hWw15 := hBw15.2.1
    refine e_iconst (v := 0) (pc := 17) Xc (dT hX6_had 9 rfl) rfl ?_
    refine e_istore_n (L' := [(2, .int 0), (0, .ref x), (1, .int (nI q))]) (pc := 18) Xc (dT hX6_had 10 rfl) (by decide) rfl ?_
    refine e_iconst (v := 0) (pc := 19) Xc (dT hX6_had 11 rfl) rfl ?_
    refine e_istore_n (L' := [(3, .int 0), (2, .int 0), (0, .ref x), (1, .int (nI q))]) (pc := 20) Xc (dT hX6_had 12 rfl) (by decide) rfl ?_
    have lp21 : ∀ (n21 : Nat) (b_ : Nat) (ac_ : Int32) (Xc_ : Nat → Int32) (ln_ : Nat) (σ2 : xS), nb - b_ < n21 → (b_ ≤ nb) → (ac_ = itr (fun b a => a ||| (if allSeen (swapF X nr q b) t nr nb ns then 1 <<< (nI b &&& 31) else 0)) 0 b_) → (∀ j, 5 ≤ j → Xc_ j = X j) → (ln_.testBit (dy % 10) = true) → (WX σ2 (x + 13) tw Xc_ nr nb t ln_) → (Off (x + 13) σ6 σ2) → Ev G μ 4 0 0 21 [(0, .ref x), (1, .int (nI q)), (2, .int ac_), (3, .int (nI b_))] [] σ2 := by
      intro n21
      induction n21 with
      | zero => intro b_ ac_ Xc_ ln_ σ2 hn; exact absurd hn (Nat.not_lt_zero _)
      | succ n21 ih21 =>
        intro b_ ac_ Xc_ ln_ σ2 hn21 hb_ hac_ hXc_ hbl_ hT2 hO2
        have hP16 := hP10.off hO2 (by omega)
        have hP17 := hP11.off hO2 (by omega)
        have hP18 := hP12.off hO2 (by omega)
        have hP19 := hP13.off hO2 (by omega)
        have hB20 := hB14.off hO2 (by omega) (by rw [htw1]; omega)
        obtain ⟨Fw21, Tw21, Aw21, hBw21, htw21⟩ := id hT2
        have hWw21 := hBw21.2.1
        refine e_iload_n (pc := 21) Xc (dT hX6_had 13 rfl) 3 rfl ?_
        refine e_aload_n (pc := 22) Xc (dT hX6_had 14 rfl) 0 rfl ?_
        refine gf_X6_12 (pc := 23) Xc (dT hX6_had 15 rfl) hP16.o rfl ?_
        refine gf_X6_86 (pc := 26) Xc (dT hX6_had 16 rfl) hB20.1.o rfl ?_
        refine e_val (y := nI nb) hWw1.2.2.2.2.2.1 ?_
        refine e_icmp_geN (x := b_) (y := nb) (tgt := 71) (pc := 29) Xc (dT hX6_had 17 rfl) rfl (by omega) (by omega) (fun c29 => ?_) (fun c29 => ?_)
        · skip
          refine e_iload_n (pc := 71) Xc (dT hX6_had 39 rfl) 2 rfl ?_
          refine e_iret (pc := 72) Xc hQ (dT hX6_had 40 rfl) (Nat.le_refl _) (Nat.le_refl _) ?_
          have hbe_ : b_ = nb := by omega
          have hz : v_had X t nr nb ns (nI q) = ac_ := by rw [v_had, if_pos (inF_of (by omega) hq), hc_q, hac_, hbe_]
          obtain ⟨hb_, ho_⟩ := hB.asks ((OffS.of (S := fun o => o = x + 13 ∨ o = x + 55) ho9 (Or.inl rfl)).tr (OffS.of (S := fun o => o = x + 13 ∨ o = x + 55) hO2 (Or.inl rfl))) ⟨_, _, _, hBw21.1⟩ ⟨_, _, _, hP18⟩
          exact ⟨hz.symm, hb_, ho_⟩
        · skip
          refine e_aload_n (pc := 32) Xc (dT hX6_had 18 rfl) 0 rfl ?_
          refine gf_X6_18 (pc := 33) Xc (dT hX6_had 19 rfl) hP16.o rfl ?_
          refine e_aload_n (pc := 36) Xc (dT hX6_had 20 rfl) 0 rfl ?_
          refine gf_X6_12 (pc := 37) Xc (dT hX6_had 21 rfl) hP16.o rfl ?_
          refine cl_X6_243 (pc := 40) (k := 0) (n := 0) (S := []) Xc hBw21.1.o (c5_goBack ⟨Fw21, Tw21, Aw21, hBw21, htw21⟩ ⟨Fw1, Tw1, Aw1, hB20, htw1⟩ (by omega) hXc_) (dT hX6_had 22 rfl) rfl (Nat.le_of_ble_eq_true rfl) (Nat.le_of_ble_eq_true rfl) (Nat.le_of_ble_eq_true rfl) rfl (Nat.le_of_ble_eq_true rfl) (fun σ23 hq24 => ?_)
          obtain ⟨hT25, ho26⟩ := hq24
          have hP27 := hP16.off ho26 (by omega)
          have hP28 := hP17.off ho26 (by omega)
          have hP29 := hP18.off ho26 (by omega)
          have hP30 := hP19.off ho26 (by omega)
          have hB31 := hB20.off ho26 (by omega) (by rw [htw1]; omega)
          obtain ⟨Fw32, Tw32, Aw32, hBw32, htw32⟩ := id hT25
          have hWw32 := hBw32.2.1
          refine e_aload_n (pc := 43) Xc (dT hX6_had 23 rfl) 0 rfl ?_
          refine gf_X6_18 (pc := 44) Xc (dT hX6_had 24 rfl) hP27.o rfl ?_
          refine e_iload_n (pc := 47) Xc (dT hX6_had 25 rfl) 1 rfl ?_
          refine e_iload_n (pc := 48) Xc (dT hX6_had 26 rfl) 3 rfl ?_
          refine cl_X6_246 (pc := 49) (k := 0) (n := 0) (S := []) Xc hBw32.1.o (c5_trade ⟨Fw32, Tw32, Aw32, hBw32, htw32⟩ q b_ (by omega) (by omega)) (dT hX6_had 27 rfl) rfl (Nat.le_of_ble_eq_true rfl) (Nat.le_of_ble_eq_true rfl) (Nat.le_of_ble_eq_true rfl) rfl (Nat.le_of_ble_eq_true rfl) (fun σ34 hq35 => ?_)
          obtain ⟨hT36, ho37⟩ := hq35
          have hP38 := hP27.off ho37 (by omega)
          have hP39 := hP28.off ho37 (by omega)
          have hP40 := hP29.off ho37 (by omega)
          have hP41 := hP30.off ho37 (by omega)
          have hB42 := hB31.off ho37 (by omega) (by rw [htw1]; omega)
          obtain ⟨Fw43, Tw43, Aw43, hBw43, htw43⟩ := id hT36
          have hWw43 := hBw43.2.1
          refine e_aload_n (pc := 52) Xc (dT hX6_had 28 rfl) 0 rfl ?_
          refine cl_X6_249 (pc := 53) (k := 0) (n := 0) (S := []) Xc hP38.o (c6_isAllSeen hP38 ⟨ln_, ⟨Fw43, Tw43, Aw43, hBw43, htw43⟩, by omega, swap_0.trans hd0, hbl_, hbl_⟩ hdy ht13 hP39 (hRP.cg hs6 hp8 hn8 (fun j _ _ => swap_hi hG hq (by omega)) ht100) hb8 (hS.congr (fun j hj => swap_hi hG hq (by omega)))) (dT hX6_had 29 rfl) rfl (Nat.le_of_ble_eq_true rfl) (Nat.le_of_ble_eq_true rfl) (Nat.le_of_ble_eq_true rfl) rfl (Nat.le_of_ble_eq_true rfl) (fun r44 σ45 hq46 => ?_)
          obtain ⟨r44e, ⟨X1_, dy1_, hT47, hX1_⟩, ho48⟩ := hq46
          have r44e := r44e.symm; subst r44e
          have hP49 := hP38.off ho48 (by omega)
          have hP50 := hP39.off ho48 (by omega)
          have hP51 := hP40.off ho48 (by omega)
          have hP52 := hP41.off ho48 (by omega)
          have hB53 := hB42.off ho48 (by omega) (by rw [htw1]; omega)
          obtain ⟨lnw54, hXw54, hdlw54, hd0w54, hbtw54, hbkw54⟩ := id hT47
          obtain ⟨Fw54, Tw54, Aw54, hBw54, htw54⟩ := id hXw54
          have hWw54 := hBw54.2.1
          refine e_if_eq (tgt := 65) (pc := 56) Xc (dT hX6_had 30 rfl) rfl (fun c56 => ?_) (fun c56 => ?_)
          · skip
            refine e_iincN (a := b_) (b := 1) (L' := [(3, .int (nI (b_ + 1))), (0, .ref x), (1, .int (nI q)), (2, .int ac_)]) (pc := 65) Xc (dT hX6_had 37 rfl) 3 rfl rfl (by decide) rfl ?_
            refine e_goto (tgt := 21) (pc := 68) Xc (dT hX6_had 38 rfl) rfl ?_
            refine Ev.pick (L' := [(0, .ref x), (1, .int (nI q)), (2, .int ac_), (3, .int (nI (b_ + 1)))]) [1, 2, 3, 0] rfl ?_
            exact ih21 (b_ + 1) ac_ X1_ lnw54 σ45 (by omega) (by omega) (by rw [itr, ← hac_]; simp only [bI_0] at c56; simp [c56]) (fun j hj => (hX1_ j hj).trans (swap_hi hG hq hj)) hbkw54 (⟨Fw54, Tw54, Aw54, hBw54, htw54⟩) (((hO2.tr ho26).tr ho37).tr ho48)
          · skip
            refine e_iload_n (pc := 59) Xc (dT hX6_had 31 rfl) 2 rfl ?_
            refine e_iconst (v := 1) (pc := 60) Xc (dT hX6_had 32 rfl) rfl ?_
            refine e_iload_n (pc := 61) Xc (dT hX6_had 33 rfl) 3 rfl ?_
            refine e_ishl (pc := 62) Xc (dT hX6_had 34 rfl) ?_
            refine e_ior (pc := 63) Xc (dT hX6_had 35 rfl) ?_
            refine e_istore_n (L' := [(2, .int (ac_ ||| (1 <<< ((nI b_) &&& 31)))), (0, .ref x), (1, .int (nI q)), (3, .int (nI b_))]) (pc := 64) Xc (dT hX6_had 36 rfl) (by decide) rfl ?_
            refine e_iincN (a := b_) (b := 1) (L' := [(3, .int (nI (b_ + 1))), (2, .int (ac_ ||| (1 <<< ((nI b_) &&& 31)))), (0, .ref x), (1, .int (nI q))]) (pc := 65) Xc (dT hX6_had 37 rfl) 3 rfl rfl (by decide) rfl ?_
            refine e_goto (tgt := 21) (pc := 68) Xc (dT hX6_had 38 rfl) rfl ?_
            refine Ev.pick (L' := [(0, .ref x), (1, .int (nI q)), (2, .int (ac_ ||| (1 <<< ((nI b_) &&& 31)))), (3, .int (nI (b_ + 1)))]) [2, 3, 1, 0] rfl ?_
            exact ih21 (b_ + 1) (ac_ ||| (1 <<< ((nI b_) &&& 31))) X1_ lnw54 σ45 (by omega) (by omega) (by rw [itr, ← hac_]; simp only [bI_0] at c56; simp [c56]) (fun j hj => (hX1_ j hj).trans (swap_hi hG hq hj)) hbkw54 (⟨Fw54, Tw54, Aw54, hBw54, htw54⟩) (((hO2.tr ho26).tr ho37).tr ho48)
    refine Ev.pick (L' := [(0, .ref x), (1, .int (nI q)), (2, .int 0), (3, .int 0)]) [2, 3, 1, 0] rfl ?_
    exact lp21 ((nb - 0) + 1) 0 0 X lnw15 σ6 (Nat.lt_succ_self _) (Nat.zero_le _) rfl (fun j _ => rfl) hbtw15 (⟨Fw15, Tw15, Aw15, hBw15, htw15⟩) Off.rf
  · skip
    refine e_iconst (v := -1) (pc := 11) Xc (dT hX6_had 5 rfl) rfl ?_
    refine e_iret (pc := 12) Xc hQ (dT hX6_had 6 rfl) (Nat.le_refl _) (Nat.le_refl _) ?_
    have hz : v_had X t nr nb ns v = (-1) := by
      try simp only [bI_0, bI_1, Bool.not_eq_true, Bool.not_eq_false] at c8
      first | (simp [v_had, c8]; done) | (clear hB hK hSA hx hXn hP5 hPp hRP hPg hPa hBI hG hT hS hPl hNo hTa hA hJ hR hD hQ Xc; simp_all [v_had]; done)
    exact ⟨hz.symm, hB, OffB.rf⟩
set_option maxRecDepth 100000 in
set_option maxHeartbeats 4000000 in
theorem b_firm {G : xG} {σ : xS} {x m : Nat} {X Y bd : Nat → Int32} {hi : Int32} {rr : Nat} {nr nb ns np nn nt na dy : Nat} {t : xT} (hB : BK G σ x m X Y bd hi rr nr nb ns np nn nt t) (hK : OK X nr nb t ns np nn nt na dy) (v : Int32) (w : Int32) : CI G yX6_firm cX6_firm 6 (some .int) 8 0 0 [.ref x, .int v, .int w] σ (fun z σ1 => z = v_firm X t nr nb ns v w ∧ BK G σ1 x m X Y bd hi rr nr nb ns np nn nt t ∧ OffB x σ σ1) := by
  refine Met.ofX (by decide +kernel) (Nat.le_of_ble_eq_true rfl) (fun μ Xc hQ hnm => ?_)
  have Xc : xC G μ cX6_firm 6 RX6 (some .int) 8 0 0 := Xc
  obtain ⟨hSA, ⟨hgA, hgO⟩, hxm, hms, ⟨Fx, Ax, hx, hF7⟩, ⟨tw, htw, hXn⟩, ⟨F5, T5, A5, hP5⟩, ⟨Fp, Tp, Ap, hPp, hRP⟩, ⟨Fg, Tg, Ag, hPg⟩, ⟨Fa, Ta, Aa, hPa, hFa1, hAa⟩, hBI⟩ := id hB
  obtain ⟨htw1, htw2, htw3⟩ := id htw
  obtain ⟨hG, hT, hS, hPl, hNo, hTa, hA, hJ, hR, hD⟩ := id hK
  have hr4 := hG.r4
  have hb7 := hG.b7
  have hs6 := hS.1
  have hp8 := hPl.1
  have hn8 := hNo.1
  have ht100 := hTa.1
  have ha5 := hA.1
  have hdy := hD.1
  have hd0 := hD.2
  have ht13 : tw ≠ x + 13 := by omega
  have hb8 : ns ≤ 6 ∧ np ≤ 8 ∧ nn ≤ 8 ∧ nt ≤ 100 := ⟨hs6, hp8, hn8, ht100⟩
  show Ev G μ 6 0 0 0 [(0, .ref x), (1, .int v), (2, .int w)] [] σ
  obtain ⟨Fw1, Tw1, Aw1, hBw1, htw1⟩ := id hXn
  have hWw1 := hBw1.2.1
  refine e_aload_n (pc := 0) Xc (dT hX6_firm 0 rfl) 0 rfl ?_
  refine gf_X6_12 (pc := 1) Xc (dT hX6_firm 1 rfl) hx.o rfl ?_
  refine e_iload_n (pc := 4) Xc (dT hX6_firm 2 rfl) 1 rfl ?_
  refine cl_X6_99 (pc := 5) (k := 0) (n := 0) (S := []) Xc hBw1.1.o (c5_isReader hBw1 v) (dT hX6_firm 3 rfl) rfl (Nat.le_of_ble_eq_true rfl) (Nat.le_of_ble_eq_true rfl) (Nat.le_of_ble_eq_true rfl) rfl (Nat.le_of_ble_eq_true rfl) (fun r2 σ3 hq4 => ?_)
  obtain ⟨r2e, r2s⟩ := hq4
  have r2e := r2e.symm; subst r2e; have r2s := r2s.symm; subst r2s
  refine e_if_eq (tgt := 20) (pc := 8) Xc (dT hX6_firm 4 rfl) rfl (fun c8 => ?_) (fun c8 => ?_)
  · skip
    refine e_iconst (v := -1) (pc := 20) Xc (dT hX6_firm 10 rfl) rfl ?_
    refine e_iret (pc := 21) Xc hQ (dT hX6_firm 11 rfl) (Nat.le_refl _) (Nat.le_refl _) ?_
    have hz : v_firm X t nr nb ns v w = (-1) := by
      try simp only [bI_0, bI_1, Bool.not_eq_true, Bool.not_eq_false] at c8
      first | (simp [v_firm, c8]; done) | (clear hB hK hSA hx hXn hP5 hPp hRP hPg hPa hBI hG hT hS hPl hNo hTa hA hJ hR hD hQ Xc; simp_all [v_firm]; done)
    exact ⟨hz.symm, hB, OffB.rf⟩
  · skip
    obtain ⟨q, hq, rfl⟩ := inF_nat (v := v) (n := nr) (by omega) (by simpa [bI_0, bI_1] using c8)
    have hc_q : cl (nI q) = q := cl_nI (by omega)
    refine e_iload_n (pc := 11) Xc (dT hX6_firm 5 rfl) 2 rfl ?_
    refine e_if_lt (tgt := 20) (pc := 12) Xc (dT hX6_firm 6 rfl) rfl (fun c12 => ?_) (fun c12 => ?_)
    · skip
      have hin_w : inF w 0 1 = false := by
        have k12_ := c12
        simp only [Int32.lt_iff_toInt_lt, Int32.le_iff_toInt_le] at k12_
        have l0_ : (0 : Int32).toInt = 0 := by decide
        have l1_ : (1 : Int32).toInt = 1 := by decide
        have l2_ : (2 : Int32).toInt = 2 := by decide
        rw [inF_ff]
        omega
      refine e_iconst (v := -1) (pc := 20) Xc (dT hX6_firm 10 rfl) rfl ?_
      refine e_iret (pc := 21) Xc hQ (dT hX6_firm 11 rfl) (Nat.le_refl _) (Nat.le_refl _) ?_
      have hz : v_firm X t nr nb ns (nI q) w = (-1) := by
        try simp only [bI_0, bI_1, Bool.not_eq_true, Bool.not_eq_false] at c8 c12
        first | (simp [v_firm, c8, c12, hc_q, hin_w]; done) | (clear hB hK hSA hx hXn hP5 hPp hRP hPg hPa hBI hG hT hS hPl hNo hTa hA hJ hR hD hQ Xc; simp_all [v_firm]; done)
      exact ⟨hz.symm, hB, OffB.rf⟩
    · skip
      refine e_iload_n (pc := 15) Xc (dT hX6_firm 7 rfl) 2 rfl ?_
      refine e_iconst (v := 1) (pc := 16) Xc (dT hX6_firm 8 rfl) rfl ?_
      refine e_icmp_le (tgt := 22) (pc := 17) Xc (dT hX6_firm 9 rfl) rfl (fun c17 => ?_) (fun c17 => ?_)
      · skip
        have hin_w : inF w 0 1 = true := by
          have k12_ := c12
          have k17_ := c17
          simp only [Int32.lt_iff_toInt_lt, Int32.le_iff_toInt_le] at k12_ k17_
          have l0_ : (0 : Int32).toInt = 0 := by decide
          have l1_ : (1 : Int32).toInt = 1 := by decide
          have l2_ : (2 : Int32).toInt = 2 := by decide
          rw [inF_iff]
          omega
        refine e_aload_n (pc := 22) Xc (dT hX6_firm 12 rfl) 0 rfl ?_
        refine cl_X6_116 (pc := 23) (k := 0) (n := 0) (S := []) Xc hx.o (c6_fresh hx ⟨Fw1, Tw1, Aw1, hBw1, htw1⟩ ht13 hP5 hdy hd0) (dT hX6_firm 13 rfl) rfl (Nat.le_of_ble_eq_true rfl) (Nat.le_of_ble_eq_true rfl) (Nat.le_of_ble_eq_true rfl) rfl (Nat.le_of_ble_eq_true rfl) (fun σ6 hq7 => ?_)
        obtain ⟨hT8, ho9⟩ := hq7
        have hP10 := hx.off ho9 (by omega)
        have hP11 := hPp.off ho9 (by omega)
        have hP12 := hPg.off ho9 (by omega)
        have hP13 := hPa.off ho9 (by omega)
        have hB14 := hBw1.off ho9 (by omega) (by rw [htw1]; omega)
        obtain ⟨lnw15, hXw15, hdlw15, hd0w15, hbtw15⟩ := id hT8
        obtain ⟨Fw15, Tw15, Aw15, hBw15, htw15⟩ := id hXw15
        have hWw15 := hBw15.2.1
        refine e_iconst (v := 0) (pc := 26) Xc (dT hX6_firm 14 rfl) rfl ?_
        refine e_istore_n (L' := [(3, .int 0), (0, .ref x), (1, .int (nI q)), (2, .int w)]) (pc := 27) Xc (dT hX6_firm 15 rfl) (by decide) rfl ?_
        refine e_bipush (v := -5) (pc := 28) Xc (dT hX6_firm 16 rfl) rfl ?_
        refine e_istore (L' := [(4, .int (-5)), (3, .int 0), (0, .ref x), (1, .int (nI q)), (2, .int w)]) (pc := 30) Xc (dT hX6_firm 17 rfl) (by decide) rfl ?_
        refine e_bipush (v := 9) (pc := 32) Xc (dT hX6_firm 18 rfl) rfl ?_
        refine e_val (y := nI 10 + (-1)) (by decide) ?_
        refine e_istore (L' := [(5, .int (nI 10 + (-1))), (4, .int (-5)), (3, .int 0), (0, .ref x), (1, .int (nI q)), (2, .int w)]) (pc := 34) Xc (dT hX6_firm 19 rfl) (by decide) rfl ?_
        have lp36 : ∀ (n36 : Nat) (k_ : Nat) (ac_ fi_ w_ : Int32) (Xc_ : Nat → Int32) (ln_ : Nat) (σ2 : xS), k_ < n36 → (k_ ≤ 10) → ((ac_, fi_) = fiF (fiP X t nr nb ns q) (10 - k_)) → (∀ j, 5 ≤ j → Xc_ j = (upd X (24 + q) w_) j) → (∃ v, v ≤ 9 ∧ w_ = nI v) → (WX σ2 (x + 13) tw Xc_ nr nb t ln_) → (Off (x + 13) σ6 σ2) → Ev G μ 6 0 0 36 [(0, .ref x), (1, .int (nI q)), (2, .int w), (3, .int ac_), (4, .int fi_), (5, .int (nI k_ + (-1)))] [] σ2 := by
          intro n36
          induction n36 with
          | zero => intro k_ ac_ fi_ w_ Xc_ ln_ σ2 hn; exact absurd hn (Nat.not_lt_zero _)
          | succ n36 ih36 =>
            intro k_ ac_ fi_ w_ Xc_ ln_ σ2 hn36 hk_ hq_ hXc_ hw9_ hT2 hO2
            have hP16 := hP10.off hO2 (by omega)
            have hP17 := hP11.off hO2 (by omega)
            have hP18 := hP12.off hO2 (by omega)
            have hP19 := hP13.off hO2 (by omega)
            have hB20 := hB14.off hO2 (by omega) (by rw [htw1]; omega)
            obtain ⟨Fw21, Tw21, Aw21, hBw21, htw21⟩ := id hT2
            have hWw21 := hBw21.2.1
            refine e_iload (pc := 36) Xc (dT hX6_firm 20 rfl) 5 rfl ?_
            refine e_if_lt (tgt := 92) (pc := 38) Xc (dT hX6_firm 21 rfl) rfl (fun c38 => ?_) (fun c38 => ?_)
            · skip
              have hk0_ : k_ = 0 := (m1_neg (by omega)).mp c38
              subst hk0_
              have hf1_ : (fiF (fiP X t nr nb ns q) 10).1 = ac_ := (congrArg Prod.fst hq_).symm
              have hf2_ : (fiF (fiP X t nr nb ns q) 10).2 = fi_ := (congrArg Prod.snd hq_).symm
              refine e_iload_n (pc := 92) Xc (dT hX6_firm 44 rfl) 2 rfl ?_
              refine e_if_ne (tgt := 100) (pc := 93) Xc (dT hX6_firm 45 rfl) rfl (fun c93 => ?_) (fun c93 => ?_)
              · skip
                refine e_iload (pc := 100) Xc (dT hX6_firm 48 rfl) 4 rfl ?_
                refine e_iret (pc := 102) Xc hQ (dT hX6_firm 49 rfl) (Nat.le_refl _) (Nat.le_refl _) ?_
                have hz : v_firm X t nr nb ns (nI q) w = fi_ := by rw [v_firm, if_pos ⟨inF_of (by omega) hq, hin_w⟩, if_neg c93, hc_q]; exact hf2_
                obtain ⟨hb_, ho_⟩ := hB.asks ((OffS.of (S := fun o => o = x + 13 ∨ o = x + 55) ho9 (Or.inl rfl)).tr (OffS.of (S := fun o => o = x + 13 ∨ o = x + 55) hO2 (Or.inl rfl))) ⟨_, _, _, hBw21.1⟩ ⟨_, _, _, hP18⟩
                exact ⟨hz.symm, hb_, ho_⟩
              · skip
                refine e_iload_n (pc := 96) Xc (dT hX6_firm 46 rfl) 3 rfl ?_
                refine e_goto (tgt := 102) (pc := 97) Xc (dT hX6_firm 47 rfl) rfl ?_
                refine e_iret (pc := 102) Xc hQ (dT hX6_firm 49 rfl) (Nat.le_refl _) (Nat.le_refl _) ?_
                have hz : v_firm X t nr nb ns (nI q) w = ac_ := by rw [v_firm, if_pos ⟨inF_of (by omega) hq, hin_w⟩, if_pos c93, hc_q]; exact hf1_
                obtain ⟨hb_, ho_⟩ := hB.asks ((OffS.of (S := fun o => o = x + 13 ∨ o = x + 55) ho9 (Or.inl rfl)).tr (OffS.of (S := fun o => o = x + 13 ∨ o = x + 55) hO2 (Or.inl rfl))) ⟨_, _, _, hBw21.1⟩ ⟨_, _, _, hP18⟩
                exact ⟨hz.symm, hb_, ho_⟩
            · skip
              obtain ⟨j_, rfl⟩ : ∃ j_, k_ = j_ + 1 := ⟨k_ - 1, by have := mt (m1_neg (by omega)).mpr c38; omega⟩
              obtain ⟨vw_, vw9_, vwe_⟩ := hw9_
              subst vwe_
              rw [show nI (j_ + 1) + (-1) = nI j_ from pk_m1 j_]
              refine e_aload_n (pc := 41) Xc (dT hX6_firm 22 rfl) 0 rfl ?_
              refine gf_X6_18 (pc := 42) Xc (dT hX6_firm 23 rfl) hP16.o rfl ?_
              refine e_aload_n (pc := 45) Xc (dT hX6_firm 24 rfl) 0 rfl ?_
              refine gf_X6_12 (pc := 46) Xc (dT hX6_firm 25 rfl) hP16.o rfl ?_
              refine cl_X6_243 (pc := 49) (k := 0) (n := 0) (S := []) Xc hBw21.1.o (c5_goBackV (Y := (upd X (24 + q) (nI vw_))) ⟨Fw21, Tw21, Aw21, hBw21, htw21⟩ ⟨Fw1, Tw1, Aw1, hB20, htw1⟩ (by omega) hXc_ (fun j hj => upd_n (by omega)) (Gdv hG hq vw9_) (Hdv hT (by omega))) (dT hX6_firm 26 rfl) rfl (Nat.le_of_ble_eq_true rfl) (Nat.le_of_ble_eq_true rfl) (Nat.le_of_ble_eq_true rfl) rfl (Nat.le_of_ble_eq_true rfl) (fun σ23 hq24 => ?_)
              obtain ⟨hT25, ho26⟩ := hq24
              have hP27 := hP16.off ho26 (by omega)
              have hP28 := hP17.off ho26 (by omega)
              have hP29 := hP18.off ho26 (by omega)
              have hP30 := hP19.off ho26 (by omega)
              have hB31 := hB20.off ho26 (by omega) (by rw [htw1]; omega)
              obtain ⟨Fw32, Tw32, Aw32, hBw32, htw32⟩ := id hT25
              have hWw32 := hBw32.2.1
              refine e_aload_n (pc := 52) Xc (dT hX6_firm 27 rfl) 0 rfl ?_
              refine gf_X6_18 (pc := 53) Xc (dT hX6_firm 28 rfl) hP27.o rfl ?_
              refine gf_X6_110 (pc := 56) Xc (dT hX6_firm 29 rfl) hBw32.1.o rfl ?_
              refine e_iload_n (pc := 59) Xc (dT hX6_firm 30 rfl) 1 rfl ?_
              refine e_iload (pc := 60) Xc (dT hX6_firm 31 rfl) 5 rfl ?_
              refine cl_X6_60 (pc := 62) (k := 0) (n := 0) (S := []) Xc (c_put hBw32.1.a3 (by decide) q (by omega) (nI j_)) (dT hX6_firm 32 rfl) rfl (Nat.le_of_ble_eq_true rfl) (Nat.le_of_ble_eq_true rfl) (Nat.le_of_ble_eq_true rfl) rfl (Nat.le_of_ble_eq_true rfl) (fun σ34 hq35 => ?_)
              subst hq35
              refine Ev.gen (fun z => PX5 z (x + 13) Fw32 Tw32 (upA Aw32 3 (upd (Aw32 3) q (nI j_)))) (hBw32.1.wa3 (g := (upd (Aw32 3) q (nI j_)))) Off.set (fun σ36 hP37 ho38 => ?_)
              have hP39 := hP27.off ho38 (by omega)
              have hP40 := hP28.off ho38 (by omega)
              have hP41 := hP29.off ho38 (by omega)
              have hP42 := hP30.off ho38 (by omega)
              have hB43 := hB31.off ho38 (by omega) (by rw [htw1]; omega)
              have hV44 : WX σ36 (x + 13) tw (upd (upd X (24 + q) (nI vw_)) (24 + q) (nI j_)) nr nb t 1024 := ⟨_, _, _, ⟨hP37, RWc.set_v hWw32 (by omega) hr4 hb7, hBw32.2.2.1.off ho38 (by rw [htw32]; omega), by rw [htw32]; omega, Gdv hBw32.2.2.2.2.1 hq (by omega), Hdv hBw32.2.2.2.2.2 (by omega)⟩, htw32⟩
              rw [upd_2] at hV44
              obtain ⟨Fw45, Tw45, Aw45, hBw45, htw45⟩ := id hV44
              have hWw45 := hBw45.2.1
              refine e_aload_n (pc := 65) Xc (dT hX6_firm 33 rfl) 0 rfl ?_
              refine gf_X6_18 (pc := 66) Xc (dT hX6_firm 34 rfl) hP39.o rfl ?_
              refine cl_X6_155 (pc := 69) (k := 0) (n := 0) (S := []) Xc hBw45.1.o (c5_learnAnew ⟨Fw45, Tw45, Aw45, hBw45, htw45⟩ (by omega : dy ≤ 20000) ((upd_n (by omega)).trans hd0)) (dT hX6_firm 35 rfl) rfl (Nat.le_of_ble_eq_true rfl) (Nat.le_of_ble_eq_true rfl) (Nat.le_of_ble_eq_true rfl) rfl (Nat.le_of_ble_eq_true rfl) (fun σ47 hq48 => ?_)
              obtain ⟨hT49, ho50⟩ := hq48
              have hP51 := hP39.off ho50 (by omega)
              have hP52 := hP40.off ho50 (by omega)
              have hP53 := hP41.off ho50 (by omega)
              have hP54 := hP42.off ho50 (by omega)
              have hB55 := hB43.off ho50 (by omega) (by rw [htw1]; omega)
              obtain ⟨lnw56, hXw56, hdlw56, hd0w56, hbtw56⟩ := id hT49
              obtain ⟨Fw56, Tw56, Aw56, hBw56, htw56⟩ := id hXw56
              have hWw56 := hBw56.2.1
              refine e_aload_n (pc := 72) Xc (dT hX6_firm 36 rfl) 0 rfl ?_
              refine cl_X6_249 (pc := 73) (k := 0) (n := 0) (S := []) Xc hP51.o (c6_isAllSeen hP51 ⟨lnw56, ⟨Fw56, Tw56, Aw56, hBw56, htw56⟩, hdlw56, hd0w56, hbtw56, hbtw56⟩ hdy ht13 hP52 (hRP.cg hs6 hp8 hn8 (fun j _ _ => upd_n (by omega)) ht100) hb8 (Gsv hS (by omega))) (dT hX6_firm 37 rfl) rfl (Nat.le_of_ble_eq_true rfl) (Nat.le_of_ble_eq_true rfl) (Nat.le_of_ble_eq_true rfl) rfl (Nat.le_of_ble_eq_true rfl) (fun r57 σ58 hq59 => ?_)
              obtain ⟨r57e, ⟨X1_, dy1_, hT60, hX1_⟩, ho61⟩ := hq59
              have r57e := r57e.symm; subst r57e
              have hP62 := hP51.off ho61 (by omega)
              have hP63 := hP52.off ho61 (by omega)
              have hP64 := hP53.off ho61 (by omega)
              have hP65 := hP54.off ho61 (by omega)
              have hB66 := hB55.off ho61 (by omega) (by rw [htw1]; omega)
              obtain ⟨lnw67, hXw67, hdlw67, hd0w67, hbtw67, hbkw67⟩ := id hT60
              obtain ⟨Fw67, Tw67, Aw67, hBw67, htw67⟩ := id hXw67
              have hWw67 := hBw67.2.1
              refine e_if_eq (tgt := 86) (pc := 76) Xc (dT hX6_firm 38 rfl) rfl (fun c76 => ?_) (fun c76 => ?_)
              · skip
                refine e_iinc (v := (nI j_) + (-1)) (L' := [(5, .int ((nI j_) + (-1))), (0, .ref x), (1, .int (nI q)), (2, .int w), (3, .int ac_), (4, .int fi_)]) (pc := 86) Xc (dT hX6_firm 42 rfl) 5 rfl rfl (by decide) rfl ?_
                refine e_goto (tgt := 36) (pc := 89) Xc (dT hX6_firm 43 rfl) rfl ?_
                refine Ev.pick (L' := [(0, .ref x), (1, .int (nI q)), (2, .int w), (3, .int ac_), (4, .int fi_), (5, .int ((nI j_) + (-1)))]) [1, 2, 3, 4, 5, 0] rfl ?_
                exact ih36 j_ ac_ fi_ (nI j_) X1_ lnw67 σ58 (by omega) (by omega) (by rw [fi_step (by omega), ← hq_]; simp only [bI_0, Bool.not_eq_false] at c76; rw [show fiP X t nr nb ns q j_ = false from c76]; simp) hX1_ (⟨j_, by omega, rfl⟩) (⟨Fw67, Tw67, Aw67, hBw67, htw67⟩) ((((hO2.tr ho26).tr ho38).tr ho50).tr ho61)
              · skip
                refine e_iinc (v := ac_ + 1) (L' := [(3, .int (ac_ + 1)), (0, .ref x), (1, .int (nI q)), (2, .int w), (4, .int fi_), (5, .int (nI j_))]) (pc := 79) Xc (dT hX6_firm 39 rfl) 3 rfl rfl (by decide) rfl ?_
                refine e_iload (pc := 82) Xc (dT hX6_firm 40 rfl) 5 rfl ?_
                refine e_istore (L' := [(4, .int (nI j_)), (3, .int (ac_ + 1)), (0, .ref x), (1, .int (nI q)), (2, .int w), (5, .int (nI j_))]) (pc := 84) Xc (dT hX6_firm 41 rfl) (by decide) rfl ?_
                refine e_iinc (v := (nI j_) + (-1)) (L' := [(5, .int ((nI j_) + (-1))), (4, .int (nI j_)), (3, .int (ac_ + 1)), (0, .ref x), (1, .int (nI q)), (2, .int w)]) (pc := 86) Xc (dT hX6_firm 42 rfl) 5 rfl rfl (by decide) rfl ?_
                refine e_goto (tgt := 36) (pc := 89) Xc (dT hX6_firm 43 rfl) rfl ?_
                refine Ev.pick (L' := [(0, .ref x), (1, .int (nI q)), (2, .int w), (3, .int (ac_ + 1)), (4, .int (nI j_)), (5, .int ((nI j_) + (-1)))]) [3, 4, 5, 2, 1, 0] rfl ?_
                exact ih36 j_ (ac_ + 1) (nI j_) (nI j_) X1_ lnw67 σ58 (by omega) (by omega) (by rw [fi_step (by omega), ← hq_]; simp only [bI_0, Bool.not_eq_false] at c76; rw [show fiP X t nr nb ns q j_ = true from c76]; rfl) hX1_ (⟨j_, by omega, rfl⟩) (⟨Fw67, Tw67, Aw67, hBw67, htw67⟩) ((((hO2.tr ho26).tr ho38).tr ho50).tr ho61)
        refine Ev.pick (L' := [(0, .ref x), (1, .int (nI q)), (2, .int w), (3, .int 0), (4, .int (-5)), (5, .int (nI 10 + (-1)))]) [3, 4, 5, 2, 1, 0] rfl ?_
        exact lp36 ((10) + 1) 10 0 (-5) (X (24 + q)) X lnw15 σ6 (Nat.lt_succ_self _) (Nat.le_refl _) rfl (by rw [upd_self]; exact fun j _ => rfl) (hG.2.2.2.2.2 q hq) (⟨Fw15, Tw15, Aw15, hBw15, htw15⟩) Off.rf
      · skip
        have hin_w : inF w 0 1 = false := by
          have k12_ := c12
          have k17_ := c17
          simp only [Int32.lt_iff_toInt_lt, Int32.le_iff_toInt_le] at k12_ k17_
          have l0_ : (0 : Int32).toInt = 0 := by decide
          have l1_ : (1 : Int32).toInt = 1 := by decide
          have l2_ : (2 : Int32).toInt = 2 := by decide
          rw [inF_ff]
          omega
        refine e_iconst (v := -1) (pc := 20) Xc (dT hX6_firm 10 rfl) rfl ?_
        refine e_iret (pc := 21) Xc hQ (dT hX6_firm 11 rfl) (Nat.le_refl _) (Nat.le_refl _) ?_
        have hz : v_firm X t nr nb ns (nI q) w = (-1) := by
          try simp only [bI_0, bI_1, Bool.not_eq_true, Bool.not_eq_false] at c8 c12 c17
          first | (simp [v_firm, c8, c12, c17, hc_q, hin_w]; done) | (clear hB hK hSA hx hXn hP5 hPp hRP hPg hPa hBI hG hT hS hPl hNo hTa hA hJ hR hD hQ Xc; simp_all [v_firm]; done)
        exact ⟨hz.symm, hB, OffB.rf⟩
