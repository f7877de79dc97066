set_option maxRecDepth 100000 in
set_option maxHeartbeats 4000000 in
theorem c3_joinT1 {G : xG} {σ : xS} {rd pa tw : Nat} {F : Nat → Int32} {A : Nat → Nat → Int32} (hP : PX3 σ rd F (tR pa tw) A) {Fa : Nat → Int32} {Ta : Nat → Nat} {Aa : Nat → Nat → Int32} (hPa : PX2 σ pa Fa Ta Aa) {H : Nat → Int32} {nt : Nat} (hH : Hend H nt) (hTA : ∀ q, q < nt → Aa 1 q = H q) (hnt : nt ≤ 100) (hF1 : F 1 = nI nt) (p : Nat) (hF3 : F 3 = nI p) (hp : p ≤ nt) (hne : rd ≠ pa) {F4 : Nat → Int32} {T4 : Nat → Nat} {A4 : Nat → Nat → Int32} (hP4 : PX4 σ tw F4 T4 A4) (n0 : Nat) (hn0 : F4 3 = nI n0) (hn : n0 ≤ p) (hSg : ∀ q, isSg (H q)) (hrt : rd ≠ tw) (hpt : pa ≠ tw) : CI G yX3_joined cX3_joined 5 (some .boolean) 7 0 0 [.ref rd, .int 1, .int 4] σ (fun z σ1 => z = bI (tofP H (factP H 1) p).1 ∧ (∃ v, PX3 σ1 rd (upd (upd F 3 (nI (tofP H (factP H 1) p).2.1)) 4 v) (tR pa tw) A) ∧ tP σ1 tw F4 T4 A4 n0 ((tofP H (factP H 1) p).2.2.map encC) ∧ OffS (fun o => o = rd ∨ o = tw) σ σ1) := by
  refine Met.ofX (by decide +kernel) (Nat.le_of_ble_eq_true rfl) (fun μ Xc hQ hnm => ?_)
  have Xc : xC G μ cX3_joined 5 RX3 (some .boolean) 7 0 0 := Xc
  show Ev G μ 5 0 0 0 [(0, .ref rd), (1, .int 1), (2, .int 4)] [] σ
  refine e_iconst (v := 0) (pc := 0) Xc (dT hX3_joined 0 rfl) rfl ?_
  refine e_istore_n (L' := [(3, .int 0), (0, .ref rd), (1, .int 1), (2, .int 4)]) (pc := 1) Xc (dT hX3_joined 1 rfl) (by decide) rfl ?_
  have lp2 : ∀ (n2 : Nat) (i_ k_ p_ : Nat) (l_ : List xI) (v_ : Int32) (σ2 : xS), 100 - i_ < n2 → (i_ + k_ = 100) → (2 * i_ ≤ p_) → (lpJ H (factP H 1) 38 1 k_ (jW (factP H 1) 1 i_ p_ l_) = (tofP H (factP H 1) p)) → (p_ ≤ nt) → (n0 + l_.length ≤ p_) → (0 < i_ → n0 + l_.length + 1 ≤ p_) → (PX3 σ2 rd (fR F p_ v_) (tR pa tw) A) → (tP σ2 tw F4 T4 A4 n0 (l_.map encC)) → (OffS (fun o => o = rd ∨ o = tw) σ σ2) → Ev G μ 5 0 0 2 [(0, .ref rd), (1, .int 1), (2, .int 4), (3, .int (nI i_))] [] σ2 := by
    intro n2
    induction n2 with
    | zero => intro i_ k_ p_ l_ v_ σ2 hn; exact absurd hn (Nat.not_lt_zero _)
    | succ n2 ih2 =>
      intro i_ k_ p_ l_ v_ σ2 hn2 hik_ h2i_ hR_ hpn_ hnl_ hn1_ hx2 ht2 ho2
      have hpa2 := hPa.cg (fun i => ho2.cell (fun e => e.elim (fun q => hne q.symm) hpt) i)
      obtain ⟨k_, rfl⟩ : ∃ k, k_ = k + 1 := ⟨k_ - 1, by omega⟩
      have hll_ : (l_.map encC).length = l_.length := List.length_map _
      refine e_iload_n (pc := 2) Xc (dT hX3_joined 2 rfl) 3 rfl ?_
      refine e_bipush (v := 100) (pc := 3) Xc (dT hX3_joined 3 rfl) rfl ?_
      refine e_icmp_geN (x := i_) (y := 100) (tgt := 83) (pc := 5) Xc (dT hX3_joined 4 rfl) rfl (by omega) (by omega) (fun c5 => ?_) (fun c5 => ?_)
      · skip
        exact absurd c5 (by omega)
      · skip
        refine e_iload_n (pc := 8) Xc (dT hX3_joined 5 rfl) 1 rfl ?_
        refine e_if_ne (tgt := 21) (pc := 9) Xc (dT hX3_joined 6 rfl) rfl (fun c9 => ?_) (fun c9 => ?_)
        · skip
          refine e_aload_n (pc := 21) Xc (dT hX3_joined 12 rfl) 0 rfl ?_
          refine e_iload_n (pc := 22) Xc (dT hX3_joined 13 rfl) 2 rfl ?_
          refine cl_X3_77 (pc := 23) (k := 0) (n := 0) (S := []) Xc (c3_single1 hx2 hpa2 hH hTA hnt hF1 p_ rfl hpn_ hne ht2 (n0 + (l_.map encC).length) upd_s (by rw [List.length_map]; omega) hSg hrt hpt) (dT hX3_joined 14 rfl) rfl (Nat.le_of_ble_eq_true rfl) (Nat.le_of_ble_eq_true rfl) (Nat.le_of_ble_eq_true rfl) rfl (Nat.le_of_ble_eq_true rfl) (fun r1 σ2 hq3 => ?_)
          obtain ⟨r1e, ⟨v8_, hx5⟩, ht6, ho4⟩ := hq3
          have r1e := r1e.symm; subst r1e
          have hx5 : PX3 σ2 rd (fR F ((factP H 1) p_).2.1 v8_) (tR pa tw) A := by
            have h_ := hx5
            first | (rw [fR_2] at h_; exact h_) | (rw [fR_4, fR_2] at h_; exact h_) | exact h_
          have ht6 := tP_app ht6
          have ht6 : tP σ2 tw F4 T4 A4 n0 ((l_.map encC) ++ (((factP H 1) p_).2.2.map encC)) := ht6
          have hpa7 := (hpa2).cg (fun i => ho4.cell (fun e => e.elim (fun q => hne q.symm) hpt) i)
          obtain ⟨hi1_, hi2_, hi3_, hi4_⟩ : goP nt p_ ((factP H 1) p_) := factP_go hH 1 p_ hpn_
          have hlm_ : (((factP H 1) p_).2.2.map encC).length = ((factP H 1) p_).2.2.length := List.length_map _
          refine e_istore (L' := [(4, .int (bI ((factP H 1) p_).1)), (0, .ref rd), (1, .int 1), (2, .int 4), (3, .int (nI i_))]) (pc := 26) Xc (dT hX3_joined 15 rfl) (by decide) rfl ?_
          refine e_iload (pc := 28) Xc (dT hX3_joined 16 rfl) 0 rfl ?_
          refine e_if_ne (tgt := 35) (pc := 30) Xc (dT hX3_joined 17 rfl) rfl (fun c30 => ?_) (fun c30 => ?_)
          · skip
            have hok_ : ((factP H 1) p_).1 = true := by cases q_ : ((factP H 1) p_).1; exact absurd (show bI ((factP H 1) p_).1 = 0 by rw [q_]; rfl) c30; rfl
            refine e_iload_n (pc := 35) Xc (dT hX3_joined 20 rfl) 4 rfl ?_
            refine e_if_le (tgt := 57) (pc := 36) Xc (dT hX3_joined 21 rfl) rfl (fun c36 => ?_) (fun c36 => ?_)
            · skip
              have hi0_ : i_ = 0 := by
                rcases Nat.eq_zero_or_pos i_ with q | q
                · exact q
                · exact absurd c36 (nI_nle0 q (by omega))
              refine e_aload_n (pc := 57) Xc (dT hX3_joined 30 rfl) 1 rfl ?_
              refine e_iload_n (pc := 58) Xc (dT hX3_joined 31 rfl) 2 rfl ?_
              refine e_if_ne (tgt := 67) (pc := 59) Xc (dT hX3_joined 32 rfl) rfl (fun c59 => ?_) (fun c59 => ?_)
              · skip
                refine e_bipush (v := 38) (pc := 67) Xc (dT hX3_joined 35 rfl) rfl ?_
                refine cl_X3_33 (pc := 69) (k := 0) (n := 0) (S := []) Xc hx5.o (c3_takes hx5 hpa7 hH hTA hnt hF1 ((factP H 1) p_).2.1 rfl hi2_ hne 38) (dT hX3_joined 36 rfl) rfl (Nat.le_of_ble_eq_true rfl) (Nat.le_of_ble_eq_true rfl) (Nat.le_of_ble_eq_true rfl) rfl (Nat.le_of_ble_eq_true rfl) (fun r9 σ10 hq11 => ?_)
                obtain ⟨r9e, hx12, ho13⟩ := hq11
                rw [fR_3] at hx12
                by_cases hsep_ : H ((factP H 1) p_).2.1 = 38
                · skip
                  rw [must_t hsep_] at r9e hx12
                  have r9e := r9e.symm; subst r9e
                  have hP14 := hpa7.off ho13 (Ne.symm hne)
                  have hP15 := ht6.off ho13 (Ne.symm hrt)
                  refine e_val (y := 1) rfl ?_
                  refine e_if_ne (tgt := 77) (pc := 72) Xc (dT hX3_joined 37 rfl) rfl (fun c72 => ?_) (fun c72 => ?_)
                  · skip
                    refine e_iincN (a := i_) (b := 1) (L' := [(3, .int (nI (i_ + 1))), (4, .int (bI ((factP H 1) p_).1)), (0, .ref rd), (1, .int 1), (2, .int 4)]) (pc := 77) Xc (dT hX3_joined 40 rfl) 4 rfl rfl (by decide) rfl ?_
                    refine e_goto (tgt := 2) (pc := 80) Xc (dT hX3_joined 41 rfl) rfl ?_
                    have hLe_ : ((l_.map encC) ++ (((factP H 1) p_).2.2.map encC)) = (jW (factP H 1) 1 i_ p_ l_).2.2.map encC := by rw [jW_n (fun q => absurd q.1 (by omega))]; first | (simp only [List.map_append, List.append_assoc]; done) | (simp only [List.map_append, List.append_assoc]; rfl)
                    have hLl_ : (jW (factP H 1) 1 i_ p_ l_).2.2.length = l_.length + ((factP H 1) p_).2.2.length + 0 := by rw [jW_n (fun q => absurd q.1 (by omega))]; simp only [List.length_append, List.length_cons, List.length_nil]; omega
                    refine Ev.pick (L' := [(0, .ref rd), (1, .int 1), (2, .int 4), (3, .int (nI (i_ + 1)))]) [2, 3, 4, 0] rfl ?_
                    exact ih2 (i_ + 1) k_ (((factP H 1) p_).2.1 + 1) ((jW (factP H 1) 1 i_ p_ l_).2.2) v8_ σ10 (by omega) (by omega) (by have := hi3_ hok_; omega) ((jW_s hok_ hsep_).symm.trans hR_) (hH.lt hsep_ (by decide)) (by omega) (fun _ => by omega) hx12 (by rw [← hLe_]; exact hP15) ((ho2.tr ho4).tr (OffS.of (S := (fun o => o = rd ∨ o = tw)) ho13 (Or.inl rfl)))
                  · skip
                    exact absurd c72 (by decide)
                · skip
                  rw [must_x hsep_] at r9e hx12
                  have r9e := r9e.symm; subst r9e
                  have hP16 := hpa7.off ho13 (Ne.symm hne)
                  have hP17 := ht6.off ho13 (Ne.symm hrt)
                  refine e_val (y := 0) rfl ?_
                  refine e_if_ne (tgt := 77) (pc := 72) Xc (dT hX3_joined 37 rfl) rfl (fun c72 => ?_) (fun c72 => ?_)
                  · skip
                    exact absurd c72 (by decide)
                  · skip
                    refine e_iconst (v := 1) (pc := 75) Xc (dT hX3_joined 38 rfl) rfl ?_
                    refine e_zret (pc := 76) Xc hQ (dT hX3_joined 39 rfl) (Nat.le_refl _) (Nat.le_refl _) (Or.inr rfl) ?_
                    rw [lpJ_x (r := jW (factP H 1) 1 i_ p_ l_) (fun q => hsep_ q.2)] at hR_
                    rw [← hR_]
                    refine ⟨?_, ⟨_, hx12⟩, ?_, ((ho2.tr ho4).tr (OffS.of (S := (fun o => o = rd ∨ o = tw)) ho13 (Or.inl rfl)))⟩
                    · show _ = bI ((factP H 1) p_).1
                      rw [hok_]; rfl
                    · rw [jW_n (fun q => absurd q.1 (by omega))]
                      have h_ := hP17
                      simp only [List.map_append, List.append_assoc] at h_ ⊢
                      exact h_
              · skip
                exact absurd c59 (by decide)
            · skip
              have hi0_ : 0 < i_ := by
                rcases Nat.eq_zero_or_pos i_ with q | q
                · subst q; exact absurd (by decide) c36
                · exact q
              have hn1b_ := hn1_ hi0_
              have hi3b_ := hi3_ hok_
              refine e_aload_n (pc := 39) Xc (dT hX3_joined 22 rfl) 1 rfl ?_
              refine gf_X3_25 (pc := 40) Xc (dT hX3_joined 23 rfl) hx5.o rfl ?_
              refine e_iload_n (pc := 43) Xc (dT hX3_joined 24 rfl) 2 rfl ?_
              refine e_if_ne (tgt := 52) (pc := 44) Xc (dT hX3_joined 25 rfl) rfl (fun c44 => ?_) (fun c44 => ?_)
              · skip
                refine e_bipush (v := -2) (pc := 52) Xc (dT hX3_joined 28 rfl) rfl ?_
                refine cl_X3_81 (pc := 54) (k := 0) (n := 0) (S := []) Xc ht6.o (c4_write ht6 (n0 + ((l_.map encC) ++ (((factP H 1) p_).2.2.map encC)).length) upd_s (by simp only [List.length_append, List.length_map] at *; omega) (-2)) (dT hX3_joined 29 rfl) rfl (Nat.le_of_ble_eq_true rfl) (Nat.le_of_ble_eq_true rfl) (Nat.le_of_ble_eq_true rfl) rfl (Nat.le_of_ble_eq_true rfl) (fun σ19 hq20 => ?_)
                obtain ⟨ht21, ho22⟩ := hq20
                have ht21 : tP σ19 tw F4 T4 A4 n0 (((l_.map encC) ++ (((factP H 1) p_).2.2.map encC)) ++ [(-2)]) := tP_app ht21
                have hP23 := hx5.off ho22 hrt
                have hP24 := hpa7.off ho22 hpt
                refine e_aload_n (pc := 57) Xc (dT hX3_joined 30 rfl) 1 rfl ?_
                refine e_iload_n (pc := 58) Xc (dT hX3_joined 31 rfl) 2 rfl ?_
                refine e_if_ne (tgt := 67) (pc := 59) Xc (dT hX3_joined 32 rfl) rfl (fun c59 => ?_) (fun c59 => ?_)
                · skip
                  refine e_bipush (v := 38) (pc := 67) Xc (dT hX3_joined 35 rfl) rfl ?_
                  refine cl_X3_33 (pc := 69) (k := 0) (n := 0) (S := []) Xc hP23.o (c3_takes hP23 hP24 hH hTA hnt hF1 ((factP H 1) p_).2.1 rfl hi2_ hne 38) (dT hX3_joined 36 rfl) rfl (Nat.le_of_ble_eq_true rfl) (Nat.le_of_ble_eq_true rfl) (Nat.le_of_ble_eq_true rfl) rfl (Nat.le_of_ble_eq_true rfl) (fun r25 σ26 hq27 => ?_)
                  obtain ⟨r25e, hx28, ho29⟩ := hq27
                  rw [fR_3] at hx28
                  by_cases hsep_ : H ((factP H 1) p_).2.1 = 38
                  · skip
                    rw [must_t hsep_] at r25e hx28
                    have r25e := r25e.symm; subst r25e
                    have hP30 := hP24.off ho29 (Ne.symm hne)
                    have hP31 := ht21.off ho29 (Ne.symm hrt)
                    refine e_val (y := 1) rfl ?_
                    refine e_if_ne (tgt := 77) (pc := 72) Xc (dT hX3_joined 37 rfl) rfl (fun c72 => ?_) (fun c72 => ?_)
                    · skip
                      refine e_iincN (a := i_) (b := 1) (L' := [(3, .int (nI (i_ + 1))), (4, .int (bI ((factP H 1) p_).1)), (0, .ref rd), (1, .int 1), (2, .int 4)]) (pc := 77) Xc (dT hX3_joined 40 rfl) 4 rfl rfl (by decide) rfl ?_
                      refine e_goto (tgt := 2) (pc := 80) Xc (dT hX3_joined 41 rfl) rfl ?_
                      have hLe_ : (((l_.map encC) ++ (((factP H 1) p_).2.2.map encC)) ++ [(-2)]) = (jW (factP H 1) 1 i_ p_ l_).2.2.map encC := by rw [jW_y hi0_ hok_]; first | (simp only [List.map_append, List.append_assoc]; done) | (simp only [List.map_append, List.append_assoc]; rfl)
                      have hLl_ : (jW (factP H 1) 1 i_ p_ l_).2.2.length = l_.length + ((factP H 1) p_).2.2.length + 1 := by rw [jW_y hi0_ hok_]; simp only [List.length_append, List.length_cons, List.length_nil]; omega
                      refine Ev.pick (L' := [(0, .ref rd), (1, .int 1), (2, .int 4), (3, .int (nI (i_ + 1)))]) [2, 3, 4, 0] rfl ?_
                      exact ih2 (i_ + 1) k_ (((factP H 1) p_).2.1 + 1) ((jW (factP H 1) 1 i_ p_ l_).2.2) v8_ σ26 (by omega) (by omega) (by have := hi3_ hok_; omega) ((jW_s hok_ hsep_).symm.trans hR_) (hH.lt hsep_ (by decide)) (by omega) (fun _ => by omega) hx28 (by rw [← hLe_]; exact hP31) (((ho2.tr ho4).tr (OffS.of (S := (fun o => o = rd ∨ o = tw)) ho22 (Or.inr rfl))).tr (OffS.of (S := (fun o => o = rd ∨ o = tw)) ho29 (Or.inl rfl)))
                    · skip
                      exact absurd c72 (by decide)
                  · skip
                    rw [must_x hsep_] at r25e hx28
                    have r25e := r25e.symm; subst r25e
                    have hP32 := hP24.off ho29 (Ne.symm hne)
                    have hP33 := ht21.off ho29 (Ne.symm hrt)
                    refine e_val (y := 0) rfl ?_
                    refine e_if_ne (tgt := 77) (pc := 72) Xc (dT hX3_joined 37 rfl) rfl (fun c72 => ?_) (fun c72 => ?_)
                    · skip
                      exact absurd c72 (by decide)
                    · skip
                      refine e_iconst (v := 1) (pc := 75) Xc (dT hX3_joined 38 rfl) rfl ?_
                      refine e_zret (pc := 76) Xc hQ (dT hX3_joined 39 rfl) (Nat.le_refl _) (Nat.le_refl _) (Or.inr rfl) ?_
                      rw [lpJ_x (r := jW (factP H 1) 1 i_ p_ l_) (fun q => hsep_ q.2)] at hR_
                      rw [← hR_]
                      refine ⟨?_, ⟨_, hx28⟩, ?_, (((ho2.tr ho4).tr (OffS.of (S := (fun o => o = rd ∨ o = tw)) ho22 (Or.inr rfl))).tr (OffS.of (S := (fun o => o = rd ∨ o = tw)) ho29 (Or.inl rfl)))⟩
                      · show _ = bI ((factP H 1) p_).1
                        rw [hok_]; rfl
                      · rw [jW_y hi0_ hok_]
                        have h_ := hP33
                        simp only [List.map_append, List.append_assoc] at h_ ⊢
                        exact h_
                · skip
                  exact absurd c59 (by decide)
              · skip
                exact absurd c44 (by decide)
          · skip
            have hok_ : ((factP H 1) p_).1 = false := bI_0.mp c30
            refine e_iconst (v := 0) (pc := 33) Xc (dT hX3_joined 18 rfl) rfl ?_
            refine e_zret (pc := 34) Xc hQ (dT hX3_joined 19 rfl) (Nat.le_refl _) (Nat.le_refl _) (Or.inl rfl) ?_
            rw [lpJ_x (r := jW (factP H 1) 1 i_ p_ l_) (fun q => by have q1 := q.1; rw [show (jW (factP H 1) 1 i_ p_ l_).1 = ((factP H 1) p_).1 from rfl, hok_] at q1; exact Bool.noConfusion q1)] at hR_
            rw [← hR_]
            refine ⟨?_, ⟨_, hx5⟩, ?_, (ho2.tr ho4)⟩
            · show _ = bI ((factP H 1) p_).1
              rw [hok_]; rfl
            · rw [jW_n (fun q => by rw [hok_] at q; exact Bool.noConfusion q.2)]
              have h_ := ht6
              simp only [List.map_append, List.append_assoc] at h_ ⊢
              exact h_
        · skip
          exact absurd c9 (by decide)
  refine Ev.pick (L' := [(0, .ref rd), (1, .int 1), (2, .int 4), (3, .int 0)]) [1, 2, 3, 0] rfl ?_
  exact lp2 ((100 - 0) + 1) 0 100 p ([] : List xI) (F 4) σ (Nat.lt_succ_self _) rfl (Nat.zero_le _) (by rw [jW_0]; rfl) hp hn (fun q => absurd q (Nat.lt_irrefl 0)) (by rw [fR_id hF3]; exact hP) (tP_nil hP4 hn0) OffS.rf
set_option maxRecDepth 100000 in
set_option maxHeartbeats 4000000 in
theorem c3_joinE1 {G : xG} {σ : xS} {rd pa tw : Nat} {F : Nat → Int32} {A : Nat → Nat → Int32} (hP : PX3 σ rd F (tR pa tw) A) {Fa : Nat → Int32} {Ta : Nat → Nat} {Aa : Nat → Nat → Int32} (hPa : PX2 σ pa Fa Ta Aa) {H : Nat → Int32} {nt : Nat} (hH : Hend H nt) (hTA : ∀ q, q < nt → Aa 1 q = H q) (hnt : nt ≤ 100) (hF1 : F 1 = nI nt) (p : Nat) (hF3 : F 3 = nI p) (hp : p ≤ nt) (hne : rd ≠ pa) {F4 : Nat → Int32} {T4 : Nat → Nat} {A4 : Nat → Nat → Int32} (hP4 : PX4 σ tw F4 T4 A4) (n0 : Nat) (hn0 : F4 3 = nI n0) (hn : n0 ≤ p) (hSg : ∀ q, isSg (H q)) (hrt : rd ≠ tw) (hpt : pa ≠ tw) : CI G yX3_joined cX3_joined 5 (some .boolean) 8 0 0 [.ref rd, .int 0, .int 4] σ (fun z σ1 => z = bI (eofP H (factP H 1) p).1 ∧ (∃ v, PX3 σ1 rd (upd (upd F 3 (nI (eofP H (factP H 1) p).2.1)) 4 v) (tR pa tw) A) ∧ tP σ1 tw F4 T4 A4 n0 ((eofP H (factP H 1) p).2.2.map encC) ∧ OffS (fun o => o = rd ∨ o = tw) σ σ1) := by
  refine Met.ofX (by decide +kernel) (Nat.le_of_ble_eq_true rfl) (fun μ Xc hQ hnm => ?_)
  have Xc : xC G μ cX3_joined 5 RX3 (some .boolean) 8 0 0 := Xc
  show Ev G μ 5 0 0 0 [(0, .ref rd), (1, .int 0), (2, .int 4)] [] σ
  refine e_iconst (v := 0) (pc := 0) Xc (dT hX3_joined 0 rfl) rfl ?_
  refine e_istore_n (L' := [(3, .int 0), (0, .ref rd), (1, .int 0), (2, .int 4)]) (pc := 1) Xc (dT hX3_joined 1 rfl) (by decide) rfl ?_
  have lp2 : ∀ (n2 : Nat) (i_ k_ p_ : Nat) (l_ : List xI) (v_ : Int32) (σ2 : xS), 100 - i_ < n2 → (i_ + k_ = 100) → (2 * i_ ≤ p_) → (lpJ H (tofP H (factP H 1)) 124 2 k_ (jW (tofP H (factP H 1)) 2 i_ p_ l_) = (eofP H (factP H 1) p)) → (p_ ≤ nt) → (n0 + l_.length ≤ p_) → (0 < i_ → n0 + l_.length + 1 ≤ p_) → (PX3 σ2 rd (fR F p_ v_) (tR pa tw) A) → (tP σ2 tw F4 T4 A4 n0 (l_.map encC)) → (OffS (fun o => o = rd ∨ o = tw) σ σ2) → Ev G μ 5 0 0 2 [(0, .ref rd), (1, .int 0), (2, .int 4), (3, .int (nI i_))] [] σ2 := by
    intro n2
    induction n2 with
    | zero => intro i_ k_ p_ l_ v_ σ2 hn; exact absurd hn (Nat.not_lt_zero _)
    | succ n2 ih2 =>
      intro i_ k_ p_ l_ v_ σ2 hn2 hik_ h2i_ hR_ hpn_ hnl_ hn1_ hx2 ht2 ho2
      have hpa2 := hPa.cg (fun i => ho2.cell (fun e => e.elim (fun q => hne q.symm) hpt) i)
      obtain ⟨k_, rfl⟩ : ∃ k, k_ = k + 1 := ⟨k_ - 1, by omega⟩
      have hll_ : (l_.map encC).length = l_.length := List.length_map _
      refine e_iload_n (pc := 2) Xc (dT hX3_joined 2 rfl) 3 rfl ?_
      refine e_bipush (v := 100) (pc := 3) Xc (dT hX3_joined 3 rfl) rfl ?_
      refine e_icmp_geN (x := i_) (y := 100) (tgt := 83) (pc := 5) Xc (dT hX3_joined 4 rfl) rfl (by omega) (by omega) (fun c5 => ?_) (fun c5 => ?_)
      · skip
        exact absurd c5 (by omega)
      · skip
        refine e_iload_n (pc := 8) Xc (dT hX3_joined 5 rfl) 1 rfl ?_
        refine e_if_ne (tgt := 21) (pc := 9) Xc (dT hX3_joined 6 rfl) rfl (fun c9 => ?_) (fun c9 => ?_)
        · skip
          exact absurd c9 (by decide)
        · skip
          refine e_aload_n (pc := 12) Xc (dT hX3_joined 7 rfl) 0 rfl ?_
          refine e_iconst (v := 1) (pc := 13) Xc (dT hX3_joined 8 rfl) rfl ?_
          refine e_iload_n (pc := 14) Xc (dT hX3_joined 9 rfl) 2 rfl ?_
          refine cl_X3_51 (pc := 15) (k := 0) (n := 0) (S := []) Xc (c3_joinT1 hx2 hpa2 hH hTA hnt hF1 p_ rfl hpn_ hne ht2 (n0 + (l_.map encC).length) upd_s (by rw [List.length_map]; omega) hSg hrt hpt) (dT hX3_joined 10 rfl) rfl (Nat.le_of_ble_eq_true rfl) (Nat.le_of_ble_eq_true rfl) (Nat.le_of_ble_eq_true rfl) rfl (Nat.le_of_ble_eq_true rfl) (fun r1 σ2 hq3 => ?_)
          obtain ⟨r1e, ⟨v8_, hx5⟩, ht6, ho4⟩ := hq3
          have r1e := r1e.symm; subst r1e
          have hx5 : PX3 σ2 rd (fR F ((tofP H (factP H 1)) p_).2.1 v8_) (tR pa tw) A := by
            have h_ := hx5
            first | (rw [fR_2] at h_; exact h_) | (rw [fR_4, fR_2] at h_; exact h_) | exact h_
          have ht6 := tP_app ht6
          have ht6 : tP σ2 tw F4 T4 A4 n0 ((l_.map encC) ++ (((tofP H (factP H 1)) p_).2.2.map encC)) := ht6
          have hpa7 := (hpa2).cg (fun i => ho4.cell (fun e => e.elim (fun q => hne q.symm) hpt) i)
          obtain ⟨hi1_, hi2_, hi3_, hi4_⟩ : goP nt p_ ((tofP H (factP H 1)) p_) := tofP_go hH (fun q hq => factP_go hH 1 q hq) hpn_
          have hlm_ : (((tofP H (factP H 1)) p_).2.2.map encC).length = ((tofP H (factP H 1)) p_).2.2.length := List.length_map _
          refine e_goto (tgt := 26) (pc := 18) Xc (dT hX3_joined 11 rfl) rfl ?_
          refine e_istore (L' := [(4, .int (bI ((tofP H (factP H 1)) p_).1)), (0, .ref rd), (1, .int 0), (2, .int 4), (3, .int (nI i_))]) (pc := 26) Xc (dT hX3_joined 15 rfl) (by decide) rfl ?_
          refine e_iload (pc := 28) Xc (dT hX3_joined 16 rfl) 0 rfl ?_
          refine e_if_ne (tgt := 35) (pc := 30) Xc (dT hX3_joined 17 rfl) rfl (fun c30 => ?_) (fun c30 => ?_)
          · skip
            have hok_ : ((tofP H (factP H 1)) p_).1 = true := by cases q_ : ((tofP H (factP H 1)) p_).1; exact absurd (show bI ((tofP H (factP H 1)) p_).1 = 0 by rw [q_]; rfl) c30; rfl
            refine e_iload_n (pc := 35) Xc (dT hX3_joined 20 rfl) 4 rfl ?_
            refine e_if_le (tgt := 57) (pc := 36) Xc (dT hX3_joined 21 rfl) rfl (fun c36 => ?_) (fun c36 => ?_)
            · skip
              have hi0_ : i_ = 0 := by
                rcases Nat.eq_zero_or_pos i_ with q | q
                · exact q
                · exact absurd c36 (nI_nle0 q (by omega))
              refine e_aload_n (pc := 57) Xc (dT hX3_joined 30 rfl) 1 rfl ?_
              refine e_iload_n (pc := 58) Xc (dT hX3_joined 31 rfl) 2 rfl ?_
              refine e_if_ne (tgt := 67) (pc := 59) Xc (dT hX3_joined 32 rfl) rfl (fun c59 => ?_) (fun c59 => ?_)
              · skip
                exact absurd c59 (by decide)
              · skip
                refine e_bipush (v := 124) (pc := 62) Xc (dT hX3_joined 33 rfl) rfl ?_
                refine e_goto (tgt := 69) (pc := 64) Xc (dT hX3_joined 34 rfl) rfl ?_
                refine cl_X3_33 (pc := 69) (k := 0) (n := 0) (S := []) Xc hx5.o (c3_takes hx5 hpa7 hH hTA hnt hF1 ((tofP H (factP H 1)) p_).2.1 rfl hi2_ hne 124) (dT hX3_joined 36 rfl) rfl (Nat.le_of_ble_eq_true rfl) (Nat.le_of_ble_eq_true rfl) (Nat.le_of_ble_eq_true rfl) rfl (Nat.le_of_ble_eq_true rfl) (fun r9 σ10 hq11 => ?_)
                obtain ⟨r9e, hx12, ho13⟩ := hq11
                rw [fR_3] at hx12
                by_cases hsep_ : H ((tofP H (factP H 1)) p_).2.1 = 124
                · skip
                  rw [must_t hsep_] at r9e hx12
                  have r9e := r9e.symm; subst r9e
                  have hP14 := hpa7.off ho13 (Ne.symm hne)
                  have hP15 := ht6.off ho13 (Ne.symm hrt)
                  refine e_val (y := 1) rfl ?_
                  refine e_if_ne (tgt := 77) (pc := 72) Xc (dT hX3_joined 37 rfl) rfl (fun c72 => ?_) (fun c72 => ?_)
                  · skip
                    refine e_iincN (a := i_) (b := 1) (L' := [(3, .int (nI (i_ + 1))), (4, .int (bI ((tofP H (factP H 1)) p_).1)), (0, .ref rd), (1, .int 0), (2, .int 4)]) (pc := 77) Xc (dT hX3_joined 40 rfl) 4 rfl rfl (by decide) rfl ?_
                    refine e_goto (tgt := 2) (pc := 80) Xc (dT hX3_joined 41 rfl) rfl ?_
                    have hLe_ : ((l_.map encC) ++ (((tofP H (factP H 1)) p_).2.2.map encC)) = (jW (tofP H (factP H 1)) 2 i_ p_ l_).2.2.map encC := by rw [jW_n (fun q => absurd q.1 (by omega))]; first | (simp only [List.map_append, List.append_assoc]; done) | (simp only [List.map_append, List.append_assoc]; rfl)
                    have hLl_ : (jW (tofP H (factP H 1)) 2 i_ p_ l_).2.2.length = l_.length + ((tofP H (factP H 1)) p_).2.2.length + 0 := by rw [jW_n (fun q => absurd q.1 (by omega))]; simp only [List.length_append, List.length_cons, List.length_nil]; omega
                    refine Ev.pick (L' := [(0, .ref rd), (1, .int 0), (2, .int 4), (3, .int (nI (i_ + 1)))]) [2, 3, 4, 0] rfl ?_
                    exact ih2 (i_ + 1) k_ (((tofP H (factP H 1)) p_).2.1 + 1) ((jW (tofP H (factP H 1)) 2 i_ p_ l_).2.2) v8_ σ10 (by omega) (by omega) (by have := hi3_ hok_; omega) ((jW_s hok_ hsep_).symm.trans hR_) (hH.lt hsep_ (by decide)) (by omega) (fun _ => by omega) hx12 (by rw [← hLe_]; exact hP15) ((ho2.tr ho4).tr (OffS.of (S := (fun o => o = rd ∨ o = tw)) ho13 (Or.inl rfl)))
                  · skip
                    exact absurd c72 (by decide)
                · skip
                  rw [must_x hsep_] at r9e hx12
                  have r9e := r9e.symm; subst r9e
                  have hP16 := hpa7.off ho13 (Ne.symm hne)
                  have hP17 := ht6.off ho13 (Ne.symm hrt)
                  refine e_val (y := 0) rfl ?_
                  refine e_if_ne (tgt := 77) (pc := 72) Xc (dT hX3_joined 37 rfl) rfl (fun c72 => ?_) (fun c72 => ?_)
                  · skip
                    exact absurd c72 (by decide)
                  · skip
                    refine e_iconst (v := 1) (pc := 75) Xc (dT hX3_joined 38 rfl) rfl ?_
                    refine e_zret (pc := 76) Xc hQ (dT hX3_joined 39 rfl) (Nat.le_refl _) (Nat.le_refl _) (Or.inr rfl) ?_
                    rw [lpJ_x (r := jW (tofP H (factP H 1)) 2 i_ p_ l_) (fun q => hsep_ q.2)] at hR_
                    rw [← hR_]
                    refine ⟨?_, ⟨_, hx12⟩, ?_, ((ho2.tr ho4).tr (OffS.of (S := (fun o => o = rd ∨ o = tw)) ho13 (Or.inl rfl)))⟩
                    · show _ = bI ((tofP H (factP H 1)) p_).1
                      rw [hok_]; rfl
                    · rw [jW_n (fun q => absurd q.1 (by omega))]
                      have h_ := hP17
                      simp only [List.map_append, List.append_assoc] at h_ ⊢
                      exact h_
            · skip
              have hi0_ : 0 < i_ := by
                rcases Nat.eq_zero_or_pos i_ with q | q
                · subst q; exact absurd (by decide) c36
                · exact q
              have hn1b_ := hn1_ hi0_
              have hi3b_ := hi3_ hok_
              refine e_aload_n (pc := 39) Xc (dT hX3_joined 22 rfl) 1 rfl ?_
              refine gf_X3_25 (pc := 40) Xc (dT hX3_joined 23 rfl) hx5.o rfl ?_
              refine e_iload_n (pc := 43) Xc (dT hX3_joined 24 rfl) 2 rfl ?_
              refine e_if_ne (tgt := 52) (pc := 44) Xc (dT hX3_joined 25 rfl) rfl (fun c44 => ?_) (fun c44 => ?_)
              · skip
                exact absurd c44 (by decide)
              · skip
                refine e_bipush (v := -3) (pc := 47) Xc (dT hX3_joined 26 rfl) rfl ?_
                refine e_goto (tgt := 54) (pc := 49) Xc (dT hX3_joined 27 rfl) rfl ?_
                refine cl_X3_81 (pc := 54) (k := 0) (n := 0) (S := []) Xc ht6.o (c4_write ht6 (n0 + ((l_.map encC) ++ (((tofP H (factP H 1)) p_).2.2.map encC)).length) upd_s (by simp only [List.length_append, List.length_map] at *; omega) (-3)) (dT hX3_joined 29 rfl) rfl (Nat.le_of_ble_eq_true rfl) (Nat.le_of_ble_eq_true rfl) (Nat.le_of_ble_eq_true rfl) rfl (Nat.le_of_ble_eq_true rfl) (fun σ19 hq20 => ?_)
                obtain ⟨ht21, ho22⟩ := hq20
                have ht21 : tP σ19 tw F4 T4 A4 n0 (((l_.map encC) ++ (((tofP H (factP H 1)) p_).2.2.map encC)) ++ [(-3)]) := tP_app ht21
                have hP23 := hx5.off ho22 hrt
                have hP24 := hpa7.off ho22 hpt
                refine e_aload_n (pc := 57) Xc (dT hX3_joined 30 rfl) 1 rfl ?_
                refine e_iload_n (pc := 58) Xc (dT hX3_joined 31 rfl) 2 rfl ?_
                refine e_if_ne (tgt := 67) (pc := 59) Xc (dT hX3_joined 32 rfl) rfl (fun c59 => ?_) (fun c59 => ?_)
                · skip
                  exact absurd c59 (by decide)
                · skip
                  refine e_bipush (v := 124) (pc := 62) Xc (dT hX3_joined 33 rfl) rfl ?_
                  refine e_goto (tgt := 69) (pc := 64) Xc (dT hX3_joined 34 rfl) rfl ?_
                  refine cl_X3_33 (pc := 69) (k := 0) (n := 0) (S := []) Xc hP23.o (c3_takes hP23 hP24 hH hTA hnt hF1 ((tofP H (factP H 1)) p_).2.1 rfl hi2_ hne 124) (dT hX3_joined 36 rfl) rfl (Nat.le_of_ble_eq_true rfl) (Nat.le_of_ble_eq_true rfl) (Nat.le_of_ble_eq_true rfl) rfl (Nat.le_of_ble_eq_true rfl) (fun r25 σ26 hq27 => ?_)
                  obtain ⟨r25e, hx28, ho29⟩ := hq27
                  rw [fR_3] at hx28
                  by_cases hsep_ : H ((tofP H (factP H 1)) p_).2.1 = 124
                  · skip
                    rw [must_t hsep_] at r25e hx28
                    have r25e := r25e.symm; subst r25e
                    have hP30 := hP24.off ho29 (Ne.symm hne)
                    have hP31 := ht21.off ho29 (Ne.symm hrt)
                    refine e_val (y := 1) rfl ?_
                    refine e_if_ne (tgt := 77) (pc := 72) Xc (dT hX3_joined 37 rfl) rfl (fun c72 => ?_) (fun c72 => ?_)
                    · skip
                      refine e_iincN (a := i_) (b := 1) (L' := [(3, .int (nI (i_ + 1))), (4, .int (bI ((tofP H (factP H 1)) p_).1)), (0, .ref rd), (1, .int 0), (2, .int 4)]) (pc := 77) Xc (dT hX3_joined 40 rfl) 4 rfl rfl (by decide) rfl ?_
                      refine e_goto (tgt := 2) (pc := 80) Xc (dT hX3_joined 41 rfl) rfl ?_
                      have hLe_ : (((l_.map encC) ++ (((tofP H (factP H 1)) p_).2.2.map encC)) ++ [(-3)]) = (jW (tofP H (factP H 1)) 2 i_ p_ l_).2.2.map encC := by rw [jW_y hi0_ hok_]; first | (simp only [List.map_append, List.append_assoc]; done) | (simp only [List.map_append, List.append_assoc]; rfl)
                      have hLl_ : (jW (tofP H (factP H 1)) 2 i_ p_ l_).2.2.length = l_.length + ((tofP H (factP H 1)) p_).2.2.length + 1 := by rw [jW_y hi0_ hok_]; simp only [List.length_append, List.length_cons, List.length_nil]; omega
                      refine Ev.pick (L' := [(0, .ref rd), (1, .int 0), (2, .int 4), (3, .int (nI (i_ + 1)))]) [2, 3, 4, 0] rfl ?_
                      exact ih2 (i_ + 1) k_ (((tofP H (factP H 1)) p_).2.1 + 1) ((jW (tofP H (factP H 1)) 2 i_ p_ l_).2.2) v8_ σ26 (by omega) (by omega) (by have := hi3_ hok_; omega) ((jW_s hok_ hsep_).symm.trans hR_) (hH.lt hsep_ (by decide)) (by omega) (fun _ => by omega) hx28 (by rw [← hLe_]; exact hP31) (((ho2.tr ho4).tr (OffS.of (S := (fun o => o = rd ∨ o = tw)) ho22 (Or.inr rfl))).tr (OffS.of (S := (fun o => o = rd ∨ o = tw)) ho29 (Or.inl rfl)))
                    · skip
                      exact absurd c72 (by decide)
                  · skip
                    rw [must_x hsep_] at r25e hx28
                    have r25e := r25e.symm; subst r25e
                    have hP32 := hP24.off ho29 (Ne.symm hne)
                    have hP33 := ht21.off ho29 (Ne.symm hrt)
                    refine e_val (y := 0) rfl ?_
                    refine e_if_ne (tgt := 77) (pc := 72) Xc (dT hX3_joined 37 rfl) rfl (fun c72 => ?_) (fun c72 => ?_)
                    · skip
                      exact absurd c72 (by decide)
                    · skip
                      refine e_iconst (v := 1) (pc := 75) Xc (dT hX3_joined 38 rfl) rfl ?_
                      refine e_zret (pc := 76) Xc hQ (dT hX3_joined 39 rfl) (Nat.le_refl _) (Nat.le_refl _) (Or.inr rfl) ?_
                      rw [lpJ_x (r := jW (tofP H (factP H 1)) 2 i_ p_ l_) (fun q => hsep_ q.2)] at hR_
                      rw [← hR_]
                      refine ⟨?_, ⟨_, hx28⟩, ?_, (((ho2.tr ho4).tr (OffS.of (S := (fun o => o = rd ∨ o = tw)) ho22 (Or.inr rfl))).tr (OffS.of (S := (fun o => o = rd ∨ o = tw)) ho29 (Or.inl rfl)))⟩
                      · show _ = bI ((tofP H (factP H 1)) p_).1
                        rw [hok_]; rfl
                      · rw [jW_y hi0_ hok_]
                        have h_ := hP33
                        simp only [List.map_append, List.append_assoc] at h_ ⊢
                        exact h_
          · skip
            have hok_ : ((tofP H (factP H 1)) p_).1 = false := bI_0.mp c30
            refine e_iconst (v := 0) (pc := 33) Xc (dT hX3_joined 18 rfl) rfl ?_
            refine e_zret (pc := 34) Xc hQ (dT hX3_joined 19 rfl) (Nat.le_refl _) (Nat.le_refl _) (Or.inl rfl) ?_
            rw [lpJ_x (r := jW (tofP H (factP H 1)) 2 i_ p_ l_) (fun q => by have q1 := q.1; rw [show (jW (tofP H (factP H 1)) 2 i_ p_ l_).1 = ((tofP H (factP H 1)) p_).1 from rfl, hok_] at q1; exact Bool.noConfusion q1)] at hR_
            rw [← hR_]
            refine ⟨?_, ⟨_, hx5⟩, ?_, (ho2.tr ho4)⟩
            · show _ = bI ((tofP H (factP H 1)) p_).1
              rw [hok_]; rfl
            · rw [jW_n (fun q => by rw [hok_] at q; exact Bool.noConfusion q.2)]
              have h_ := ht6
              simp only [List.map_append, List.append_assoc] at h_ ⊢
              exact h_
  refine Ev.pick (L' := [(0, .ref rd), (1, .int 0), (2, .int 4), (3, .int 0)]) [1, 2, 3, 0] rfl ?_
  exact lp2 ((100 - 0) + 1) 0 100 p ([] : List xI) (F 4) σ (Nat.lt_succ_self _) rfl (Nat.zero_le _) (by rw [jW_0]; rfl) hp hn (fun q => absurd q (Nat.lt_irrefl 0)) (by rw [fR_id hF3]; exact hP) (tP_nil hP4 hn0) OffS.rf
set_option maxRecDepth 100000 in
set_option maxHeartbeats 4000000 in
theorem c3_single2 {G : xG} {σ : xS} {rd pa tw : Nat} {F : Nat → Int32} {A : Nat → Nat → Int32} (hP : PX3 σ rd F (tR pa tw) A) {Fa : Nat → Int32} {Ta : Nat → Nat} {Aa : Nat → Nat → Int32} (hPa : PX2 σ pa Fa Ta Aa) {H : Nat → Int32} {nt : Nat} (hH : Hend H nt) (hTA : ∀ q, q < nt → Aa 1 q = H q) (hnt : nt ≤ 100) (hF1 : F 1 = nI nt) (p : Nat) (hF3 : F 3 = nI p) (hp : p ≤ nt) (hne : rd ≠ pa) {F4 : Nat → Int32} {T4 : Nat → Nat} {A4 : Nat → Nat → Int32} (hP4 : PX4 σ tw F4 T4 A4) (n0 : Nat) (hn0 : F4 3 = nI n0) (hn : n0 ≤ p) (hSg : ∀ q, isSg (H q)) (hrt : rd ≠ tw) (hpt : pa ≠ tw) : CI G yX3_single cX3_single 3 (some .boolean) 9 0 0 [.ref rd, .int 3] σ (fun z σ1 => z = bI (factP H 2 p).1 ∧ (∃ v, PX3 σ1 rd (upd (upd F 3 (nI (factP H 2 p).2.1)) 4 v) (tR pa tw) A) ∧ tP σ1 tw F4 T4 A4 n0 ((factP H 2 p).2.2.map encC) ∧ OffS (fun o => o = rd ∨ o = tw) σ σ1) := by
  refine Met.ofX (by decide +kernel) (Nat.le_of_ble_eq_true rfl) (fun μ Xc hQ hnm => ?_)
  have Xc : xC G μ cX3_single 3 RX3 (some .boolean) 9 0 0 := Xc
  show Ev G μ 3 0 0 0 [(0, .ref rd), (1, .int 3)] [] σ
  refine e_aload_n (pc := 0) Xc (dT hX3_single 0 rfl) 0 rfl ?_
  refine cl_X3_37 (pc := 1) (k := 0) (n := 0) (S := []) Xc hP.o (c3_sign hP hPa hH hTA hnt hF1 p hF3 hp hne) (dT hX3_single 1 rfl) rfl (Nat.le_of_ble_eq_true rfl) (Nat.le_of_ble_eq_true rfl) (Nat.le_of_ble_eq_true rfl) rfl (Nat.le_of_ble_eq_true rfl) (fun r1 σ2 hq3 => ?_)
  obtain ⟨r1e, r1s⟩ := hq3
  have r1e := r1e.symm; subst r1e; have r1s := r1s.symm; subst r1s
  refine e_istore_n (L' := [(2, .int (H p)), (0, .ref rd), (1, .int 3)]) (pc := 4) Xc (dT hX3_single 2 rfl) (by decide) rfl ?_
  refine e_iload_n (pc := 5) Xc (dT hX3_single 3 rfl) 0 rfl ?_
  refine e_bipush (v := 33) (pc := 6) Xc (dT hX3_single 4 rfl) rfl ?_
  refine e_icmp_eq (tgt := 22) (pc := 8) Xc (dT hX3_single 5 rfl) rfl (fun c8 => ?_) (fun c8 => ?_)
  · skip
    refine e_iload_n (pc := 22) Xc (dT hX3_single 12 rfl) 2 rfl ?_
    refine e_iconst (v := 5) (pc := 23) Xc (dT hX3_single 13 rfl) rfl ?_
    refine e_icmp_ltN (x := 3) (y := 5) (tgt := 29) (pc := 24) Xc (dT hX3_single 14 rfl) rfl (by omega) (by omega) (fun c24 => ?_) (fun c24 => ?_)
    · skip
      have hlt_ : p < nt := by
        rcases Nat.lt_or_ge p nt with q | q
        · exact q
        · have q2 := hH p q; first | (rw [q2] at c8; exact absurd c8 (by decide)) | (rw [q2] at c14; exact absurd c14 (by decide))
      refine e_aload_n (pc := 29) Xc (dT hX3_single 17 rfl) 1 rfl ?_
      refine e_dup (pc := 30) Xc (dT hX3_single 18 rfl) rfl ?_
      refine gf_X3_9 (pc := 31) Xc (dT hX3_single 19 rfl) hP.o rfl ?_
      refine e_val (y := nI p) hF3 ?_
      refine e_iconst (v := 1) (pc := 34) Xc (dT hX3_single 20 rfl) rfl ?_
      refine e_iaddN (a := p) (b := 1) (pc := 35) Xc (dT hX3_single 21 rfl) ?_
      refine pf_X3_9 (fs' := olX3 rd (upd F 3 (nI (p + 1))) (tR pa tw)) (pc := 36) Xc (dT hX3_single 22 rfl) hP.o (Nat.le_of_ble_eq_true rfl) rfl ?_
      refine Ev.gen (fun z => PX3 z rd (upd F 3 (nI (p + 1))) (tR pa tw) A) (hP.wf3 (x := nI (p + 1))) Off.set (fun σ4 hP5 ho6 => ?_)
      have hP7 := hPa.off ho6 (Ne.symm hne)
      have hP8 := hP4.off ho6 (Ne.symm hrt)
      refine e_iload_n (pc := 39) Xc (dT hX3_single 23 rfl) 0 rfl ?_
      refine e_bipush (v := 40) (pc := 40) Xc (dT hX3_single 24 rfl) rfl ?_
      refine e_icmp_ne (tgt := 71) (pc := 42) Xc (dT hX3_single 25 rfl) rfl (fun c42 => ?_) (fun c42 => ?_)
      · skip
        refine e_aload_n (pc := 71) Xc (dT hX3_single 41 rfl) 1 rfl ?_
        refine e_iload_n (pc := 72) Xc (dT hX3_single 42 rfl) 2 rfl ?_
        refine e_iconst (v := 1) (pc := 73) Xc (dT hX3_single 43 rfl) rfl ?_
        refine e_iaddN (a := 3) (b := 1) (pc := 74) Xc (dT hX3_single 44 rfl) ?_
        refine e_val (y := 4) rfl ?_
        refine cl_X3_77 (pc := 75) (k := 0) (n := 0) (S := []) Xc (c3_single1 hP5 hP7 hH hTA hnt hF1 (p + 1) upd_s (by omega) hne hP8 n0 hn0 (by omega) hSg hrt hpt) (dT hX3_single 45 rfl) rfl (Nat.le_of_ble_eq_true rfl) (Nat.le_of_ble_eq_true rfl) (Nat.le_of_ble_eq_true rfl) rfl (Nat.le_of_ble_eq_true rfl) (fun r9 σ10 hq11 => ?_)
        obtain ⟨r9e, ⟨v16_, hx13⟩, ht14, ho12⟩ := hq11
        have r9e := r9e.symm; subst r9e
        have hx13 : PX3 σ10 rd (fR F (factP H 1 (p + 1)).2.1 v16_) (tR pa tw) A := by
          have h_ := hx13
          first | (rw [fR_2] at h_; exact h_) | (rw [fR_4, fR_2] at h_; exact h_) | exact h_
        have ht14 : tP σ10 tw F4 T4 A4 n0 ((factP H 1 (p + 1)).2.2.map encC) := ht14
        have hpa15 := (hP7).cg (fun i => ho12.cell (fun e => e.elim (fun q => hne q.symm) hpt) i)
        obtain ⟨hi1_, hi2_, hi3_, hi4_⟩ : goP nt (p + 1) (factP H 1 (p + 1)) := factP_go hH 1 (p + 1) (by omega)
        have hlm_ : ((factP H 1 (p + 1)).2.2.map encC).length = (factP H 1 (p + 1)).2.2.length := List.length_map _
        refine e_if_ne (tgt := 83) (pc := 78) Xc (dT hX3_single 46 rfl) rfl (fun c78 => ?_) (fun c78 => ?_)
        · skip
          have hok_ : (factP H 1 (p + 1)).1 = true := by cases q_ : (factP H 1 (p + 1)).1; exact absurd (show bI (factP H 1 (p + 1)).1 = 0 by rw [q_]; rfl) c78; rfl
          refine e_aload_n (pc := 83) Xc (dT hX3_single 49 rfl) 1 rfl ?_
          refine gf_X3_25 (pc := 84) Xc (dT hX3_single 50 rfl) hx13.o rfl ?_
          refine e_iconst (v := -1) (pc := 87) Xc (dT hX3_single 51 rfl) rfl ?_
          refine cl_X3_81 (pc := 88) (k := 0) (n := 0) (S := []) Xc ht14.o (c4_write ht14 (n0 + ((factP H 1 (p + 1)).2.2.map encC).length) upd_s (by simp only [List.length_append, List.length_map] at *; omega) (-1)) (dT hX3_single 52 rfl) rfl (Nat.le_of_ble_eq_true rfl) (Nat.le_of_ble_eq_true rfl) (Nat.le_of_ble_eq_true rfl) rfl (Nat.le_of_ble_eq_true rfl) (fun σ18 hq19 => ?_)
          obtain ⟨ht20, ho21⟩ := hq19
          have ht20 : tP σ18 tw F4 T4 A4 n0 (((factP H 1 (p + 1)).2.2.map encC) ++ [(-1)]) := tP_app ht20
          have hP22 := hx13.off ho21 hrt
          have hP23 := hpa15.off ho21 hpt
          refine e_iconst (v := 1) (pc := 91) Xc (dT hX3_single 53 rfl) rfl ?_
          refine e_zret (pc := 92) Xc hQ (dT hX3_single 54 rfl) (Nat.le_refl _) (Nat.le_refl _) (Or.inr rfl) ?_
          rw [fa_bang c8]
          refine ⟨by show _ = bI (factP H 1 (p + 1)).1; rw [hok_]; rfl, ⟨_, hP22⟩, ?_, (((OffS.of (S := (fun o => o = rd ∨ o = tw)) ho6 (Or.inl rfl)).tr ho12).tr (OffS.of (S := (fun o => o = rd ∨ o = tw)) ho21 (Or.inr rfl)))⟩
          rw [if_pos hok_]
          have h_ := ht20
          simp only [List.map_append] at h_ ⊢
          exact h_
        · skip
          have hok_ : (factP H 1 (p + 1)).1 = false := bI_0.mp c78
          refine e_iconst (v := 0) (pc := 81) Xc (dT hX3_single 47 rfl) rfl ?_
          refine e_zret (pc := 82) Xc hQ (dT hX3_single 48 rfl) (Nat.le_refl _) (Nat.le_refl _) (Or.inl rfl) ?_
          rw [fa_bang c8]
          refine ⟨by show _ = bI (factP H 1 (p + 1)).1; rw [hok_]; rfl, ⟨_, hx13⟩, ?_, ((OffS.of (S := (fun o => o = rd ∨ o = tw)) ho6 (Or.inl rfl)).tr ho12)⟩
          rw [if_neg (by rw [hok_]; decide), List.append_nil]
          exact ht14
      · skip
        exact absurd (c8.symm.trans c42) (by decide)
    · skip
      exact absurd c24 (by decide)
  · skip
    refine e_iload_n (pc := 11) Xc (dT hX3_single 6 rfl) 0 rfl ?_
    refine e_bipush (v := 40) (pc := 12) Xc (dT hX3_single 7 rfl) rfl ?_
    refine e_icmp_eq (tgt := 22) (pc := 14) Xc (dT hX3_single 8 rfl) rfl (fun c14 => ?_) (fun c14 => ?_)
    · skip
      refine e_iload_n (pc := 22) Xc (dT hX3_single 12 rfl) 2 rfl ?_
      refine e_iconst (v := 5) (pc := 23) Xc (dT hX3_single 13 rfl) rfl ?_
      refine e_icmp_ltN (x := 3) (y := 5) (tgt := 29) (pc := 24) Xc (dT hX3_single 14 rfl) rfl (by omega) (by omega) (fun c24 => ?_) (fun c24 => ?_)
      · skip
        have hlt_ : p < nt := by
          rcases Nat.lt_or_ge p nt with q | q
          · exact q
          · have q2 := hH p q; first | (rw [q2] at c8; exact absurd c8 (by decide)) | (rw [q2] at c14; exact absurd c14 (by decide))
        refine e_aload_n (pc := 29) Xc (dT hX3_single 17 rfl) 1 rfl ?_
        refine e_dup (pc := 30) Xc (dT hX3_single 18 rfl) rfl ?_
        refine gf_X3_9 (pc := 31) Xc (dT hX3_single 19 rfl) hP.o rfl ?_
        refine e_val (y := nI p) hF3 ?_
        refine e_iconst (v := 1) (pc := 34) Xc (dT hX3_single 20 rfl) rfl ?_
        refine e_iaddN (a := p) (b := 1) (pc := 35) Xc (dT hX3_single 21 rfl) ?_
        refine pf_X3_9 (fs' := olX3 rd (upd F 3 (nI (p + 1))) (tR pa tw)) (pc := 36) Xc (dT hX3_single 22 rfl) hP.o (Nat.le_of_ble_eq_true rfl) rfl ?_
        refine Ev.gen (fun z => PX3 z rd (upd F 3 (nI (p + 1))) (tR pa tw) A) (hP.wf3 (x := nI (p + 1))) Off.set (fun σ24 hP25 ho26 => ?_)
        have hP27 := hPa.off ho26 (Ne.symm hne)
        have hP28 := hP4.off ho26 (Ne.symm hrt)
        refine e_iload_n (pc := 39) Xc (dT hX3_single 23 rfl) 0 rfl ?_
        refine e_bipush (v := 40) (pc := 40) Xc (dT hX3_single 24 rfl) rfl ?_
        refine e_icmp_ne (tgt := 71) (pc := 42) Xc (dT hX3_single 25 rfl) rfl (fun c42 => ?_) (fun c42 => ?_)
        · skip
          exact absurd c14 c42
        · skip
          refine e_aload_n (pc := 45) Xc (dT hX3_single 26 rfl) 1 rfl ?_
          refine e_iconst (v := 0) (pc := 46) Xc (dT hX3_single 27 rfl) rfl ?_
          refine e_iload_n (pc := 47) Xc (dT hX3_single 28 rfl) 2 rfl ?_
          refine e_iconst (v := 1) (pc := 48) Xc (dT hX3_single 29 rfl) rfl ?_
          refine e_iaddN (a := 3) (b := 1) (pc := 49) Xc (dT hX3_single 30 rfl) ?_
          refine e_val (y := 4) rfl ?_
          refine cl_X3_51 (pc := 50) (k := 0) (n := 0) (S := []) Xc (c3_joinE1 hP25 hP27 hH hTA hnt hF1 (p + 1) upd_s (by omega) hne hP28 n0 hn0 (by omega) hSg hrt hpt) (dT hX3_single 31 rfl) rfl (Nat.le_of_ble_eq_true rfl) (Nat.le_of_ble_eq_true rfl) (Nat.le_of_ble_eq_true rfl) rfl (Nat.le_of_ble_eq_true rfl) (fun r29 σ30 hq31 => ?_)
          obtain ⟨r29e, ⟨v36_, hx33⟩, ht34, ho32⟩ := hq31
          have r29e := r29e.symm; subst r29e
          have hx33 : PX3 σ30 rd (fR F (eofP H (factP H 1) (p + 1)).2.1 v36_) (tR pa tw) A := by
            have h_ := hx33
            first | (rw [fR_2] at h_; exact h_) | (rw [fR_4, fR_2] at h_; exact h_) | exact h_
          have ht34 : tP σ30 tw F4 T4 A4 n0 ((eofP H (factP H 1) (p + 1)).2.2.map encC) := ht34
          have hpa35 := (hP27).cg (fun i => ho32.cell (fun e => e.elim (fun q => hne q.symm) hpt) i)
          obtain ⟨hi1_, hi2_, hi3_, hi4_⟩ : goP nt (p + 1) (eofP H (factP H 1) (p + 1)) := eofP_go hH (fun q hq => factP_go hH 1 q hq) (by omega)
          have hlm_ : ((eofP H (factP H 1) (p + 1)).2.2.map encC).length = (eofP H (factP H 1) (p + 1)).2.2.length := List.length_map _
          refine e_if_eq (tgt := 69) (pc := 53) Xc (dT hX3_single 32 rfl) rfl (fun c53 => ?_) (fun c53 => ?_)
          · skip
            have hok_ : (eofP H (factP H 1) (p + 1)).1 = false := bI_0.mp c53
            refine e_iconst (v := 0) (pc := 69) Xc (dT hX3_single 39 rfl) rfl ?_
            refine e_zret (pc := 70) Xc hQ (dT hX3_single 40 rfl) (Nat.le_refl _) (Nat.le_refl _) (Or.inl rfl) ?_
            rw [fa_par c8 c14, show ((eofP H (factP H 1) (p + 1)).1, (eofP H (factP H 1) (p + 1)).2.1) = (false, (eofP H (factP H 1) (p + 1)).2.1) from Prod.ext hok_ rfl, must_f]
            exact ⟨rfl, ⟨_, hx33⟩, ht34, ((OffS.of (S := (fun o => o = rd ∨ o = tw)) ho26 (Or.inl rfl)).tr ho32)⟩
          · skip
            have hok_ : (eofP H (factP H 1) (p + 1)).1 = true := by cases q_ : (eofP H (factP H 1) (p + 1)).1; exact absurd (show bI (eofP H (factP H 1) (p + 1)).1 = 0 by rw [q_]; rfl) c53; rfl
            refine e_aload_n (pc := 56) Xc (dT hX3_single 33 rfl) 1 rfl ?_
            refine e_bipush (v := 41) (pc := 57) Xc (dT hX3_single 34 rfl) rfl ?_
            refine cl_X3_33 (pc := 59) (k := 0) (n := 0) (S := []) Xc hx33.o (c3_takes hx33 hpa35 hH hTA hnt hF1 (eofP H (factP H 1) (p + 1)).2.1 rfl hi2_ hne 41) (dT hX3_single 35 rfl) rfl (Nat.le_of_ble_eq_true rfl) (Nat.le_of_ble_eq_true rfl) (Nat.le_of_ble_eq_true rfl) rfl (Nat.le_of_ble_eq_true rfl) (fun r37 σ38 hq39 => ?_)
            obtain ⟨r37e, hx40, ho41⟩ := hq39
            have r37e := r37e.symm; subst r37e
            rw [fR_3] at hx40
            have hP42 := hpa35.off ho41 (Ne.symm hne)
            have hP43 := ht34.off ho41 (Ne.symm hrt)
            refine e_if_eq (tgt := 69) (pc := 62) Xc (dT hX3_single 36 rfl) rfl (fun c62 => ?_) (fun c62 => ?_)
            · skip
              refine e_iconst (v := 0) (pc := 69) Xc (dT hX3_single 39 rfl) rfl ?_
              refine e_zret (pc := 70) Xc hQ (dT hX3_single 40 rfl) (Nat.le_refl _) (Nat.le_refl _) (Or.inl rfl) ?_
              have hmb_ : (mustP H 41 (true, (eofP H (factP H 1) (p + 1)).2.1)).1 = false := bI_0.mp c62
              rw [fa_par c8 c14, show ((eofP H (factP H 1) (p + 1)).1, (eofP H (factP H 1) (p + 1)).2.1) = (true, (eofP H (factP H 1) (p + 1)).2.1) from Prod.ext hok_ rfl]
              exact ⟨by show _ = bI (mustP H 41 (true, (eofP H (factP H 1) (p + 1)).2.1)).1; rw [hmb_]; rfl, ⟨_, hx40⟩, hP43, (((OffS.of (S := (fun o => o = rd ∨ o = tw)) ho26 (Or.inl rfl)).tr ho32).tr (OffS.of (S := (fun o => o = rd ∨ o = tw)) ho41 (Or.inl rfl)))⟩
            · skip
              refine e_iconst (v := 1) (pc := 65) Xc (dT hX3_single 37 rfl) rfl ?_
              refine e_goto (tgt := 70) (pc := 66) Xc (dT hX3_single 38 rfl) rfl ?_
              refine e_zret (pc := 70) Xc hQ (dT hX3_single 40 rfl) (Nat.le_refl _) (Nat.le_refl _) (Or.inr rfl) ?_
              have hmb_ : (mustP H 41 (true, (eofP H (factP H 1) (p + 1)).2.1)).1 = true := by cases q_ : (mustP H 41 (true, (eofP H (factP H 1) (p + 1)).2.1)).1; exact absurd (show bI (mustP H 41 (true, (eofP H (factP H 1) (p + 1)).2.1)).1 = 0 by rw [q_]; rfl) c62; rfl
              rw [fa_par c8 c14, show ((eofP H (factP H 1) (p + 1)).1, (eofP H (factP H 1) (p + 1)).2.1) = (true, (eofP H (factP H 1) (p + 1)).2.1) from Prod.ext hok_ rfl]
              exact ⟨by show _ = bI (mustP H 41 (true, (eofP H (factP H 1) (p + 1)).2.1)).1; rw [hmb_]; rfl, ⟨_, hx40⟩, hP43, (((OffS.of (S := (fun o => o = rd ∨ o = tw)) ho26 (Or.inl rfl)).tr ho32).tr (OffS.of (S := (fun o => o = rd ∨ o = tw)) ho41 (Or.inl rfl)))⟩
      · skip
        exact absurd c24 (by decide)
    · skip
      refine e_aload_n (pc := 17) Xc (dT hX3_single 9 rfl) 1 rfl ?_
      refine cl_X3_84 (pc := 18) (k := 0) (n := 0) (S := []) Xc hP.o (c3_testing hP hPa hH hTA hnt hF1 p hF3 hp hne hP4 n0 hn0 hn hSg hrt hpt) (dT hX3_single 10 rfl) rfl (Nat.le_of_ble_eq_true rfl) (Nat.le_of_ble_eq_true rfl) (Nat.le_of_ble_eq_true rfl) rfl (Nat.le_of_ble_eq_true rfl) (fun r44 σ45 hq46 => ?_)
      obtain ⟨r44e, hx3_, hx4_, ho47⟩ := hq46
      have r44e := r44e.symm; subst r44e
      refine e_zret (pc := 21) Xc hQ (dT hX3_single 11 rfl) (Nat.le_refl _) (Nat.le_refl _) (bI_or _) ?_
      rw [fa_test c8 c14]
      exact ⟨rfl, hx3_, hx4_, ho47⟩
set_option maxRecDepth 100000 in
set_option maxHeartbeats 4000000 in
theorem c3_joinT2 {G : xG} {σ : xS} {rd pa tw : Nat} {F : Nat → Int32} {A : Nat → Nat → Int32} (hP : PX3 σ rd F (tR pa tw) A) {Fa : Nat → Int32} {Ta : Nat → Nat} {Aa : Nat → Nat → Int32} (hPa : PX2 σ pa Fa Ta Aa) {H : Nat → Int32} {nt : Nat} (hH : Hend H nt) (hTA : ∀ q, q < nt → Aa 1 q = H q) (hnt : nt ≤ 100) (hF1 : F 1 = nI nt) (p : Nat) (hF3 : F 3 = nI p) (hp : p ≤ nt) (hne : rd ≠ pa) {F4 : Nat → Int32} {T4 : Nat → Nat} {A4 : Nat → Nat → Int32} (hP4 : PX4 σ tw F4 T4 A4) (n0 : Nat) (hn0 : F4 3 = nI n0) (hn : n0 ≤ p) (hSg : ∀ q, isSg (H q)) (hrt : rd ≠ tw) (hpt : pa ≠ tw) : CI G yX3_joined cX3_joined 5 (some .boolean) 10 0 0 [.ref rd, .int 1, .int 3] σ (fun z σ1 => z = bI (tofP H (factP H 2) p).1 ∧ (∃ v, PX3 σ1 rd (upd (upd F 3 (nI (tofP H (factP H 2) p).2.1)) 4 v) (tR pa tw) A) ∧ tP σ1 tw F4 T4 A4 n0 ((tofP H (factP H 2) p).2.2.map encC) ∧ OffS (fun o => o = rd ∨ o = tw) σ σ1) := by
  refine Met.ofX (by decide +kernel) (Nat.le_of_ble_eq_true rfl) (fun μ Xc hQ hnm => ?_)
  have Xc : xC G μ cX3_joined 5 RX3 (some .boolean) 10 0 0 := Xc
  show Ev G μ 5 0 0 0 [(0, .ref rd), (1, .int 1), (2, .int 3)] [] σ
  refine e_iconst (v := 0) (pc := 0) Xc (dT hX3_joined 0 rfl) rfl ?_
  refine e_istore_n (L' := [(3, .int 0), (0, .ref rd), (1, .int 1), (2, .int 3)]) (pc := 1) Xc (dT hX3_joined 1 rfl) (by decide) rfl ?_
  have lp2 : ∀ (n2 : Nat) (i_ k_ p_ : Nat) (l_ : List xI) (v_ : Int32) (σ2 : xS), 100 - i_ < n2 → (i_ + k_ = 100) → (2 * i_ ≤ p_) → (lpJ H (factP H 2) 38 1 k_ (jW (factP H 2) 1 i_ p_ l_) = (tofP H (factP H 2) p)) → (p_ ≤ nt) → (n0 + l_.length ≤ p_) → (0 < i_ → n0 + l_.length + 1 ≤ p_) → (PX3 σ2 rd (fR F p_ v_) (tR pa tw) A) → (tP σ2 tw F4 T4 A4 n0 (l_.map encC)) → (OffS (fun o => o = rd ∨ o = tw) σ σ2) → Ev G μ 5 0 0 2 [(0, .ref rd), (1, .int 1), (2, .int 3), (3, .int (nI i_))] [] σ2 := by
    intro n2
    induction n2 with
    | zero => intro i_ k_ p_ l_ v_ σ2 hn; exact absurd hn (Nat.not_lt_zero _)
    | succ n2 ih2 =>
      intro i_ k_ p_ l_ v_ σ2 hn2 hik_ h2i_ hR_ hpn_ hnl_ hn1_ hx2 ht2 ho2
      have hpa2 := hPa.cg (fun i => ho2.cell (fun e => e.elim (fun q => hne q.symm) hpt) i)
      obtain ⟨k_, rfl⟩ : ∃ k, k_ = k + 1 := ⟨k_ - 1, by omega⟩
      have hll_ : (l_.map encC).length = l_.length := List.length_map _
      refine e_iload_n (pc := 2) Xc (dT hX3_joined 2 rfl) 3 rfl ?_
      refine e_bipush (v := 100) (pc := 3) Xc (dT hX3_joined 3 rfl) rfl ?_
      refine e_icmp_geN (x := i_) (y := 100) (tgt := 83) (pc := 5) Xc (dT hX3_joined 4 rfl) rfl (by omega) (by omega) (fun c5 => ?_) (fun c5 => ?_)
      · skip
        exact absurd c5 (by omega)
      · skip
        refine e_iload_n (pc := 8) Xc (dT hX3_joined 5 rfl) 1 rfl ?_
        refine e_if_ne (tgt := 21) (pc := 9) Xc (dT hX3_joined 6 rfl) rfl (fun c9 => ?_) (fun c9 => ?_)
        · skip
          refine e_aload_n (pc := 21) Xc (dT hX3_joined 12 rfl) 0 rfl ?_
          refine e_iload_n (pc := 22) Xc (dT hX3_joined 13 rfl) 2 rfl ?_
          refine cl_X3_77 (pc := 23) (k := 0) (n := 0) (S := []) Xc (c3_single2 hx2 hpa2 hH hTA hnt hF1 p_ rfl hpn_ hne ht2 (n0 + (l_.map encC).length) upd_s (by rw [List.length_map]; omega) hSg hrt hpt) (dT hX3_joined 14 rfl) rfl (Nat.le_of_ble_eq_true rfl) (Nat.le_of_ble_eq_true rfl) (Nat.le_of_ble_eq_true rfl) rfl (Nat.le_of_ble_eq_true rfl) (fun r1 σ2 hq3 => ?_)
          obtain ⟨r1e, ⟨v8_, hx5⟩, ht6, ho4⟩ := hq3
          have r1e := r1e.symm; subst r1e
          have hx5 : PX3 σ2 rd (fR F ((factP H 2) p_).2.1 v8_) (tR pa tw) A := by
            have h_ := hx5
            first | (rw [fR_2] at h_; exact h_) | (rw [fR_4, fR_2] at h_; exact h_) | exact h_
          have ht6 := tP_app ht6
          have ht6 : tP σ2 tw F4 T4 A4 n0 ((l_.map encC) ++ (((factP H 2) p_).2.2.map encC)) := ht6
          have hpa7 := (hpa2).cg (fun i => ho4.cell (fun e => e.elim (fun q => hne q.symm) hpt) i)
          obtain ⟨hi1_, hi2_, hi3_, hi4_⟩ : goP nt p_ ((factP H 2) p_) := factP_go hH 2 p_ hpn_
          have hlm_ : (((factP H 2) p_).2.2.map encC).length = ((factP H 2) p_).2.2.length := List.length_map _
          refine e_istore (L' := [(4, .int (bI ((factP H 2) p_).1)), (0, .ref rd), (1, .int 1), (2, .int 3), (3, .int (nI i_))]) (pc := 26) Xc (dT hX3_joined 15 rfl) (by decide) rfl ?_
          refine e_iload (pc := 28) Xc (dT hX3_joined 16 rfl) 0 rfl ?_
          refine e_if_ne (tgt := 35) (pc := 30) Xc (dT hX3_joined 17 rfl) rfl (fun c30 => ?_) (fun c30 => ?_)
          · skip
            have hok_ : ((factP H 2) p_).1 = true := by cases q_ : ((factP H 2) p_).1; exact absurd (show bI ((factP H 2) p_).1 = 0 by rw [q_]; rfl) c30; rfl
            refine e_iload_n (pc := 35) Xc (dT hX3_joined 20 rfl) 4 rfl ?_
            refine e_if_le (tgt := 57) (pc := 36) Xc (dT hX3_joined 21 rfl) rfl (fun c36 => ?_) (fun c36 => ?_)
            · skip
              have hi0_ : i_ = 0 := by
                rcases Nat.eq_zero_or_pos i_ with q | q
                · exact q
                · exact absurd c36 (nI_nle0 q (by omega))
              refine e_aload_n (pc := 57) Xc (dT hX3_joined 30 rfl) 1 rfl ?_
              refine e_iload_n (pc := 58) Xc (dT hX3_joined 31 rfl) 2 rfl ?_
              refine e_if_ne (tgt := 67) (pc := 59) Xc (dT hX3_joined 32 rfl) rfl (fun c59 => ?_) (fun c59 => ?_)
              · skip
                refine e_bipush (v := 38) (pc := 67) Xc (dT hX3_joined 35 rfl) rfl ?_
                refine cl_X3_33 (pc := 69) (k := 0) (n := 0) (S := []) Xc hx5.o (c3_takes hx5 hpa7 hH hTA hnt hF1 ((factP H 2) p_).2.1 rfl hi2_ hne 38) (dT hX3_joined 36 rfl) rfl (Nat.le_of_ble_eq_true rfl) (Nat.le_of_ble_eq_true rfl) (Nat.le_of_ble_eq_true rfl) rfl (Nat.le_of_ble_eq_true rfl) (fun r9 σ10 hq11 => ?_)
                obtain ⟨r9e, hx12, ho13⟩ := hq11
                rw [fR_3] at hx12
                by_cases hsep_ : H ((factP H 2) p_).2.1 = 38
                · skip
                  rw [must_t hsep_] at r9e hx12
                  have r9e := r9e.symm; subst r9e
                  have hP14 := hpa7.off ho13 (Ne.symm hne)
                  have hP15 := ht6.off ho13 (Ne.symm hrt)
                  refine e_val (y := 1) rfl ?_
                  refine e_if_ne (tgt := 77) (pc := 72) Xc (dT hX3_joined 37 rfl) rfl (fun c72 => ?_) (fun c72 => ?_)
                  · skip
                    refine e_iincN (a := i_) (b := 1) (L' := [(3, .int (nI (i_ + 1))), (4, .int (bI ((factP H 2) p_).1)), (0, .ref rd), (1, .int 1), (2, .int 3)]) (pc := 77) Xc (dT hX3_joined 40 rfl) 4 rfl rfl (by decide) rfl ?_
                    refine e_goto (tgt := 2) (pc := 80) Xc (dT hX3_joined 41 rfl) rfl ?_
                    have hLe_ : ((l_.map encC) ++ (((factP H 2) p_).2.2.map encC)) = (jW (factP H 2) 1 i_ p_ l_).2.2.map encC := by rw [jW_n (fun q => absurd q.1 (by omega))]; first | (simp only [List.map_append, List.append_assoc]; done) | (simp only [List.map_append, List.append_assoc]; rfl)
                    have hLl_ : (jW (factP H 2) 1 i_ p_ l_).2.2.length = l_.length + ((factP H 2) p_).2.2.length + 0 := by rw [jW_n (fun q => absurd q.1 (by omega))]; simp only [List.length_append, List.length_cons, List.length_nil]; omega
                    refine Ev.pick (L' := [(0, .ref rd), (1, .int 1), (2, .int 3), (3, .int (nI (i_ + 1)))]) [2, 3, 4, 0] rfl ?_
                    exact ih2 (i_ + 1) k_ (((factP H 2) p_).2.1 + 1) ((jW (factP H 2) 1 i_ p_ l_).2.2) v8_ σ10 (by omega) (by omega) (by have := hi3_ hok_; omega) ((jW_s hok_ hsep_).symm.trans hR_) (hH.lt hsep_ (by decide)) (by omega) (fun _ => by omega) hx12 (by rw [← hLe_]; exact hP15) ((ho2.tr ho4).tr (OffS.of (S := (fun o => o = rd ∨ o = tw)) ho13 (Or.inl rfl)))
                  · skip
                    exact absurd c72 (by decide)
                · skip
                  rw [must_x hsep_] at r9e hx12
                  have r9e := r9e.symm; subst r9e
                  have hP16 := hpa7.off ho13 (Ne.symm hne)
                  have hP17 := ht6.off ho13 (Ne.symm hrt)
                  refine e_val (y := 0) rfl ?_
                  refine e_if_ne (tgt := 77) (pc := 72) Xc (dT hX3_joined 37 rfl) rfl (fun c72 => ?_) (fun c72 => ?_)
                  · skip
                    exact absurd c72 (by decide)
                  · skip
                    refine e_iconst (v := 1) (pc := 75) Xc (dT hX3_joined 38 rfl) rfl ?_
                    refine e_zret (pc := 76) Xc hQ (dT hX3_joined 39 rfl) (Nat.le_refl _) (Nat.le_refl _) (Or.inr rfl) ?_
                    rw [lpJ_x (r := jW (factP H 2) 1 i_ p_ l_) (fun q => hsep_ q.2)] at hR_
                    rw [← hR_]
                    refine ⟨?_, ⟨_, hx12⟩, ?_, ((ho2.tr ho4).tr (OffS.of (S := (fun o => o = rd ∨ o = tw)) ho13 (Or.inl rfl)))⟩
                    · show _ = bI ((factP H 2) p_).1
                      rw [hok_]; rfl
                    · rw [jW_n (fun q => absurd q.1 (by omega))]
                      have h_ := hP17
                      simp only [List.map_append, List.append_assoc] at h_ ⊢
                      exact h_
              · skip
                exact absurd c59 (by decide)
            · skip
              have hi0_ : 0 < i_ := by
                rcases Nat.eq_zero_or_pos i_ with q | q
                · subst q; exact absurd (by decide) c36
                · exact q
              have hn1b_ := hn1_ hi0_
              have hi3b_ := hi3_ hok_
              refine e_aload_n (pc := 39) Xc (dT hX3_joined 22 rfl) 1 rfl ?_
              refine gf_X3_25 (pc := 40) Xc (dT hX3_joined 23 rfl) hx5.o rfl ?_
              refine e_iload_n (pc := 43) Xc (dT hX3_joined 24 rfl) 2 rfl ?_
              refine e_if_ne (tgt := 52) (pc := 44) Xc (dT hX3_joined 25 rfl) rfl (fun c44 => ?_) (fun c44 => ?_)
              · skip
                refine e_bipush (v := -2) (pc := 52) Xc (dT hX3_joined 28 rfl) rfl ?_
                refine cl_X3_81 (pc := 54) (k := 0) (n := 0) (S := []) Xc ht6.o (c4_write ht6 (n0 + ((l_.map encC) ++ (((factP H 2) p_).2.2.map encC)).length) upd_s (by simp only [List.length_append, List.length_map] at *; omega) (-2)) (dT hX3_joined 29 rfl) rfl (Nat.le_of_ble_eq_true rfl) (Nat.le_of_ble_eq_true rfl) (Nat.le_of_ble_eq_true rfl) rfl (Nat.le_of_ble_eq_true rfl) (fun σ19 hq20 => ?_)
                obtain ⟨ht21, ho22⟩ := hq20
                have ht21 : tP σ19 tw F4 T4 A4 n0 (((l_.map encC) ++ (((factP H 2) p_).2.2.map encC)) ++ [(-2)]) := tP_app ht21
                have hP23 := hx5.off ho22 hrt
                have hP24 := hpa7.off ho22 hpt
                refine e_aload_n (pc := 57) Xc (dT hX3_joined 30 rfl) 1 rfl ?_
                refine e_iload_n (pc := 58) Xc (dT hX3_joined 31 rfl) 2 rfl ?_
                refine e_if_ne (tgt := 67) (pc := 59) Xc (dT hX3_joined 32 rfl) rfl (fun c59 => ?_) (fun c59 => ?_)
                · skip
                  refine e_bipush (v := 38) (pc := 67) Xc (dT hX3_joined 35 rfl) rfl ?_
                  refine cl_X3_33 (pc := 69) (k := 0) (n := 0) (S := []) Xc hP23.o (c3_takes hP23 hP24 hH hTA hnt hF1 ((factP H 2) p_).2.1 rfl hi2_ hne 38) (dT hX3_joined 36 rfl) rfl (Nat.le_of_ble_eq_true rfl) (Nat.le_of_ble_eq_true rfl) (Nat.le_of_ble_eq_true rfl) rfl (Nat.le_of_ble_eq_true rfl) (fun r25 σ26 hq27 => ?_)
                  obtain ⟨r25e, hx28, ho29⟩ := hq27
                  rw [fR_3] at hx28
                  by_cases hsep_ : H ((factP H 2) p_).2.1 = 38
                  · skip
                    rw [must_t hsep_] at r25e hx28
                    have r25e := r25e.symm; subst r25e
                    have hP30 := hP24.off ho29 (Ne.symm hne)
                    have hP31 := ht21.off ho29 (Ne.symm hrt)
                    refine e_val (y := 1) rfl ?_
                    refine e_if_ne (tgt := 77) (pc := 72) Xc (dT hX3_joined 37 rfl) rfl (fun c72 => ?_) (fun c72 => ?_)
                    · skip
                      refine e_iincN (a := i_) (b := 1) (L' := [(3, .int (nI (i_ + 1))), (4, .int (bI ((factP H 2) p_).1)), (0, .ref rd), (1, .int 1), (2, .int 3)]) (pc := 77) Xc (dT hX3_joined 40 rfl) 4 rfl rfl (by decide) rfl ?_
                      refine e_goto (tgt := 2) (pc := 80) Xc (dT hX3_joined 41 rfl) rfl ?_
                      have hLe_ : (((l_.map encC) ++ (((factP H 2) p_).2.2.map encC)) ++ [(-2)]) = (jW (factP H 2) 1 i_ p_ l_).2.2.map encC := by rw [jW_y hi0_ hok_]; first | (simp only [List.map_append, List.append_assoc]; done) | (simp only [List.map_append, List.append_assoc]; rfl)
                      have hLl_ : (jW (factP H 2) 1 i_ p_ l_).2.2.length = l_.length + ((factP H 2) p_).2.2.length + 1 := by rw [jW_y hi0_ hok_]; simp only [List.length_append, List.length_cons, List.length_nil]; omega
                      refine Ev.pick (L' := [(0, .ref rd), (1, .int 1), (2, .int 3), (3, .int (nI (i_ + 1)))]) [2, 3, 4, 0] rfl ?_
                      exact ih2 (i_ + 1) k_ (((factP H 2) p_).2.1 + 1) ((jW (factP H 2) 1 i_ p_ l_).2.2) v8_ σ26 (by omega) (by omega) (by have := hi3_ hok_; omega) ((jW_s hok_ hsep_).symm.trans hR_) (hH.lt hsep_ (by decide)) (by omega) (fun _ => by omega) hx28 (by rw [← hLe_]; exact hP31) (((ho2.tr ho4).tr (OffS.of (S := (fun o => o = rd ∨ o = tw)) ho22 (Or.inr rfl))).tr (OffS.of (S := (fun o => o = rd ∨ o = tw)) ho29 (Or.inl rfl)))
                    · skip
                      exact absurd c72 (by decide)
                  · skip
                    rw [must_x hsep_] at r25e hx28
                    have r25e := r25e.symm; subst r25e
                    have hP32 := hP24.off ho29 (Ne.symm hne)
                    have hP33 := ht21.off ho29 (Ne.symm hrt)
                    refine e_val (y := 0) rfl ?_
                    refine e_if_ne (tgt := 77) (pc := 72) Xc (dT hX3_joined 37 rfl) rfl (fun c72 => ?_) (fun c72 => ?_)
                    · skip
                      exact absurd c72 (by decide)
                    · skip
                      refine e_iconst (v := 1) (pc := 75) Xc (dT hX3_joined 38 rfl) rfl ?_
                      refine e_zret (pc := 76) Xc hQ (dT hX3_joined 39 rfl) (Nat.le_refl _) (Nat.le_refl _) (Or.inr rfl) ?_
                      rw [lpJ_x (r := jW (factP H 2) 1 i_ p_ l_) (fun q => hsep_ q.2)] at hR_
                      rw [← hR_]
                      refine ⟨?_, ⟨_, hx28⟩, ?_, (((ho2.tr ho4).tr (OffS.of (S := (fun o => o = rd ∨ o = tw)) ho22 (Or.inr rfl))).tr (OffS.of (S := (fun o => o = rd ∨ o = tw)) ho29 (Or.inl rfl)))⟩
                      · show _ = bI ((factP H 2) p_).1
                        rw [hok_]; rfl
                      · rw [jW_y hi0_ hok_]
                        have h_ := hP33
                        simp only [List.map_append, List.append_assoc] at h_ ⊢
                        exact h_
                · skip
                  exact absurd c59 (by decide)
              · skip
                exact absurd c44 (by decide)
          · skip
            have hok_ : ((factP H 2) p_).1 = false := bI_0.mp c30
            refine e_iconst (v := 0) (pc := 33) Xc (dT hX3_joined 18 rfl) rfl ?_
            refine e_zret (pc := 34) Xc hQ (dT hX3_joined 19 rfl) (Nat.le_refl _) (Nat.le_refl _) (Or.inl rfl) ?_
            rw [lpJ_x (r := jW (factP H 2) 1 i_ p_ l_) (fun q => by have q1 := q.1; rw [show (jW (factP H 2) 1 i_ p_ l_).1 = ((factP H 2) p_).1 from rfl, hok_] at q1; exact Bool.noConfusion q1)] at hR_
            rw [← hR_]
            refine ⟨?_, ⟨_, hx5⟩, ?_, (ho2.tr ho4)⟩
            · show _ = bI ((factP H 2) p_).1
              rw [hok_]; rfl
            · rw [jW_n (fun q => by rw [hok_] at q; exact Bool.noConfusion q.2)]
              have h_ := ht6
              simp only [List.map_append, List.append_assoc] at h_ ⊢
              exact h_
        · skip
          exact absurd c9 (by decide)
  refine Ev.pick (L' := [(0, .ref rd), (1, .int 1), (2, .int 3), (3, .int 0)]) [1, 2, 3, 0] rfl ?_
  exact lp2 ((100 - 0) + 1) 0 100 p ([] : List xI) (F 4) σ (Nat.lt_succ_self _) rfl (Nat.zero_le _) (by rw [jW_0]; rfl) hp hn (fun q => absurd q (Nat.lt_irrefl 0)) (by rw [fR_id hF3]; exact hP) (tP_nil hP4 hn0) OffS.rf
set_option maxRecDepth 100000 in
set_option maxHeartbeats 4000000 in
theorem c3_joinE2 {G : xG} {σ : xS} {rd pa tw : Nat} {F : Nat → Int32} {A : Nat → Nat → Int32} (hP : PX3 σ rd F (tR pa tw) A) {Fa : Nat → Int32} {Ta : Nat → Nat} {Aa : Nat → Nat → Int32} (hPa : PX2 σ pa Fa Ta Aa) {H : Nat → Int32} {nt : Nat} (hH : Hend H nt) (hTA : ∀ q, q < nt → Aa 1 q = H q) (hnt : nt ≤ 100) (hF1 : F 1 = nI nt) (p : Nat) (hF3 : F 3 = nI p) (hp : p ≤ nt) (hne : rd ≠ pa) {F4 : Nat → Int32} {T4 : Nat → Nat} {A4 : Nat → Nat → Int32} (hP4 : PX4 σ tw F4 T4 A4) (n0 : Nat) (hn0 : F4 3 = nI n0) (hn : n0 ≤ p) (hSg : ∀ q, isSg (H q)) (hrt : rd ≠ tw) (hpt : pa ≠ tw) : CI G yX3_joined cX3_joined 5 (some .boolean) 11 0 0 [.ref rd, .int 0, .int 3] σ (fun z σ1 => z = bI (eofP H (factP H 2) p).1 ∧ (∃ v, PX3 σ1 rd (upd (upd F 3 (nI (eofP H (factP H 2) p).2.1)) 4 v) (tR pa tw) A) ∧ tP σ1 tw F4 T4 A4 n0 ((eofP H (factP H 2) p).2.2.map encC) ∧ OffS (fun o => o = rd ∨ o = tw) σ σ1) := by
  refine Met.ofX (by decide +kernel) (Nat.le_of_ble_eq_true rfl) (fun μ Xc hQ hnm => ?_)
  have Xc : xC G μ cX3_joined 5 RX3 (some .boolean) 11 0 0 := Xc
  show Ev G μ 5 0 0 0 [(0, .ref rd), (1, .int 0), (2, .int 3)] [] σ
  refine e_iconst (v := 0) (pc := 0) Xc (dT hX3_joined 0 rfl) rfl ?_
  refine e_istore_n (L' := [(3, .int 0), (0, .ref rd), (1, .int 0), (2, .int 3)]) (pc := 1) Xc (dT hX3_joined 1 rfl) (by decide) rfl ?_
  have lp2 : ∀ (n2 : Nat) (i_ k_ p_ : Nat) (l_ : List xI) (v_ : Int32) (σ2 : xS), 100 - i_ < n2 → (i_ + k_ = 100) → (2 * i_ ≤ p_) → (lpJ H (tofP H (factP H 2)) 124 2 k_ (jW (tofP H (factP H 2)) 2 i_ p_ l_) = (eofP H (factP H 2) p)) → (p_ ≤ nt) → (n0 + l_.length ≤ p_) → (0 < i_ → n0 + l_.length + 1 ≤ p_) → (PX3 σ2 rd (fR F p_ v_) (tR pa tw) A) → (tP σ2 tw F4 T4 A4 n0 (l_.map encC)) → (OffS (fun o => o = rd ∨ o = tw) σ σ2) → Ev G μ 5 0 0 2 [(0, .ref rd), (1, .int 0), (2, .int 3), (3, .int (nI i_))] [] σ2 := by
    intro n2
    induction n2 with
    | zero => intro i_ k_ p_ l_ v_ σ2 hn; exact absurd hn (Nat.not_lt_zero _)
    | succ n2 ih2 =>
      intro i_ k_ p_ l_ v_ σ2 hn2 hik_ h2i_ hR_ hpn_ hnl_ hn1_ hx2 ht2 ho2
      have hpa2 := hPa.cg (fun i => ho2.cell (fun e => e.elim (fun q => hne q.symm) hpt) i)
      obtain ⟨k_, rfl⟩ : ∃ k, k_ = k + 1 := ⟨k_ - 1, by omega⟩
      have hll_ : (l_.map encC).length = l_.length := List.length_map _
      refine e_iload_n (pc := 2) Xc (dT hX3_joined 2 rfl) 3 rfl ?_
      refine e_bipush (v := 100) (pc := 3) Xc (dT hX3_joined 3 rfl) rfl ?_
      refine e_icmp_geN (x := i_) (y := 100) (tgt := 83) (pc := 5) Xc (dT hX3_joined 4 rfl) rfl (by omega) (by omega) (fun c5 => ?_) (fun c5 => ?_)
      · skip
        exact absurd c5 (by omega)
      · skip
        refine e_iload_n (pc := 8) Xc (dT hX3_joined 5 rfl) 1 rfl ?_
        refine e_if_ne (tgt := 21) (pc := 9) Xc (dT hX3_joined 6 rfl) rfl (fun c9 => ?_) (fun c9 => ?_)
        · skip
          exact absurd c9 (by decide)
        · skip
          refine e_aload_n (pc := 12) Xc (dT hX3_joined 7 rfl) 0 rfl ?_
          refine e_iconst (v := 1) (pc := 13) Xc (dT hX3_joined 8 rfl) rfl ?_
          refine e_iload_n (pc := 14) Xc (dT hX3_joined 9 rfl) 2 rfl ?_
          refine cl_X3_51 (pc := 15) (k := 0) (n := 0) (S := []) Xc (c3_joinT2 hx2 hpa2 hH hTA hnt hF1 p_ rfl hpn_ hne ht2 (n0 + (l_.map encC).length) upd_s (by rw [List.length_map]; omega) hSg hrt hpt) (dT hX3_joined 10 rfl) rfl (Nat.le_of_ble_eq_true rfl) (Nat.le_of_ble_eq_true rfl) (Nat.le_of_ble_eq_true rfl) rfl (Nat.le_of_ble_eq_true rfl) (fun r1 σ2 hq3 => ?_)
          obtain ⟨r1e, ⟨v8_, hx5⟩, ht6, ho4⟩ := hq3
          have r1e := r1e.symm; subst r1e
          have hx5 : PX3 σ2 rd (fR F ((tofP H (factP H 2)) p_).2.1 v8_) (tR pa tw) A := by
            have h_ := hx5
            first | (rw [fR_2] at h_; exact h_) | (rw [fR_4, fR_2] at h_; exact h_) | exact h_
          have ht6 := tP_app ht6
          have ht6 : tP σ2 tw F4 T4 A4 n0 ((l_.map encC) ++ (((tofP H (factP H 2)) p_).2.2.map encC)) := ht6
          have hpa7 := (hpa2).cg (fun i => ho4.cell (fun e => e.elim (fun q => hne q.symm) hpt) i)
          obtain ⟨hi1_, hi2_, hi3_, hi4_⟩ : goP nt p_ ((tofP H (factP H 2)) p_) := tofP_go hH (fun q hq => factP_go hH 2 q hq) hpn_
          have hlm_ : (((tofP H (factP H 2)) p_).2.2.map encC).length = ((tofP H (factP H 2)) p_).2.2.length := List.length_map _
          refine e_goto (tgt := 26) (pc := 18) Xc (dT hX3_joined 11 rfl) rfl ?_
          refine e_istore (L' := [(4, .int (bI ((tofP H (factP H 2)) p_).1)), (0, .ref rd), (1, .int 0), (2, .int 3), (3, .int (nI i_))]) (pc := 26) Xc (dT hX3_joined 15 rfl) (by decide) rfl ?_
          refine e_iload (pc := 28) Xc (dT hX3_joined 16 rfl) 0 rfl ?_
          refine e_if_ne (tgt := 35) (pc := 30) Xc (dT hX3_joined 17 rfl) rfl (fun c30 => ?_) (fun c30 => ?_)
          · skip
            have hok_ : ((tofP H (factP H 2)) p_).1 = true := by cases q_ : ((tofP H (factP H 2)) p_).1; exact absurd (show bI ((tofP H (factP H 2)) p_).1 = 0 by rw [q_]; rfl) c30; rfl
            refine e_iload_n (pc := 35) Xc (dT hX3_joined 20 rfl) 4 rfl ?_
            refine e_if_le (tgt := 57) (pc := 36) Xc (dT hX3_joined 21 rfl) rfl (fun c36 => ?_) (fun c36 => ?_)
            · skip
              have hi0_ : i_ = 0 := by
                rcases Nat.eq_zero_or_pos i_ with q | q
                · exact q
                · exact absurd c36 (nI_nle0 q (by omega))
              refine e_aload_n (pc := 57) Xc (dT hX3_joined 30 rfl) 1 rfl ?_
              refine e_iload_n (pc := 58) Xc (dT hX3_joined 31 rfl) 2 rfl ?_
              refine e_if_ne (tgt := 67) (pc := 59) Xc (dT hX3_joined 32 rfl) rfl (fun c59 => ?_) (fun c59 => ?_)
              · skip
                exact absurd c59 (by decide)
              · skip
                refine e_bipush (v := 124) (pc := 62) Xc (dT hX3_joined 33 rfl) rfl ?_
                refine e_goto (tgt := 69) (pc := 64) Xc (dT hX3_joined 34 rfl) rfl ?_
                refine cl_X3_33 (pc := 69) (k := 0) (n := 0) (S := []) Xc hx5.o (c3_takes hx5 hpa7 hH hTA hnt hF1 ((tofP H (factP H 2)) p_).2.1 rfl hi2_ hne 124) (dT hX3_joined 36 rfl) rfl (Nat.le_of_ble_eq_true rfl) (Nat.le_of_ble_eq_true rfl) (Nat.le_of_ble_eq_true rfl) rfl (Nat.le_of_ble_eq_true rfl) (fun r9 σ10 hq11 => ?_)
                obtain ⟨r9e, hx12, ho13⟩ := hq11
                rw [fR_3] at hx12
                by_cases hsep_ : H ((tofP H (factP H 2)) p_).2.1 = 124
                · skip
                  rw [must_t hsep_] at r9e hx12
                  have r9e := r9e.symm; subst r9e
                  have hP14 := hpa7.off ho13 (Ne.symm hne)
                  have hP15 := ht6.off ho13 (Ne.symm hrt)
                  refine e_val (y := 1) rfl ?_
                  refine e_if_ne (tgt := 77) (pc := 72) Xc (dT hX3_joined 37 rfl) rfl (fun c72 => ?_) (fun c72 => ?_)
                  · skip
                    refine e_iincN (a := i_) (b := 1) (L' := [(3, .int (nI (i_ + 1))), (4, .int (bI ((tofP H (factP H 2)) p_).1)), (0, .ref rd), (1, .int 0), (2, .int 3)]) (pc := 77) Xc (dT hX3_joined 40 rfl) 4 rfl rfl (by decide) rfl ?_
                    refine e_goto (tgt := 2) (pc := 80) Xc (dT hX3_joined 41 rfl) rfl ?_
                    have hLe_ : ((l_.map encC) ++ (((tofP H (factP H 2)) p_).2.2.map encC)) = (jW (tofP H (factP H 2)) 2 i_ p_ l_).2.2.map encC := by rw [jW_n (fun q => absurd q.1 (by omega))]; first | (simp only [List.map_append, List.append_assoc]; done) | (simp only [List.map_append, List.append_assoc]; rfl)
                    have hLl_ : (jW (tofP H (factP H 2)) 2 i_ p_ l_).2.2.length = l_.length + ((tofP H (factP H 2)) p_).2.2.length + 0 := by rw [jW_n (fun q => absurd q.1 (by omega))]; simp only [List.length_append, List.length_cons, List.length_nil]; omega
                    refine Ev.pick (L' := [(0, .ref rd), (1, .int 0), (2, .int 3), (3, .int (nI (i_ + 1)))]) [2, 3, 4, 0] rfl ?_
                    exact ih2 (i_ + 1) k_ (((tofP H (factP H 2)) p_).2.1 + 1) ((jW (tofP H (factP H 2)) 2 i_ p_ l_).2.2) v8_ σ10 (by omega) (by omega) (by have := hi3_ hok_; omega) ((jW_s hok_ hsep_).symm.trans hR_) (hH.lt hsep_ (by decide)) (by omega) (fun _ => by omega) hx12 (by rw [← hLe_]; exact hP15) ((ho2.tr ho4).tr (OffS.of (S := (fun o => o = rd ∨ o = tw)) ho13 (Or.inl rfl)))
                  · skip
                    exact absurd c72 (by decide)
                · skip
                  rw [must_x hsep_] at r9e hx12
                  have r9e := r9e.symm; subst r9e
                  have hP16 := hpa7.off ho13 (Ne.symm hne)
                  have hP17 := ht6.off ho13 (Ne.symm hrt)
                  refine e_val (y := 0) rfl ?_
                  refine e_if_ne (tgt := 77) (pc := 72) Xc (dT hX3_joined 37 rfl) rfl (fun c72 => ?_) (fun c72 => ?_)
                  · skip
                    exact absurd c72 (by decide)
                  · skip
                    refine e_iconst (v := 1) (pc := 75) Xc (dT hX3_joined 38 rfl) rfl ?_
                    refine e_zret (pc := 76) Xc hQ (dT hX3_joined 39 rfl) (Nat.le_refl _) (Nat.le_refl _) (Or.inr rfl) ?_
                    rw [lpJ_x (r := jW (tofP H (factP H 2)) 2 i_ p_ l_) (fun q => hsep_ q.2)] at hR_
                    rw [← hR_]
                    refine ⟨?_, ⟨_, hx12⟩, ?_, ((ho2.tr ho4).tr (OffS.of (S := (fun o => o = rd ∨ o = tw)) ho13 (Or.inl rfl)))⟩
                    · show _ = bI ((tofP H (factP H 2)) p_).1
                      rw [hok_]; rfl
                    · rw [jW_n (fun q => absurd q.1 (by omega))]
                      have h_ := hP17
                      simp only [List.map_append, List.append_assoc] at h_ ⊢
                      exact h_
            · skip
              have hi0_ : 0 < i_ := by
                rcases Nat.eq_zero_or_pos i_ with q | q
                · subst q; exact absurd (by decide) c36
                · exact q
              have hn1b_ := hn1_ hi0_
              have hi3b_ := hi3_ hok_
              refine e_aload_n (pc := 39) Xc (dT hX3_joined 22 rfl) 1 rfl ?_
              refine gf_X3_25 (pc := 40) Xc (dT hX3_joined 23 rfl) hx5.o rfl ?_
              refine e_iload_n (pc := 43) Xc (dT hX3_joined 24 rfl) 2 rfl ?_
              refine e_if_ne (tgt := 52) (pc := 44) Xc (dT hX3_joined 25 rfl) rfl (fun c44 => ?_) (fun c44 => ?_)
              · skip
                exact absurd c44 (by decide)
              · skip
                refine e_bipush (v := -3) (pc := 47) Xc (dT hX3_joined 26 rfl) rfl ?_
                refine e_goto (tgt := 54) (pc := 49) Xc (dT hX3_joined 27 rfl) rfl ?_
                refine cl_X3_81 (pc := 54) (k := 0) (n := 0) (S := []) Xc ht6.o (c4_write ht6 (n0 + ((l_.map encC) ++ (((tofP H (factP H 2)) p_).2.2.map encC)).length) upd_s (by simp only [List.length_append, List.length_map] at *; omega) (-3)) (dT hX3_joined 29 rfl) rfl (Nat.le_of_ble_eq_true rfl) (Nat.le_of_ble_eq_true rfl) (Nat.le_of_ble_eq_true rfl) rfl (Nat.le_of_ble_eq_true rfl) (fun σ19 hq20 => ?_)
                obtain ⟨ht21, ho22⟩ := hq20
                have ht21 : tP σ19 tw F4 T4 A4 n0 (((l_.map encC) ++ (((tofP H (factP H 2)) p_).2.2.map encC)) ++ [(-3)]) := tP_app ht21
                have hP23 := hx5.off ho22 hrt
                have hP24 := hpa7.off ho22 hpt
                refine e_aload_n (pc := 57) Xc (dT hX3_joined 30 rfl) 1 rfl ?_
                refine e_iload_n (pc := 58) Xc (dT hX3_joined 31 rfl) 2 rfl ?_
                refine e_if_ne (tgt := 67) (pc := 59) Xc (dT hX3_joined 32 rfl) rfl (fun c59 => ?_) (fun c59 => ?_)
                · skip
                  exact absurd c59 (by decide)
                · skip
                  refine e_bipush (v := 124) (pc := 62) Xc (dT hX3_joined 33 rfl) rfl ?_
                  refine e_goto (tgt := 69) (pc := 64) Xc (dT hX3_joined 34 rfl) rfl ?_
                  refine cl_X3_33 (pc := 69) (k := 0) (n := 0) (S := []) Xc hP23.o (c3_takes hP23 hP24 hH hTA hnt hF1 ((tofP H (factP H 2)) p_).2.1 rfl hi2_ hne 124) (dT hX3_joined 36 rfl) rfl (Nat.le_of_ble_eq_true rfl) (Nat.le_of_ble_eq_true rfl) (Nat.le_of_ble_eq_true rfl) rfl (Nat.le_of_ble_eq_true rfl) (fun r25 σ26 hq27 => ?_)
                  obtain ⟨r25e, hx28, ho29⟩ := hq27
                  rw [fR_3] at hx28
                  by_cases hsep_ : H ((tofP H (factP H 2)) p_).2.1 = 124
                  · skip
                    rw [must_t hsep_] at r25e hx28
                    have r25e := r25e.symm; subst r25e
                    have hP30 := hP24.off ho29 (Ne.symm hne)
                    have hP31 := ht21.off ho29 (Ne.symm hrt)
                    refine e_val (y := 1) rfl ?_
                    refine e_if_ne (tgt := 77) (pc := 72) Xc (dT hX3_joined 37 rfl) rfl (fun c72 => ?_) (fun c72 => ?_)
                    · skip
                      refine e_iincN (a := i_) (b := 1) (L' := [(3, .int (nI (i_ + 1))), (4, .int (bI ((tofP H (factP H 2)) p_).1)), (0, .ref rd), (1, .int 0), (2, .int 3)]) (pc := 77) Xc (dT hX3_joined 40 rfl) 4 rfl rfl (by decide) rfl ?_
                      refine e_goto (tgt := 2) (pc := 80) Xc (dT hX3_joined 41 rfl) rfl ?_
                      have hLe_ : (((l_.map encC) ++ (((tofP H (factP H 2)) p_).2.2.map encC)) ++ [(-3)]) = (jW (tofP H (factP H 2)) 2 i_ p_ l_).2.2.map encC := by rw [jW_y hi0_ hok_]; first | (simp only [List.map_append, List.append_assoc]; done) | (simp only [List.map_append, List.append_assoc]; rfl)
                      have hLl_ : (jW (tofP H (factP H 2)) 2 i_ p_ l_).2.2.length = l_.length + ((tofP H (factP H 2)) p_).2.2.length + 1 := by rw [jW_y hi0_ hok_]; simp only [List.length_append, List.length_cons, List.length_nil]; omega
                      refine Ev.pick (L' := [(0, .ref rd), (1, .int 0), (2, .int 3), (3, .int (nI (i_ + 1)))]) [2, 3, 4, 0] rfl ?_
                      exact ih2 (i_ + 1) k_ (((tofP H (factP H 2)) p_).2.1 + 1) ((jW (tofP H (factP H 2)) 2 i_ p_ l_).2.2) v8_ σ26 (by omega) (by omega) (by have := hi3_ hok_; omega) ((jW_s hok_ hsep_).symm.trans hR_) (hH.lt hsep_ (by decide)) (by omega) (fun _ => by omega) hx28 (by rw [← hLe_]; exact hP31) (((ho2.tr ho4).tr (OffS.of (S := (fun o => o = rd ∨ o = tw)) ho22 (Or.inr rfl))).tr (OffS.of (S := (fun o => o = rd ∨ o = tw)) ho29 (Or.inl rfl)))
                    · skip
                      exact absurd c72 (by decide)
                  · skip
                    rw [must_x hsep_] at r25e hx28
                    have r25e := r25e.symm; subst r25e
                    have hP32 := hP24.off ho29 (Ne.symm hne)
                    have hP33 := ht21.off ho29 (Ne.symm hrt)
                    refine e_val (y := 0) rfl ?_
                    refine e_if_ne (tgt := 77) (pc := 72) Xc (dT hX3_joined 37 rfl) rfl (fun c72 => ?_) (fun c72 => ?_)
                    · skip
                      exact absurd c72 (by decide)
                    · skip
                      refine e_iconst (v := 1) (pc := 75) Xc (dT hX3_joined 38 rfl) rfl ?_
                      refine e_zret (pc := 76) Xc hQ (dT hX3_joined 39 rfl) (Nat.le_refl _) (Nat.le_refl _) (Or.inr rfl) ?_
                      rw [lpJ_x (r := jW (tofP H (factP H 2)) 2 i_ p_ l_) (fun q => hsep_ q.2)] at hR_
                      rw [← hR_]
                      refine ⟨?_, ⟨_, hx28⟩, ?_, (((ho2.tr ho4).tr (OffS.of (S := (fun o => o = rd ∨ o = tw)) ho22 (Or.inr rfl))).tr (OffS.of (S := (fun o => o = rd ∨ o = tw)) ho29 (Or.inl rfl)))⟩
                      · show _ = bI ((tofP H (factP H 2)) p_).1
                        rw [hok_]; rfl
                      · rw [jW_y hi0_ hok_]
                        have h_ := hP33
                        simp only [List.map_append, List.append_assoc] at h_ ⊢
                        exact h_
          · skip
            have hok_ : ((tofP H (factP H 2)) p_).1 = false := bI_0.mp c30
            refine e_iconst (v := 0) (pc := 33) Xc (dT hX3_joined 18 rfl) rfl ?_
            refine e_zret (pc := 34) Xc hQ (dT hX3_joined 19 rfl) (Nat.le_refl _) (Nat.le_refl _) (Or.inl rfl) ?_
            rw [lpJ_x (r := jW (tofP H (factP H 2)) 2 i_ p_ l_) (fun q => by have q1 := q.1; rw [show (jW (tofP H (factP H 2)) 2 i_ p_ l_).1 = ((tofP H (factP H 2)) p_).1 from rfl, hok_] at q1; exact Bool.noConfusion q1)] at hR_
            rw [← hR_]
            refine ⟨?_, ⟨_, hx5⟩, ?_, (ho2.tr ho4)⟩
            · show _ = bI ((tofP H (factP H 2)) p_).1
              rw [hok_]; rfl
            · rw [jW_n (fun q => by rw [hok_] at q; exact Bool.noConfusion q.2)]
              have h_ := ht6
              simp only [List.map_append, List.append_assoc] at h_ ⊢
              exact h_
  refine Ev.pick (L' := [(0, .ref rd), (1, .int 0), (2, .int 3), (3, .int 0)]) [1, 2, 3, 0] rfl ?_
  exact lp2 ((100 - 0) + 1) 0 100 p ([] : List xI) (F 4) σ (Nat.lt_succ_self _) rfl (Nat.zero_le _) (by rw [jW_0]; rfl) hp hn (fun q => absurd q (Nat.lt_irrefl 0)) (by rw [fR_id hF3]; exact hP) (tP_nil hP4 hn0) OffS.rf
set_option maxRecDepth 100000 in
set_option maxHeartbeats 4000000 in
theorem c3_single3 {G : xG} {σ : xS} {rd pa tw : Nat} {F : Nat → Int32} {A : Nat → Nat → Int32} (hP : PX3 σ rd F (tR pa tw) A) {Fa : Nat → Int32} {Ta : Nat → Nat} {Aa : Nat → Nat → Int32} (hPa : PX2 σ pa Fa Ta Aa) {H : Nat → Int32} {nt : Nat} (hH : Hend H nt) (hTA : ∀ q, q < nt → Aa 1 q = H q) (hnt : nt ≤ 100) (hF1 : F 1 = nI nt) (p : Nat) (hF3 : F 3 = nI p) (hp : p ≤ nt) (hne : rd ≠ pa) {F4 : Nat → Int32} {T4 : Nat → Nat} {A4 : Nat → Nat → Int32} (hP4 : PX4 σ tw F4 T4 A4) (n0 : Nat) (hn0 : F4 3 = nI n0) (hn : n0 ≤ p) (hSg : ∀ q, isSg (H q)) (hrt : rd ≠ tw) (hpt : pa ≠ tw) : CI G yX3_single cX3_single 3 (some .boolean) 12 0 0 [.ref rd, .int 2] σ (fun z σ1 => z = bI (factP H 3 p).1 ∧ (∃ v, PX3 σ1 rd (upd (upd F 3 (nI (factP H 3 p).2.1)) 4 v) (tR pa tw) A) ∧ tP σ1 tw F4 T4 A4 n0 ((factP H 3 p).2.2.map encC) ∧ OffS (fun o => o = rd ∨ o = tw) σ σ1) := by
  refine Met.ofX (by decide +kernel) (Nat.le_of_ble_eq_true rfl) (fun μ Xc hQ hnm => ?_)
  have Xc : xC G μ cX3_single 3 RX3 (some .boolean) 12 0 0 := Xc
  show Ev G μ 3 0 0 0 [(0, .ref rd), (1, .int 2)] [] σ
  refine e_aload_n (pc := 0) Xc (dT hX3_single 0 rfl) 0 rfl ?_
  refine cl_X3_37 (pc := 1) (k := 0) (n := 0) (S := []) Xc hP.o (c3_sign hP hPa hH hTA hnt hF1 p hF3 hp hne) (dT hX3_single 1 rfl) rfl (Nat.le_of_ble_eq_true rfl) (Nat.le_of_ble_eq_true rfl) (Nat.le_of_ble_eq_true rfl) rfl (Nat.le_of_ble_eq_true rfl) (fun r1 σ2 hq3 => ?_)
  obtain ⟨r1e, r1s⟩ := hq3
  have r1e := r1e.symm; subst r1e; have r1s := r1s.symm; subst r1s
  refine e_istore_n (L' := [(2, .int (H p)), (0, .ref rd), (1, .int 2)]) (pc := 4) Xc (dT hX3_single 2 rfl) (by decide) rfl ?_
  refine e_iload_n (pc := 5) Xc (dT hX3_single 3 rfl) 0 rfl ?_
  refine e_bipush (v := 33) (pc := 6) Xc (dT hX3_single 4 rfl) rfl ?_
  refine e_icmp_eq (tgt := 22) (pc := 8) Xc (dT hX3_single 5 rfl) rfl (fun c8 => ?_) (fun c8 => ?_)
  · skip
    refine e_iload_n (pc := 22) Xc (dT hX3_single 12 rfl) 2 rfl ?_
    refine e_iconst (v := 5) (pc := 23) Xc (dT hX3_single 13 rfl) rfl ?_
    refine e_icmp_ltN (x := 2) (y := 5) (tgt := 29) (pc := 24) Xc (dT hX3_single 14 rfl) rfl (by omega) (by omega) (fun c24 => ?_) (fun c24 => ?_)
    · skip
      have hlt_ : p < nt := by
        rcases Nat.lt_or_ge p nt with q | q
        · exact q
        · have q2 := hH p q; first | (rw [q2] at c8; exact absurd c8 (by decide)) | (rw [q2] at c14; exact absurd c14 (by decide))
      refine e_aload_n (pc := 29) Xc (dT hX3_single 17 rfl) 1 rfl ?_
      refine e_dup (pc := 30) Xc (dT hX3_single 18 rfl) rfl ?_
      refine gf_X3_9 (pc := 31) Xc (dT hX3_single 19 rfl) hP.o rfl ?_
      refine e_val (y := nI p) hF3 ?_
      refine e_iconst (v := 1) (pc := 34) Xc (dT hX3_single 20 rfl) rfl ?_
      refine e_iaddN (a := p) (b := 1) (pc := 35) Xc (dT hX3_single 21 rfl) ?_
      refine pf_X3_9 (fs' := olX3 rd (upd F 3 (nI (p + 1))) (tR pa tw)) (pc := 36) Xc (dT hX3_single 22 rfl) hP.o (Nat.le_of_ble_eq_true rfl) rfl ?_
      refine Ev.gen (fun z => PX3 z rd (upd F 3 (nI (p + 1))) (tR pa tw) A) (hP.wf3 (x := nI (p + 1))) Off.set (fun σ4 hP5 ho6 => ?_)
      have hP7 := hPa.off ho6 (Ne.symm hne)
      have hP8 := hP4.off ho6 (Ne.symm hrt)
      refine e_iload_n (pc := 39) Xc (dT hX3_single 23 rfl) 0 rfl ?_
      refine e_bipush (v := 40) (pc := 40) Xc (dT hX3_single 24 rfl) rfl ?_
      refine e_icmp_ne (tgt := 71) (pc := 42) Xc (dT hX3_single 25 rfl) rfl (fun c42 => ?_) (fun c42 => ?_)
      · skip
        refine e_aload_n (pc := 71) Xc (dT hX3_single 41 rfl) 1 rfl ?_
        refine e_iload_n (pc := 72) Xc (dT hX3_single 42 rfl) 2 rfl ?_
        refine e_iconst (v := 1) (pc := 73) Xc (dT hX3_single 43 rfl) rfl ?_
        refine e_iaddN (a := 2) (b := 1) (pc := 74) Xc (dT hX3_single 44 rfl) ?_
        refine e_val (y := 3) rfl ?_
        refine cl_X3_77 (pc := 75) (k := 0) (n := 0) (S := []) Xc (c3_single2 hP5 hP7 hH hTA hnt hF1 (p + 1) upd_s (by omega) hne hP8 n0 hn0 (by omega) hSg hrt hpt) (dT hX3_single 45 rfl) rfl (Nat.le_of_ble_eq_true rfl) (Nat.le_of_ble_eq_true rfl) (Nat.le_of_ble_eq_true rfl) rfl (Nat.le_of_ble_eq_true rfl) (fun r9 σ10 hq11 => ?_)
        obtain ⟨r9e, ⟨v16_, hx13⟩, ht14, ho12⟩ := hq11
        have r9e := r9e.symm; subst r9e
        have hx13 : PX3 σ10 rd (fR F (factP H 2 (p + 1)).2.1 v16_) (tR pa tw) A := by
          have h_ := hx13
          first | (rw [fR_2] at h_; exact h_) | (rw [fR_4, fR_2] at h_; exact h_) | exact h_
        have ht14 : tP σ10 tw F4 T4 A4 n0 ((factP H 2 (p + 1)).2.2.map encC) := ht14
        have hpa15 := (hP7).cg (fun i => ho12.cell (fun e => e.elim (fun q => hne q.symm) hpt) i)
        obtain ⟨hi1_, hi2_, hi3_, hi4_⟩ : goP nt (p + 1) (factP H 2 (p + 1)) := factP_go hH 2 (p + 1) (by omega)
        have hlm_ : ((factP H 2 (p + 1)).2.2.map encC).length = (factP H 2 (p + 1)).2.2.length := List.length_map _
        refine e_if_ne (tgt := 83) (pc := 78) Xc (dT hX3_single 46 rfl) rfl (fun c78 => ?_) (fun c78 => ?_)
        · skip
          have hok_ : (factP H 2 (p + 1)).1 = true := by cases q_ : (factP H 2 (p + 1)).1; exact absurd (show bI (factP H 2 (p + 1)).1 = 0 by rw [q_]; rfl) c78; rfl
          refine e_aload_n (pc := 83) Xc (dT hX3_single 49 rfl) 1 rfl ?_
          refine gf_X3_25 (pc := 84) Xc (dT hX3_single 50 rfl) hx13.o rfl ?_
          refine e_iconst (v := -1) (pc := 87) Xc (dT hX3_single 51 rfl) rfl ?_
          refine cl_X3_81 (pc := 88) (k := 0) (n := 0) (S := []) Xc ht14.o (c4_write ht14 (n0 + ((factP H 2 (p + 1)).2.2.map encC).length) upd_s (by simp only [List.length_append, List.length_map] at *; omega) (-1)) (dT hX3_single 52 rfl) rfl (Nat.le_of_ble_eq_true rfl) (Nat.le_of_ble_eq_true rfl) (Nat.le_of_ble_eq_true rfl) rfl (Nat.le_of_ble_eq_true rfl) (fun σ18 hq19 => ?_)
          obtain ⟨ht20, ho21⟩ := hq19
          have ht20 : tP σ18 tw F4 T4 A4 n0 (((factP H 2 (p + 1)).2.2.map encC) ++ [(-1)]) := tP_app ht20
          have hP22 := hx13.off ho21 hrt
          have hP23 := hpa15.off ho21 hpt
          refine e_iconst (v := 1) (pc := 91) Xc (dT hX3_single 53 rfl) rfl ?_
          refine e_zret (pc := 92) Xc hQ (dT hX3_single 54 rfl) (Nat.le_refl _) (Nat.le_refl _) (Or.inr rfl) ?_
          rw [fa_bang c8]
          refine ⟨by show _ = bI (factP H 2 (p + 1)).1; rw [hok_]; rfl, ⟨_, hP22⟩, ?_, (((OffS.of (S := (fun o => o = rd ∨ o = tw)) ho6 (Or.inl rfl)).tr ho12).tr (OffS.of (S := (fun o => o = rd ∨ o = tw)) ho21 (Or.inr rfl)))⟩
          rw [if_pos hok_]
          have h_ := ht20
          simp only [List.map_append] at h_ ⊢
          exact h_
        · skip
          have hok_ : (factP H 2 (p + 1)).1 = false := bI_0.mp c78
          refine e_iconst (v := 0) (pc := 81) Xc (dT hX3_single 47 rfl) rfl ?_
          refine e_zret (pc := 82) Xc hQ (dT hX3_single 48 rfl) (Nat.le_refl _) (Nat.le_refl _) (Or.inl rfl) ?_
          rw [fa_bang c8]
          refine ⟨by show _ = bI (factP H 2 (p + 1)).1; rw [hok_]; rfl, ⟨_, hx13⟩, ?_, ((OffS.of (S := (fun o => o = rd ∨ o = tw)) ho6 (Or.inl rfl)).tr ho12)⟩
          rw [if_neg (by rw [hok_]; decide), List.append_nil]
          exact ht14
      · skip
        exact absurd (c8.symm.trans c42) (by decide)
    · skip
      exact absurd c24 (by decide)
  · skip
    refine e_iload_n (pc := 11) Xc (dT hX3_single 6 rfl) 0 rfl ?_
    refine e_bipush (v := 40) (pc := 12) Xc (dT hX3_single 7 rfl) rfl ?_
    refine e_icmp_eq (tgt := 22) (pc := 14) Xc (dT hX3_single 8 rfl) rfl (fun c14 => ?_) (fun c14 => ?_)
    · skip
      refine e_iload_n (pc := 22) Xc (dT hX3_single 12 rfl) 2 rfl ?_
      refine e_iconst (v := 5) (pc := 23) Xc (dT hX3_single 13 rfl) rfl ?_
      refine e_icmp_ltN (x := 2) (y := 5) (tgt := 29) (pc := 24) Xc (dT hX3_single 14 rfl) rfl (by omega) (by omega) (fun c24 => ?_) (fun c24 => ?_)
      · skip
        have hlt_ : p < nt := by
          rcases Nat.lt_or_ge p nt with q | q
          · exact q
          · have q2 := hH p q; first | (rw [q2] at c8; exact absurd c8 (by decide)) | (rw [q2] at c14; exact absurd c14 (by decide))
        refine e_aload_n (pc := 29) Xc (dT hX3_single 17 rfl) 1 rfl ?_
        refine e_dup (pc := 30) Xc (dT hX3_single 18 rfl) rfl ?_
        refine gf_X3_9 (pc := 31) Xc (dT hX3_single 19 rfl) hP.o rfl ?_
        refine e_val (y := nI p) hF3 ?_
        refine e_iconst (v := 1) (pc := 34) Xc (dT hX3_single 20 rfl) rfl ?_
        refine e_iaddN (a := p) (b := 1) (pc := 35) Xc (dT hX3_single 21 rfl) ?_
        refine pf_X3_9 (fs' := olX3 rd (upd F 3 (nI (p + 1))) (tR pa tw)) (pc := 36) Xc (dT hX3_single 22 rfl) hP.o (Nat.le_of_ble_eq_true rfl) rfl ?_
        refine Ev.gen (fun z => PX3 z rd (upd F 3 (nI (p + 1))) (tR pa tw) A) (hP.wf3 (x := nI (p + 1))) Off.set (fun σ24 hP25 ho26 => ?_)
        have hP27 := hPa.off ho26 (Ne.symm hne)
        have hP28 := hP4.off ho26 (Ne.symm hrt)
        refine e_iload_n (pc := 39) Xc (dT hX3_single 23 rfl) 0 rfl ?_
        refine e_bipush (v := 40) (pc := 40) Xc (dT hX3_single 24 rfl) rfl ?_
        refine e_icmp_ne (tgt := 71) (pc := 42) Xc (dT hX3_single 25 rfl) rfl (fun c42 => ?_) (fun c42 => ?_)
        · skip
          exact absurd c14 c42
        · skip
          refine e_aload_n (pc := 45) Xc (dT hX3_single 26 rfl) 1 rfl ?_
          refine e_iconst (v := 0) (pc := 46) Xc (dT hX3_single 27 rfl) rfl ?_
          refine e_iload_n (pc := 47) Xc (dT hX3_single 28 rfl) 2 rfl ?_
          refine e_iconst (v := 1) (pc := 48) Xc (dT hX3_single 29 rfl) rfl ?_
          refine e_iaddN (a := 2) (b := 1) (pc := 49) Xc (dT hX3_single 30 rfl) ?_
          refine e_val (y := 3) rfl ?_
          refine cl_X3_51 (pc := 50) (k := 0) (n := 0) (S := []) Xc (c3_joinE2 hP25 hP27 hH hTA hnt hF1 (p + 1) upd_s (by omega) hne hP28 n0 hn0 (by omega) hSg hrt hpt) (dT hX3_single 31 rfl) rfl (Nat.le_of_ble_eq_true rfl) (Nat.le_of_ble_eq_true rfl) (Nat.le_of_ble_eq_true rfl) rfl (Nat.le_of_ble_eq_true rfl) (fun r29 σ30 hq31 => ?_)
          obtain ⟨r29e, ⟨v36_, hx33⟩, ht34, ho32⟩ := hq31
          have r29e := r29e.symm; subst r29e
          have hx33 : PX3 σ30 rd (fR F (eofP H (factP H 2) (p + 1)).2.1 v36_) (tR pa tw) A := by
            have h_ := hx33
            first | (rw [fR_2] at h_; exact h_) | (rw [fR_4, fR_2] at h_; exact h_) | exact h_
          have ht34 : tP σ30 tw F4 T4 A4 n0 ((eofP H (factP H 2) (p + 1)).2.2.map encC) := ht34
          have hpa35 := (hP27).cg (fun i => ho32.cell (fun e => e.elim (fun q => hne q.symm) hpt) i)
          obtain ⟨hi1_, hi2_, hi3_, hi4_⟩ : goP nt (p + 1) (eofP H (factP H 2) (p + 1)) := eofP_go hH (fun q hq => factP_go hH 2 q hq) (by omega)
          have hlm_ : ((eofP H (factP H 2) (p + 1)).2.2.map encC).length = (eofP H (factP H 2) (p + 1)).2.2.length := List.length_map _
          refine e_if_eq (tgt := 69) (pc := 53) Xc (dT hX3_single 32 rfl) rfl (fun c53 => ?_) (fun c53 => ?_)
          · skip
            have hok_ : (eofP H (factP H 2) (p + 1)).1 = false := bI_0.mp c53
            refine e_iconst (v := 0) (pc := 69) Xc (dT hX3_single 39 rfl) rfl ?_
            refine e_zret (pc := 70) Xc hQ (dT hX3_single 40 rfl) (Nat.le_refl _) (Nat.le_refl _) (Or.inl rfl) ?_
            rw [fa_par c8 c14, show ((eofP H (factP H 2) (p + 1)).1, (eofP H (factP H 2) (p + 1)).2.1) = (false, (eofP H (factP H 2) (p + 1)).2.1) from Prod.ext hok_ rfl, must_f]
            exact ⟨rfl, ⟨_, hx33⟩, ht34, ((OffS.of (S := (fun o => o = rd ∨ o = tw)) ho26 (Or.inl rfl)).tr ho32)⟩
          · skip
            have hok_ : (eofP H (factP H 2) (p + 1)).1 = true := by cases q_ : (eofP H (factP H 2) (p + 1)).1; exact absurd (show bI (eofP H (factP H 2) (p + 1)).1 = 0 by rw [q_]; rfl) c53; rfl
            refine e_aload_n (pc := 56) Xc (dT hX3_single 33 rfl) 1 rfl ?_
            refine e_bipush (v := 41) (pc := 57) Xc (dT hX3_single 34 rfl) rfl ?_
            refine cl_X3_33 (pc := 59) (k := 0) (n := 0) (S := []) Xc hx33.o (c3_takes hx33 hpa35 hH hTA hnt hF1 (eofP H (factP H 2) (p + 1)).2.1 rfl hi2_ hne 41) (dT hX3_single 35 rfl) rfl (Nat.le_of_ble_eq_true rfl) (Nat.le_of_ble_eq_true rfl) (Nat.le_of_ble_eq_true rfl) rfl (Nat.le_of_ble_eq_true rfl) (fun r37 σ38 hq39 => ?_)
            obtain ⟨r37e, hx40, ho41⟩ := hq39
            have r37e := r37e.symm; subst r37e
            rw [fR_3] at hx40
            have hP42 := hpa35.off ho41 (Ne.symm hne)
            have hP43 := ht34.off ho41 (Ne.symm hrt)
            refine e_if_eq (tgt := 69) (pc := 62) Xc (dT hX3_single 36 rfl) rfl (fun c62 => ?_) (fun c62 => ?_)
            · skip
              refine e_iconst (v := 0) (pc := 69) Xc (dT hX3_single 39 rfl) rfl ?_
              refine e_zret (pc := 70) Xc hQ (dT hX3_single 40 rfl) (Nat.le_refl _) (Nat.le_refl _) (Or.inl rfl) ?_
              have hmb_ : (mustP H 41 (true, (eofP H (factP H 2) (p + 1)).2.1)).1 = false := bI_0.mp c62
              rw [fa_par c8 c14, show ((eofP H (factP H 2) (p + 1)).1, (eofP H (factP H 2) (p + 1)).2.1) = (true, (eofP H (factP H 2) (p + 1)).2.1) from Prod.ext hok_ rfl]
              exact ⟨by show _ = bI (mustP H 41 (true, (eofP H (factP H 2) (p + 1)).2.1)).1; rw [hmb_]; rfl, ⟨_, hx40⟩, hP43, (((OffS.of (S := (fun o => o = rd ∨ o = tw)) ho26 (Or.inl rfl)).tr ho32).tr (OffS.of (S := (fun o => o = rd ∨ o = tw)) ho41 (Or.inl rfl)))⟩
            · skip
              refine e_iconst (v := 1) (pc := 65) Xc (dT hX3_single 37 rfl) rfl ?_
              refine e_goto (tgt := 70) (pc := 66) Xc (dT hX3_single 38 rfl) rfl ?_
              refine e_zret (pc := 70) Xc hQ (dT hX3_single 40 rfl) (Nat.le_refl _) (Nat.le_refl _) (Or.inr rfl) ?_
              have hmb_ : (mustP H 41 (true, (eofP H (factP H 2) (p + 1)).2.1)).1 = true := by cases q_ : (mustP H 41 (true, (eofP H (factP H 2) (p + 1)).2.1)).1; exact absurd (show bI (mustP H 41 (true, (eofP H (factP H 2) (p + 1)).2.1)).1 = 0 by rw [q_]; rfl) c62; rfl
              rw [fa_par c8 c14, show ((eofP H (factP H 2) (p + 1)).1, (eofP H (factP H 2) (p + 1)).2.1) = (true, (eofP H (factP H 2) (p + 1)).2.1) from Prod.ext hok_ rfl]
              exact ⟨by show _ = bI (mustP H 41 (true, (eofP H (factP H 2) (p + 1)).2.1)).1; rw [hmb_]; rfl, ⟨_, hx40⟩, hP43, (((OffS.of (S := (fun o => o = rd ∨ o = tw)) ho26 (Or.inl rfl)).tr ho32).tr (OffS.of (S := (fun o => o = rd ∨ o = tw)) ho41 (Or.inl rfl)))⟩
      · skip
        exact absurd c24 (by decide)
    · skip
      refine e_aload_n (pc := 17) Xc (dT hX3_single 9 rfl) 1 rfl ?_
      refine cl_X3_84 (pc := 18) (k := 0) (n := 0) (S := []) Xc hP.o (c3_testing hP hPa hH hTA hnt hF1 p hF3 hp hne hP4 n0 hn0 hn hSg hrt hpt) (dT hX3_single 10 rfl) rfl (Nat.le_of_ble_eq_true rfl) (Nat.le_of_ble_eq_true rfl) (Nat.le_of_ble_eq_true rfl) rfl (Nat.le_of_ble_eq_true rfl) (fun r44 σ45 hq46 => ?_)
      obtain ⟨r44e, hx3_, hx4_, ho47⟩ := hq46
      have r44e := r44e.symm; subst r44e
      refine e_zret (pc := 21) Xc hQ (dT hX3_single 11 rfl) (Nat.le_refl _) (Nat.le_refl _) (bI_or _) ?_
      rw [fa_test c8 c14]
      exact ⟨rfl, hx3_, hx4_, ho47⟩
set_option maxRecDepth 100000 in
set_option maxHeartbeats 4000000 in
theorem c3_joinT3 {G : xG} {σ : xS} {rd pa tw : Nat} {F : Nat → Int32} {A : Nat → Nat → Int32} (hP : PX3 σ rd F (tR pa tw) A) {Fa : Nat → Int32} {Ta : Nat → Nat} {Aa : Nat → Nat → Int32} (hPa : PX2 σ pa Fa Ta Aa) {H : Nat → Int32} {nt : Nat} (hH : Hend H nt) (hTA : ∀ q, q < nt → Aa 1 q = H q) (hnt : nt ≤ 100) (hF1 : F 1 = nI nt) (p : Nat) (hF3 : F 3 = nI p) (hp : p ≤ nt) (hne : rd ≠ pa) {F4 : Nat → Int32} {T4 : Nat → Nat} {A4 : Nat → Nat → Int32} (hP4 : PX4 σ tw F4 T4 A4) (n0 : Nat) (hn0 : F4 3 = nI n0) (hn : n0 ≤ p) (hSg : ∀ q, isSg (H q)) (hrt : rd ≠ tw) (hpt : pa ≠ tw) : CI G yX3_joined cX3_joined 5 (some .boolean) 13 0 0 [.ref rd, .int 1, .int 2] σ (fun z σ1 => z = bI (tofP H (factP H 3) p).1 ∧ (∃ v, PX3 σ1 rd (upd (upd F 3 (nI (tofP H (factP H 3) p).2.1)) 4 v) (tR pa tw) A) ∧ tP σ1 tw F4 T4 A4 n0 ((tofP H (factP H 3) p).2.2.map encC) ∧ OffS (fun o => o = rd ∨ o = tw) σ σ1) := by
  refine Met.ofX (by decide +kernel) (Nat.le_of_ble_eq_true rfl) (fun μ Xc hQ hnm => ?_)
  have Xc : xC G μ cX3_joined 5 RX3 (some .boolean) 13 0 0 := Xc
  show Ev G μ 5 0 0 0 [(0, .ref rd), (1, .int 1), (2, .int 2)] [] σ
  refine e_iconst (v := 0) (pc := 0) Xc (dT hX3_joined 0 rfl) rfl ?_
  refine e_istore_n (L' := [(3, .int 0), (0, .ref rd), (1, .int 1), (2, .int 2)]) (pc := 1) Xc (dT hX3_joined 1 rfl) (by decide) rfl ?_
  have lp2 : ∀ (n2 : Nat) (i_ k_ p_ : Nat) (l_ : List xI) (v_ : Int32) (σ2 : xS), 100 - i_ < n2 → (i_ + k_ = 100) → (2 * i_ ≤ p_) → (lpJ H (factP H 3) 38 1 k_ (jW (factP H 3) 1 i_ p_ l_) = (tofP H (factP H 3) p)) → (p_ ≤ nt) → (n0 + l_.length ≤ p_) → (0 < i_ → n0 + l_.length + 1 ≤ p_) → (PX3 σ2 rd (fR F p_ v_) (tR pa tw) A) → (tP σ2 tw F4 T4 A4 n0 (l_.map encC)) → (OffS (fun o => o = rd ∨ o = tw) σ σ2) → Ev G μ 5 0 0 2 [(0, .ref rd), (1, .int 1), (2, .int 2), (3, .int (nI i_))] [] σ2 := by
    intro n2
    induction n2 with
    | zero => intro i_ k_ p_ l_ v_ σ2 hn; exact absurd hn (Nat.not_lt_zero _)
    | succ n2 ih2 =>
      intro i_ k_ p_ l_ v_ σ2 hn2 hik_ h2i_ hR_ hpn_ hnl_ hn1_ hx2 ht2 ho2
      have hpa2 := hPa.cg (fun i => ho2.cell (fun e => e.elim (fun q => hne q.symm) hpt) i)
      obtain ⟨k_, rfl⟩ : ∃ k, k_ = k + 1 := ⟨k_ - 1, by omega⟩
      have hll_ : (l_.map encC).length = l_.length := List.length_map _
      refine e_iload_n (pc := 2) Xc (dT hX3_joined 2 rfl) 3 rfl ?_
      refine e_bipush (v := 100) (pc := 3) Xc (dT hX3_joined 3 rfl) rfl ?_
      refine e_icmp_geN (x := i_) (y := 100) (tgt := 83) (pc := 5) Xc (dT hX3_joined 4 rfl) rfl (by omega) (by omega) (fun c5 => ?_) (fun c5 => ?_)
      · skip
        exact absurd c5 (by omega)
      · skip
        refine e_iload_n (pc := 8) Xc (dT hX3_joined 5 rfl) 1 rfl ?_
        refine e_if_ne (tgt := 21) (pc := 9) Xc (dT hX3_joined 6 rfl) rfl (fun c9 => ?_) (fun c9 => ?_)
        · skip
          refine e_aload_n (pc := 21) Xc (dT hX3_joined 12 rfl) 0 rfl ?_
          refine e_iload_n (pc := 22) Xc (dT hX3_joined 13 rfl) 2 rfl ?_
          refine cl_X3_77 (pc := 23) (k := 0) (n := 0) (S := []) Xc (c3_single3 hx2 hpa2 hH hTA hnt hF1 p_ rfl hpn_ hne ht2 (n0 + (l_.map encC).length) upd_s (by rw [List.length_map]; omega) hSg hrt hpt) (dT hX3_joined 14 rfl) rfl (Nat.le_of_ble_eq_true rfl) (Nat.le_of_ble_eq_true rfl) (Nat.le_of_ble_eq_true rfl) rfl (Nat.le_of_ble_eq_true rfl) (fun r1 σ2 hq3 => ?_)
          obtain ⟨r1e, ⟨v8_, hx5⟩, ht6, ho4⟩ := hq3
          have r1e := r1e.symm; subst r1e
          have hx5 : PX3 σ2 rd (fR F ((factP H 3) p_).2.1 v8_) (tR pa tw) A := by
            have h_ := hx5
            first | (rw [fR_2] at h_; exact h_) | (rw [fR_4, fR_2] at h_; exact h_) | exact h_
          have ht6 := tP_app ht6
          have ht6 : tP σ2 tw F4 T4 A4 n0 ((l_.map encC) ++ (((factP H 3) p_).2.2.map encC)) := ht6
          have hpa7 := (hpa2).cg (fun i => ho4.cell (fun e => e.elim (fun q => hne q.symm) hpt) i)
          obtain ⟨hi1_, hi2_, hi3_, hi4_⟩ : goP nt p_ ((factP H 3) p_) := factP_go hH 3 p_ hpn_
          have hlm_ : (((factP H 3) p_).2.2.map encC).length = ((factP H 3) p_).2.2.length := List.length_map _
          refine e_istore (L' := [(4, .int (bI ((factP H 3) p_).1)), (0, .ref rd), (1, .int 1), (2, .int 2), (3, .int (nI i_))]) (pc := 26) Xc (dT hX3_joined 15 rfl) (by decide) rfl ?_
          refine e_iload (pc := 28) Xc (dT hX3_joined 16 rfl) 0 rfl ?_
          refine e_if_ne (tgt := 35) (pc := 30) Xc (dT hX3_joined 17 rfl) rfl (fun c30 => ?_) (fun c30 => ?_)
          · skip
            have hok_ : ((factP H 3) p_).1 = true := by cases q_ : ((factP H 3) p_).1; exact absurd (show bI ((factP H 3) p_).1 = 0 by rw [q_]; rfl) c30; rfl
            refine e_iload_n (pc := 35) Xc (dT hX3_joined 20 rfl) 4 rfl ?_
            refine e_if_le (tgt := 57) (pc := 36) Xc (dT hX3_joined 21 rfl) rfl (fun c36 => ?_) (fun c36 => ?_)
            · skip
              have hi0_ : i_ = 0 := by
                rcases Nat.eq_zero_or_pos i_ with q | q
                · exact q
                · exact absurd c36 (nI_nle0 q (by omega))
              refine e_aload_n (pc := 57) Xc (dT hX3_joined 30 rfl) 1 rfl ?_
              refine e_iload_n (pc := 58) Xc (dT hX3_joined 31 rfl) 2 rfl ?_
              refine e_if_ne (tgt := 67) (pc := 59) Xc (dT hX3_joined 32 rfl) rfl (fun c59 => ?_) (fun c59 => ?_)
              · skip
                refine e_bipush (v := 38) (pc := 67) Xc (dT hX3_joined 35 rfl) rfl ?_
                refine cl_X3_33 (pc := 69) (k := 0) (n := 0) (S := []) Xc hx5.o (c3_takes hx5 hpa7 hH hTA hnt hF1 ((factP H 3) p_).2.1 rfl hi2_ hne 38) (dT hX3_joined 36 rfl) rfl (Nat.le_of_ble_eq_true rfl) (Nat.le_of_ble_eq_true rfl) (Nat.le_of_ble_eq_true rfl) rfl (Nat.le_of_ble_eq_true rfl) (fun r9 σ10 hq11 => ?_)
                obtain ⟨r9e, hx12, ho13⟩ := hq11
                rw [fR_3] at hx12
                by_cases hsep_ : H ((factP H 3) p_).2.1 = 38
                · skip
                  rw [must_t hsep_] at r9e hx12
                  have r9e := r9e.symm; subst r9e
                  have hP14 := hpa7.off ho13 (Ne.symm hne)
                  have hP15 := ht6.off ho13 (Ne.symm hrt)
                  refine e_val (y := 1) rfl ?_
                  refine e_if_ne (tgt := 77) (pc := 72) Xc (dT hX3_joined 37 rfl) rfl (fun c72 => ?_) (fun c72 => ?_)
                  · skip
                    refine e_iincN (a := i_) (b := 1) (L' := [(3, .int (nI (i_ + 1))), (4, .int (bI ((factP H 3) p_).1)), (0, .ref rd), (1, .int 1), (2, .int 2)]) (pc := 77) Xc (dT hX3_joined 40 rfl) 4 rfl rfl (by decide) rfl ?_
                    refine e_goto (tgt := 2) (pc := 80) Xc (dT hX3_joined 41 rfl) rfl ?_
                    have hLe_ : ((l_.map encC) ++ (((factP H 3) p_).2.2.map encC)) = (jW (factP H 3) 1 i_ p_ l_).2.2.map encC := by rw [jW_n (fun q => absurd q.1 (by omega))]; first | (simp only [List.map_append, List.append_assoc]; done) | (simp only [List.map_append, List.append_assoc]; rfl)
                    have hLl_ : (jW (factP H 3) 1 i_ p_ l_).2.2.length = l_.length + ((factP H 3) p_).2.2.length + 0 := by rw [jW_n (fun q => absurd q.1 (by omega))]; simp only [List.length_append, List.length_cons, List.length_nil]; omega
                    refine Ev.pick (L' := [(0, .ref rd), (1, .int 1), (2, .int 2), (3, .int (nI (i_ + 1)))]) [2, 3, 4, 0] rfl ?_
                    exact ih2 (i_ + 1) k_ (((factP H 3) p_).2.1 + 1) ((jW (factP H 3) 1 i_ p_ l_).2.2) v8_ σ10 (by omega) (by omega) (by have := hi3_ hok_; omega) ((jW_s hok_ hsep_).symm.trans hR_) (hH.lt hsep_ (by decide)) (by omega) (fun _ => by omega) hx12 (by rw [← hLe_]; exact hP15) ((ho2.tr ho4).tr (OffS.of (S := (fun o => o = rd ∨ o = tw)) ho13 (Or.inl rfl)))
                  · skip
                    exact absurd c72 (by decide)
                · skip
                  rw [must_x hsep_] at r9e hx12
                  have r9e := r9e.symm; subst r9e
                  have hP16 := hpa7.off ho13 (Ne.symm hne)
                  have hP17 := ht6.off ho13 (Ne.symm hrt)
                  refine e_val (y := 0) rfl ?_
                  refine e_if_ne (tgt := 77) (pc := 72) Xc (dT hX3_joined 37 rfl) rfl (fun c72 => ?_) (fun c72 => ?_)
                  · skip
                    exact absurd c72 (by decide)
                  · skip
                    refine e_iconst (v := 1) (pc := 75) Xc (dT hX3_joined 38 rfl) rfl ?_
                    refine e_zret (pc := 76) Xc hQ (dT hX3_joined 39 rfl) (Nat.le_refl _) (Nat.le_refl _) (Or.inr rfl) ?_
                    rw [lpJ_x (r := jW (factP H 3) 1 i_ p_ l_) (fun q => hsep_ q.2)] at hR_
                    rw [← hR_]
                    refine ⟨?_, ⟨_, hx12⟩, ?_, ((ho2.tr ho4).tr (OffS.of (S := (fun o => o = rd ∨ o = tw)) ho13 (Or.inl rfl)))⟩
                    · show _ = bI ((factP H 3) p_).1
                      rw [hok_]; rfl
                    · rw [jW_n (fun q => absurd q.1 (by omega))]
                      have h_ := hP17
                      simp only [List.map_append, List.append_assoc] at h_ ⊢
                      exact h_
              · skip
                exact absurd c59 (by decide)
            · skip
              have hi0_ : 0 < i_ := by
                rcases Nat.eq_zero_or_pos i_ with q | q
                · subst q; exact absurd (by decide) c36
                · exact q
              have hn1b_ := hn1_ hi0_
              have hi3b_ := hi3_ hok_
              refine e_aload_n (pc := 39) Xc (dT hX3_joined 22 rfl) 1 rfl ?_
              refine gf_X3_25 (pc := 40) Xc (dT hX3_joined 23 rfl) hx5.o rfl ?_
              refine e_iload_n (pc := 43) Xc (dT hX3_joined 24 rfl) 2 rfl ?_
              refine e_if_ne (tgt := 52) (pc := 44) Xc (dT hX3_joined 25 rfl) rfl (fun c44 => ?_) (fun c44 => ?_)
              · skip
                refine e_bipush (v := -2) (pc := 52) Xc (dT hX3_joined 28 rfl) rfl ?_
                refine cl_X3_81 (pc := 54) (k := 0) (n := 0) (S := []) Xc ht6.o (c4_write ht6 (n0 + ((l_.map encC) ++ (((factP H 3) p_).2.2.map encC)).length) upd_s (by simp only [List.length_append, List.length_map] at *; omega) (-2)) (dT hX3_joined 29 rfl) rfl (Nat.le_of_ble_eq_true rfl) (Nat.le_of_ble_eq_true rfl) (Nat.le_of_ble_eq_true rfl) rfl (Nat.le_of_ble_eq_true rfl) (fun σ19 hq20 => ?_)
                obtain ⟨ht21, ho22⟩ := hq20
                have ht21 : tP σ19 tw F4 T4 A4 n0 (((l_.map encC) ++ (((factP H 3) p_).2.2.map encC)) ++ [(-2)]) := tP_app ht21
                have hP23 := hx5.off ho22 hrt
                have hP24 := hpa7.off ho22 hpt
                refine e_aload_n (pc := 57) Xc (dT hX3_joined 30 rfl) 1 rfl ?_
                refine e_iload_n (pc := 58) Xc (dT hX3_joined 31 rfl) 2 rfl ?_
                refine e_if_ne (tgt := 67) (pc := 59) Xc (dT hX3_joined 32 rfl) rfl (fun c59 => ?_) (fun c59 => ?_)
                · skip
                  refine e_bipush (v := 38) (pc := 67) Xc (dT hX3_joined 35 rfl) rfl ?_
                  refine cl_X3_33 (pc := 69) (k := 0) (n := 0) (S := []) Xc hP23.o (c3_takes hP23 hP24 hH hTA hnt hF1 ((factP H 3) p_).2.1 rfl hi2_ hne 38) (dT hX3_joined 36 rfl) rfl (Nat.le_of_ble_eq_true rfl) (Nat.le_of_ble_eq_true rfl) (Nat.le_of_ble_eq_true rfl) rfl (Nat.le_of_ble_eq_true rfl) (fun r25 σ26 hq27 => ?_)
                  obtain ⟨r25e, hx28, ho29⟩ := hq27
                  rw [fR_3] at hx28
                  by_cases hsep_ : H ((factP H 3) p_).2.1 = 38
                  · skip
                    rw [must_t hsep_] at r25e hx28
                    have r25e := r25e.symm; subst r25e
                    have hP30 := hP24.off ho29 (Ne.symm hne)
                    have hP31 := ht21.off ho29 (Ne.symm hrt)
                    refine e_val (y := 1) rfl ?_
                    refine e_if_ne (tgt := 77) (pc := 72) Xc (dT hX3_joined 37 rfl) rfl (fun c72 => ?_) (fun c72 => ?_)
                    · skip
                      refine e_iincN (a := i_) (b := 1) (L' := [(3, .int (nI (i_ + 1))), (4, .int (bI ((factP H 3) p_).1)), (0, .ref rd), (1, .int 1), (2, .int 2)]) (pc := 77) Xc (dT hX3_joined 40 rfl) 4 rfl rfl (by decide) rfl ?_
                      refine e_goto (tgt := 2) (pc := 80) Xc (dT hX3_joined 41 rfl) rfl ?_
                      have hLe_ : (((l_.map encC) ++ (((factP H 3) p_).2.2.map encC)) ++ [(-2)]) = (jW (factP H 3) 1 i_ p_ l_).2.2.map encC := by rw [jW_y hi0_ hok_]; first | (simp only [List.map_append, List.append_assoc]; done) | (simp only [List.map_append, List.append_assoc]; rfl)
                      have hLl_ : (jW (factP H 3) 1 i_ p_ l_).2.2.length = l_.length + ((factP H 3) p_).2.2.length + 1 := by rw [jW_y hi0_ hok_]; simp only [List.length_append, List.length_cons, List.length_nil]; omega
                      refine Ev.pick (L' := [(0, .ref rd), (1, .int 1), (2, .int 2), (3, .int (nI (i_ + 1)))]) [2, 3, 4, 0] rfl ?_
                      exact ih2 (i_ + 1) k_ (((factP H 3) p_).2.1 + 1) ((jW (factP H 3) 1 i_ p_ l_).2.2) v8_ σ26 (by omega) (by omega) (by have := hi3_ hok_; omega) ((jW_s hok_ hsep_).symm.trans hR_) (hH.lt hsep_ (by decide)) (by omega) (fun _ => by omega) hx28 (by rw [← hLe_]; exact hP31) (((ho2.tr ho4).tr (OffS.of (S := (fun o => o = rd ∨ o = tw)) ho22 (Or.inr rfl))).tr (OffS.of (S := (fun o => o = rd ∨ o = tw)) ho29 (Or.inl rfl)))
                    · skip
                      exact absurd c72 (by decide)
                  · skip
                    rw [must_x hsep_] at r25e hx28
                    have r25e := r25e.symm; subst r25e
                    have hP32 := hP24.off ho29 (Ne.symm hne)
                    have hP33 := ht21.off ho29 (Ne.symm hrt)
                    refine e_val (y := 0) rfl ?_
                    refine e_if_ne (tgt := 77) (pc := 72) Xc (dT hX3_joined 37 rfl) rfl (fun c72 => ?_) (fun c72 => ?_)
                    · skip
                      exact absurd c72 (by decide)
                    · skip
                      refine e_iconst (v := 1) (pc := 75) Xc (dT hX3_joined 38 rfl) rfl ?_
                      refine e_zret (pc := 76) Xc hQ (dT hX3_joined 39 rfl) (Nat.le_refl _) (Nat.le_refl _) (Or.inr rfl) ?_
                      rw [lpJ_x (r := jW (factP H 3) 1 i_ p_ l_) (fun q => hsep_ q.2)] at hR_
                      rw [← hR_]
                      refine ⟨?_, ⟨_, hx28⟩, ?_, (((ho2.tr ho4).tr (OffS.of (S := (fun o => o = rd ∨ o = tw)) ho22 (Or.inr rfl))).tr (OffS.of (S := (fun o => o = rd ∨ o = tw)) ho29 (Or.inl rfl)))⟩
                      · show _ = bI ((factP H 3) p_).1
                        rw [hok_]; rfl
                      · rw [jW_y hi0_ hok_]
                        have h_ := hP33
                        simp only [List.map_append, List.append_assoc] at h_ ⊢
                        exact h_
                · skip
                  exact absurd c59 (by decide)
              · skip
                exact absurd c44 (by decide)
          · skip
            have hok_ : ((factP H 3) p_).1 = false := bI_0.mp c30
            refine e_iconst (v := 0) (pc := 33) Xc (dT hX3_joined 18 rfl) rfl ?_
            refine e_zret (pc := 34) Xc hQ (dT hX3_joined 19 rfl) (Nat.le_refl _) (Nat.le_refl _) (Or.inl rfl) ?_
            rw [lpJ_x (r := jW (factP H 3) 1 i_ p_ l_) (fun q => by have q1 := q.1; rw [show (jW (factP H 3) 1 i_ p_ l_).1 = ((factP H 3) p_).1 from rfl, hok_] at q1; exact Bool.noConfusion q1)] at hR_
            rw [← hR_]
            refine ⟨?_, ⟨_, hx5⟩, ?_, (ho2.tr ho4)⟩
            · show _ = bI ((factP H 3) p_).1
              rw [hok_]; rfl
            · rw [jW_n (fun q => by rw [hok_] at q; exact Bool.noConfusion q.2)]
              have h_ := ht6
              simp only [List.map_append, List.append_assoc] at h_ ⊢
              exact h_
        · skip
          exact absurd c9 (by decide)
  refine Ev.pick (L' := [(0, .ref rd), (1, .int 1), (2, .int 2), (3, .int 0)]) [1, 2, 3, 0] rfl ?_
  exact lp2 ((100 - 0) + 1) 0 100 p ([] : List xI) (F 4) σ (Nat.lt_succ_self _) rfl (Nat.zero_le _) (by rw [jW_0]; rfl) hp hn (fun q => absurd q (Nat.lt_irrefl 0)) (by rw [fR_id hF3]; exact hP) (tP_nil hP4 hn0) OffS.rf
set_option maxRecDepth 100000 in
set_option maxHeartbeats 4000000 in
theorem c3_joinE3 {G : xG} {σ : xS} {rd pa tw : Nat} {F : Nat → Int32} {A : Nat → Nat → Int32} (hP : PX3 σ rd F (tR pa tw) A) {Fa : Nat → Int32} {Ta : Nat → Nat} {Aa : Nat → Nat → Int32} (hPa : PX2 σ pa Fa Ta Aa) {H : Nat → Int32} {nt : Nat} (hH : Hend H nt) (hTA : ∀ q, q < nt → Aa 1 q = H q) (hnt : nt ≤ 100) (hF1 : F 1 = nI nt) (p : Nat) (hF3 : F 3 = nI p) (hp : p ≤ nt) (hne : rd ≠ pa) {F4 : Nat → Int32} {T4 : Nat → Nat} {A4 : Nat → Nat → Int32} (hP4 : PX4 σ tw F4 T4 A4) (n0 : Nat) (hn0 : F4 3 = nI n0) (hn : n0 ≤ p) (hSg : ∀ q, isSg (H q)) (hrt : rd ≠ tw) (hpt : pa ≠ tw) : CI G yX3_joined cX3_joined 5 (some .boolean) 14 0 0 [.ref rd, .int 0, .int 2] σ (fun z σ1 => z = bI (eofP H (factP H 3) p).1 ∧ (∃ v, PX3 σ1 rd (upd (upd F 3 (nI (eofP H (factP H 3) p).2.1)) 4 v) (tR pa tw) A) ∧ tP σ1 tw F4 T4 A4 n0 ((eofP H (factP H 3) p).2.2.map encC) ∧ OffS (fun o => o = rd ∨ o = tw) σ σ1) := by
  refine Met.ofX (by decide +kernel) (Nat.le_of_ble_eq_true rfl) (fun μ Xc hQ hnm => ?_)
  have Xc : xC G μ cX3_joined 5 RX3 (some .boolean) 14 0 0 := Xc
  show Ev G μ 5 0 0 0 [(0, .ref rd), (1, .int 0), (2, .int 2)] [] σ
  refine e_iconst (v := 0) (pc := 0) Xc (dT hX3_joined 0 rfl) rfl ?_
  refine e_istore_n (L' := [(3, .int 0), (0, .ref rd), (1, .int 0), (2, .int 2)]) (pc := 1) Xc (dT hX3_joined 1 rfl) (by decide) rfl ?_
  have lp2 : ∀ (n2 : Nat) (i_ k_ p_ : Nat) (l_ : List xI) (v_ : Int32) (σ2 : xS), 100 - i_ < n2 → (i_ + k_ = 100) → (2 * i_ ≤ p_) → (lpJ H (tofP H (factP H 3)) 124 2 k_ (jW (tofP H (factP H 3)) 2 i_ p_ l_) = (eofP H (factP H 3) p)) → (p_ ≤ nt) → (n0 + l_.length ≤ p_) → (0 < i_ → n0 + l_.length + 1 ≤ p_) → (PX3 σ2 rd (fR F p_ v_) (tR pa tw) A) → (tP σ2 tw F4 T4 A4 n0 (l_.map encC)) → (OffS (fun o => o = rd ∨ o = tw) σ σ2) → Ev G μ 5 0 0 2 [(0, .ref rd), (1, .int 0), (2, .int 2), (3, .int (nI i_))] [] σ2 := by
    intro n2
    induction n2 with
    | zero => intro i_ k_ p_ l_ v_ σ2 hn; exact absurd hn (Nat.not_lt_zero _)
    | succ n2 ih2 =>
      intro i_ k_ p_ l_ v_ σ2 hn2 hik_ h2i_ hR_ hpn_ hnl_ hn1_ hx2 ht2 ho2
      have hpa2 := hPa.cg (fun i => ho2.cell (fun e => e.elim (fun q => hne q.symm) hpt) i)
      obtain ⟨k_, rfl⟩ : ∃ k, k_ = k + 1 := ⟨k_ - 1, by omega⟩
      have hll_ : (l_.map encC).length = l_.length := List.length_map _
      refine e_iload_n (pc := 2) Xc (dT hX3_joined 2 rfl) 3 rfl ?_
      refine e_bipush (v := 100) (pc := 3) Xc (dT hX3_joined 3 rfl) rfl ?_
      refine e_icmp_geN (x := i_) (y := 100) (tgt := 83) (pc := 5) Xc (dT hX3_joined 4 rfl) rfl (by omega) (by omega) (fun c5 => ?_) (fun c5 => ?_)
      · skip
        exact absurd c5 (by omega)
      · skip
        refine e_iload_n (pc := 8) Xc (dT hX3_joined 5 rfl) 1 rfl ?_
        refine e_if_ne (tgt := 21) (pc := 9) Xc (dT hX3_joined 6 rfl) rfl (fun c9 => ?_) (fun c9 => ?_)
        · skip
          exact absurd c9 (by decide)
        · skip
          refine e_aload_n (pc := 12) Xc (dT hX3_joined 7 rfl) 0 rfl ?_
          refine e_iconst (v := 1) (pc := 13) Xc (dT hX3_joined 8 rfl) rfl ?_
          refine e_iload_n (pc := 14) Xc (dT hX3_joined 9 rfl) 2 rfl ?_
          refine cl_X3_51 (pc := 15) (k := 0) (n := 0) (S := []) Xc (c3_joinT3 hx2 hpa2 hH hTA hnt hF1 p_ rfl hpn_ hne ht2 (n0 + (l_.map encC).length) upd_s (by rw [List.length_map]; omega) hSg hrt hpt) (dT hX3_joined 10 rfl) rfl (Nat.le_of_ble_eq_true rfl) (Nat.le_of_ble_eq_true rfl) (Nat.le_of_ble_eq_true rfl) rfl (Nat.le_of_ble_eq_true rfl) (fun r1 σ2 hq3 => ?_)
          obtain ⟨r1e, ⟨v8_, hx5⟩, ht6, ho4⟩ := hq3
          have r1e := r1e.symm; subst r1e
          have hx5 : PX3 σ2 rd (fR F ((tofP H (factP H 3)) p_).2.1 v8_) (tR pa tw) A := by
            have h_ := hx5
            first | (rw [fR_2] at h_; exact h_) | (rw [fR_4, fR_2] at h_; exact h_) | exact h_
          have ht6 := tP_app ht6
          have ht6 : tP σ2 tw F4 T4 A4 n0 ((l_.map encC) ++ (((tofP H (factP H 3)) p_).2.2.map encC)) := ht6
          have hpa7 := (hpa2).cg (fun i => ho4.cell (fun e => e.elim (fun q => hne q.symm) hpt) i)
          obtain ⟨hi1_, hi2_, hi3_, hi4_⟩ : goP nt p_ ((tofP H (factP H 3)) p_) := tofP_go hH (fun q hq => factP_go hH 3 q hq) hpn_
          have hlm_ : (((tofP H (factP H 3)) p_).2.2.map encC).length = ((tofP H (factP H 3)) p_).2.2.length := List.length_map _
          refine e_goto (tgt := 26) (pc := 18) Xc (dT hX3_joined 11 rfl) rfl ?_
          refine e_istore (L' := [(4, .int (bI ((tofP H (factP H 3)) p_).1)), (0, .ref rd), (1, .int 0), (2, .int 2), (3, .int (nI i_))]) (pc := 26) Xc (dT hX3_joined 15 rfl) (by decide) rfl ?_
          refine e_iload (pc := 28) Xc (dT hX3_joined 16 rfl) 0 rfl ?_
          refine e_if_ne (tgt := 35) (pc := 30) Xc (dT hX3_joined 17 rfl) rfl (fun c30 => ?_) (fun c30 => ?_)
          · skip
            have hok_ : ((tofP H (factP H 3)) p_).1 = true := by cases q_ : ((tofP H (factP H 3)) p_).1; exact absurd (show bI ((tofP H (factP H 3)) p_).1 = 0 by rw [q_]; rfl) c30; rfl
            refine e_iload_n (pc := 35) Xc (dT hX3_joined 20 rfl) 4 rfl ?_
            refine e_if_le (tgt := 57) (pc := 36) Xc (dT hX3_joined 21 rfl) rfl (fun c36 => ?_) (fun c36 => ?_)
            · skip
              have hi0_ : i_ = 0 := by
                rcases Nat.eq_zero_or_pos i_ with q | q
                · exact q
                · exact absurd c36 (nI_nle0 q (by omega))
              refine e_aload_n (pc := 57) Xc (dT hX3_joined 30 rfl) 1 rfl ?_
              refine e_iload_n (pc := 58) Xc (dT hX3_joined 31 rfl) 2 rfl ?_
              refine e_if_ne (tgt := 67) (pc := 59) Xc (dT hX3_joined 32 rfl) rfl (fun c59 => ?_) (fun c59 => ?_)
              · skip
                exact absurd c59 (by decide)
              · skip
                refine e_bipush (v := 124) (pc := 62) Xc (dT hX3_joined 33 rfl) rfl ?_
                refine e_goto (tgt := 69) (pc := 64) Xc (dT hX3_joined 34 rfl) rfl ?_
                refine cl_X3_33 (pc := 69) (k := 0) (n := 0) (S := []) Xc hx5.o (c3_takes hx5 hpa7 hH hTA hnt hF1 ((tofP H (factP H 3)) p_).2.1 rfl hi2_ hne 124) (dT hX3_joined 36 rfl) rfl (Nat.le_of_ble_eq_true rfl) (Nat.le_of_ble_eq_true rfl) (Nat.le_of_ble_eq_true rfl) rfl (Nat.le_of_ble_eq_true rfl) (fun r9 σ10 hq11 => ?_)
                obtain ⟨r9e, hx12, ho13⟩ := hq11
                rw [fR_3] at hx12
                by_cases hsep_ : H ((tofP H (factP H 3)) p_).2.1 = 124
                · skip
                  rw [must_t hsep_] at r9e hx12
                  have r9e := r9e.symm; subst r9e
                  have hP14 := hpa7.off ho13 (Ne.symm hne)
                  have hP15 := ht6.off ho13 (Ne.symm hrt)
                  refine e_val (y := 1) rfl ?_
                  refine e_if_ne (tgt := 77) (pc := 72) Xc (dT hX3_joined 37 rfl) rfl (fun c72 => ?_) (fun c72 => ?_)
                  · skip
                    refine e_iincN (a := i_) (b := 1) (L' := [(3, .int (nI (i_ + 1))), (4, .int (bI ((tofP H (factP H 3)) p_).1)), (0, .ref rd), (1, .int 0), (2, .int 2)]) (pc := 77) Xc (dT hX3_joined 40 rfl) 4 rfl rfl (by decide) rfl ?_
                    refine e_goto (tgt := 2) (pc := 80) Xc (dT hX3_joined 41 rfl) rfl ?_
                    have hLe_ : ((l_.map encC) ++ (((tofP H (factP H 3)) p_).2.2.map encC)) = (jW (tofP H (factP H 3)) 2 i_ p_ l_).2.2.map encC := by rw [jW_n (fun q => absurd q.1 (by omega))]; first | (simp only [List.map_append, List.append_assoc]; done) | (simp only [List.map_append, List.append_assoc]; rfl)
                    have hLl_ : (jW (tofP H (factP H 3)) 2 i_ p_ l_).2.2.length = l_.length + ((tofP H (factP H 3)) p_).2.2.length + 0 := by rw [jW_n (fun q => absurd q.1 (by omega))]; simp only [List.length_append, List.length_cons, List.length_nil]; omega
                    refine Ev.pick (L' := [(0, .ref rd), (1, .int 0), (2, .int 2), (3, .int (nI (i_ + 1)))]) [2, 3, 4, 0] rfl ?_
                    exact ih2 (i_ + 1) k_ (((tofP H (factP H 3)) p_).2.1 + 1) ((jW (tofP H (factP H 3)) 2 i_ p_ l_).2.2) v8_ σ10 (by omega) (by omega) (by have := hi3_ hok_; omega) ((jW_s hok_ hsep_).symm.trans hR_) (hH.lt hsep_ (by decide)) (by omega) (fun _ => by omega) hx12 (by rw [← hLe_]; exact hP15) ((ho2.tr ho4).tr (OffS.of (S := (fun o => o = rd ∨ o = tw)) ho13 (Or.inl rfl)))
                  · skip
                    exact absurd c72 (by decide)
                · skip
                  rw [must_x hsep_] at r9e hx12
                  have r9e := r9e.symm; subst r9e
                  have hP16 := hpa7.off ho13 (Ne.symm hne)
                  have hP17 := ht6.off ho13 (Ne.symm hrt)
                  refine e_val (y := 0) rfl ?_
                  refine e_if_ne (tgt := 77) (pc := 72) Xc (dT hX3_joined 37 rfl) rfl (fun c72 => ?_) (fun c72 => ?_)
                  · skip
                    exact absurd c72 (by decide)
                  · skip
                    refine e_iconst (v := 1) (pc := 75) Xc (dT hX3_joined 38 rfl) rfl ?_
                    refine e_zret (pc := 76) Xc hQ (dT hX3_joined 39 rfl) (Nat.le_refl _) (Nat.le_refl _) (Or.inr rfl) ?_
                    rw [lpJ_x (r := jW (tofP H (factP H 3)) 2 i_ p_ l_) (fun q => hsep_ q.2)] at hR_
                    rw [← hR_]
                    refine ⟨?_, ⟨_, hx12⟩, ?_, ((ho2.tr ho4).tr (OffS.of (S := (fun o => o = rd ∨ o = tw)) ho13 (Or.inl rfl)))⟩
                    · show _ = bI ((tofP H (factP H 3)) p_).1
                      rw [hok_]; rfl
                    · rw [jW_n (fun q => absurd q.1 (by omega))]
                      have h_ := hP17
                      simp only [List.map_append, List.append_assoc] at h_ ⊢
                      exact h_
            · skip
              have hi0_ : 0 < i_ := by
                rcases Nat.eq_zero_or_pos i_ with q | q
                · subst q; exact absurd (by decide) c36
                · exact q
              have hn1b_ := hn1_ hi0_
              have hi3b_ := hi3_ hok_
              refine e_aload_n (pc := 39) Xc (dT hX3_joined 22 rfl) 1 rfl ?_
              refine gf_X3_25 (pc := 40) Xc (dT hX3_joined 23 rfl) hx5.o rfl ?_
              refine e_iload_n (pc := 43) Xc (dT hX3_joined 24 rfl) 2 rfl ?_
              refine e_if_ne (tgt := 52) (pc := 44) Xc (dT hX3_joined 25 rfl) rfl (fun c44 => ?_) (fun c44 => ?_)
              · skip
                exact absurd c44 (by decide)
              · skip
                refine e_bipush (v := -3) (pc := 47) Xc (dT hX3_joined 26 rfl) rfl ?_
                refine e_goto (tgt := 54) (pc := 49) Xc (dT hX3_joined 27 rfl) rfl ?_
                refine cl_X3_81 (pc := 54) (k := 0) (n := 0) (S := []) Xc ht6.o (c4_write ht6 (n0 + ((l_.map encC) ++ (((tofP H (factP H 3)) p_).2.2.map encC)).length) upd_s (by simp only [List.length_append, List.length_map] at *; omega) (-3)) (dT hX3_joined 29 rfl) rfl (Nat.le_of_ble_eq_true rfl) (Nat.le_of_ble_eq_true rfl) (Nat.le_of_ble_eq_true rfl) rfl (Nat.le_of_ble_eq_true rfl) (fun σ19 hq20 => ?_)
                obtain ⟨ht21, ho22⟩ := hq20
                have ht21 : tP σ19 tw F4 T4 A4 n0 (((l_.map encC) ++ (((tofP H (factP H 3)) p_).2.2.map encC)) ++ [(-3)]) := tP_app ht21
                have hP23 := hx5.off ho22 hrt
                have hP24 := hpa7.off ho22 hpt
                refine e_aload_n (pc := 57) Xc (dT hX3_joined 30 rfl) 1 rfl ?_
                refine e_iload_n (pc := 58) Xc (dT hX3_joined 31 rfl) 2 rfl ?_
                refine e_if_ne (tgt := 67) (pc := 59) Xc (dT hX3_joined 32 rfl) rfl (fun c59 => ?_) (fun c59 => ?_)
                · skip
                  exact absurd c59 (by decide)
                · skip
                  refine e_bipush (v := 124) (pc := 62) Xc (dT hX3_joined 33 rfl) rfl ?_
                  refine e_goto (tgt := 69) (pc := 64) Xc (dT hX3_joined 34 rfl) rfl ?_
                  refine cl_X3_33 (pc := 69) (k := 0) (n := 0) (S := []) Xc hP23.o (c3_takes hP23 hP24 hH hTA hnt hF1 ((tofP H (factP H 3)) p_).2.1 rfl hi2_ hne 124) (dT hX3_joined 36 rfl) rfl (Nat.le_of_ble_eq_true rfl) (Nat.le_of_ble_eq_true rfl) (Nat.le_of_ble_eq_true rfl) rfl (Nat.le_of_ble_eq_true rfl) (fun r25 σ26 hq27 => ?_)
                  obtain ⟨r25e, hx28, ho29⟩ := hq27
                  rw [fR_3] at hx28
                  by_cases hsep_ : H ((tofP H (factP H 3)) p_).2.1 = 124
                  · skip
                    rw [must_t hsep_] at r25e hx28
                    have r25e := r25e.symm; subst r25e
                    have hP30 := hP24.off ho29 (Ne.symm hne)
                    have hP31 := ht21.off ho29 (Ne.symm hrt)
                    refine e_val (y := 1) rfl ?_
                    refine e_if_ne (tgt := 77) (pc := 72) Xc (dT hX3_joined 37 rfl) rfl (fun c72 => ?_) (fun c72 => ?_)
                    · skip
                      refine e_iincN (a := i_) (b := 1) (L' := [(3, .int (nI (i_ + 1))), (4, .int (bI ((tofP H (factP H 3)) p_).1)), (0, .ref rd), (1, .int 0), (2, .int 2)]) (pc := 77) Xc (dT hX3_joined 40 rfl) 4 rfl rfl (by decide) rfl ?_
                      refine e_goto (tgt := 2) (pc := 80) Xc (dT hX3_joined 41 rfl) rfl ?_
                      have hLe_ : (((l_.map encC) ++ (((tofP H (factP H 3)) p_).2.2.map encC)) ++ [(-3)]) = (jW (tofP H (factP H 3)) 2 i_ p_ l_).2.2.map encC := by rw [jW_y hi0_ hok_]; first | (simp only [List.map_append, List.append_assoc]; done) | (simp only [List.map_append, List.append_assoc]; rfl)
                      have hLl_ : (jW (tofP H (factP H 3)) 2 i_ p_ l_).2.2.length = l_.length + ((tofP H (factP H 3)) p_).2.2.length + 1 := by rw [jW_y hi0_ hok_]; simp only [List.length_append, List.length_cons, List.length_nil]; omega
                      refine Ev.pick (L' := [(0, .ref rd), (1, .int 0), (2, .int 2), (3, .int (nI (i_ + 1)))]) [2, 3, 4, 0] rfl ?_
                      exact ih2 (i_ + 1) k_ (((tofP H (factP H 3)) p_).2.1 + 1) ((jW (tofP H (factP H 3)) 2 i_ p_ l_).2.2) v8_ σ26 (by omega) (by omega) (by have := hi3_ hok_; omega) ((jW_s hok_ hsep_).symm.trans hR_) (hH.lt hsep_ (by decide)) (by omega) (fun _ => by omega) hx28 (by rw [← hLe_]; exact hP31) (((ho2.tr ho4).tr (OffS.of (S := (fun o => o = rd ∨ o = tw)) ho22 (Or.inr rfl))).tr (OffS.of (S := (fun o => o = rd ∨ o = tw)) ho29 (Or.inl rfl)))
                    · skip
                      exact absurd c72 (by decide)
                  · skip
                    rw [must_x hsep_] at r25e hx28
                    have r25e := r25e.symm; subst r25e
                    have hP32 := hP24.off ho29 (Ne.symm hne)
                    have hP33 := ht21.off ho29 (Ne.symm hrt)
                    refine e_val (y := 0) rfl ?_
                    refine e_if_ne (tgt := 77) (pc := 72) Xc (dT hX3_joined 37 rfl) rfl (fun c72 => ?_) (fun c72 => ?_)
                    · skip
                      exact absurd c72 (by decide)
                    · skip
                      refine e_iconst (v := 1) (pc := 75) Xc (dT hX3_joined 38 rfl) rfl ?_
                      refine e_zret (pc := 76) Xc hQ (dT hX3_joined 39 rfl) (Nat.le_refl _) (Nat.le_refl _) (Or.inr rfl) ?_
                      rw [lpJ_x (r := jW (tofP H (factP H 3)) 2 i_ p_ l_) (fun q => hsep_ q.2)] at hR_
                      rw [← hR_]
                      refine ⟨?_, ⟨_, hx28⟩, ?_, (((ho2.tr ho4).tr (OffS.of (S := (fun o => o = rd ∨ o = tw)) ho22 (Or.inr rfl))).tr (OffS.of (S := (fun o => o = rd ∨ o = tw)) ho29 (Or.inl rfl)))⟩
                      · show _ = bI ((tofP H (factP H 3)) p_).1
                        rw [hok_]; rfl
                      · rw [jW_y hi0_ hok_]
                        have h_ := hP33
                        simp only [List.map_append, List.append_assoc] at h_ ⊢
                        exact h_
          · skip
            have hok_ : ((tofP H (factP H 3)) p_).1 = false := bI_0.mp c30
            refine e_iconst (v := 0) (pc := 33) Xc (dT hX3_joined 18 rfl) rfl ?_
            refine e_zret (pc := 34) Xc hQ (dT hX3_joined 19 rfl) (Nat.le_refl _) (Nat.le_refl _) (Or.inl rfl) ?_
            rw [lpJ_x (r := jW (tofP H (factP H 3)) 2 i_ p_ l_) (fun q => by have q1 := q.1; rw [show (jW (tofP H (factP H 3)) 2 i_ p_ l_).1 = ((tofP H (factP H 3)) p_).1 from rfl, hok_] at q1; exact Bool.noConfusion q1)] at hR_
            rw [← hR_]
            refine ⟨?_, ⟨_, hx5⟩, ?_, (ho2.tr ho4)⟩
            · show _ = bI ((tofP H (factP H 3)) p_).1
              rw [hok_]; rfl
            · rw [jW_n (fun q => by rw [hok_] at q; exact Bool.noConfusion q.2)]
              have h_ := ht6
              simp only [List.map_append, List.append_assoc] at h_ ⊢
              exact h_
  refine Ev.pick (L' := [(0, .ref rd), (1, .int 0), (2, .int 2), (3, .int 0)]) [1, 2, 3, 0] rfl ?_
  exact lp2 ((100 - 0) + 1) 0 100 p ([] : List xI) (F 4) σ (Nat.lt_succ_self _) rfl (Nat.zero_le _) (by rw [jW_0]; rfl) hp hn (fun q => absurd q (Nat.lt_irrefl 0)) (by rw [fR_id hF3]; exact hP) (tP_nil hP4 hn0) OffS.rf
set_option maxRecDepth 100000 in
set_option maxHeartbeats 4000000 in
theorem c3_single4 {G : xG} {σ : xS} {rd pa tw : Nat} {F : Nat → Int32} {A : Nat → Nat → Int32} (hP : PX3 σ rd F (tR pa tw) A) {Fa : Nat → Int32} {Ta : Nat → Nat} {Aa : Nat → Nat → Int32} (hPa : PX2 σ pa Fa Ta Aa) {H : Nat → Int32} {nt : Nat} (hH : Hend H nt) (hTA : ∀ q, q < nt → Aa 1 q = H q) (hnt : nt ≤ 100) (hF1 : F 1 = nI nt) (p : Nat) (hF3 : F 3 = nI p) (hp : p ≤ nt) (hne : rd ≠ pa) {F4 : Nat → Int32} {T4 : Nat → Nat} {A4 : Nat → Nat → Int32} (hP4 : PX4 σ tw F4 T4 A4) (n0 : Nat) (hn0 : F4 3 = nI n0) (hn : n0 ≤ p) (hSg : ∀ q, isSg (H q)) (hrt : rd ≠ tw) (hpt : pa ≠ tw) : CI G yX3_single cX3_single 3 (some .boolean) 15 0 0 [.ref rd, .int 1] σ (fun z σ1 => z = bI (factP H 4 p).1 ∧ (∃ v, PX3 σ1 rd (upd (upd F 3 (nI (factP H 4 p).2.1)) 4 v) (tR pa tw) A) ∧ tP σ1 tw F4 T4 A4 n0 ((factP H 4 p).2.2.map encC) ∧ OffS (fun o => o = rd ∨ o = tw) σ σ1) := by
  refine Met.ofX (by decide +kernel) (Nat.le_of_ble_eq_true rfl) (fun μ Xc hQ hnm => ?_)
  have Xc : xC G μ cX3_single 3 RX3 (some .boolean) 15 0 0 := Xc
  show Ev G μ 3 0 0 0 [(0, .ref rd), (1, .int 1)] [] σ
  refine e_aload_n (pc := 0) Xc (dT hX3_single 0 rfl) 0 rfl ?_
  refine cl_X3_37 (pc := 1) (k := 0) (n := 0) (S := []) Xc hP.o (c3_sign hP hPa hH hTA hnt hF1 p hF3 hp hne) (dT hX3_single 1 rfl) rfl (Nat.le_of_ble_eq_true rfl) (Nat.le_of_ble_eq_true rfl) (Nat.le_of_ble_eq_true rfl) rfl (Nat.le_of_ble_eq_true rfl) (fun r1 σ2 hq3 => ?_)
  obtain ⟨r1e, r1s⟩ := hq3
  have r1e := r1e.symm; subst r1e; have r1s := r1s.symm; subst r1s
  refine e_istore_n (L' := [(2, .int (H p)), (0, .ref rd), (1, .int 1)]) (pc := 4) Xc (dT hX3_single 2 rfl) (by decide) rfl ?_
  refine e_iload_n (pc := 5) Xc (dT hX3_single 3 rfl) 0 rfl ?_
  refine e_bipush (v := 33) (pc := 6) Xc (dT hX3_single 4 rfl) rfl ?_
  refine e_icmp_eq (tgt := 22) (pc := 8) Xc (dT hX3_single 5 rfl) rfl (fun c8 => ?_) (fun c8 => ?_)
  · skip
    refine e_iload_n (pc := 22) Xc (dT hX3_single 12 rfl) 2 rfl ?_
    refine e_iconst (v := 5) (pc := 23) Xc (dT hX3_single 13 rfl) rfl ?_
    refine e_icmp_ltN (x := 1) (y := 5) (tgt := 29) (pc := 24) Xc (dT hX3_single 14 rfl) rfl (by omega) (by omega) (fun c24 => ?_) (fun c24 => ?_)
    · skip
      have hlt_ : p < nt := by
        rcases Nat.lt_or_ge p nt with q | q
        · exact q
        · have q2 := hH p q; first | (rw [q2] at c8; exact absurd c8 (by decide)) | (rw [q2] at c14; exact absurd c14 (by decide))
      refine e_aload_n (pc := 29) Xc (dT hX3_single 17 rfl) 1 rfl ?_
      refine e_dup (pc := 30) Xc (dT hX3_single 18 rfl) rfl ?_
      refine gf_X3_9 (pc := 31) Xc (dT hX3_single 19 rfl) hP.o rfl ?_
      refine e_val (y := nI p) hF3 ?_
      refine e_iconst (v := 1) (pc := 34) Xc (dT hX3_single 20 rfl) rfl ?_
      refine e_iaddN (a := p) (b := 1) (pc := 35) Xc (dT hX3_single 21 rfl) ?_
      refine pf_X3_9 (fs' := olX3 rd (upd F 3 (nI (p + 1))) (tR pa tw)) (pc := 36) Xc (dT hX3_single 22 rfl) hP.o (Nat.le_of_ble_eq_true rfl) rfl ?_
      refine Ev.gen (fun z => PX3 z rd (upd F 3 (nI (p + 1))) (tR pa tw) A) (hP.wf3 (x := nI (p + 1))) Off.set (fun σ4 hP5 ho6 => ?_)
      have hP7 := hPa.off ho6 (Ne.symm hne)
      have hP8 := hP4.off ho6 (Ne.symm hrt)
      refine e_iload_n (pc := 39) Xc (dT hX3_single 23 rfl) 0 rfl ?_
      refine e_bipush (v := 40) (pc := 40) Xc (dT hX3_single 24 rfl) rfl ?_
      refine e_icmp_ne (tgt := 71) (pc := 42) Xc (dT hX3_single 25 rfl) rfl (fun c42 => ?_) (fun c42 => ?_)
      · skip
        refine e_aload_n (pc := 71) Xc (dT hX3_single 41 rfl) 1 rfl ?_
        refine e_iload_n (pc := 72) Xc (dT hX3_single 42 rfl) 2 rfl ?_
        refine e_iconst (v := 1) (pc := 73) Xc (dT hX3_single 43 rfl) rfl ?_
        refine e_iaddN (a := 1) (b := 1) (pc := 74) Xc (dT hX3_single 44 rfl) ?_
        refine e_val (y := 2) rfl ?_
        refine cl_X3_77 (pc := 75) (k := 0) (n := 0) (S := []) Xc (c3_single3 hP5 hP7 hH hTA hnt hF1 (p + 1) upd_s (by omega) hne hP8 n0 hn0 (by omega) hSg hrt hpt) (dT hX3_single 45 rfl) rfl (Nat.le_of_ble_eq_true rfl) (Nat.le_of_ble_eq_true rfl) (Nat.le_of_ble_eq_true rfl) rfl (Nat.le_of_ble_eq_true rfl) (fun r9 σ10 hq11 => ?_)
        obtain ⟨r9e, ⟨v16_, hx13⟩, ht14, ho12⟩ := hq11
        have r9e := r9e.symm; subst r9e
        have hx13 : PX3 σ10 rd (fR F (factP H 3 (p + 1)).2.1 v16_) (tR pa tw) A := by
          have h_ := hx13
          first | (rw [fR_2] at h_; exact h_) | (rw [fR_4, fR_2] at h_; exact h_) | exact h_
        have ht14 : tP σ10 tw F4 T4 A4 n0 ((factP H 3 (p + 1)).2.2.map encC) := ht14
        have hpa15 := (hP7).cg (fun i => ho12.cell (fun e => e.elim (fun q => hne q.symm) hpt) i)
        obtain ⟨hi1_, hi2_, hi3_, hi4_⟩ : goP nt (p + 1) (factP H 3 (p + 1)) := factP_go hH 3 (p + 1) (by omega)
        have hlm_ : ((factP H 3 (p + 1)).2.2.map encC).length = (factP H 3 (p + 1)).2.2.length := List.length_map _
        refine e_if_ne (tgt := 83) (pc := 78) Xc (dT hX3_single 46 rfl) rfl (fun c78 => ?_) (fun c78 => ?_)
        · skip
          have hok_ : (factP H 3 (p + 1)).1 = true := by cases q_ : (factP H 3 (p + 1)).1; exact absurd (show bI (factP H 3 (p + 1)).1 = 0 by rw [q_]; rfl) c78; rfl
          refine e_aload_n (pc := 83) Xc (dT hX3_single 49 rfl) 1 rfl ?_
          refine gf_X3_25 (pc := 84) Xc (dT hX3_single 50 rfl) hx13.o rfl ?_
          refine e_iconst (v := -1) (pc := 87) Xc (dT hX3_single 51 rfl) rfl ?_
          refine cl_X3_81 (pc := 88) (k := 0) (n := 0) (S := []) Xc ht14.o (c4_write ht14 (n0 + ((factP H 3 (p + 1)).2.2.map encC).length) upd_s (by simp only [List.length_append, List.length_map] at *; omega) (-1)) (dT hX3_single 52 rfl) rfl (Nat.le_of_ble_eq_true rfl) (Nat.le_of_ble_eq_true rfl) (Nat.le_of_ble_eq_true rfl) rfl (Nat.le_of_ble_eq_true rfl) (fun σ18 hq19 => ?_)
          obtain ⟨ht20, ho21⟩ := hq19
          have ht20 : tP σ18 tw F4 T4 A4 n0 (((factP H 3 (p + 1)).2.2.map encC) ++ [(-1)]) := tP_app ht20
          have hP22 := hx13.off ho21 hrt
          have hP23 := hpa15.off ho21 hpt
          refine e_iconst (v := 1) (pc := 91) Xc (dT hX3_single 53 rfl) rfl ?_
          refine e_zret (pc := 92) Xc hQ (dT hX3_single 54 rfl) (Nat.le_refl _) (Nat.le_refl _) (Or.inr rfl) ?_
          rw [fa_bang c8]
          refine ⟨by show _ = bI (factP H 3 (p + 1)).1; rw [hok_]; rfl, ⟨_, hP22⟩, ?_, (((OffS.of (S := (fun o => o = rd ∨ o = tw)) ho6 (Or.inl rfl)).tr ho12).tr (OffS.of (S := (fun o => o = rd ∨ o = tw)) ho21 (Or.inr rfl)))⟩
          rw [if_pos hok_]
          have h_ := ht20
          simp only [List.map_append] at h_ ⊢
          exact h_
        · skip
          have hok_ : (factP H 3 (p + 1)).1 = false := bI_0.mp c78
          refine e_iconst (v := 0) (pc := 81) Xc (dT hX3_single 47 rfl) rfl ?_
          refine e_zret (pc := 82) Xc hQ (dT hX3_single 48 rfl) (Nat.le_refl _) (Nat.le_refl _) (Or.inl rfl) ?_
          rw [fa_bang c8]
          refine ⟨by show _ = bI (factP H 3 (p + 1)).1; rw [hok_]; rfl, ⟨_, hx13⟩, ?_, ((OffS.of (S := (fun o => o = rd ∨ o = tw)) ho6 (Or.inl rfl)).tr ho12)⟩
          rw [if_neg (by rw [hok_]; decide), List.append_nil]
          exact ht14
      · skip
        exact absurd (c8.symm.trans c42) (by decide)
    · skip
      exact absurd c24 (by decide)
  · skip
    refine e_iload_n (pc := 11) Xc (dT hX3_single 6 rfl) 0 rfl ?_
    refine e_bipush (v := 40) (pc := 12) Xc (dT hX3_single 7 rfl) rfl ?_
    refine e_icmp_eq (tgt := 22) (pc := 14) Xc (dT hX3_single 8 rfl) rfl (fun c14 => ?_) (fun c14 => ?_)
    · skip
      refine e_iload_n (pc := 22) Xc (dT hX3_single 12 rfl) 2 rfl ?_
      refine e_iconst (v := 5) (pc := 23) Xc (dT hX3_single 13 rfl) rfl ?_
      refine e_icmp_ltN (x := 1) (y := 5) (tgt := 29) (pc := 24) Xc (dT hX3_single 14 rfl) rfl (by omega) (by omega) (fun c24 => ?_) (fun c24 => ?_)
      · skip
        have hlt_ : p < nt := by
          rcases Nat.lt_or_ge p nt with q | q
          · exact q
          · have q2 := hH p q; first | (rw [q2] at c8; exact absurd c8 (by decide)) | (rw [q2] at c14; exact absurd c14 (by decide))
        refine e_aload_n (pc := 29) Xc (dT hX3_single 17 rfl) 1 rfl ?_
        refine e_dup (pc := 30) Xc (dT hX3_single 18 rfl) rfl ?_
        refine gf_X3_9 (pc := 31) Xc (dT hX3_single 19 rfl) hP.o rfl ?_
        refine e_val (y := nI p) hF3 ?_
        refine e_iconst (v := 1) (pc := 34) Xc (dT hX3_single 20 rfl) rfl ?_
        refine e_iaddN (a := p) (b := 1) (pc := 35) Xc (dT hX3_single 21 rfl) ?_
        refine pf_X3_9 (fs' := olX3 rd (upd F 3 (nI (p + 1))) (tR pa tw)) (pc := 36) Xc (dT hX3_single 22 rfl) hP.o (Nat.le_of_ble_eq_true rfl) rfl ?_
        refine Ev.gen (fun z => PX3 z rd (upd F 3 (nI (p + 1))) (tR pa tw) A) (hP.wf3 (x := nI (p + 1))) Off.set (fun σ24 hP25 ho26 => ?_)
        have hP27 := hPa.off ho26 (Ne.symm hne)
        have hP28 := hP4.off ho26 (Ne.symm hrt)
        refine e_iload_n (pc := 39) Xc (dT hX3_single 23 rfl) 0 rfl ?_
        refine e_bipush (v := 40) (pc := 40) Xc (dT hX3_single 24 rfl) rfl ?_
        refine e_icmp_ne (tgt := 71) (pc := 42) Xc (dT hX3_single 25 rfl) rfl (fun c42 => ?_) (fun c42 => ?_)
        · skip
          exact absurd c14 c42
        · skip
          refine e_aload_n (pc := 45) Xc (dT hX3_single 26 rfl) 1 rfl ?_
          refine e_iconst (v := 0) (pc := 46) Xc (dT hX3_single 27 rfl) rfl ?_
          refine e_iload_n (pc := 47) Xc (dT hX3_single 28 rfl) 2 rfl ?_
          refine e_iconst (v := 1) (pc := 48) Xc (dT hX3_single 29 rfl) rfl ?_
          refine e_iaddN (a := 1) (b := 1) (pc := 49) Xc (dT hX3_single 30 rfl) ?_
          refine e_val (y := 2) rfl ?_
          refine cl_X3_51 (pc := 50) (k := 0) (n := 0) (S := []) Xc (c3_joinE3 hP25 hP27 hH hTA hnt hF1 (p + 1) upd_s (by omega) hne hP28 n0 hn0 (by omega) hSg hrt hpt) (dT hX3_single 31 rfl) rfl (Nat.le_of_ble_eq_true rfl) (Nat.le_of_ble_eq_true rfl) (Nat.le_of_ble_eq_true rfl) rfl (Nat.le_of_ble_eq_true rfl) (fun r29 σ30 hq31 => ?_)
          obtain ⟨r29e, ⟨v36_, hx33⟩, ht34, ho32⟩ := hq31
          have r29e := r29e.symm; subst r29e
          have hx33 : PX3 σ30 rd (fR F (eofP H (factP H 3) (p + 1)).2.1 v36_) (tR pa tw) A := by
            have h_ := hx33
            first | (rw [fR_2] at h_; exact h_) | (rw [fR_4, fR_2] at h_; exact h_) | exact h_
          have ht34 : tP σ30 tw F4 T4 A4 n0 ((eofP H (factP H 3) (p + 1)).2.2.map encC) := ht34
          have hpa35 := (hP27).cg (fun i => ho32.cell (fun e => e.elim (fun q => hne q.symm) hpt) i)
          obtain ⟨hi1_, hi2_, hi3_, hi4_⟩ : goP nt (p + 1) (eofP H (factP H 3) (p + 1)) := eofP_go hH (fun q hq => factP_go hH 3 q hq) (by omega)
          have hlm_ : ((eofP H (factP H 3) (p + 1)).2.2.map encC).length = (eofP H (factP H 3) (p + 1)).2.2.length := List.length_map _
          refine e_if_eq (tgt := 69) (pc := 53) Xc (dT hX3_single 32 rfl) rfl (fun c53 => ?_) (fun c53 => ?_)
          · skip
            have hok_ : (eofP H (factP H 3) (p + 1)).1 = false := bI_0.mp c53
            refine e_iconst (v := 0) (pc := 69) Xc (dT hX3_single 39 rfl) rfl ?_
            refine e_zret (pc := 70) Xc hQ (dT hX3_single 40 rfl) (Nat.le_refl _) (Nat.le_refl _) (Or.inl rfl) ?_
            rw [fa_par c8 c14, show ((eofP H (factP H 3) (p + 1)).1, (eofP H (factP H 3) (p + 1)).2.1) = (false, (eofP H (factP H 3) (p + 1)).2.1) from Prod.ext hok_ rfl, must_f]
            exact ⟨rfl, ⟨_, hx33⟩, ht34, ((OffS.of (S := (fun o => o = rd ∨ o = tw)) ho26 (Or.inl rfl)).tr ho32)⟩
          · skip
            have hok_ : (eofP H (factP H 3) (p + 1)).1 = true := by cases q_ : (eofP H (factP H 3) (p + 1)).1; exact absurd (show bI (eofP H (factP H 3) (p + 1)).1 = 0 by rw [q_]; rfl) c53; rfl
            refine e_aload_n (pc := 56) Xc (dT hX3_single 33 rfl) 1 rfl ?_
            refine e_bipush (v := 41) (pc := 57) Xc (dT hX3_single 34 rfl) rfl ?_
            refine cl_X3_33 (pc := 59) (k := 0) (n := 0) (S := []) Xc hx33.o (c3_takes hx33 hpa35 hH hTA hnt hF1 (eofP H (factP H 3) (p + 1)).2.1 rfl hi2_ hne 41) (dT hX3_single 35 rfl) rfl (Nat.le_of_ble_eq_true rfl) (Nat.le_of_ble_eq_true rfl) (Nat.le_of_ble_eq_true rfl) rfl (Nat.le_of_ble_eq_true rfl) (fun r37 σ38 hq39 => ?_)
            obtain ⟨r37e, hx40, ho41⟩ := hq39
            have r37e := r37e.symm; subst r37e
            rw [fR_3] at hx40
            have hP42 := hpa35.off ho41 (Ne.symm hne)
            have hP43 := ht34.off ho41 (Ne.symm hrt)
            refine e_if_eq (tgt := 69) (pc := 62) Xc (dT hX3_single 36 rfl) rfl (fun c62 => ?_) (fun c62 => ?_)
            · skip
              refine e_iconst (v := 0) (pc := 69) Xc (dT hX3_single 39 rfl) rfl ?_
              refine e_zret (pc := 70) Xc hQ (dT hX3_single 40 rfl) (Nat.le_refl _) (Nat.le_refl _) (Or.inl rfl) ?_
              have hmb_ : (mustP H 41 (true, (eofP H (factP H 3) (p + 1)).2.1)).1 = false := bI_0.mp c62
              rw [fa_par c8 c14, show ((eofP H (factP H 3) (p + 1)).1, (eofP H (factP H 3) (p + 1)).2.1) = (true, (eofP H (factP H 3) (p + 1)).2.1) from Prod.ext hok_ rfl]
              exact ⟨by show _ = bI (mustP H 41 (true, (eofP H (factP H 3) (p + 1)).2.1)).1; rw [hmb_]; rfl, ⟨_, hx40⟩, hP43, (((OffS.of (S := (fun o => o = rd ∨ o = tw)) ho26 (Or.inl rfl)).tr ho32).tr (OffS.of (S := (fun o => o = rd ∨ o = tw)) ho41 (Or.inl rfl)))⟩
            · skip
              refine e_iconst (v := 1) (pc := 65) Xc (dT hX3_single 37 rfl) rfl ?_
              refine e_goto (tgt := 70) (pc := 66) Xc (dT hX3_single 38 rfl) rfl ?_
              refine e_zret (pc := 70) Xc hQ (dT hX3_single 40 rfl) (Nat.le_refl _) (Nat.le_refl _) (Or.inr rfl) ?_
              have hmb_ : (mustP H 41 (true, (eofP H (factP H 3) (p + 1)).2.1)).1 = true := by cases q_ : (mustP H 41 (true, (eofP H (factP H 3) (p + 1)).2.1)).1; exact absurd (show bI (mustP H 41 (true, (eofP H (factP H 3) (p + 1)).2.1)).1 = 0 by rw [q_]; rfl) c62; rfl
              rw [fa_par c8 c14, show ((eofP H (factP H 3) (p + 1)).1, (eofP H (factP H 3) (p + 1)).2.1) = (true, (eofP H (factP H 3) (p + 1)).2.1) from Prod.ext hok_ rfl]
              exact ⟨by show _ = bI (mustP H 41 (true, (eofP H (factP H 3) (p + 1)).2.1)).1; rw [hmb_]; rfl, ⟨_, hx40⟩, hP43, (((OffS.of (S := (fun o => o = rd ∨ o = tw)) ho26 (Or.inl rfl)).tr ho32).tr (OffS.of (S := (fun o => o = rd ∨ o = tw)) ho41 (Or.inl rfl)))⟩
      · skip
        exact absurd c24 (by decide)
    · skip
      refine e_aload_n (pc := 17) Xc (dT hX3_single 9 rfl) 1 rfl ?_
      refine cl_X3_84 (pc := 18) (k := 0) (n := 0) (S := []) Xc hP.o (c3_testing hP hPa hH hTA hnt hF1 p hF3 hp hne hP4 n0 hn0 hn hSg hrt hpt) (dT hX3_single 10 rfl) rfl (Nat.le_of_ble_eq_true rfl) (Nat.le_of_ble_eq_true rfl) (Nat.le_of_ble_eq_true rfl) rfl (Nat.le_of_ble_eq_true rfl) (fun r44 σ45 hq46 => ?_)
      obtain ⟨r44e, hx3_, hx4_, ho47⟩ := hq46
      have r44e := r44e.symm; subst r44e
      refine e_zret (pc := 21) Xc hQ (dT hX3_single 11 rfl) (Nat.le_refl _) (Nat.le_refl _) (bI_or _) ?_
      rw [fa_test c8 c14]
      exact ⟨rfl, hx3_, hx4_, ho47⟩
set_option maxRecDepth 100000 in
set_option maxHeartbeats 4000000 in
theorem c3_joinT4 {G : xG} {σ : xS} {rd pa tw : Nat} {F : Nat → Int32} {A : Nat → Nat → Int32} (hP : PX3 σ rd F (tR pa tw) A) {Fa : Nat → Int32} {Ta : Nat → Nat} {Aa : Nat → Nat → Int32} (hPa : PX2 σ pa Fa Ta Aa) {H : Nat → Int32} {nt : Nat} (hH : Hend H nt) (hTA : ∀ q, q < nt → Aa 1 q = H q) (hnt : nt ≤ 100) (hF1 : F 1 = nI nt) (p : Nat) (hF3 : F 3 = nI p) (hp : p ≤ nt) (hne : rd ≠ pa) {F4 : Nat → Int32} {T4 : Nat → Nat} {A4 : Nat → Nat → Int32} (hP4 : PX4 σ tw F4 T4 A4) (n0 : Nat) (hn0 : F4 3 = nI n0) (hn : n0 ≤ p) (hSg : ∀ q, isSg (H q)) (hrt : rd ≠ tw) (hpt : pa ≠ tw) : CI G yX3_joined cX3_joined 5 (some .boolean) 16 0 0 [.ref rd, .int 1, .int 1] σ (fun z σ1 => z = bI (tofP H (factP H 4) p).1 ∧ (∃ v, PX3 σ1 rd (upd (upd F 3 (nI (tofP H (factP H 4) p).2.1)) 4 v) (tR pa tw) A) ∧ tP σ1 tw F4 T4 A4 n0 ((tofP H (factP H 4) p).2.2.map encC) ∧ OffS (fun o => o = rd ∨ o = tw) σ σ1) := by
  refine Met.ofX (by decide +kernel) (Nat.le_of_ble_eq_true rfl) (fun μ Xc hQ hnm => ?_)
  have Xc : xC G μ cX3_joined 5 RX3 (some .boolean) 16 0 0 := Xc
  show Ev G μ 5 0 0 0 [(0, .ref rd), (1, .int 1), (2, .int 1)] [] σ
  refine e_iconst (v := 0) (pc := 0) Xc (dT hX3_joined 0 rfl) rfl ?_
  refine e_istore_n (L' := [(3, .int 0), (0, .ref rd), (1, .int 1), (2, .int 1)]) (pc := 1) Xc (dT hX3_joined 1 rfl) (by decide) rfl ?_
  have lp2 : ∀ (n2 : Nat) (i_ k_ p_ : Nat) (l_ : List xI) (v_ : Int32) (σ2 : xS), 100 - i_ < n2 → (i_ + k_ = 100) → (2 * i_ ≤ p_) → (lpJ H (factP H 4) 38 1 k_ (jW (factP H 4) 1 i_ p_ l_) = (tofP H (factP H 4) p)) → (p_ ≤ nt) → (n0 + l_.length ≤ p_) → (0 < i_ → n0 + l_.length + 1 ≤ p_) → (PX3 σ2 rd (fR F p_ v_) (tR pa tw) A) → (tP σ2 tw F4 T4 A4 n0 (l_.map encC)) → (OffS (fun o => o = rd ∨ o = tw) σ σ2) → Ev G μ 5 0 0 2 [(0, .ref rd), (1, .int 1), (2, .int 1), (3, .int (nI i_))] [] σ2 := by
    intro n2
    induction n2 with
    | zero => intro i_ k_ p_ l_ v_ σ2 hn; exact absurd hn (Nat.not_lt_zero _)
    | succ n2 ih2 =>
      intro i_ k_ p_ l_ v_ σ2 hn2 hik_ h2i_ hR_ hpn_ hnl_ hn1_ hx2 ht2 ho2
      have hpa2 := hPa.cg (fun i => ho2.cell (fun e => e.elim (fun q => hne q.symm) hpt) i)
      obtain ⟨k_, rfl⟩ : ∃ k, k_ = k + 1 := ⟨k_ - 1, by omega⟩
      have hll_ : (l_.map encC).length = l_.length := List.length_map _
      refine e_iload_n (pc := 2) Xc (dT hX3_joined 2 rfl) 3 rfl ?_
      refine e_bipush (v := 100) (pc := 3) Xc (dT hX3_joined 3 rfl) rfl ?_
      refine e_icmp_geN (x := i_) (y := 100) (tgt := 83) (pc := 5) Xc (dT hX3_joined 4 rfl) rfl (by omega) (by omega) (fun c5 => ?_) (fun c5 => ?_)
      · skip
        exact absurd c5 (by omega)
      · skip
        refine e_iload_n (pc := 8) Xc (dT hX3_joined 5 rfl) 1 rfl ?_
        refine e_if_ne (tgt := 21) (pc := 9) Xc (dT hX3_joined 6 rfl) rfl (fun c9 => ?_) (fun c9 => ?_)
        · skip
          refine e_aload_n (pc := 21) Xc (dT hX3_joined 12 rfl) 0 rfl ?_
          refine e_iload_n (pc := 22) Xc (dT hX3_joined 13 rfl) 2 rfl ?_
          refine cl_X3_77 (pc := 23) (k := 0) (n := 0) (S := []) Xc (c3_single4 hx2 hpa2 hH hTA hnt hF1 p_ rfl hpn_ hne ht2 (n0 + (l_.map encC).length) upd_s (by rw [List.length_map]; omega) hSg hrt hpt) (dT hX3_joined 14 rfl) rfl (Nat.le_of_ble_eq_true rfl) (Nat.le_of_ble_eq_true rfl) (Nat.le_of_ble_eq_true rfl) rfl (Nat.le_of_ble_eq_true rfl) (fun r1 σ2 hq3 => ?_)
          obtain ⟨r1e, ⟨v8_, hx5⟩, ht6, ho4⟩ := hq3
          have r1e := r1e.symm; subst r1e
          have hx5 : PX3 σ2 rd (fR F ((factP H 4) p_).2.1 v8_) (tR pa tw) A := by
            have h_ := hx5
            first | (rw [fR_2] at h_; exact h_) | (rw [fR_4, fR_2] at h_; exact h_) | exact h_
          have ht6 := tP_app ht6
          have ht6 : tP σ2 tw F4 T4 A4 n0 ((l_.map encC) ++ (((factP H 4) p_).2.2.map encC)) := ht6
          have hpa7 := (hpa2).cg (fun i => ho4.cell (fun e => e.elim (fun q => hne q.symm) hpt) i)
          obtain ⟨hi1_, hi2_, hi3_, hi4_⟩ : goP nt p_ ((factP H 4) p_) := factP_go hH 4 p_ hpn_
          have hlm_ : (((factP H 4) p_).2.2.map encC).length = ((factP H 4) p_).2.2.length := List.length_map _
          refine e_istore (L' := [(4, .int (bI ((factP H 4) p_).1)), (0, .ref rd), (1, .int 1), (2, .int 1), (3, .int (nI i_))]) (pc := 26) Xc (dT hX3_joined 15 rfl) (by decide) rfl ?_
          refine e_iload (pc := 28) Xc (dT hX3_joined 16 rfl) 0 rfl ?_
          refine e_if_ne (tgt := 35) (pc := 30) Xc (dT hX3_joined 17 rfl) rfl (fun c30 => ?_) (fun c30 => ?_)
          · skip
            have hok_ : ((factP H 4) p_).1 = true := by cases q_ : ((factP H 4) p_).1; exact absurd (show bI ((factP H 4) p_).1 = 0 by rw [q_]; rfl) c30; rfl
            refine e_iload_n (pc := 35) Xc (dT hX3_joined 20 rfl) 4 rfl ?_
            refine e_if_le (tgt := 57) (pc := 36) Xc (dT hX3_joined 21 rfl) rfl (fun c36 => ?_) (fun c36 => ?_)
            · skip
              have hi0_ : i_ = 0 := by
                rcases Nat.eq_zero_or_pos i_ with q | q
                · exact q
                · exact absurd c36 (nI_nle0 q (by omega))
              refine e_aload_n (pc := 57) Xc (dT hX3_joined 30 rfl) 1 rfl ?_
              refine e_iload_n (pc := 58) Xc (dT hX3_joined 31 rfl) 2 rfl ?_
              refine e_if_ne (tgt := 67) (pc := 59) Xc (dT hX3_joined 32 rfl) rfl (fun c59 => ?_) (fun c59 => ?_)
              · skip
                refine e_bipush (v := 38) (pc := 67) Xc (dT hX3_joined 35 rfl) rfl ?_
                refine cl_X3_33 (pc := 69) (k := 0) (n := 0) (S := []) Xc hx5.o (c3_takes hx5 hpa7 hH hTA hnt hF1 ((factP H 4) p_).2.1 rfl hi2_ hne 38) (dT hX3_joined 36 rfl) rfl (Nat.le_of_ble_eq_true rfl) (Nat.le_of_ble_eq_true rfl) (Nat.le_of_ble_eq_true rfl) rfl (Nat.le_of_ble_eq_true rfl) (fun r9 σ10 hq11 => ?_)
                obtain ⟨r9e, hx12, ho13⟩ := hq11
                rw [fR_3] at hx12
                by_cases hsep_ : H ((factP H 4) p_).2.1 = 38
                · skip
                  rw [must_t hsep_] at r9e hx12
                  have r9e := r9e.symm; subst r9e
                  have hP14 := hpa7.off ho13 (Ne.symm hne)
                  have hP15 := ht6.off ho13 (Ne.symm hrt)
                  refine e_val (y := 1) rfl ?_
                  refine e_if_ne (tgt := 77) (pc := 72) Xc (dT hX3_joined 37 rfl) rfl (fun c72 => ?_) (fun c72 => ?_)
                  · skip
                    refine e_iincN (a := i_) (b := 1) (L' := [(3, .int (nI (i_ + 1))), (4, .int (bI ((factP H 4) p_).1)), (0, .ref rd), (1, .int 1), (2, .int 1)]) (pc := 77) Xc (dT hX3_joined 40 rfl) 4 rfl rfl (by decide) rfl ?_
                    refine e_goto (tgt := 2) (pc := 80) Xc (dT hX3_joined 41 rfl) rfl ?_
                    have hLe_ : ((l_.map encC) ++ (((factP H 4) p_).2.2.map encC)) = (jW (factP H 4) 1 i_ p_ l_).2.2.map encC := by rw [jW_n (fun q => absurd q.1 (by omega))]; first | (simp only [List.map_append, List.append_assoc]; done) | (simp only [List.map_append, List.append_assoc]; rfl)
                    have hLl_ : (jW (factP H 4) 1 i_ p_ l_).2.2.length = l_.length + ((factP H 4) p_).2.2.length + 0 := by rw [jW_n (fun q => absurd q.1 (by omega))]; simp only [List.length_append, List.length_cons, List.length_nil]; omega
                    refine Ev.pick (L' := [(0, .ref rd), (1, .int 1), (2, .int 1), (3, .int (nI (i_ + 1)))]) [2, 3, 4, 0] rfl ?_
                    exact ih2 (i_ + 1) k_ (((factP H 4) p_).2.1 + 1) ((jW (factP H 4) 1 i_ p_ l_).2.2) v8_ σ10 (by omega) (by omega) (by have := hi3_ hok_; omega) ((jW_s hok_ hsep_).symm.trans hR_) (hH.lt hsep_ (by decide)) (by omega) (fun _ => by omega) hx12 (by rw [← hLe_]; exact hP15) ((ho2.tr ho4).tr (OffS.of (S := (fun o => o = rd ∨ o = tw)) ho13 (Or.inl rfl)))
                  · skip
                    exact absurd c72 (by decide)
                · skip
                  rw [must_x hsep_] at r9e hx12
                  have r9e := r9e.symm; subst r9e
                  have hP16 := hpa7.off ho13 (Ne.symm hne)
                  have hP17 := ht6.off ho13 (Ne.symm hrt)
                  refine e_val (y := 0) rfl ?_
                  refine e_if_ne (tgt := 77) (pc := 72) Xc (dT hX3_joined 37 rfl) rfl (fun c72 => ?_) (fun c72 => ?_)
                  · skip
                    exact absurd c72 (by decide)
                  · skip
                    refine e_iconst (v := 1) (pc := 75) Xc (dT hX3_joined 38 rfl) rfl ?_
                    refine e_zret (pc := 76) Xc hQ (dT hX3_joined 39 rfl) (Nat.le_refl _) (Nat.le_refl _) (Or.inr rfl) ?_
                    rw [lpJ_x (r := jW (factP H 4) 1 i_ p_ l_) (fun q => hsep_ q.2)] at hR_
                    rw [← hR_]
                    refine ⟨?_, ⟨_, hx12⟩, ?_, ((ho2.tr ho4).tr (OffS.of (S := (fun o => o = rd ∨ o = tw)) ho13 (Or.inl rfl)))⟩
                    · show _ = bI ((factP H 4) p_).1
                      rw [hok_]; rfl
                    · rw [jW_n (fun q => absurd q.1 (by omega))]
                      have h_ := hP17
                      simp only [List.map_append, List.append_assoc] at h_ ⊢
                      exact h_
              · skip
                exact absurd c59 (by decide)
            · skip
              have hi0_ : 0 < i_ := by
                rcases Nat.eq_zero_or_pos i_ with q | q
                · subst q; exact absurd (by decide) c36
                · exact q
              have hn1b_ := hn1_ hi0_
              have hi3b_ := hi3_ hok_
              refine e_aload_n (pc := 39) Xc (dT hX3_joined 22 rfl) 1 rfl ?_
              refine gf_X3_25 (pc := 40) Xc (dT hX3_joined 23 rfl) hx5.o rfl ?_
              refine e_iload_n (pc := 43) Xc (dT hX3_joined 24 rfl) 2 rfl ?_
              refine e_if_ne (tgt := 52) (pc := 44) Xc (dT hX3_joined 25 rfl) rfl (fun c44 => ?_) (fun c44 => ?_)
              · skip
                refine e_bipush (v := -2) (pc := 52) Xc (dT hX3_joined 28 rfl) rfl ?_
                refine cl_X3_81 (pc := 54) (k := 0) (n := 0) (S := []) Xc ht6.o (c4_write ht6 (n0 + ((l_.map encC) ++ (((factP H 4) p_).2.2.map encC)).length) upd_s (by simp only [List.length_append, List.length_map] at *; omega) (-2)) (dT hX3_joined 29 rfl) rfl (Nat.le_of_ble_eq_true rfl) (Nat.le_of_ble_eq_true rfl) (Nat.le_of_ble_eq_true rfl) rfl (Nat.le_of_ble_eq_true rfl) (fun σ19 hq20 => ?_)
                obtain ⟨ht21, ho22⟩ := hq20
                have ht21 : tP σ19 tw F4 T4 A4 n0 (((l_.map encC) ++ (((factP H 4) p_).2.2.map encC)) ++ [(-2)]) := tP_app ht21
                have hP23 := hx5.off ho22 hrt
                have hP24 := hpa7.off ho22 hpt
                refine e_aload_n (pc := 57) Xc (dT hX3_joined 30 rfl) 1 rfl ?_
                refine e_iload_n (pc := 58) Xc (dT hX3_joined 31 rfl) 2 rfl ?_
                refine e_if_ne (tgt := 67) (pc := 59) Xc (dT hX3_joined 32 rfl) rfl (fun c59 => ?_) (fun c59 => ?_)
                · skip
                  refine e_bipush (v := 38) (pc := 67) Xc (dT hX3_joined 35 rfl) rfl ?_
                  refine cl_X3_33 (pc := 69) (k := 0) (n := 0) (S := []) Xc hP23.o (c3_takes hP23 hP24 hH hTA hnt hF1 ((factP H 4) p_).2.1 rfl hi2_ hne 38) (dT hX3_joined 36 rfl) rfl (Nat.le_of_ble_eq_true rfl) (Nat.le_of_ble_eq_true rfl) (Nat.le_of_ble_eq_true rfl) rfl (Nat.le_of_ble_eq_true rfl) (fun r25 σ26 hq27 => ?_)
                  obtain ⟨r25e, hx28, ho29⟩ := hq27
                  rw [fR_3] at hx28
                  by_cases hsep_ : H ((factP H 4) p_).2.1 = 38
                  · skip
                    rw [must_t hsep_] at r25e hx28
                    have r25e := r25e.symm; subst r25e
                    have hP30 := hP24.off ho29 (Ne.symm hne)
                    have hP31 := ht21.off ho29 (Ne.symm hrt)
                    refine e_val (y := 1) rfl ?_
                    refine e_if_ne (tgt := 77) (pc := 72) Xc (dT hX3_joined 37 rfl) rfl (fun c72 => ?_) (fun c72 => ?_)
                    · skip
                      refine e_iincN (a := i_) (b := 1) (L' := [(3, .int (nI (i_ + 1))), (4, .int (bI ((factP H 4) p_).1)), (0, .ref rd), (1, .int 1), (2, .int 1)]) (pc := 77) Xc (dT hX3_joined 40 rfl) 4 rfl rfl (by decide) rfl ?_
                      refine e_goto (tgt := 2) (pc := 80) Xc (dT hX3_joined 41 rfl) rfl ?_
                      have hLe_ : (((l_.map encC) ++ (((factP H 4) p_).2.2.map encC)) ++ [(-2)]) = (jW (factP H 4) 1 i_ p_ l_).2.2.map encC := by rw [jW_y hi0_ hok_]; first | (simp only [List.map_append, List.append_assoc]; done) | (simp only [List.map_append, List.append_assoc]; rfl)
                      have hLl_ : (jW (factP H 4) 1 i_ p_ l_).2.2.length = l_.length + ((factP H 4) p_).2.2.length + 1 := by rw [jW_y hi0_ hok_]; simp only [List.length_append, List.length_cons, List.length_nil]; omega
                      refine Ev.pick (L' := [(0, .ref rd), (1, .int 1), (2, .int 1), (3, .int (nI (i_ + 1)))]) [2, 3, 4, 0] rfl ?_
                      exact ih2 (i_ + 1) k_ (((factP H 4) p_).2.1 + 1) ((jW (factP H 4) 1 i_ p_ l_).2.2) v8_ σ26 (by omega) (by omega) (by have := hi3_ hok_; omega) ((jW_s hok_ hsep_).symm.trans hR_) (hH.lt hsep_ (by decide)) (by omega) (fun _ => by omega) hx28 (by rw [← hLe_]; exact hP31) (((ho2.tr ho4).tr (OffS.of (S := (fun o => o = rd ∨ o = tw)) ho22 (Or.inr rfl))).tr (OffS.of (S := (fun o => o = rd ∨ o = tw)) ho29 (Or.inl rfl)))
                    · skip
                      exact absurd c72 (by decide)
                  · skip
                    rw [must_x hsep_] at r25e hx28
                    have r25e := r25e.symm; subst r25e
                    have hP32 := hP24.off ho29 (Ne.symm hne)
                    have hP33 := ht21.off ho29 (Ne.symm hrt)
                    refine e_val (y := 0) rfl ?_
                    refine e_if_ne (tgt := 77) (pc := 72) Xc (dT hX3_joined 37 rfl) rfl (fun c72 => ?_) (fun c72 => ?_)
                    · skip
                      exact absurd c72 (by decide)
                    · skip
                      refine e_iconst (v := 1) (pc := 75) Xc (dT hX3_joined 38 rfl) rfl ?_
                      refine e_zret (pc := 76) Xc hQ (dT hX3_joined 39 rfl) (Nat.le_refl _) (Nat.le_refl _) (Or.inr rfl) ?_
                      rw [lpJ_x (r := jW (factP H 4) 1 i_ p_ l_) (fun q => hsep_ q.2)] at hR_
                      rw [← hR_]
                      refine ⟨?_, ⟨_, hx28⟩, ?_, (((ho2.tr ho4).tr (OffS.of (S := (fun o => o = rd ∨ o = tw)) ho22 (Or.inr rfl))).tr (OffS.of (S := (fun o => o = rd ∨ o = tw)) ho29 (Or.inl rfl)))⟩
                      · show _ = bI ((factP H 4) p_).1
                        rw [hok_]; rfl
                      · rw [jW_y hi0_ hok_]
                        have h_ := hP33
                        simp only [List.map_append, List.append_assoc] at h_ ⊢
                        exact h_
                · skip
                  exact absurd c59 (by decide)
              · skip
                exact absurd c44 (by decide)
          · skip
            have hok_ : ((factP H 4) p_).1 = false := bI_0.mp c30
            refine e_iconst (v := 0) (pc := 33) Xc (dT hX3_joined 18 rfl) rfl ?_
            refine e_zret (pc := 34) Xc hQ (dT hX3_joined 19 rfl) (Nat.le_refl _) (Nat.le_refl _) (Or.inl rfl) ?_
            rw [lpJ_x (r := jW (factP H 4) 1 i_ p_ l_) (fun q => by have q1 := q.1; rw [show (jW (factP H 4) 1 i_ p_ l_).1 = ((factP H 4) p_).1 from rfl, hok_] at q1; exact Bool.noConfusion q1)] at hR_
            rw [← hR_]
            refine ⟨?_, ⟨_, hx5⟩, ?_, (ho2.tr ho4)⟩
            · show _ = bI ((factP H 4) p_).1
              rw [hok_]; rfl
            · rw [jW_n (fun q => by rw [hok_] at q; exact Bool.noConfusion q.2)]
              have h_ := ht6
              simp only [List.map_append, List.append_assoc] at h_ ⊢
              exact h_
        · skip
          exact absurd c9 (by decide)
  refine Ev.pick (L' := [(0, .ref rd), (1, .int 1), (2, .int 1), (3, .int 0)]) [1, 2, 3, 0] rfl ?_
  exact lp2 ((100 - 0) + 1) 0 100 p ([] : List xI) (F 4) σ (Nat.lt_succ_self _) rfl (Nat.zero_le _) (by rw [jW_0]; rfl) hp hn (fun q => absurd q (Nat.lt_irrefl 0)) (by rw [fR_id hF3]; exact hP) (tP_nil hP4 hn0) OffS.rf
set_option maxRecDepth 100000 in
set_option maxHeartbeats 4000000 in
theorem c3_joinE4 {G : xG} {σ : xS} {rd pa tw : Nat} {F : Nat → Int32} {A : Nat → Nat → Int32} (hP : PX3 σ rd F (tR pa tw) A) {Fa : Nat → Int32} {Ta : Nat → Nat} {Aa : Nat → Nat → Int32} (hPa : PX2 σ pa Fa Ta Aa) {H : Nat → Int32} {nt : Nat} (hH : Hend H nt) (hTA : ∀ q, q < nt → Aa 1 q = H q) (hnt : nt ≤ 100) (hF1 : F 1 = nI nt) (p : Nat) (hF3 : F 3 = nI p) (hp : p ≤ nt) (hne : rd ≠ pa) {F4 : Nat → Int32} {T4 : Nat → Nat} {A4 : Nat → Nat → Int32} (hP4 : PX4 σ tw F4 T4 A4) (n0 : Nat) (hn0 : F4 3 = nI n0) (hn : n0 ≤ p) (hSg : ∀ q, isSg (H q)) (hrt : rd ≠ tw) (hpt : pa ≠ tw) : CI G yX3_joined cX3_joined 5 (some .boolean) 17 0 0 [.ref rd, .int 0, .int 1] σ (fun z σ1 => z = bI (eofP H (factP H 4) p).1 ∧ (∃ v, PX3 σ1 rd (upd (upd F 3 (nI (eofP H (factP H 4) p).2.1)) 4 v) (tR pa tw) A) ∧ tP σ1 tw F4 T4 A4 n0 ((eofP H (factP H 4) p).2.2.map encC) ∧ OffS (fun o => o = rd ∨ o = tw) σ σ1) := by
  refine Met.ofX (by decide +kernel) (Nat.le_of_ble_eq_true rfl) (fun μ Xc hQ hnm => ?_)
  have Xc : xC G μ cX3_joined 5 RX3 (some .boolean) 17 0 0 := Xc
  show Ev G μ 5 0 0 0 [(0, .ref rd), (1, .int 0), (2, .int 1)] [] σ
  refine e_iconst (v := 0) (pc := 0) Xc (dT hX3_joined 0 rfl) rfl ?_
  refine e_istore_n (L' := [(3, .int 0), (0, .ref rd), (1, .int 0), (2, .int 1)]) (pc := 1) Xc (dT hX3_joined 1 rfl) (by decide) rfl ?_
  have lp2 : ∀ (n2 : Nat) (i_ k_ p_ : Nat) (l_ : List xI) (v_ : Int32) (σ2 : xS), 100 - i_ < n2 → (i_ + k_ = 100) → (2 * i_ ≤ p_) → (lpJ H (tofP H (factP H 4)) 124 2 k_ (jW (tofP H (factP H 4)) 2 i_ p_ l_) = (eofP H (factP H 4) p)) → (p_ ≤ nt) → (n0 + l_.length ≤ p_) → (0 < i_ → n0 + l_.length + 1 ≤ p_) → (PX3 σ2 rd (fR F p_ v_) (tR pa tw) A) → (tP σ2 tw F4 T4 A4 n0 (l_.map encC)) → (OffS (fun o => o = rd ∨ o = tw) σ σ2) → Ev G μ 5 0 0 2 [(0, .ref rd), (1, .int 0), (2, .int 1), (3, .int (nI i_))] [] σ2 := by
    intro n2
    induction n2 with
    | zero => intro i_ k_ p_ l_ v_ σ2 hn; exact absurd hn (Nat.not_lt_zero _)
    | succ n2 ih2 =>
      intro i_ k_ p_ l_ v_ σ2 hn2 hik_ h2i_ hR_ hpn_ hnl_ hn1_ hx2 ht2 ho2
      have hpa2 := hPa.cg (fun i => ho2.cell (fun e => e.elim (fun q => hne q.symm) hpt) i)
      obtain ⟨k_, rfl⟩ : ∃ k, k_ = k + 1 := ⟨k_ - 1, by omega⟩
      have hll_ : (l_.map encC).length = l_.length := List.length_map _
      refine e_iload_n (pc := 2) Xc (dT hX3_joined 2 rfl) 3 rfl ?_
      refine e_bipush (v := 100) (pc := 3) Xc (dT hX3_joined 3 rfl) rfl ?_
      refine e_icmp_geN (x := i_) (y := 100) (tgt := 83) (pc := 5) Xc (dT hX3_joined 4 rfl) rfl (by omega) (by omega) (fun c5 => ?_) (fun c5 => ?_)
      · skip
        exact absurd c5 (by omega)
      · skip
        refine e_iload_n (pc := 8) Xc (dT hX3_joined 5 rfl) 1 rfl ?_
        refine e_if_ne (tgt := 21) (pc := 9) Xc (dT hX3_joined 6 rfl) rfl (fun c9 => ?_) (fun c9 => ?_)
        · skip
          exact absurd c9 (by decide)
        · skip
          refine e_aload_n (pc := 12) Xc (dT hX3_joined 7 rfl) 0 rfl ?_
          refine e_iconst (v := 1) (pc := 13) Xc (dT hX3_joined 8 rfl) rfl ?_
          refine e_iload_n (pc := 14) Xc (dT hX3_joined 9 rfl) 2 rfl ?_
          refine cl_X3_51 (pc := 15) (k := 0) (n := 0) (S := []) Xc (c3_joinT4 hx2 hpa2 hH hTA hnt hF1 p_ rfl hpn_ hne ht2 (n0 + (l_.map encC).length) upd_s (by rw [List.length_map]; omega) hSg hrt hpt) (dT hX3_joined 10 rfl) rfl (Nat.le_of_ble_eq_true rfl) (Nat.le_of_ble_eq_true rfl) (Nat.le_of_ble_eq_true rfl) rfl (Nat.le_of_ble_eq_true rfl) (fun r1 σ2 hq3 => ?_)
          obtain ⟨r1e, ⟨v8_, hx5⟩, ht6, ho4⟩ := hq3
          have r1e := r1e.symm; subst r1e
          have hx5 : PX3 σ2 rd (fR F ((tofP H (factP H 4)) p_).2.1 v8_) (tR pa tw) A := by
            have h_ := hx5
            first | (rw [fR_2] at h_; exact h_) | (rw [fR_4, fR_2] at h_; exact h_) | exact h_
          have ht6 := tP_app ht6
          have ht6 : tP σ2 tw F4 T4 A4 n0 ((l_.map encC) ++ (((tofP H (factP H 4)) p_).2.2.map encC)) := ht6
          have hpa7 := (hpa2).cg (fun i => ho4.cell (fun e => e.elim (fun q => hne q.symm) hpt) i)
          obtain ⟨hi1_, hi2_, hi3_, hi4_⟩ : goP nt p_ ((tofP H (factP H 4)) p_) := tofP_go hH (fun q hq => factP_go hH 4 q hq) hpn_
          have hlm_ : (((tofP H (factP H 4)) p_).2.2.map encC).length = ((tofP H (factP H 4)) p_).2.2.length := List.length_map _
          refine e_goto (tgt := 26) (pc := 18) Xc (dT hX3_joined 11 rfl) rfl ?_
          refine e_istore (L' := [(4, .int (bI ((tofP H (factP H 4)) p_).1)), (0, .ref rd), (1, .int 0), (2, .int 1), (3, .int (nI i_))]) (pc := 26) Xc (dT hX3_joined 15 rfl) (by decide) rfl ?_
          refine e_iload (pc := 28) Xc (dT hX3_joined 16 rfl) 0 rfl ?_
          refine e_if_ne (tgt := 35) (pc := 30) Xc (dT hX3_joined 17 rfl) rfl (fun c30 => ?_) (fun c30 => ?_)
          · skip
            have hok_ : ((tofP H (factP H 4)) p_).1 = true := by cases q_ : ((tofP H (factP H 4)) p_).1; exact absurd (show bI ((tofP H (factP H 4)) p_).1 = 0 by rw [q_]; rfl) c30; rfl
            refine e_iload_n (pc := 35) Xc (dT hX3_joined 20 rfl) 4 rfl ?_
            refine e_if_le (tgt := 57) (pc := 36) Xc (dT hX3_joined 21 rfl) rfl (fun c36 => ?_) (fun c36 => ?_)
            · skip
              have hi0_ : i_ = 0 := by
                rcases Nat.eq_zero_or_pos i_ with q | q
                · exact q
                · exact absurd c36 (nI_nle0 q (by omega))
              refine e_aload_n (pc := 57) Xc (dT hX3_joined 30 rfl) 1 rfl ?_
              refine e_iload_n (pc := 58) Xc (dT hX3_joined 31 rfl) 2 rfl ?_
              refine e_if_ne (tgt := 67) (pc := 59) Xc (dT hX3_joined 32 rfl) rfl (fun c59 => ?_) (fun c59 => ?_)
              · skip
                exact absurd c59 (by decide)
              · skip
                refine e_bipush (v := 124) (pc := 62) Xc (dT hX3_joined 33 rfl) rfl ?_
                refine e_goto (tgt := 69) (pc := 64) Xc (dT hX3_joined 34 rfl) rfl ?_
                refine cl_X3_33 (pc := 69) (k := 0) (n := 0) (S := []) Xc hx5.o (c3_takes hx5 hpa7 hH hTA hnt hF1 ((tofP H (factP H 4)) p_).2.1 rfl hi2_ hne 124) (dT hX3_joined 36 rfl) rfl (Nat.le_of_ble_eq_true rfl) (Nat.le_of_ble_eq_true rfl) (Nat.le_of_ble_eq_true rfl) rfl (Nat.le_of_ble_eq_true rfl) (fun r9 σ10 hq11 => ?_)
                obtain ⟨r9e, hx12, ho13⟩ := hq11
                rw [fR_3] at hx12
                by_cases hsep_ : H ((tofP H (factP H 4)) p_).2.1 = 124
                · skip
                  rw [must_t hsep_] at r9e hx12
                  have r9e := r9e.symm; subst r9e
                  have hP14 := hpa7.off ho13 (Ne.symm hne)
                  have hP15 := ht6.off ho13 (Ne.symm hrt)
                  refine e_val (y := 1) rfl ?_
                  refine e_if_ne (tgt := 77) (pc := 72) Xc (dT hX3_joined 37 rfl) rfl (fun c72 => ?_) (fun c72 => ?_)
                  · skip
                    refine e_iincN (a := i_) (b := 1) (L' := [(3, .int (nI (i_ + 1))), (4, .int (bI ((tofP H (factP H 4)) p_).1)), (0, .ref rd), (1, .int 0), (2, .int 1)]) (pc := 77) Xc (dT hX3_joined 40 rfl) 4 rfl rfl (by decide) rfl ?_
                    refine e_goto (tgt := 2) (pc := 80) Xc (dT hX3_joined 41 rfl) rfl ?_
                    have hLe_ : ((l_.map encC) ++ (((tofP H (factP H 4)) p_).2.2.map encC)) = (jW (tofP H (factP H 4)) 2 i_ p_ l_).2.2.map encC := by rw [jW_n (fun q => absurd q.1 (by omega))]; first | (simp only [List.map_append, List.append_assoc]; done) | (simp only [List.map_append, List.append_assoc]; rfl)
                    have hLl_ : (jW (tofP H (factP H 4)) 2 i_ p_ l_).2.2.length = l_.length + ((tofP H (factP H 4)) p_).2.2.length + 0 := by rw [jW_n (fun q => absurd q.1 (by omega))]; simp only [List.length_append, List.length_cons, List.length_nil]; omega
                    refine Ev.pick (L' := [(0, .ref rd), (1, .int 0), (2, .int 1), (3, .int (nI (i_ + 1)))]) [2, 3, 4, 0] rfl ?_
                    exact ih2 (i_ + 1) k_ (((tofP H (factP H 4)) p_).2.1 + 1) ((jW (tofP H (factP H 4)) 2 i_ p_ l_).2.2) v8_ σ10 (by omega) (by omega) (by have := hi3_ hok_; omega) ((jW_s hok_ hsep_).symm.trans hR_) (hH.lt hsep_ (by decide)) (by omega) (fun _ => by omega) hx12 (by rw [← hLe_]; exact hP15) ((ho2.tr ho4).tr (OffS.of (S := (fun o => o = rd ∨ o = tw)) ho13 (Or.inl rfl)))
                  · skip
                    exact absurd c72 (by decide)
                · skip
                  rw [must_x hsep_] at r9e hx12
                  have r9e := r9e.symm; subst r9e
                  have hP16 := hpa7.off ho13 (Ne.symm hne)
                  have hP17 := ht6.off ho13 (Ne.symm hrt)
                  refine e_val (y := 0) rfl ?_
                  refine e_if_ne (tgt := 77) (pc := 72) Xc (dT hX3_joined 37 rfl) rfl (fun c72 => ?_) (fun c72 => ?_)
                  · skip
                    exact absurd c72 (by decide)
                  · skip
                    refine e_iconst (v := 1) (pc := 75) Xc (dT hX3_joined 38 rfl) rfl ?_
                    refine e_zret (pc := 76) Xc hQ (dT hX3_joined 39 rfl) (Nat.le_refl _) (Nat.le_refl _) (Or.inr rfl) ?_
                    rw [lpJ_x (r := jW (tofP H (factP H 4)) 2 i_ p_ l_) (fun q => hsep_ q.2)] at hR_
                    rw [← hR_]
                    refine ⟨?_, ⟨_, hx12⟩, ?_, ((ho2.tr ho4).tr (OffS.of (S := (fun o => o = rd ∨ o = tw)) ho13 (Or.inl rfl)))⟩
                    · show _ = bI ((tofP H (factP H 4)) p_).1
                      rw [hok_]; rfl
                    · rw [jW_n (fun q => absurd q.1 (by omega))]
                      have h_ := hP17
                      simp only [List.map_append, List.append_assoc] at h_ ⊢
                      exact h_
            · skip
              have hi0_ : 0 < i_ := by
                rcases Nat.eq_zero_or_pos i_ with q | q
                · subst q; exact absurd (by decide) c36
                · exact q
              have hn1b_ := hn1_ hi0_
              have hi3b_ := hi3_ hok_
              refine e_aload_n (pc := 39) Xc (dT hX3_joined 22 rfl) 1 rfl ?_
              refine gf_X3_25 (pc := 40) Xc (dT hX3_joined 23 rfl) hx5.o rfl ?_
              refine e_iload_n (pc := 43) Xc (dT hX3_joined 24 rfl) 2 rfl ?_
              refine e_if_ne (tgt := 52) (pc := 44) Xc (dT hX3_joined 25 rfl) rfl (fun c44 => ?_) (fun c44 => ?_)
              · skip
                exact absurd c44 (by decide)
              · skip
                refine e_bipush (v := -3) (pc := 47) Xc (dT hX3_joined 26 rfl) rfl ?_
                refine e_goto (tgt := 54) (pc := 49) Xc (dT hX3_joined 27 rfl) rfl ?_
                refine cl_X3_81 (pc := 54) (k := 0) (n := 0) (S := []) Xc ht6.o (c4_write ht6 (n0 + ((l_.map encC) ++ (((tofP H (factP H 4)) p_).2.2.map encC)).length) upd_s (by simp only [List.length_append, List.length_map] at *; omega) (-3)) (dT hX3_joined 29 rfl) rfl (Nat.le_of_ble_eq_true rfl) (Nat.le_of_ble_eq_true rfl) (Nat.le_of_ble_eq_true rfl) rfl (Nat.le_of_ble_eq_true rfl) (fun σ19 hq20 => ?_)
                obtain ⟨ht21, ho22⟩ := hq20
                have ht21 : tP σ19 tw F4 T4 A4 n0 (((l_.map encC) ++ (((tofP H (factP H 4)) p_).2.2.map encC)) ++ [(-3)]) := tP_app ht21
                have hP23 := hx5.off ho22 hrt
                have hP24 := hpa7.off ho22 hpt
                refine e_aload_n (pc := 57) Xc (dT hX3_joined 30 rfl) 1 rfl ?_
                refine e_iload_n (pc := 58) Xc (dT hX3_joined 31 rfl) 2 rfl ?_
                refine e_if_ne (tgt := 67) (pc := 59) Xc (dT hX3_joined 32 rfl) rfl (fun c59 => ?_) (fun c59 => ?_)
                · skip
                  exact absurd c59 (by decide)
                · skip
                  refine e_bipush (v := 124) (pc := 62) Xc (dT hX3_joined 33 rfl) rfl ?_
                  refine e_goto (tgt := 69) (pc := 64) Xc (dT hX3_joined 34 rfl) rfl ?_
                  refine cl_X3_33 (pc := 69) (k := 0) (n := 0) (S := []) Xc hP23.o (c3_takes hP23 hP24 hH hTA hnt hF1 ((tofP H (factP H 4)) p_).2.1 rfl hi2_ hne 124) (dT hX3_joined 36 rfl) rfl (Nat.le_of_ble_eq_true rfl) (Nat.le_of_ble_eq_true rfl) (Nat.le_of_ble_eq_true rfl) rfl (Nat.le_of_ble_eq_true rfl) (fun r25 σ26 hq27 => ?_)
                  obtain ⟨r25e, hx28, ho29⟩ := hq27
                  rw [fR_3] at hx28
                  by_cases hsep_ : H ((tofP H (factP H 4)) p_).2.1 = 124
                  · skip
                    rw [must_t hsep_] at r25e hx28
                    have r25e := r25e.symm; subst r25e
                    have hP30 := hP24.off ho29 (Ne.symm hne)
                    have hP31 := ht21.off ho29 (Ne.symm hrt)
                    refine e_val (y := 1) rfl ?_
                    refine e_if_ne (tgt := 77) (pc := 72) Xc (dT hX3_joined 37 rfl) rfl (fun c72 => ?_) (fun c72 => ?_)
                    · skip
                      refine e_iincN (a := i_) (b := 1) (L' := [(3, .int (nI (i_ + 1))), (4, .int (bI ((tofP H (factP H 4)) p_).1)), (0, .ref rd), (1, .int 0), (2, .int 1)]) (pc := 77) Xc (dT hX3_joined 40 rfl) 4 rfl rfl (by decide) rfl ?_
                      refine e_goto (tgt := 2) (pc := 80) Xc (dT hX3_joined 41 rfl) rfl ?_
                      have hLe_ : (((l_.map encC) ++ (((tofP H (factP H 4)) p_).2.2.map encC)) ++ [(-3)]) = (jW (tofP H (factP H 4)) 2 i_ p_ l_).2.2.map encC := by rw [jW_y hi0_ hok_]; first | (simp only [List.map_append, List.append_assoc]; done) | (simp only [List.map_append, List.append_assoc]; rfl)
                      have hLl_ : (jW (tofP H (factP H 4)) 2 i_ p_ l_).2.2.length = l_.length + ((tofP H (factP H 4)) p_).2.2.length + 1 := by rw [jW_y hi0_ hok_]; simp only [List.length_append, List.length_cons, List.length_nil]; omega
                      refine Ev.pick (L' := [(0, .ref rd), (1, .int 0), (2, .int 1), (3, .int (nI (i_ + 1)))]) [2, 3, 4, 0] rfl ?_
                      exact ih2 (i_ + 1) k_ (((tofP H (factP H 4)) p_).2.1 + 1) ((jW (tofP H (factP H 4)) 2 i_ p_ l_).2.2) v8_ σ26 (by omega) (by omega) (by have := hi3_ hok_; omega) ((jW_s hok_ hsep_).symm.trans hR_) (hH.lt hsep_ (by decide)) (by omega) (fun _ => by omega) hx28 (by rw [← hLe_]; exact hP31) (((ho2.tr ho4).tr (OffS.of (S := (fun o => o = rd ∨ o = tw)) ho22 (Or.inr rfl))).tr (OffS.of (S := (fun o => o = rd ∨ o = tw)) ho29 (Or.inl rfl)))
                    · skip
                      exact absurd c72 (by decide)
                  · skip
                    rw [must_x hsep_] at r25e hx28
                    have r25e := r25e.symm; subst r25e
                    have hP32 := hP24.off ho29 (Ne.symm hne)
                    have hP33 := ht21.off ho29 (Ne.symm hrt)
                    refine e_val (y := 0) rfl ?_
                    refine e_if_ne (tgt := 77) (pc := 72) Xc (dT hX3_joined 37 rfl) rfl (fun c72 => ?_) (fun c72 => ?_)
                    · skip
                      exact absurd c72 (by decide)
                    · skip
                      refine e_iconst (v := 1) (pc := 75) Xc (dT hX3_joined 38 rfl) rfl ?_
                      refine e_zret (pc := 76) Xc hQ (dT hX3_joined 39 rfl) (Nat.le_refl _) (Nat.le_refl _) (Or.inr rfl) ?_
                      rw [lpJ_x (r := jW (tofP H (factP H 4)) 2 i_ p_ l_) (fun q => hsep_ q.2)] at hR_
                      rw [← hR_]
                      refine ⟨?_, ⟨_, hx28⟩, ?_, (((ho2.tr ho4).tr (OffS.of (S := (fun o => o = rd ∨ o = tw)) ho22 (Or.inr rfl))).tr (OffS.of (S := (fun o => o = rd ∨ o = tw)) ho29 (Or.inl rfl)))⟩
                      · show _ = bI ((tofP H (factP H 4)) p_).1
                        rw [hok_]; rfl
                      · rw [jW_y hi0_ hok_]
                        have h_ := hP33
                        simp only [List.map_append, List.append_assoc] at h_ ⊢
                        exact h_
          · skip
            have hok_ : ((tofP H (factP H 4)) p_).1 = false := bI_0.mp c30
            refine e_iconst (v := 0) (pc := 33) Xc (dT hX3_joined 18 rfl) rfl ?_
            refine e_zret (pc := 34) Xc hQ (dT hX3_joined 19 rfl) (Nat.le_refl _) (Nat.le_refl _) (Or.inl rfl) ?_
            rw [lpJ_x (r := jW (tofP H (factP H 4)) 2 i_ p_ l_) (fun q => by have q1 := q.1; rw [show (jW (tofP H (factP H 4)) 2 i_ p_ l_).1 = ((tofP H (factP H 4)) p_).1 from rfl, hok_] at q1; exact Bool.noConfusion q1)] at hR_
            rw [← hR_]
            refine ⟨?_, ⟨_, hx5⟩, ?_, (ho2.tr ho4)⟩
            · show _ = bI ((tofP H (factP H 4)) p_).1
              rw [hok_]; rfl
            · rw [jW_n (fun q => by rw [hok_] at q; exact Bool.noConfusion q.2)]
              have h_ := ht6
              simp only [List.map_append, List.append_assoc] at h_ ⊢
              exact h_
  refine Ev.pick (L' := [(0, .ref rd), (1, .int 0), (2, .int 1), (3, .int 0)]) [1, 2, 3, 0] rfl ?_
  exact lp2 ((100 - 0) + 1) 0 100 p ([] : List xI) (F 4) σ (Nat.lt_succ_self _) rfl (Nat.zero_le _) (by rw [jW_0]; rfl) hp hn (fun q => absurd q (Nat.lt_irrefl 0)) (by rw [fR_id hF3]; exact hP) (tP_nil hP4 hn0) OffS.rf
set_option maxRecDepth 100000 in
set_option maxHeartbeats 4000000 in
theorem c3_single5 {G : xG} {σ : xS} {rd pa tw : Nat} {F : Nat → Int32} {A : Nat → Nat → Int32} (hP : PX3 σ rd F (tR pa tw) A) {Fa : Nat → Int32} {Ta : Nat → Nat} {Aa : Nat → Nat → Int32} (hPa : PX2 σ pa Fa Ta Aa) {H : Nat → Int32} {nt : Nat} (hH : Hend H nt) (hTA : ∀ q, q < nt → Aa 1 q = H q) (hnt : nt ≤ 100) (hF1 : F 1 = nI nt) (p : Nat) (hF3 : F 3 = nI p) (hp : p ≤ nt) (hne : rd ≠ pa) {F4 : Nat → Int32} {T4 : Nat → Nat} {A4 : Nat → Nat → Int32} (hP4 : PX4 σ tw F4 T4 A4) (n0 : Nat) (hn0 : F4 3 = nI n0) (hn : n0 ≤ p) (hSg : ∀ q, isSg (H q)) (hrt : rd ≠ tw) (hpt : pa ≠ tw) : CI G yX3_single cX3_single 3 (some .boolean) 18 0 0 [.ref rd, .int 0] σ (fun z σ1 => z = bI (factP H 5 p).1 ∧ (∃ v, PX3 σ1 rd (upd (upd F 3 (nI (factP H 5 p).2.1)) 4 v) (tR pa tw) A) ∧ tP σ1 tw F4 T4 A4 n0 ((factP H 5 p).2.2.map encC) ∧ OffS (fun o => o = rd ∨ o = tw) σ σ1) := by
  refine Met.ofX (by decide +kernel) (Nat.le_of_ble_eq_true rfl) (fun μ Xc hQ hnm => ?_)
  have Xc : xC G μ cX3_single 3 RX3 (some .boolean) 18 0 0 := Xc
  show Ev G μ 3 0 0 0 [(0, .ref rd), (1, .int 0)] [] σ
  refine e_aload_n (pc := 0) Xc (dT hX3_single 0 rfl) 0 rfl ?_
  refine cl_X3_37 (pc := 1) (k := 0) (n := 0) (S := []) Xc hP.o (c3_sign hP hPa hH hTA hnt hF1 p hF3 hp hne) (dT hX3_single 1 rfl) rfl (Nat.le_of_ble_eq_true rfl) (Nat.le_of_ble_eq_true rfl) (Nat.le_of_ble_eq_true rfl) rfl (Nat.le_of_ble_eq_true rfl) (fun r1 σ2 hq3 => ?_)
  obtain ⟨r1e, r1s⟩ := hq3
  have r1e := r1e.symm; subst r1e; have r1s := r1s.symm; subst r1s
  refine e_istore_n (L' := [(2, .int (H p)), (0, .ref rd), (1, .int 0)]) (pc := 4) Xc (dT hX3_single 2 rfl) (by decide) rfl ?_
  refine e_iload_n (pc := 5) Xc (dT hX3_single 3 rfl) 0 rfl ?_
  refine e_bipush (v := 33) (pc := 6) Xc (dT hX3_single 4 rfl) rfl ?_
  refine e_icmp_eq (tgt := 22) (pc := 8) Xc (dT hX3_single 5 rfl) rfl (fun c8 => ?_) (fun c8 => ?_)
  · skip
    refine e_iload_n (pc := 22) Xc (dT hX3_single 12 rfl) 2 rfl ?_
    refine e_iconst (v := 5) (pc := 23) Xc (dT hX3_single 13 rfl) rfl ?_
    refine e_icmp_ltN (x := 0) (y := 5) (tgt := 29) (pc := 24) Xc (dT hX3_single 14 rfl) rfl (by omega) (by omega) (fun c24 => ?_) (fun c24 => ?_)
    · skip
      have hlt_ : p < nt := by
        rcases Nat.lt_or_ge p nt with q | q
        · exact q
        · have q2 := hH p q; first | (rw [q2] at c8; exact absurd c8 (by decide)) | (rw [q2] at c14; exact absurd c14 (by decide))
      refine e_aload_n (pc := 29) Xc (dT hX3_single 17 rfl) 1 rfl ?_
      refine e_dup (pc := 30) Xc (dT hX3_single 18 rfl) rfl ?_
      refine gf_X3_9 (pc := 31) Xc (dT hX3_single 19 rfl) hP.o rfl ?_
      refine e_val (y := nI p) hF3 ?_
      refine e_iconst (v := 1) (pc := 34) Xc (dT hX3_single 20 rfl) rfl ?_
      refine e_iaddN (a := p) (b := 1) (pc := 35) Xc (dT hX3_single 21 rfl) ?_
      refine pf_X3_9 (fs' := olX3 rd (upd F 3 (nI (p + 1))) (tR pa tw)) (pc := 36) Xc (dT hX3_single 22 rfl) hP.o (Nat.le_of_ble_eq_true rfl) rfl ?_
      refine Ev.gen (fun z => PX3 z rd (upd F 3 (nI (p + 1))) (tR pa tw) A) (hP.wf3 (x := nI (p + 1))) Off.set (fun σ4 hP5 ho6 => ?_)
      have hP7 := hPa.off ho6 (Ne.symm hne)
      have hP8 := hP4.off ho6 (Ne.symm hrt)
      refine e_iload_n (pc := 39) Xc (dT hX3_single 23 rfl) 0 rfl ?_
      refine e_bipush (v := 40) (pc := 40) Xc (dT hX3_single 24 rfl) rfl ?_
      refine e_icmp_ne (tgt := 71) (pc := 42) Xc (dT hX3_single 25 rfl) rfl (fun c42 => ?_) (fun c42 => ?_)
      · skip
        refine e_aload_n (pc := 71) Xc (dT hX3_single 41 rfl) 1 rfl ?_
        refine e_iload_n (pc := 72) Xc (dT hX3_single 42 rfl) 2 rfl ?_
        refine e_iconst (v := 1) (pc := 73) Xc (dT hX3_single 43 rfl) rfl ?_
        refine e_iaddN (a := 0) (b := 1) (pc := 74) Xc (dT hX3_single 44 rfl) ?_
        refine e_val (y := 1) rfl ?_
        refine cl_X3_77 (pc := 75) (k := 0) (n := 0) (S := []) Xc (c3_single4 hP5 hP7 hH hTA hnt hF1 (p + 1) upd_s (by omega) hne hP8 n0 hn0 (by omega) hSg hrt hpt) (dT hX3_single 45 rfl) rfl (Nat.le_of_ble_eq_true rfl) (Nat.le_of_ble_eq_true rfl) (Nat.le_of_ble_eq_true rfl) rfl (Nat.le_of_ble_eq_true rfl) (fun r9 σ10 hq11 => ?_)
        obtain ⟨r9e, ⟨v16_, hx13⟩, ht14, ho12⟩ := hq11
        have r9e := r9e.symm; subst r9e
        have hx13 : PX3 σ10 rd (fR F (factP H 4 (p + 1)).2.1 v16_) (tR pa tw) A := by
          have h_ := hx13
          first | (rw [fR_2] at h_; exact h_) | (rw [fR_4, fR_2] at h_; exact h_) | exact h_
        have ht14 : tP σ10 tw F4 T4 A4 n0 ((factP H 4 (p + 1)).2.2.map encC) := ht14
        have hpa15 := (hP7).cg (fun i => ho12.cell (fun e => e.elim (fun q => hne q.symm) hpt) i)
        obtain ⟨hi1_, hi2_, hi3_, hi4_⟩ : goP nt (p + 1) (factP H 4 (p + 1)) := factP_go hH 4 (p + 1) (by omega)
        have hlm_ : ((factP H 4 (p + 1)).2.2.map encC).length = (factP H 4 (p + 1)).2.2.length := List.length_map _
        refine e_if_ne (tgt := 83) (pc := 78) Xc (dT hX3_single 46 rfl) rfl (fun c78 => ?_) (fun c78 => ?_)
        · skip
          have hok_ : (factP H 4 (p + 1)).1 = true := by cases q_ : (factP H 4 (p + 1)).1; exact absurd (show bI (factP H 4 (p + 1)).1 = 0 by rw [q_]; rfl) c78; rfl
          refine e_aload_n (pc := 83) Xc (dT hX3_single 49 rfl) 1 rfl ?_
          refine gf_X3_25 (pc := 84) Xc (dT hX3_single 50 rfl) hx13.o rfl ?_
          refine e_iconst (v := -1) (pc := 87) Xc (dT hX3_single 51 rfl) rfl ?_
          refine cl_X3_81 (pc := 88) (k := 0) (n := 0) (S := []) Xc ht14.o (c4_write ht14 (n0 + ((factP H 4 (p + 1)).2.2.map encC).length) upd_s (by simp only [List.length_append, List.length_map] at *; omega) (-1)) (dT hX3_single 52 rfl) rfl (Nat.le_of_ble_eq_true rfl) (Nat.le_of_ble_eq_true rfl) (Nat.le_of_ble_eq_true rfl) rfl (Nat.le_of_ble_eq_true rfl) (fun σ18 hq19 => ?_)
          obtain ⟨ht20, ho21⟩ := hq19
          have ht20 : tP σ18 tw F4 T4 A4 n0 (((factP H 4 (p + 1)).2.2.map encC) ++ [(-1)]) := tP_app ht20
          have hP22 := hx13.off ho21 hrt
          have hP23 := hpa15.off ho21 hpt
          refine e_iconst (v := 1) (pc := 91) Xc (dT hX3_single 53 rfl) rfl ?_
          refine e_zret (pc := 92) Xc hQ (dT hX3_single 54 rfl) (Nat.le_refl _) (Nat.le_refl _) (Or.inr rfl) ?_
          rw [fa_bang c8]
          refine ⟨by show _ = bI (factP H 4 (p + 1)).1; rw [hok_]; rfl, ⟨_, hP22⟩, ?_, (((OffS.of (S := (fun o => o = rd ∨ o = tw)) ho6 (Or.inl rfl)).tr ho12).tr (OffS.of (S := (fun o => o = rd ∨ o = tw)) ho21 (Or.inr rfl)))⟩
          rw [if_pos hok_]
          have h_ := ht20
          simp only [List.map_append] at h_ ⊢
          exact h_
        · skip
          have hok_ : (factP H 4 (p + 1)).1 = false := bI_0.mp c78
          refine e_iconst (v := 0) (pc := 81) Xc (dT hX3_single 47 rfl) rfl ?_
          refine e_zret (pc := 82) Xc hQ (dT hX3_single 48 rfl) (Nat.le_refl _) (Nat.le_refl _) (Or.inl rfl) ?_
          rw [fa_bang c8]
          refine ⟨by show _ = bI (factP H 4 (p + 1)).1; rw [hok_]; rfl, ⟨_, hx13⟩, ?_, ((OffS.of (S := (fun o => o = rd ∨ o = tw)) ho6 (Or.inl rfl)).tr ho12)⟩
          rw [if_neg (by rw [hok_]; decide), List.append_nil]
          exact ht14
      · skip
        exact absurd (c8.symm.trans c42) (by decide)
    · skip
      exact absurd c24 (by decide)
  · skip
    refine e_iload_n (pc := 11) Xc (dT hX3_single 6 rfl) 0 rfl ?_
    refine e_bipush (v := 40) (pc := 12) Xc (dT hX3_single 7 rfl) rfl ?_
    refine e_icmp_eq (tgt := 22) (pc := 14) Xc (dT hX3_single 8 rfl) rfl (fun c14 => ?_) (fun c14 => ?_)
    · skip
      refine e_iload_n (pc := 22) Xc (dT hX3_single 12 rfl) 2 rfl ?_
      refine e_iconst (v := 5) (pc := 23) Xc (dT hX3_single 13 rfl) rfl ?_
      refine e_icmp_ltN (x := 0) (y := 5) (tgt := 29) (pc := 24) Xc (dT hX3_single 14 rfl) rfl (by omega) (by omega) (fun c24 => ?_) (fun c24 => ?_)
      · skip
        have hlt_ : p < nt := by
          rcases Nat.lt_or_ge p nt with q | q
          · exact q
          · have q2 := hH p q; first | (rw [q2] at c8; exact absurd c8 (by decide)) | (rw [q2] at c14; exact absurd c14 (by decide))
        refine e_aload_n (pc := 29) Xc (dT hX3_single 17 rfl) 1 rfl ?_
        refine e_dup (pc := 30) Xc (dT hX3_single 18 rfl) rfl ?_
        refine gf_X3_9 (pc := 31) Xc (dT hX3_single 19 rfl) hP.o rfl ?_
        refine e_val (y := nI p) hF3 ?_
        refine e_iconst (v := 1) (pc := 34) Xc (dT hX3_single 20 rfl) rfl ?_
        refine e_iaddN (a := p) (b := 1) (pc := 35) Xc (dT hX3_single 21 rfl) ?_
        refine pf_X3_9 (fs' := olX3 rd (upd F 3 (nI (p + 1))) (tR pa tw)) (pc := 36) Xc (dT hX3_single 22 rfl) hP.o (Nat.le_of_ble_eq_true rfl) rfl ?_
        refine Ev.gen (fun z => PX3 z rd (upd F 3 (nI (p + 1))) (tR pa tw) A) (hP.wf3 (x := nI (p + 1))) Off.set (fun σ24 hP25 ho26 => ?_)
        have hP27 := hPa.off ho26 (Ne.symm hne)
        have hP28 := hP4.off ho26 (Ne.symm hrt)
        refine e_iload_n (pc := 39) Xc (dT hX3_single 23 rfl) 0 rfl ?_
        refine e_bipush (v := 40) (pc := 40) Xc (dT hX3_single 24 rfl) rfl ?_
        refine e_icmp_ne (tgt := 71) (pc := 42) Xc (dT hX3_single 25 rfl) rfl (fun c42 => ?_) (fun c42 => ?_)
        · skip
          exact absurd c14 c42
        · skip
          refine e_aload_n (pc := 45) Xc (dT hX3_single 26 rfl) 1 rfl ?_
          refine e_iconst (v := 0) (pc := 46) Xc (dT hX3_single 27 rfl) rfl ?_
          refine e_iload_n (pc := 47) Xc (dT hX3_single 28 rfl) 2 rfl ?_
          refine e_iconst (v := 1) (pc := 48) Xc (dT hX3_single 29 rfl) rfl ?_
          refine e_iaddN (a := 0) (b := 1) (pc := 49) Xc (dT hX3_single 30 rfl) ?_
          refine e_val (y := 1) rfl ?_
          refine cl_X3_51 (pc := 50) (k := 0) (n := 0) (S := []) Xc (c3_joinE4 hP25 hP27 hH hTA hnt hF1 (p + 1) upd_s (by omega) hne hP28 n0 hn0 (by omega) hSg hrt hpt) (dT hX3_single 31 rfl) rfl (Nat.le_of_ble_eq_true rfl) (Nat.le_of_ble_eq_true rfl) (Nat.le_of_ble_eq_true rfl) rfl (Nat.le_of_ble_eq_true rfl) (fun r29 σ30 hq31 => ?_)
          obtain ⟨r29e, ⟨v36_, hx33⟩, ht34, ho32⟩ := hq31
          have r29e := r29e.symm; subst r29e
          have hx33 : PX3 σ30 rd (fR F (eofP H (factP H 4) (p + 1)).2.1 v36_) (tR pa tw) A := by
            have h_ := hx33
            first | (rw [fR_2] at h_; exact h_) | (rw [fR_4, fR_2] at h_; exact h_) | exact h_
          have ht34 : tP σ30 tw F4 T4 A4 n0 ((eofP H (factP H 4) (p + 1)).2.2.map encC) := ht34
          have hpa35 := (hP27).cg (fun i => ho32.cell (fun e => e.elim (fun q => hne q.symm) hpt) i)
          obtain ⟨hi1_, hi2_, hi3_, hi4_⟩ : goP nt (p + 1) (eofP H (factP H 4) (p + 1)) := eofP_go hH (fun q hq => factP_go hH 4 q hq) (by omega)
          have hlm_ : ((eofP H (factP H 4) (p + 1)).2.2.map encC).length = (eofP H (factP H 4) (p + 1)).2.2.length := List.length_map _
          refine e_if_eq (tgt := 69) (pc := 53) Xc (dT hX3_single 32 rfl) rfl (fun c53 => ?_) (fun c53 => ?_)
          · skip
            have hok_ : (eofP H (factP H 4) (p + 1)).1 = false := bI_0.mp c53
            refine e_iconst (v := 0) (pc := 69) Xc (dT hX3_single 39 rfl) rfl ?_
            refine e_zret (pc := 70) Xc hQ (dT hX3_single 40 rfl) (Nat.le_refl _) (Nat.le_refl _) (Or.inl rfl) ?_
            rw [fa_par c8 c14, show ((eofP H (factP H 4) (p + 1)).1, (eofP H (factP H 4) (p + 1)).2.1) = (false, (eofP H (factP H 4) (p + 1)).2.1) from Prod.ext hok_ rfl, must_f]
            exact ⟨rfl, ⟨_, hx33⟩, ht34, ((OffS.of (S := (fun o => o = rd ∨ o = tw)) ho26 (Or.inl rfl)).tr ho32)⟩
          · skip
            have hok_ : (eofP H (factP H 4) (p + 1)).1 = true := by cases q_ : (eofP H (factP H 4) (p + 1)).1; exact absurd (show bI (eofP H (factP H 4) (p + 1)).1 = 0 by rw [q_]; rfl) c53; rfl
            refine e_aload_n (pc := 56) Xc (dT hX3_single 33 rfl) 1 rfl ?_
            refine e_bipush (v := 41) (pc := 57) Xc (dT hX3_single 34 rfl) rfl ?_
            refine cl_X3_33 (pc := 59) (k := 0) (n := 0) (S := []) Xc hx33.o (c3_takes hx33 hpa35 hH hTA hnt hF1 (eofP H (factP H 4) (p + 1)).2.1 rfl hi2_ hne 41) (dT hX3_single 35 rfl) rfl (Nat.le_of_ble_eq_true rfl) (Nat.le_of_ble_eq_true rfl) (Nat.le_of_ble_eq_true rfl) rfl (Nat.le_of_ble_eq_true rfl) (fun r37 σ38 hq39 => ?_)
            obtain ⟨r37e, hx40, ho41⟩ := hq39
            have r37e := r37e.symm; subst r37e
            rw [fR_3] at hx40
            have hP42 := hpa35.off ho41 (Ne.symm hne)
            have hP43 := ht34.off ho41 (Ne.symm hrt)
            refine e_if_eq (tgt := 69) (pc := 62) Xc (dT hX3_single 36 rfl) rfl (fun c62 => ?_) (fun c62 => ?_)
            · skip
              refine e_iconst (v := 0) (pc := 69) Xc (dT hX3_single 39 rfl) rfl ?_
              refine e_zret (pc := 70) Xc hQ (dT hX3_single 40 rfl) (Nat.le_refl _) (Nat.le_refl _) (Or.inl rfl) ?_
              have hmb_ : (mustP H 41 (true, (eofP H (factP H 4) (p + 1)).2.1)).1 = false := bI_0.mp c62
              rw [fa_par c8 c14, show ((eofP H (factP H 4) (p + 1)).1, (eofP H (factP H 4) (p + 1)).2.1) = (true, (eofP H (factP H 4) (p + 1)).2.1) from Prod.ext hok_ rfl]
              exact ⟨by show _ = bI (mustP H 41 (true, (eofP H (factP H 4) (p + 1)).2.1)).1; rw [hmb_]; rfl, ⟨_, hx40⟩, hP43, (((OffS.of (S := (fun o => o = rd ∨ o = tw)) ho26 (Or.inl rfl)).tr ho32).tr (OffS.of (S := (fun o => o = rd ∨ o = tw)) ho41 (Or.inl rfl)))⟩
            · skip
              refine e_iconst (v := 1) (pc := 65) Xc (dT hX3_single 37 rfl) rfl ?_
              refine e_goto (tgt := 70) (pc := 66) Xc (dT hX3_single 38 rfl) rfl ?_
              refine e_zret (pc := 70) Xc hQ (dT hX3_single 40 rfl) (Nat.le_refl _) (Nat.le_refl _) (Or.inr rfl) ?_
              have hmb_ : (mustP H 41 (true, (eofP H (factP H 4) (p + 1)).2.1)).1 = true := by cases q_ : (mustP H 41 (true, (eofP H (factP H 4) (p + 1)).2.1)).1; exact absurd (show bI (mustP H 41 (true, (eofP H (factP H 4) (p + 1)).2.1)).1 = 0 by rw [q_]; rfl) c62; rfl
              rw [fa_par c8 c14, show ((eofP H (factP H 4) (p + 1)).1, (eofP H (factP H 4) (p + 1)).2.1) = (true, (eofP H (factP H 4) (p + 1)).2.1) from Prod.ext hok_ rfl]
              exact ⟨by show _ = bI (mustP H 41 (true, (eofP H (factP H 4) (p + 1)).2.1)).1; rw [hmb_]; rfl, ⟨_, hx40⟩, hP43, (((OffS.of (S := (fun o => o = rd ∨ o = tw)) ho26 (Or.inl rfl)).tr ho32).tr (OffS.of (S := (fun o => o = rd ∨ o = tw)) ho41 (Or.inl rfl)))⟩
      · skip
        exact absurd c24 (by decide)
    · skip
      refine e_aload_n (pc := 17) Xc (dT hX3_single 9 rfl) 1 rfl ?_
      refine cl_X3_84 (pc := 18) (k := 0) (n := 0) (S := []) Xc hP.o (c3_testing hP hPa hH hTA hnt hF1 p hF3 hp hne hP4 n0 hn0 hn hSg hrt hpt) (dT hX3_single 10 rfl) rfl (Nat.le_of_ble_eq_true rfl) (Nat.le_of_ble_eq_true rfl) (Nat.le_of_ble_eq_true rfl) rfl (Nat.le_of_ble_eq_true rfl) (fun r44 σ45 hq46 => ?_)
      obtain ⟨r44e, hx3_, hx4_, ho47⟩ := hq46
      have r44e := r44e.symm; subst r44e
      refine e_zret (pc := 21) Xc hQ (dT hX3_single 11 rfl) (Nat.le_refl _) (Nat.le_refl _) (bI_or _) ?_
      rw [fa_test c8 c14]
      exact ⟨rfl, hx3_, hx4_, ho47⟩
set_option maxRecDepth 100000 in
set_option maxHeartbeats 4000000 in
theorem c3_joinT5 {G : xG} {σ : xS} {rd pa tw : Nat} {F : Nat → Int32} {A : Nat → Nat → Int32} (hP : PX3 σ rd F (tR pa tw) A) {Fa : Nat → Int32} {Ta : Nat → Nat} {Aa : Nat → Nat → Int32} (hPa : PX2 σ pa Fa Ta Aa) {H : Nat → Int32} {nt : Nat} (hH : Hend H nt) (hTA : ∀ q, q < nt → Aa 1 q = H q) (hnt : nt ≤ 100) (hF1 : F 1 = nI nt) (p : Nat) (hF3 : F 3 = nI p) (hp : p ≤ nt) (hne : rd ≠ pa) {F4 : Nat → Int32} {T4 : Nat → Nat} {A4 : Nat → Nat → Int32} (hP4 : PX4 σ tw F4 T4 A4) (n0 : Nat) (hn0 : F4 3 = nI n0) (hn : n0 ≤ p) (hSg : ∀ q, isSg (H q)) (hrt : rd ≠ tw) (hpt : pa ≠ tw) : CI G yX3_joined cX3_joined 5 (some .boolean) 19 0 0 [.ref rd, .int 1, .int 0] σ (fun z σ1 => z = bI (tofP H (factP H 5) p).1 ∧ (∃ v, PX3 σ1 rd (upd (upd F 3 (nI (tofP H (factP H 5) p).2.1)) 4 v) (tR pa tw) A) ∧ tP σ1 tw F4 T4 A4 n0 ((tofP H (factP H 5) p).2.2.map encC) ∧ OffS (fun o => o = rd ∨ o = tw) σ σ1) := by
  refine Met.ofX (by decide +kernel) (Nat.le_of_ble_eq_true rfl) (fun μ Xc hQ hnm => ?_)
  have Xc : xC G μ cX3_joined 5 RX3 (some .boolean) 19 0 0 := Xc
  show Ev G μ 5 0 0 0 [(0, .ref rd), (1, .int 1), (2, .int 0)] [] σ
  refine e_iconst (v := 0) (pc := 0) Xc (dT hX3_joined 0 rfl) rfl ?_
  refine e_istore_n (L' := [(3, .int 0), (0, .ref rd), (1, .int 1), (2, .int 0)]) (pc := 1) Xc (dT hX3_joined 1 rfl) (by decide) rfl ?_
  have lp2 : ∀ (n2 : Nat) (i_ k_ p_ : Nat) (l_ : List xI) (v_ : Int32) (σ2 : xS), 100 - i_ < n2 → (i_ + k_ = 100) → (2 * i_ ≤ p_) → (lpJ H (factP H 5) 38 1 k_ (jW (factP H 5) 1 i_ p_ l_) = (tofP H (factP H 5) p)) → (p_ ≤ nt) → (n0 + l_.length ≤ p_) → (0 < i_ → n0 + l_.length + 1 ≤ p_) → (PX3 σ2 rd (fR F p_ v_) (tR pa tw) A) → (tP σ2 tw F4 T4 A4 n0 (l_.map encC)) → (OffS (fun o => o = rd ∨ o = tw) σ σ2) → Ev G μ 5 0 0 2 [(0, .ref rd), (1, .int 1), (2, .int 0), (3, .int (nI i_))] [] σ2 := by
    intro n2
    induction n2 with
    | zero => intro i_ k_ p_ l_ v_ σ2 hn; exact absurd hn (Nat.not_lt_zero _)
    | succ n2 ih2 =>
      intro i_ k_ p_ l_ v_ σ2 hn2 hik_ h2i_ hR_ hpn_ hnl_ hn1_ hx2 ht2 ho2
      have hpa2 := hPa.cg (fun i => ho2.cell (fun e => e.elim (fun q => hne q.symm) hpt) i)
      obtain ⟨k_, rfl⟩ : ∃ k, k_ = k + 1 := ⟨k_ - 1, by omega⟩
      have hll_ : (l_.map encC).length = l_.length := List.length_map _
      refine e_iload_n (pc := 2) Xc (dT hX3_joined 2 rfl) 3 rfl ?_
      refine e_bipush (v := 100) (pc := 3) Xc (dT hX3_joined 3 rfl) rfl ?_
      refine e_icmp_geN (x := i_) (y := 100) (tgt := 83) (pc := 5) Xc (dT hX3_joined 4 rfl) rfl (by omega) (by omega) (fun c5 => ?_) (fun c5 => ?_)
      · skip
        exact absurd c5 (by omega)
      · skip
        refine e_iload_n (pc := 8) Xc (dT hX3_joined 5 rfl) 1 rfl ?_
        refine e_if_ne (tgt := 21) (pc := 9) Xc (dT hX3_joined 6 rfl) rfl (fun c9 => ?_) (fun c9 => ?_)
        · skip
          refine e_aload_n (pc := 21) Xc (dT hX3_joined 12 rfl) 0 rfl ?_
          refine e_iload_n (pc := 22) Xc (dT hX3_joined 13 rfl) 2 rfl ?_
          refine cl_X3_77 (pc := 23) (k := 0) (n := 0) (S := []) Xc (c3_single5 hx2 hpa2 hH hTA hnt hF1 p_ rfl hpn_ hne ht2 (n0 + (l_.map encC).length) upd_s (by rw [List.length_map]; omega) hSg hrt hpt) (dT hX3_joined 14 rfl) rfl (Nat.le_of_ble_eq_true rfl) (Nat.le_of_ble_eq_true rfl) (Nat.le_of_ble_eq_true rfl) rfl (Nat.le_of_ble_eq_true rfl) (fun r1 σ2 hq3 => ?_)
          obtain ⟨r1e, ⟨v8_, hx5⟩, ht6, ho4⟩ := hq3
          have r1e := r1e.symm; subst r1e
          have hx5 : PX3 σ2 rd (fR F ((factP H 5) p_).2.1 v8_) (tR pa tw) A := by
            have h_ := hx5
            first | (rw [fR_2] at h_; exact h_) | (rw [fR_4, fR_2] at h_; exact h_) | exact h_
          have ht6 := tP_app ht6
          have ht6 : tP σ2 tw F4 T4 A4 n0 ((l_.map encC) ++ (((factP H 5) p_).2.2.map encC)) := ht6
          have hpa7 := (hpa2).cg (fun i => ho4.cell (fun e => e.elim (fun q => hne q.symm) hpt) i)
          obtain ⟨hi1_, hi2_, hi3_, hi4_⟩ : goP nt p_ ((factP H 5) p_) := factP_go hH 5 p_ hpn_
          have hlm_ : (((factP H 5) p_).2.2.map encC).length = ((factP H 5) p_).2.2.length := List.length_map _
          refine e_istore (L' := [(4, .int (bI ((factP H 5) p_).1)), (0, .ref rd), (1, .int 1), (2, .int 0), (3, .int (nI i_))]) (pc := 26) Xc (dT hX3_joined 15 rfl) (by decide) rfl ?_
          refine e_iload (pc := 28) Xc (dT hX3_joined 16 rfl) 0 rfl ?_
          refine e_if_ne (tgt := 35) (pc := 30) Xc (dT hX3_joined 17 rfl) rfl (fun c30 => ?_) (fun c30 => ?_)
          · skip
            have hok_ : ((factP H 5) p_).1 = true := by cases q_ : ((factP H 5) p_).1; exact absurd (show bI ((factP H 5) p_).1 = 0 by rw [q_]; rfl) c30; rfl
            refine e_iload_n (pc := 35) Xc (dT hX3_joined 20 rfl) 4 rfl ?_
            refine e_if_le (tgt := 57) (pc := 36) Xc (dT hX3_joined 21 rfl) rfl (fun c36 => ?_) (fun c36 => ?_)
            · skip
              have hi0_ : i_ = 0 := by
                rcases Nat.eq_zero_or_pos i_ with q | q
                · exact q
                · exact absurd c36 (nI_nle0 q (by omega))
              refine e_aload_n (pc := 57) Xc (dT hX3_joined 30 rfl) 1 rfl ?_
              refine e_iload_n (pc := 58) Xc (dT hX3_joined 31 rfl) 2 rfl ?_
              refine e_if_ne (tgt := 67) (pc := 59) Xc (dT hX3_joined 32 rfl) rfl (fun c59 => ?_) (fun c59 => ?_)
              · skip
                refine e_bipush (v := 38) (pc := 67) Xc (dT hX3_joined 35 rfl) rfl ?_
                refine cl_X3_33 (pc := 69) (k := 0) (n := 0) (S := []) Xc hx5.o (c3_takes hx5 hpa7 hH hTA hnt hF1 ((factP H 5) p_).2.1 rfl hi2_ hne 38) (dT hX3_joined 36 rfl) rfl (Nat.le_of_ble_eq_true rfl) (Nat.le_of_ble_eq_true rfl) (Nat.le_of_ble_eq_true rfl) rfl (Nat.le_of_ble_eq_true rfl) (fun r9 σ10 hq11 => ?_)
                obtain ⟨r9e, hx12, ho13⟩ := hq11
                rw [fR_3] at hx12
                by_cases hsep_ : H ((factP H 5) p_).2.1 = 38
                · skip
                  rw [must_t hsep_] at r9e hx12
                  have r9e := r9e.symm; subst r9e
                  have hP14 := hpa7.off ho13 (Ne.symm hne)
                  have hP15 := ht6.off ho13 (Ne.symm hrt)
                  refine e_val (y := 1) rfl ?_
                  refine e_if_ne (tgt := 77) (pc := 72) Xc (dT hX3_joined 37 rfl) rfl (fun c72 => ?_) (fun c72 => ?_)
                  · skip
                    refine e_iincN (a := i_) (b := 1) (L' := [(3, .int (nI (i_ + 1))), (4, .int (bI ((factP H 5) p_).1)), (0, .ref rd), (1, .int 1), (2, .int 0)]) (pc := 77) Xc (dT hX3_joined 40 rfl) 4 rfl rfl (by decide) rfl ?_
                    refine e_goto (tgt := 2) (pc := 80) Xc (dT hX3_joined 41 rfl) rfl ?_
                    have hLe_ : ((l_.map encC) ++ (((factP H 5) p_).2.2.map encC)) = (jW (factP H 5) 1 i_ p_ l_).2.2.map encC := by rw [jW_n (fun q => absurd q.1 (by omega))]; first | (simp only [List.map_append, List.append_assoc]; done) | (simp only [List.map_append, List.append_assoc]; rfl)
                    have hLl_ : (jW (factP H 5) 1 i_ p_ l_).2.2.length = l_.length + ((factP H 5) p_).2.2.length + 0 := by rw [jW_n (fun q => absurd q.1 (by omega))]; simp only [List.length_append, List.length_cons, List.length_nil]; omega
                    refine Ev.pick (L' := [(0, .ref rd), (1, .int 1), (2, .int 0), (3, .int (nI (i_ + 1)))]) [2, 3, 4, 0] rfl ?_
                    exact ih2 (i_ + 1) k_ (((factP H 5) p_).2.1 + 1) ((jW (factP H 5) 1 i_ p_ l_).2.2) v8_ σ10 (by omega) (by omega) (by have := hi3_ hok_; omega) ((jW_s hok_ hsep_).symm.trans hR_) (hH.lt hsep_ (by decide)) (by omega) (fun _ => by omega) hx12 (by rw [← hLe_]; exact hP15) ((ho2.tr ho4).tr (OffS.of (S := (fun o => o = rd ∨ o = tw)) ho13 (Or.inl rfl)))
                  · skip
                    exact absurd c72 (by decide)
                · skip
                  rw [must_x hsep_] at r9e hx12
                  have r9e := r9e.symm; subst r9e
                  have hP16 := hpa7.off ho13 (Ne.symm hne)
                  have hP17 := ht6.off ho13 (Ne.symm hrt)
                  refine e_val (y := 0) rfl ?_
                  refine e_if_ne (tgt := 77) (pc := 72) Xc (dT hX3_joined 37 rfl) rfl (fun c72 => ?_) (fun c72 => ?_)
                  · skip
                    exact absurd c72 (by decide)
                  · skip
                    refine e_iconst (v := 1) (pc := 75) Xc (dT hX3_joined 38 rfl) rfl ?_
                    refine e_zret (pc := 76) Xc hQ (dT hX3_joined 39 rfl) (Nat.le_refl _) (Nat.le_refl _) (Or.inr rfl) ?_
                    rw [lpJ_x (r := jW (factP H 5) 1 i_ p_ l_) (fun q => hsep_ q.2)] at hR_
                    rw [← hR_]
                    refine ⟨?_, ⟨_, hx12⟩, ?_, ((ho2.tr ho4).tr (OffS.of (S := (fun o => o = rd ∨ o = tw)) ho13 (Or.inl rfl)))⟩
                    · show _ = bI ((factP H 5) p_).1
                      rw [hok_]; rfl
                    · rw [jW_n (fun q => absurd q.1 (by omega))]
                      have h_ := hP17
                      simp only [List.map_append, List.append_assoc] at h_ ⊢
                      exact h_
              · skip
                exact absurd c59 (by decide)
            · skip
              have hi0_ : 0 < i_ := by
                rcases Nat.eq_zero_or_pos i_ with q | q
                · subst q; exact absurd (by decide) c36
                · exact q
              have hn1b_ := hn1_ hi0_
              have hi3b_ := hi3_ hok_
              refine e_aload_n (pc := 39) Xc (dT hX3_joined 22 rfl) 1 rfl ?_
              refine gf_X3_25 (pc := 40) Xc (dT hX3_joined 23 rfl) hx5.o rfl ?_
              refine e_iload_n (pc := 43) Xc (dT hX3_joined 24 rfl) 2 rfl ?_
              refine e_if_ne (tgt := 52) (pc := 44) Xc (dT hX3_joined 25 rfl) rfl (fun c44 => ?_) (fun c44 => ?_)
              · skip
                refine e_bipush (v := -2) (pc := 52) Xc (dT hX3_joined 28 rfl) rfl ?_
                refine cl_X3_81 (pc := 54) (k := 0) (n := 0) (S := []) Xc ht6.o (c4_write ht6 (n0 + ((l_.map encC) ++ (((factP H 5) p_).2.2.map encC)).length) upd_s (by simp only [List.length_append, List.length_map] at *; omega) (-2)) (dT hX3_joined 29 rfl) rfl (Nat.le_of_ble_eq_true rfl) (Nat.le_of_ble_eq_true rfl) (Nat.le_of_ble_eq_true rfl) rfl (Nat.le_of_ble_eq_true rfl) (fun σ19 hq20 => ?_)
                obtain ⟨ht21, ho22⟩ := hq20
                have ht21 : tP σ19 tw F4 T4 A4 n0 (((l_.map encC) ++ (((factP H 5) p_).2.2.map encC)) ++ [(-2)]) := tP_app ht21
                have hP23 := hx5.off ho22 hrt
                have hP24 := hpa7.off ho22 hpt
                refine e_aload_n (pc := 57) Xc (dT hX3_joined 30 rfl) 1 rfl ?_
                refine e_iload_n (pc := 58) Xc (dT hX3_joined 31 rfl) 2 rfl ?_
                refine e_if_ne (tgt := 67) (pc := 59) Xc (dT hX3_joined 32 rfl) rfl (fun c59 => ?_) (fun c59 => ?_)
                · skip
                  refine e_bipush (v := 38) (pc := 67) Xc (dT hX3_joined 35 rfl) rfl ?_
                  refine cl_X3_33 (pc := 69) (k := 0) (n := 0) (S := []) Xc hP23.o (c3_takes hP23 hP24 hH hTA hnt hF1 ((factP H 5) p_).2.1 rfl hi2_ hne 38) (dT hX3_joined 36 rfl) rfl (Nat.le_of_ble_eq_true rfl) (Nat.le_of_ble_eq_true rfl) (Nat.le_of_ble_eq_true rfl) rfl (Nat.le_of_ble_eq_true rfl) (fun r25 σ26 hq27 => ?_)
                  obtain ⟨r25e, hx28, ho29⟩ := hq27
                  rw [fR_3] at hx28
                  by_cases hsep_ : H ((factP H 5) p_).2.1 = 38
                  · skip
                    rw [must_t hsep_] at r25e hx28
                    have r25e := r25e.symm; subst r25e
                    have hP30 := hP24.off ho29 (Ne.symm hne)
                    have hP31 := ht21.off ho29 (Ne.symm hrt)
                    refine e_val (y := 1) rfl ?_
                    refine e_if_ne (tgt := 77) (pc := 72) Xc (dT hX3_joined 37 rfl) rfl (fun c72 => ?_) (fun c72 => ?_)
                    · skip
                      refine e_iincN (a := i_) (b := 1) (L' := [(3, .int (nI (i_ + 1))), (4, .int (bI ((factP H 5) p_).1)), (0, .ref rd), (1, .int 1), (2, .int 0)]) (pc := 77) Xc (dT hX3_joined 40 rfl) 4 rfl rfl (by decide) rfl ?_
                      refine e_goto (tgt := 2) (pc := 80) Xc (dT hX3_joined 41 rfl) rfl ?_
                      have hLe_ : (((l_.map encC) ++ (((factP H 5) p_).2.2.map encC)) ++ [(-2)]) = (jW (factP H 5) 1 i_ p_ l_).2.2.map encC := by rw [jW_y hi0_ hok_]; first | (simp only [List.map_append, List.append_assoc]; done) | (simp only [List.map_append, List.append_assoc]; rfl)
                      have hLl_ : (jW (factP H 5) 1 i_ p_ l_).2.2.length = l_.length + ((factP H 5) p_).2.2.length + 1 := by rw [jW_y hi0_ hok_]; simp only [List.length_append, List.length_cons, List.length_nil]; omega
                      refine Ev.pick (L' := [(0, .ref rd), (1, .int 1), (2, .int 0), (3, .int (nI (i_ + 1)))]) [2, 3, 4, 0] rfl ?_
                      exact ih2 (i_ + 1) k_ (((factP H 5) p_).2.1 + 1) ((jW (factP H 5) 1 i_ p_ l_).2.2) v8_ σ26 (by omega) (by omega) (by have := hi3_ hok_; omega) ((jW_s hok_ hsep_).symm.trans hR_) (hH.lt hsep_ (by decide)) (by omega) (fun _ => by omega) hx28 (by rw [← hLe_]; exact hP31) (((ho2.tr ho4).tr (OffS.of (S := (fun o => o = rd ∨ o = tw)) ho22 (Or.inr rfl))).tr (OffS.of (S := (fun o => o = rd ∨ o = tw)) ho29 (Or.inl rfl)))
                    · skip
                      exact absurd c72 (by decide)
                  · skip
                    rw [must_x hsep_] at r25e hx28
                    have r25e := r25e.symm; subst r25e
                    have hP32 := hP24.off ho29 (Ne.symm hne)
                    have hP33 := ht21.off ho29 (Ne.symm hrt)
                    refine e_val (y := 0) rfl ?_
                    refine e_if_ne (tgt := 77) (pc := 72) Xc (dT hX3_joined 37 rfl) rfl (fun c72 => ?_) (fun c72 => ?_)
                    · skip
                      exact absurd c72 (by decide)
                    · skip
                      refine e_iconst (v := 1) (pc := 75) Xc (dT hX3_joined 38 rfl) rfl ?_
                      refine e_zret (pc := 76) Xc hQ (dT hX3_joined 39 rfl) (Nat.le_refl _) (Nat.le_refl _) (Or.inr rfl) ?_
                      rw [lpJ_x (r := jW (factP H 5) 1 i_ p_ l_) (fun q => hsep_ q.2)] at hR_
                      rw [← hR_]
                      refine ⟨?_, ⟨_, hx28⟩, ?_, (((ho2.tr ho4).tr (OffS.of (S := (fun o => o = rd ∨ o = tw)) ho22 (Or.inr rfl))).tr (OffS.of (S := (fun o => o = rd ∨ o = tw)) ho29 (Or.inl rfl)))⟩
                      · show _ = bI ((factP H 5) p_).1
                        rw [hok_]; rfl
                      · rw [jW_y hi0_ hok_]
                        have h_ := hP33
                        simp only [List.map_append, List.append_assoc] at h_ ⊢
                        exact h_
                · skip
                  exact absurd c59 (by decide)
              · skip
                exact absurd c44 (by decide)
          · skip
            have hok_ : ((factP H 5) p_).1 = false := bI_0.mp c30
            refine e_iconst (v := 0) (pc := 33) Xc (dT hX3_joined 18 rfl) rfl ?_
            refine e_zret (pc := 34) Xc hQ (dT hX3_joined 19 rfl) (Nat.le_refl _) (Nat.le_refl _) (Or.inl rfl) ?_
            rw [lpJ_x (r := jW (factP H 5) 1 i_ p_ l_) (fun q => by have q1 := q.1; rw [show (jW (factP H 5) 1 i_ p_ l_).1 = ((factP H 5) p_).1 from rfl, hok_] at q1; exact Bool.noConfusion q1)] at hR_
            rw [← hR_]
            refine ⟨?_, ⟨_, hx5⟩, ?_, (ho2.tr ho4)⟩
            · show _ = bI ((factP H 5) p_).1
              rw [hok_]; rfl
            · rw [jW_n (fun q => by rw [hok_] at q; exact Bool.noConfusion q.2)]
              have h_ := ht6
              simp only [List.map_append, List.append_assoc] at h_ ⊢
              exact h_
        · skip
          exact absurd c9 (by decide)
  refine Ev.pick (L' := [(0, .ref rd), (1, .int 1), (2, .int 0), (3, .int 0)]) [1, 2, 3, 0] rfl ?_
  exact lp2 ((100 - 0) + 1) 0 100 p ([] : List xI) (F 4) σ (Nat.lt_succ_self _) rfl (Nat.zero_le _) (by rw [jW_0]; rfl) hp hn (fun q => absurd q (Nat.lt_irrefl 0)) (by rw [fR_id hF3]; exact hP) (tP_nil hP4 hn0) OffS.rf
set_option maxRecDepth 100000 in
set_option maxHeartbeats 4000000 in
theorem c3_joinE5 {G : xG} {σ : xS} {rd pa tw : Nat} {F : Nat → Int32} {A : Nat → Nat → Int32} (hP : PX3 σ rd F (tR pa tw) A) {Fa : Nat → Int32} {Ta : Nat → Nat} {Aa : Nat → Nat → Int32} (hPa : PX2 σ pa Fa Ta Aa) {H : Nat → Int32} {nt : Nat} (hH : Hend H nt) (hTA : ∀ q, q < nt → Aa 1 q = H q) (hnt : nt ≤ 100) (hF1 : F 1 = nI nt) (p : Nat) (hF3 : F 3 = nI p) (hp : p ≤ nt) (hne : rd ≠ pa) {F4 : Nat → Int32} {T4 : Nat → Nat} {A4 : Nat → Nat → Int32} (hP4 : PX4 σ tw F4 T4 A4) (n0 : Nat) (hn0 : F4 3 = nI n0) (hn : n0 ≤ p) (hSg : ∀ q, isSg (H q)) (hrt : rd ≠ tw) (hpt : pa ≠ tw) : CI G yX3_joined cX3_joined 5 (some .boolean) 20 0 0 [.ref rd, .int 0, .int 0] σ (fun z σ1 => z = bI (eofP H (factP H 5) p).1 ∧ (∃ v, PX3 σ1 rd (upd (upd F 3 (nI (eofP H (factP H 5) p).2.1)) 4 v) (tR pa tw) A) ∧ tP σ1 tw F4 T4 A4 n0 ((eofP H (factP H 5) p).2.2.map encC) ∧ OffS (fun o => o = rd ∨ o = tw) σ σ1) := by
  refine Met.ofX (by decide +kernel) (Nat.le_of_ble_eq_true rfl) (fun μ Xc hQ hnm => ?_)
  have Xc : xC G μ cX3_joined 5 RX3 (some .boolean) 20 0 0 := Xc
  show Ev G μ 5 0 0 0 [(0, .ref rd), (1, .int 0), (2, .int 0)] [] σ
  refine e_iconst (v := 0) (pc := 0) Xc (dT hX3_joined 0 rfl) rfl ?_
  refine e_istore_n (L' := [(3, .int 0), (0, .ref rd), (1, .int 0), (2, .int 0)]) (pc := 1) Xc (dT hX3_joined 1 rfl) (by decide) rfl ?_
  have lp2 : ∀ (n2 : Nat) (i_ k_ p_ : Nat) (l_ : List xI) (v_ : Int32) (σ2 : xS), 100 - i_ < n2 → (i_ + k_ = 100) → (2 * i_ ≤ p_) → (lpJ H (tofP H (factP H 5)) 124 2 k_ (jW (tofP H (factP H 5)) 2 i_ p_ l_) = (eofP H (factP H 5) p)) → (p_ ≤ nt) → (n0 + l_.length ≤ p_) → (0 < i_ → n0 + l_.length + 1 ≤ p_) → (PX3 σ2 rd (fR F p_ v_) (tR pa tw) A) → (tP σ2 tw F4 T4 A4 n0 (l_.map encC)) → (OffS (fun o => o = rd ∨ o = tw) σ σ2) → Ev G μ 5 0 0 2 [(0, .ref rd), (1, .int 0), (2, .int 0), (3, .int (nI i_))] [] σ2 := by
    intro n2
    induction n2 with
    | zero => intro i_ k_ p_ l_ v_ σ2 hn; exact absurd hn (Nat.not_lt_zero _)
    | succ n2 ih2 =>
      intro i_ k_ p_ l_ v_ σ2 hn2 hik_ h2i_ hR_ hpn_ hnl_ hn1_ hx2 ht2 ho2
      have hpa2 := hPa.cg (fun i => ho2.cell (fun e => e.elim (fun q => hne q.symm) hpt) i)
      obtain ⟨k_, rfl⟩ : ∃ k, k_ = k + 1 := ⟨k_ - 1, by omega⟩
      have hll_ : (l_.map encC).length = l_.length := List.length_map _
      refine e_iload_n (pc := 2) Xc (dT hX3_joined 2 rfl) 3 rfl ?_
      refine e_bipush (v := 100) (pc := 3) Xc (dT hX3_joined 3 rfl) rfl ?_
      refine e_icmp_geN (x := i_) (y := 100) (tgt := 83) (pc := 5) Xc (dT hX3_joined 4 rfl) rfl (by omega) (by omega) (fun c5 => ?_) (fun c5 => ?_)
      · skip
        exact absurd c5 (by omega)
      · skip
        refine e_iload_n (pc := 8) Xc (dT hX3_joined 5 rfl) 1 rfl ?_
        refine e_if_ne (tgt := 21) (pc := 9) Xc (dT hX3_joined 6 rfl) rfl (fun c9 => ?_) (fun c9 => ?_)
        · skip
          exact absurd c9 (by decide)
        · skip
          refine e_aload_n (pc := 12) Xc (dT hX3_joined 7 rfl) 0 rfl ?_
          refine e_iconst (v := 1) (pc := 13) Xc (dT hX3_joined 8 rfl) rfl ?_
          refine e_iload_n (pc := 14) Xc (dT hX3_joined 9 rfl) 2 rfl ?_
          refine cl_X3_51 (pc := 15) (k := 0) (n := 0) (S := []) Xc (c3_joinT5 hx2 hpa2 hH hTA hnt hF1 p_ rfl hpn_ hne ht2 (n0 + (l_.map encC).length) upd_s (by rw [List.length_map]; omega) hSg hrt hpt) (dT hX3_joined 10 rfl) rfl (Nat.le_of_ble_eq_true rfl) (Nat.le_of_ble_eq_true rfl) (Nat.le_of_ble_eq_true rfl) rfl (Nat.le_of_ble_eq_true rfl) (fun r1 σ2 hq3 => ?_)
          obtain ⟨r1e, ⟨v8_, hx5⟩, ht6, ho4⟩ := hq3
          have r1e := r1e.symm; subst r1e
          have hx5 : PX3 σ2 rd (fR F ((tofP H (factP H 5)) p_).2.1 v8_) (tR pa tw) A := by
            have h_ := hx5
            first | (rw [fR_2] at h_; exact h_) | (rw [fR_4, fR_2] at h_; exact h_) | exact h_
          have ht6 := tP_app ht6
          have ht6 : tP σ2 tw F4 T4 A4 n0 ((l_.map encC) ++ (((tofP H (factP H 5)) p_).2.2.map encC)) := ht6
          have hpa7 := (hpa2).cg (fun i => ho4.cell (fun e => e.elim (fun q => hne q.symm) hpt) i)
          obtain ⟨hi1_, hi2_, hi3_, hi4_⟩ : goP nt p_ ((tofP H (factP H 5)) p_) := tofP_go hH (fun q hq => factP_go hH 5 q hq) hpn_
          have hlm_ : (((tofP H (factP H 5)) p_).2.2.map encC).length = ((tofP H (factP H 5)) p_).2.2.length := List.length_map _
          refine e_goto (tgt := 26) (pc := 18) Xc (dT hX3_joined 11 rfl) rfl ?_
          refine e_istore (L' := [(4, .int (bI ((tofP H (factP H 5)) p_).1)), (0, .ref rd), (1, .int 0), (2, .int 0), (3, .int (nI i_))]) (pc := 26) Xc (dT hX3_joined 15 rfl) (by decide) rfl ?_
          refine e_iload (pc := 28) Xc (dT hX3_joined 16 rfl) 0 rfl ?_
          refine e_if_ne (tgt := 35) (pc := 30) Xc (dT hX3_joined 17 rfl) rfl (fun c30 => ?_) (fun c30 => ?_)
          · skip
            have hok_ : ((tofP H (factP H 5)) p_).1 = true := by cases q_ : ((tofP H (factP H 5)) p_).1; exact absurd (show bI ((tofP H (factP H 5)) p_).1 = 0 by rw [q_]; rfl) c30; rfl
            refine e_iload_n (pc := 35) Xc (dT hX3_joined 20 rfl) 4 rfl ?_
            refine e_if_le (tgt := 57) (pc := 36) Xc (dT hX3_joined 21 rfl) rfl (fun c36 => ?_) (fun c36 => ?_)
            · skip
              have hi0_ : i_ = 0 := by
                rcases Nat.eq_zero_or_pos i_ with q | q
                · exact q
                · exact absurd c36 (nI_nle0 q (by omega))
              refine e_aload_n (pc := 57) Xc (dT hX3_joined 30 rfl) 1 rfl ?_
              refine e_iload_n (pc := 58) Xc (dT hX3_joined 31 rfl) 2 rfl ?_
              refine e_if_ne (tgt := 67) (pc := 59) Xc (dT hX3_joined 32 rfl) rfl (fun c59 => ?_) (fun c59 => ?_)
              · skip
                exact absurd c59 (by decide)
              · skip
                refine e_bipush (v := 124) (pc := 62) Xc (dT hX3_joined 33 rfl) rfl ?_
                refine e_goto (tgt := 69) (pc := 64) Xc (dT hX3_joined 34 rfl) rfl ?_
                refine cl_X3_33 (pc := 69) (k := 0) (n := 0) (S := []) Xc hx5.o (c3_takes hx5 hpa7 hH hTA hnt hF1 ((tofP H (factP H 5)) p_).2.1 rfl hi2_ hne 124) (dT hX3_joined 36 rfl) rfl (Nat.le_of_ble_eq_true rfl) (Nat.le_of_ble_eq_true rfl) (Nat.le_of_ble_eq_true rfl) rfl (Nat.le_of_ble_eq_true rfl) (fun r9 σ10 hq11 => ?_)
                obtain ⟨r9e, hx12, ho13⟩ := hq11
                rw [fR_3] at hx12
                by_cases hsep_ : H ((tofP H (factP H 5)) p_).2.1 = 124
                · skip
                  rw [must_t hsep_] at r9e hx12
                  have r9e := r9e.symm; subst r9e
                  have hP14 := hpa7.off ho13 (Ne.symm hne)
                  have hP15 := ht6.off ho13 (Ne.symm hrt)
                  refine e_val (y := 1) rfl ?_
                  refine e_if_ne (tgt := 77) (pc := 72) Xc (dT hX3_joined 37 rfl) rfl (fun c72 => ?_) (fun c72 => ?_)
                  · skip
                    refine e_iincN (a := i_) (b := 1) (L' := [(3, .int (nI (i_ + 1))), (4, .int (bI ((tofP H (factP H 5)) p_).1)), (0, .ref rd), (1, .int 0), (2, .int 0)]) (pc := 77) Xc (dT hX3_joined 40 rfl) 4 rfl rfl (by decide) rfl ?_
                    refine e_goto (tgt := 2) (pc := 80) Xc (dT hX3_joined 41 rfl) rfl ?_
                    have hLe_ : ((l_.map encC) ++ (((tofP H (factP H 5)) p_).2.2.map encC)) = (jW (tofP H (factP H 5)) 2 i_ p_ l_).2.2.map encC := by rw [jW_n (fun q => absurd q.1 (by omega))]; first | (simp only [List.map_append, List.append_assoc]; done) | (simp only [List.map_append, List.append_assoc]; rfl)
                    have hLl_ : (jW (tofP H (factP H 5)) 2 i_ p_ l_).2.2.length = l_.length + ((tofP H (factP H 5)) p_).2.2.length + 0 := by rw [jW_n (fun q => absurd q.1 (by omega))]; simp only [List.length_append, List.length_cons, List.length_nil]; omega
                    refine Ev.pick (L' := [(0, .ref rd), (1, .int 0), (2, .int 0), (3, .int (nI (i_ + 1)))]) [2, 3, 4, 0] rfl ?_
                    exact ih2 (i_ + 1) k_ (((tofP H (factP H 5)) p_).2.1 + 1) ((jW (tofP H (factP H 5)) 2 i_ p_ l_).2.2) v8_ σ10 (by omega) (by omega) (by have := hi3_ hok_; omega) ((jW_s hok_ hsep_).symm.trans hR_) (hH.lt hsep_ (by decide)) (by omega) (fun _ => by omega) hx12 (by rw [← hLe_]; exact hP15) ((ho2.tr ho4).tr (OffS.of (S := (fun o => o = rd ∨ o = tw)) ho13 (Or.inl rfl)))
                  · skip
                    exact absurd c72 (by decide)
                · skip
                  rw [must_x hsep_] at r9e hx12
                  have r9e := r9e.symm; subst r9e
                  have hP16 := hpa7.off ho13 (Ne.symm hne)
                  have hP17 := ht6.off ho13 (Ne.symm hrt)
                  refine e_val (y := 0) rfl ?_
                  refine e_if_ne (tgt := 77) (pc := 72) Xc (dT hX3_joined 37 rfl) rfl (fun c72 => ?_) (fun c72 => ?_)
                  · skip
                    exact absurd c72 (by decide)
                  · skip
                    refine e_iconst (v := 1) (pc := 75) Xc (dT hX3_joined 38 rfl) rfl ?_
                    refine e_zret (pc := 76) Xc hQ (dT hX3_joined 39 rfl) (Nat.le_refl _) (Nat.le_refl _) (Or.inr rfl) ?_
                    rw [lpJ_x (r := jW (tofP H (factP H 5)) 2 i_ p_ l_) (fun q => hsep_ q.2)] at hR_
                    rw [← hR_]
                    refine ⟨?_, ⟨_, hx12⟩, ?_, ((ho2.tr ho4).tr (OffS.of (S := (fun o => o = rd ∨ o = tw)) ho13 (Or.inl rfl)))⟩
                    · show _ = bI ((tofP H (factP H 5)) p_).1
                      rw [hok_]; rfl
                    · rw [jW_n (fun q => absurd q.1 (by omega))]
                      have h_ := hP17
                      simp only [List.map_append, List.append_assoc] at h_ ⊢
                      exact h_
            · skip
              have hi0_ : 0 < i_ := by
                rcases Nat.eq_zero_or_pos i_ with q | q
                · subst q; exact absurd (by decide) c36
                · exact q
              have hn1b_ := hn1_ hi0_
              have hi3b_ := hi3_ hok_
              refine e_aload_n (pc := 39) Xc (dT hX3_joined 22 rfl) 1 rfl ?_
              refine gf_X3_25 (pc := 40) Xc (dT hX3_joined 23 rfl) hx5.o rfl ?_
              refine e_iload_n (pc := 43) Xc (dT hX3_joined 24 rfl) 2 rfl ?_
              refine e_if_ne (tgt := 52) (pc := 44) Xc (dT hX3_joined 25 rfl) rfl (fun c44 => ?_) (fun c44 => ?_)
              · skip
                exact absurd c44 (by decide)
              · skip
                refine e_bipush (v := -3) (pc := 47) Xc (dT hX3_joined 26 rfl) rfl ?_
                refine e_goto (tgt := 54) (pc := 49) Xc (dT hX3_joined 27 rfl) rfl ?_
                refine cl_X3_81 (pc := 54) (k := 0) (n := 0) (S := []) Xc ht6.o (c4_write ht6 (n0 + ((l_.map encC) ++ (((tofP H (factP H 5)) p_).2.2.map encC)).length) upd_s (by simp only [List.length_append, List.length_map] at *; omega) (-3)) (dT hX3_joined 29 rfl) rfl (Nat.le_of_ble_eq_true rfl) (Nat.le_of_ble_eq_true rfl) (Nat.le_of_ble_eq_true rfl) rfl (Nat.le_of_ble_eq_true rfl) (fun σ19 hq20 => ?_)
                obtain ⟨ht21, ho22⟩ := hq20
                have ht21 : tP σ19 tw F4 T4 A4 n0 (((l_.map encC) ++ (((tofP H (factP H 5)) p_).2.2.map encC)) ++ [(-3)]) := tP_app ht21
                have hP23 := hx5.off ho22 hrt
                have hP24 := hpa7.off ho22 hpt
                refine e_aload_n (pc := 57) Xc (dT hX3_joined 30 rfl) 1 rfl ?_
                refine e_iload_n (pc := 58) Xc (dT hX3_joined 31 rfl) 2 rfl ?_
                refine e_if_ne (tgt := 67) (pc := 59) Xc (dT hX3_joined 32 rfl) rfl (fun c59 => ?_) (fun c59 => ?_)
                · skip
                  exact absurd c59 (by decide)
                · skip
                  refine e_bipush (v := 124) (pc := 62) Xc (dT hX3_joined 33 rfl) rfl ?_
                  refine e_goto (tgt := 69) (pc := 64) Xc (dT hX3_joined 34 rfl) rfl ?_
                  refine cl_X3_33 (pc := 69) (k := 0) (n := 0) (S := []) Xc hP23.o (c3_takes hP23 hP24 hH hTA hnt hF1 ((tofP H (factP H 5)) p_).2.1 rfl hi2_ hne 124) (dT hX3_joined 36 rfl) rfl (Nat.le_of_ble_eq_true rfl) (Nat.le_of_ble_eq_true rfl) (Nat.le_of_ble_eq_true rfl) rfl (Nat.le_of_ble_eq_true rfl) (fun r25 σ26 hq27 => ?_)
                  obtain ⟨r25e, hx28, ho29⟩ := hq27
                  rw [fR_3] at hx28
                  by_cases hsep_ : H ((tofP H (factP H 5)) p_).2.1 = 124
                  · skip
                    rw [must_t hsep_] at r25e hx28
                    have r25e := r25e.symm; subst r25e
                    have hP30 := hP24.off ho29 (Ne.symm hne)
                    have hP31 := ht21.off ho29 (Ne.symm hrt)
                    refine e_val (y := 1) rfl ?_
                    refine e_if_ne (tgt := 77) (pc := 72) Xc (dT hX3_joined 37 rfl) rfl (fun c72 => ?_) (fun c72 => ?_)
                    · skip
                      refine e_iincN (a := i_) (b := 1) (L' := [(3, .int (nI (i_ + 1))), (4, .int (bI ((tofP H (factP H 5)) p_).1)), (0, .ref rd), (1, .int 0), (2, .int 0)]) (pc := 77) Xc (dT hX3_joined 40 rfl) 4 rfl rfl (by decide) rfl ?_
                      refine e_goto (tgt := 2) (pc := 80) Xc (dT hX3_joined 41 rfl) rfl ?_
                      have hLe_ : (((l_.map encC) ++ (((tofP H (factP H 5)) p_).2.2.map encC)) ++ [(-3)]) = (jW (tofP H (factP H 5)) 2 i_ p_ l_).2.2.map encC := by rw [jW_y hi0_ hok_]; first | (simp only [List.map_append, List.append_assoc]; done) | (simp only [List.map_append, List.append_assoc]; rfl)
                      have hLl_ : (jW (tofP H (factP H 5)) 2 i_ p_ l_).2.2.length = l_.length + ((tofP H (factP H 5)) p_).2.2.length + 1 := by rw [jW_y hi0_ hok_]; simp only [List.length_append, List.length_cons, List.length_nil]; omega
                      refine Ev.pick (L' := [(0, .ref rd), (1, .int 0), (2, .int 0), (3, .int (nI (i_ + 1)))]) [2, 3, 4, 0] rfl ?_
                      exact ih2 (i_ + 1) k_ (((tofP H (factP H 5)) p_).2.1 + 1) ((jW (tofP H (factP H 5)) 2 i_ p_ l_).2.2) v8_ σ26 (by omega) (by omega) (by have := hi3_ hok_; omega) ((jW_s hok_ hsep_).symm.trans hR_) (hH.lt hsep_ (by decide)) (by omega) (fun _ => by omega) hx28 (by rw [← hLe_]; exact hP31) (((ho2.tr ho4).tr (OffS.of (S := (fun o => o = rd ∨ o = tw)) ho22 (Or.inr rfl))).tr (OffS.of (S := (fun o => o = rd ∨ o = tw)) ho29 (Or.inl rfl)))
                    · skip
                      exact absurd c72 (by decide)
                  · skip
                    rw [must_x hsep_] at r25e hx28
                    have r25e := r25e.symm; subst r25e
                    have hP32 := hP24.off ho29 (Ne.symm hne)
                    have hP33 := ht21.off ho29 (Ne.symm hrt)
                    refine e_val (y := 0) rfl ?_
                    refine e_if_ne (tgt := 77) (pc := 72) Xc (dT hX3_joined 37 rfl) rfl (fun c72 => ?_) (fun c72 => ?_)
                    · skip
                      exact absurd c72 (by decide)
                    · skip
                      refine e_iconst (v := 1) (pc := 75) Xc (dT hX3_joined 38 rfl) rfl ?_
                      refine e_zret (pc := 76) Xc hQ (dT hX3_joined 39 rfl) (Nat.le_refl _) (Nat.le_refl _) (Or.inr rfl) ?_
                      rw [lpJ_x (r := jW (tofP H (factP H 5)) 2 i_ p_ l_) (fun q => hsep_ q.2)] at hR_
                      rw [← hR_]
                      refine ⟨?_, ⟨_, hx28⟩, ?_, (((ho2.tr ho4).tr (OffS.of (S := (fun o => o = rd ∨ o = tw)) ho22 (Or.inr rfl))).tr (OffS.of (S := (fun o => o = rd ∨ o = tw)) ho29 (Or.inl rfl)))⟩
                      · show _ = bI ((tofP H (factP H 5)) p_).1
                        rw [hok_]; rfl
                      · rw [jW_y hi0_ hok_]
                        have h_ := hP33
                        simp only [List.map_append, List.append_assoc] at h_ ⊢
                        exact h_
          · skip
            have hok_ : ((tofP H (factP H 5)) p_).1 = false := bI_0.mp c30
            refine e_iconst (v := 0) (pc := 33) Xc (dT hX3_joined 18 rfl) rfl ?_
            refine e_zret (pc := 34) Xc hQ (dT hX3_joined 19 rfl) (Nat.le_refl _) (Nat.le_refl _) (Or.inl rfl) ?_
            rw [lpJ_x (r := jW (tofP H (factP H 5)) 2 i_ p_ l_) (fun q => by have q1 := q.1; rw [show (jW (tofP H (factP H 5)) 2 i_ p_ l_).1 = ((tofP H (factP H 5)) p_).1 from rfl, hok_] at q1; exact Bool.noConfusion q1)] at hR_
            rw [← hR_]
            refine ⟨?_, ⟨_, hx5⟩, ?_, (ho2.tr ho4)⟩
            · show _ = bI ((tofP H (factP H 5)) p_).1
              rw [hok_]; rfl
            · rw [jW_n (fun q => by rw [hok_] at q; exact Bool.noConfusion q.2)]
              have h_ := ht6
              simp only [List.map_append, List.append_assoc] at h_ ⊢
              exact h_
  refine Ev.pick (L' := [(0, .ref rd), (1, .int 0), (2, .int 0), (3, .int 0)]) [1, 2, 3, 0] rfl ?_
  exact lp2 ((100 - 0) + 1) 0 100 p ([] : List xI) (F 4) σ (Nat.lt_succ_self _) rfl (Nat.zero_le _) (by rw [jW_0]; rfl) hp hn (fun q => absurd q (Nat.lt_irrefl 0)) (by rw [fR_id hF3]; exact hP) (tP_nil hP4 hn0) OffS.rf
