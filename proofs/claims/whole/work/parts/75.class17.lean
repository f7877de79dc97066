set_option maxRecDepth 100000 in
set_option maxHeartbeats 4000000 in
theorem c3_clause {G : xG} {σ : xS} {rd pa tw : Nat} {F : Nat → Int32} {A : Nat → Nat → Int32} (hP : PX3 σ rd F (tR pa tw) A) {Fa : Nat → Int32} {Ta : Nat → Nat} {Aa : Nat → Nat → Int32} (hPa : PX2 σ pa Fa Ta Aa) {H : Nat → Int32} {nt : Nat} (hH : Hend H nt) (hTA : ∀ q, q < nt → Aa 1 q = H q) (hnt : nt ≤ 100) (hF1 : F 1 = nI nt) (p : Nat) (hF3 : F 3 = nI p) (hp : p ≤ nt) (hne : rd ≠ pa) {F4 : Nat → Int32} {T4 : Nat → Nat} {A4 : Nat → Nat → Int32} (hP4 : PX4 σ tw F4 T4 A4) (t : xT) (hTW : TWc F4 A4 t) (hfl : (t.2.2.flatMap flC).length ≤ p) (hl10 : t.2.2.length < 10) (hSg : ∀ q, isSg (H q)) (hrt : rd ≠ tw) (hpt : pa ≠ tw) : CI G yX3_clause cX3_clause 3 (some .boolean) 22 0 0 [.ref rd] σ (fun z σ1 => z = bI (clauP H p t).1 ∧ (∃ v, PX3 σ1 rd (fR F (clauP H p t).2.1 v) (tR pa tw) A) ∧ ((clauP H p t).1 = true → ∃ Fz Az, PX4 σ1 tw Fz T4 Az ∧ TWc Fz Az (clauP H p t).2.2 ∧ ((clauP H p t).2.2.2.2.flatMap flC).length ≤ (clauP H p t).2.1 ∧ (clauP H p t).2.2.2.2.length ≤ t.2.2.length + 1) ∧ OffS (fun o => o = rd ∨ o = tw) σ σ1) := by
  refine Met.ofX (by decide +kernel) (Nat.le_of_ble_eq_true rfl) (fun μ Xc hQ hnm => ?_)
  have Xc : xC G μ cX3_clause 3 RX3 (some .boolean) 22 0 0 := Xc
  show Ev G μ 3 0 0 0 [(0, .ref rd)] [] σ
  refine e_aload_n (pc := 0) Xc (dT hX3_clause 0 rfl) 0 rfl ?_
  refine cl_X3_37 (pc := 1) (k := 0) (n := 0) (S := []) Xc hP.o (c3_sign hP hPa hH hTA hnt hF1 p hF3 hp hne) (dT hX3_clause 1 rfl) rfl (Nat.le_of_ble_eq_true rfl) (Nat.le_of_ble_eq_true rfl) (Nat.le_of_ble_eq_true rfl) rfl (Nat.le_of_ble_eq_true rfl) (fun r1 σ2 hq3 => ?_)
  obtain ⟨r1e, r1s⟩ := hq3
  have r1e := r1e.symm; subst r1e; have r1s := r1s.symm; subst r1s
  refine e_bipush (v := 108) (pc := 4) Xc (dT hX3_clause 2 rfl) rfl ?_
  refine e_icmp_ne (tgt := 13) (pc := 6) Xc (dT hX3_clause 3 rfl) rfl (fun c6 => ?_) (fun c6 => ?_)
  · skip
    refine e_iconst (v := 0) (pc := 13) Xc (dT hX3_clause 6 rfl) rfl ?_
    refine e_istore_n (L' := [(1, .int 0), (0, .ref rd)]) (pc := 14) Xc (dT hX3_clause 7 rfl) (by decide) rfl ?_
    refine e_iload_n (pc := 15) Xc (dT hX3_clause 8 rfl) 0 rfl ?_
    refine e_if_ne (tgt := 28) (pc := 16) Xc (dT hX3_clause 9 rfl) rfl (fun c16 => ?_) (fun c16 => ?_)
    · skip
      exact absurd c16 (by decide)
    · skip
      refine e_aload_n (pc := 19) Xc (dT hX3_clause 10 rfl) 1 rfl ?_
      refine cl_X3_37 (pc := 20) (k := 0) (n := 0) (S := []) Xc hP.o (c3_sign hP hPa hH hTA hnt hF1 p hF3 hp hne) (dT hX3_clause 11 rfl) rfl (Nat.le_of_ble_eq_true rfl) (Nat.le_of_ble_eq_true rfl) (Nat.le_of_ble_eq_true rfl) rfl (Nat.le_of_ble_eq_true rfl) (fun r4 σ5 hq6 => ?_)
      obtain ⟨r4e, r4s⟩ := hq6
      have r4e := r4e.symm; subst r4e; have r4s := r4s.symm; subst r4s
      refine e_bipush (v := 98) (pc := 23) Xc (dT hX3_clause 12 rfl) rfl ?_
      refine e_icmp_ne (tgt := 102) (pc := 25) Xc (dT hX3_clause 13 rfl) rfl (fun c25 => ?_) (fun c25 => ?_)
      · skip
        refine e_aload_n (pc := 102) Xc (dT hX3_clause 53 rfl) 1 rfl ?_
        refine cl_X3_37 (pc := 103) (k := 0) (n := 0) (S := []) Xc hP.o (c3_sign hP hPa hH hTA hnt hF1 p hF3 hp hne) (dT hX3_clause 54 rfl) rfl (Nat.le_of_ble_eq_true rfl) (Nat.le_of_ble_eq_true rfl) (Nat.le_of_ble_eq_true rfl) rfl (Nat.le_of_ble_eq_true rfl) (fun r7 σ8 hq9 => ?_)
        obtain ⟨r7e, r7s⟩ := hq9
        have r7e := r7e.symm; subst r7e; have r7s := r7s.symm; subst r7s
        refine e_bipush (v := 103) (pc := 106) Xc (dT hX3_clause 55 rfl) rfl ?_
        refine e_icmp_ne (tgt := 115) (pc := 108) Xc (dT hX3_clause 56 rfl) rfl (fun c108 => ?_) (fun c108 => ?_)
        · skip
          refine e_iconst (v := 0) (pc := 115) Xc (dT hX3_clause 59 rfl) rfl ?_
          refine e_istore_n (L' := [(2, .int 0), (1, .int 0), (0, .ref rd)]) (pc := 116) Xc (dT hX3_clause 60 rfl) (by decide) rfl ?_
          refine e_aload_n (pc := 117) Xc (dT hX3_clause 61 rfl) 2 rfl ?_
          refine e_iload_n (pc := 118) Xc (dT hX3_clause 62 rfl) 0 rfl ?_
          refine e_if_eq (tgt := 127) (pc := 119) Xc (dT hX3_clause 63 rfl) rfl (fun c119 => ?_) (fun c119 => ?_)
          · skip
            refine e_ldcS (i := 3) (pc := 127) Xc (dT hX3_clause 66 rfl) (by decide) rfl rfl ?_
            refine cl_X3_45 (pc := 129) (k := 0) (n := 0) (S := []) Xc hP.o (c3_word hP hPa hH hTA hnt hF1 p hF3 hp hne 3 (by decide)) (dT hX3_clause 67 rfl) rfl (Nat.le_of_ble_eq_true rfl) (Nat.le_of_ble_eq_true rfl) (Nat.le_of_ble_eq_true rfl) rfl (Nat.le_of_ble_eq_true rfl) (fun r10 σ11 hq12 => ?_)
            obtain ⟨r10e, hx13, ho14⟩ := hq12
            have r10e := r10e.symm; subst r10e
            rw [fR_4] at hx13
            have hsg_ := spelP_go hH (sByt 3) (true, p) (s_ne 3 (by decide)) hp
            have hsg1_ : p ≤ (spelP H (sByt 3) (true, p)).2 := hsg_.1
            have hP15 := hPa.off ho14 (Ne.symm hne)
            have hP16 := hP4.off ho14 (Ne.symm hrt)
            refine e_if_eq (tgt := 142) (pc := 132) Xc (dT hX3_clause 68 rfl) rfl (fun c132 => ?_) (fun c132 => ?_)
            · skip
              have hso_ : (spelP H (sByt 3) (true, p)).1 = false := bI_0.mp c132
              refine e_iconst (v := 0) (pc := 142) Xc (dT hX3_clause 72 rfl) rfl ?_
              refine e_zret (pc := 143) Xc hQ (dT hX3_clause 73 rfl) (Nat.le_refl _) (Nat.le_refl _) (Or.inl rfl) ?_
              by_cases h112_ : H p = 112
              · rw [(show clauP H p t = ((tellP H (sByt 3) p).1.1, (tellP H (sByt 3) p).1.2, if (tellP H (sByt 3) p).1.1 = true then (t.1, (if nI (tellP H (sByt 3) p).2 < 1 then 1 else nI (tellP H (sByt 3) p).2), t.2.2) else t) from clau_112 c25 c108 c6 h112_), tell_f1 hso_]
                exact ⟨rfl, ⟨_, hx13⟩, fun q => Bool.noConfusion q, (OffS.of (S := (fun o => o = rd ∨ o = tw)) ho14 (Or.inl rfl))⟩
              · have hs3_ : (spelP H (sByt 3) (true, p)) = (false, p) := spel_1 h112_
                have hx_ := hx13
                rw [hs3_] at hx_
                rw [clau_no c25 c108 c6 h112_]
                exact ⟨rfl, ⟨_, hx_⟩, fun q => Bool.noConfusion q, (OffS.of (S := (fun o => o = rd ∨ o = tw)) ho14 (Or.inl rfl))⟩
            · skip
              have hso_ : (spelP H (sByt 3) (true, p)).1 = true := by cases q_ : (spelP H (sByt 3) (true, p)).1; exact absurd (show bI (spelP H (sByt 3) (true, p)).1 = 0 by rw [q_]; rfl) c132; rfl
              refine e_aload_n (pc := 135) Xc (dT hX3_clause 69 rfl) 2 rfl ?_
              refine cl_X3_49 (pc := 136) (k := 0) (n := 0) (S := []) Xc hx13.o (c3_number hx13 hP15 hH hTA hnt hF1 (spelP H (sByt 3) (true, p)).2 rfl hsg_.2 hne hSg) (dT hX3_clause 70 rfl) rfl (Nat.le_of_ble_eq_true rfl) (Nat.le_of_ble_eq_true rfl) (Nat.le_of_ble_eq_true rfl) rfl (Nat.le_of_ble_eq_true rfl) (fun r17 σ18 hq19 => ?_)
              obtain ⟨r17e, v_, hx20, hv_, ho21⟩ := hq19
              have r17e := r17e.symm; subst r17e
              rw [fR_2] at hx20
              obtain ⟨hfg1_, hfg2_, -⟩ := figP_go hH (s := (true, (spelP H (sByt 3) (true, p)).2)) hsg_.2
              have hfg1_ : (spelP H (sByt 3) (true, p)).2 ≤ (figP H (true, (spelP H (sByt 3) (true, p)).2)).1.2 := hfg1_
              have hf99_ := figP_99 (H := H) (s := (true, (spelP H (sByt 3) (true, p)).2))
              have hP22 := hP15.off ho21 (Ne.symm hne)
              have hP23 := hP16.off ho21 (Ne.symm hrt)
              refine e_if_ne (tgt := 144) (pc := 139) Xc (dT hX3_clause 71 rfl) rfl (fun c139 => ?_) (fun c139 => ?_)
              · skip
                have hfo_ : (figP H (true, (spelP H (sByt 3) (true, p)).2)).1.1 = true := by cases q_ : (figP H (true, (spelP H (sByt 3) (true, p)).2)).1.1; exact absurd (show bI (figP H (true, (spelP H (sByt 3) (true, p)).2)).1.1 = 0 by rw [q_]; rfl) c139; rfl
                have hve_ := hv_ hfo_
                refine e_iload_n (pc := 144) Xc (dT hX3_clause 74 rfl) 0 rfl ?_
                refine e_if_eq (tgt := 162) (pc := 145) Xc (dT hX3_clause 75 rfl) rfl (fun c145 => ?_) (fun c145 => ?_)
                · skip
                  refine e_aload_n (pc := 162) Xc (dT hX3_clause 82 rfl) 2 rfl ?_
                  refine gf_X3_25 (pc := 163) Xc (dT hX3_clause 83 rfl) hx20.o rfl ?_
                  refine e_iconst (v := 1) (pc := 166) Xc (dT hX3_clause 84 rfl) rfl ?_
                  refine e_aload_n (pc := 167) Xc (dT hX3_clause 85 rfl) 2 rfl ?_
                  refine gf_X3_15 (pc := 168) Xc (dT hX3_clause 86 rfl) hx20.o rfl ?_
                  refine e_val (y := v_) rfl ?_
                  refine e_val (y := nI ((figP H (true, (spelP H (sByt 3) (true, p)).2)).2)) hve_ ?_
                  refine e_max (pc := 171) Xc w_ml_X3_68 (dT hX3_clause 87 rfl) (by decide) (Nat.le_refl _) (Nat.le_refl _) (Nat.le_of_ble_eq_true rfl) ?_
                  refine e_val (y := maxF 1 (nI ((figP H (true, (spelP H (sByt 3) (true, p)).2)).2))) rfl ?_
                  refine pf_X3_74 (fs' := olX4 tw (upd F4 6 (maxF 1 (nI ((figP H (true, (spelP H (sByt 3) (true, p)).2)).2)))) T4) (pc := 174) Xc (dT hX3_clause 88 rfl) hP23.o (Nat.le_of_ble_eq_true rfl) rfl ?_
                  refine Ev.gen (fun z => PX4 z tw (upd F4 6 (maxF 1 (nI ((figP H (true, (spelP H (sByt 3) (true, p)).2)).2)))) T4 A4) (hP23.wf6 (x := maxF 1 (nI ((figP H (true, (spelP H (sByt 3) (true, p)).2)).2)))) Off.set (fun σ24 hP25 ho26 => ?_)
                  have hP27 := hx20.off ho26 hrt
                  have hP28 := hP22.off ho26 hpt
                  refine e_iconst (v := 1) (pc := 177) Xc (dT hX3_clause 89 rfl) rfl ?_
                  refine e_zret (pc := 178) Xc hQ (dT hX3_clause 90 rfl) (Nat.le_refl _) (Nat.le_refl _) (Or.inr rfl) ?_
                  have h112_ : H p = 112 := by
                    by_cases q : H p = 112
                    · exact q
                    · rw [show (spelP H (sByt 3) (true, p)) = (false, p) from spel_1 q] at hso_; exact Bool.noConfusion hso_
                  have htw_ := TWc_paste (v := maxF 1 (nI (figP H (true, (spelP H (sByt 3) (true, p)).2)).2)) hTW
                  rw [show maxF 1 (nI (figP H (true, (spelP H (sByt 3) (true, p)).2)).2) = _ from max1] at htw_
                  have hx4_ := hP25
                  rw [show maxF 1 (nI (figP H (true, (spelP H (sByt 3) (true, p)).2)).2) = _ from max1] at hx4_
                  rw [(show clauP H p t = ((tellP H (sByt 3) p).1.1, (tellP H (sByt 3) p).1.2, if (tellP H (sByt 3) p).1.1 = true then (t.1, (if nI (tellP H (sByt 3) p).2 < 1 then 1 else nI (tellP H (sByt 3) p).2), t.2.2) else t) from clau_112 c25 c108 c6 h112_), tell_e hso_, if_pos hfo_]
                  exact ⟨by show _ = bI (figP H (true, (spelP H (sByt 3) (true, p)).2)).1.1; rw [hfo_]; rfl, ⟨_, hP27⟩, fun _ => ⟨_, _, hx4_, htw_, Nat.le_trans hfl (Nat.le_trans hsg1_ hfg1_), Nat.le_succ _⟩, (((OffS.of (S := (fun o => o = rd ∨ o = tw)) ho14 (Or.inl rfl)).tr (OffS.of (S := (fun o => o = rd ∨ o = tw)) ho21 (Or.inl rfl))).tr (OffS.of (S := (fun o => o = rd ∨ o = tw)) ho26 (Or.inr rfl)))⟩
                · skip
                  exact absurd c145 (by decide)
              · skip
                have hfo_ : (figP H (true, (spelP H (sByt 3) (true, p)).2)).1.1 = false := bI_0.mp c139
                refine e_iconst (v := 0) (pc := 142) Xc (dT hX3_clause 72 rfl) rfl ?_
                refine e_zret (pc := 143) Xc hQ (dT hX3_clause 73 rfl) (Nat.le_refl _) (Nat.le_refl _) (Or.inl rfl) ?_
                have h112_ : H p = 112 := by
                  by_cases q : H p = 112
                  · exact q
                  · rw [show (spelP H (sByt 3) (true, p)) = (false, p) from spel_1 q] at hso_; exact Bool.noConfusion hso_
                rw [(show clauP H p t = ((tellP H (sByt 3) p).1.1, (tellP H (sByt 3) p).1.2, if (tellP H (sByt 3) p).1.1 = true then (t.1, (if nI (tellP H (sByt 3) p).2 < 1 then 1 else nI (tellP H (sByt 3) p).2), t.2.2) else t) from clau_112 c25 c108 c6 h112_), tell_e hso_]
                rw [if_neg (by rw [hfo_]; decide)]
                exact ⟨by show _ = bI (figP H (true, (spelP H (sByt 3) (true, p)).2)).1.1; rw [hfo_]; rfl, ⟨_, hx20⟩, fun q => by have q : (figP H (true, (spelP H (sByt 3) (true, p)).2)).1.1 = true := q; rw [hfo_] at q; exact Bool.noConfusion q, ((OffS.of (S := (fun o => o = rd ∨ o = tw)) ho14 (Or.inl rfl)).tr (OffS.of (S := (fun o => o = rd ∨ o = tw)) ho21 (Or.inl rfl)))⟩
          · skip
            exact absurd c119 (by decide)
        · skip
          refine e_iconst (v := 1) (pc := 111) Xc (dT hX3_clause 57 rfl) rfl ?_
          refine e_goto (tgt := 116) (pc := 112) Xc (dT hX3_clause 58 rfl) rfl ?_
          refine e_istore_n (L' := [(2, .int 1), (1, .int 0), (0, .ref rd)]) (pc := 116) Xc (dT hX3_clause 60 rfl) (by decide) rfl ?_
          refine e_aload_n (pc := 117) Xc (dT hX3_clause 61 rfl) 2 rfl ?_
          refine e_iload_n (pc := 118) Xc (dT hX3_clause 62 rfl) 0 rfl ?_
          refine e_if_eq (tgt := 127) (pc := 119) Xc (dT hX3_clause 63 rfl) rfl (fun c119 => ?_) (fun c119 => ?_)
          · skip
            exact absurd c119 (by decide)
          · skip
            refine e_ldcS (i := 2) (pc := 122) Xc (dT hX3_clause 64 rfl) (by decide) rfl rfl ?_
            refine e_goto (tgt := 129) (pc := 124) Xc (dT hX3_clause 65 rfl) rfl ?_
            refine cl_X3_45 (pc := 129) (k := 0) (n := 0) (S := []) Xc hP.o (c3_word hP hPa hH hTA hnt hF1 p hF3 hp hne 2 (by decide)) (dT hX3_clause 67 rfl) rfl (Nat.le_of_ble_eq_true rfl) (Nat.le_of_ble_eq_true rfl) (Nat.le_of_ble_eq_true rfl) rfl (Nat.le_of_ble_eq_true rfl) (fun r29 σ30 hq31 => ?_)
            obtain ⟨r29e, hx32, ho33⟩ := hq31
            have r29e := r29e.symm; subst r29e
            rw [fR_4] at hx32
            have hsg_ := spelP_go hH (sByt 2) (true, p) (s_ne 2 (by decide)) hp
            have hsg1_ : p ≤ (spelP H (sByt 2) (true, p)).2 := hsg_.1
            have hP34 := hPa.off ho33 (Ne.symm hne)
            have hP35 := hP4.off ho33 (Ne.symm hrt)
            refine e_if_eq (tgt := 142) (pc := 132) Xc (dT hX3_clause 68 rfl) rfl (fun c132 => ?_) (fun c132 => ?_)
            · skip
              have hso_ : (spelP H (sByt 2) (true, p)).1 = false := bI_0.mp c132
              refine e_iconst (v := 0) (pc := 142) Xc (dT hX3_clause 72 rfl) rfl ?_
              refine e_zret (pc := 143) Xc hQ (dT hX3_clause 73 rfl) (Nat.le_refl _) (Nat.le_refl _) (Or.inl rfl) ?_
              rw [(show clauP H p t = ((tellP H (sByt 2) p).1.1, (tellP H (sByt 2) p).1.2, if (tellP H (sByt 2) p).1.1 = true then (nI (tellP H (sByt 2) p).2, t.2.1, t.2.2) else t) from clau_103 c25 c108), tell_f1 hso_]
              exact ⟨rfl, ⟨_, hx32⟩, fun q => Bool.noConfusion q, (OffS.of (S := (fun o => o = rd ∨ o = tw)) ho33 (Or.inl rfl))⟩
            · skip
              have hso_ : (spelP H (sByt 2) (true, p)).1 = true := by cases q_ : (spelP H (sByt 2) (true, p)).1; exact absurd (show bI (spelP H (sByt 2) (true, p)).1 = 0 by rw [q_]; rfl) c132; rfl
              refine e_aload_n (pc := 135) Xc (dT hX3_clause 69 rfl) 2 rfl ?_
              refine cl_X3_49 (pc := 136) (k := 0) (n := 0) (S := []) Xc hx32.o (c3_number hx32 hP34 hH hTA hnt hF1 (spelP H (sByt 2) (true, p)).2 rfl hsg_.2 hne hSg) (dT hX3_clause 70 rfl) rfl (Nat.le_of_ble_eq_true rfl) (Nat.le_of_ble_eq_true rfl) (Nat.le_of_ble_eq_true rfl) rfl (Nat.le_of_ble_eq_true rfl) (fun r36 σ37 hq38 => ?_)
              obtain ⟨r36e, v_, hx39, hv_, ho40⟩ := hq38
              have r36e := r36e.symm; subst r36e
              rw [fR_2] at hx39
              obtain ⟨hfg1_, hfg2_, -⟩ := figP_go hH (s := (true, (spelP H (sByt 2) (true, p)).2)) hsg_.2
              have hfg1_ : (spelP H (sByt 2) (true, p)).2 ≤ (figP H (true, (spelP H (sByt 2) (true, p)).2)).1.2 := hfg1_
              have hf99_ := figP_99 (H := H) (s := (true, (spelP H (sByt 2) (true, p)).2))
              have hP41 := hP34.off ho40 (Ne.symm hne)
              have hP42 := hP35.off ho40 (Ne.symm hrt)
              refine e_if_ne (tgt := 144) (pc := 139) Xc (dT hX3_clause 71 rfl) rfl (fun c139 => ?_) (fun c139 => ?_)
              · skip
                have hfo_ : (figP H (true, (spelP H (sByt 2) (true, p)).2)).1.1 = true := by cases q_ : (figP H (true, (spelP H (sByt 2) (true, p)).2)).1.1; exact absurd (show bI (figP H (true, (spelP H (sByt 2) (true, p)).2)).1.1 = 0 by rw [q_]; rfl) c139; rfl
                have hve_ := hv_ hfo_
                refine e_iload_n (pc := 144) Xc (dT hX3_clause 74 rfl) 0 rfl ?_
                refine e_if_eq (tgt := 162) (pc := 145) Xc (dT hX3_clause 75 rfl) rfl (fun c145 => ?_) (fun c145 => ?_)
                · skip
                  exact absurd c145 (by decide)
                · skip
                  refine e_aload_n (pc := 148) Xc (dT hX3_clause 76 rfl) 2 rfl ?_
                  refine gf_X3_25 (pc := 149) Xc (dT hX3_clause 77 rfl) hx39.o rfl ?_
                  refine e_aload_n (pc := 152) Xc (dT hX3_clause 78 rfl) 2 rfl ?_
                  refine gf_X3_15 (pc := 153) Xc (dT hX3_clause 79 rfl) hx39.o rfl ?_
                  refine e_val (y := v_) rfl ?_
                  refine e_val (y := nI ((figP H (true, (spelP H (sByt 2) (true, p)).2)).2)) hve_ ?_
                  refine pf_X3_65 (fs' := olX4 tw (upd F4 5 (nI ((figP H (true, (spelP H (sByt 2) (true, p)).2)).2))) T4) (pc := 156) Xc (dT hX3_clause 80 rfl) hP42.o (Nat.le_of_ble_eq_true rfl) rfl ?_
                  refine Ev.gen (fun z => PX4 z tw (upd F4 5 (nI ((figP H (true, (spelP H (sByt 2) (true, p)).2)).2))) T4 A4) (hP42.wf5 (x := nI ((figP H (true, (spelP H (sByt 2) (true, p)).2)).2))) Off.set (fun σ43 hP44 ho45 => ?_)
                  have hP46 := hx39.off ho45 hrt
                  have hP47 := hP41.off ho45 hpt
                  refine e_goto (tgt := 177) (pc := 159) Xc (dT hX3_clause 81 rfl) rfl ?_
                  refine e_iconst (v := 1) (pc := 177) Xc (dT hX3_clause 89 rfl) rfl ?_
                  refine e_zret (pc := 178) Xc hQ (dT hX3_clause 90 rfl) (Nat.le_refl _) (Nat.le_refl _) (Or.inr rfl) ?_
                  rw [(show clauP H p t = ((tellP H (sByt 2) p).1.1, (tellP H (sByt 2) p).1.2, if (tellP H (sByt 2) p).1.1 = true then (nI (tellP H (sByt 2) p).2, t.2.1, t.2.2) else t) from clau_103 c25 c108), tell_e hso_, if_pos hfo_]
                  exact ⟨by show _ = bI (figP H (true, (spelP H (sByt 2) (true, p)).2)).1.1; rw [hfo_]; rfl, ⟨_, hP46⟩, fun _ => ⟨_, _, hP44, TWc_gap hTW, Nat.le_trans hfl (Nat.le_trans hsg1_ hfg1_), Nat.le_succ _⟩, (((OffS.of (S := (fun o => o = rd ∨ o = tw)) ho33 (Or.inl rfl)).tr (OffS.of (S := (fun o => o = rd ∨ o = tw)) ho40 (Or.inl rfl))).tr (OffS.of (S := (fun o => o = rd ∨ o = tw)) ho45 (Or.inr rfl)))⟩
              · skip
                have hfo_ : (figP H (true, (spelP H (sByt 2) (true, p)).2)).1.1 = false := bI_0.mp c139
                refine e_iconst (v := 0) (pc := 142) Xc (dT hX3_clause 72 rfl) rfl ?_
                refine e_zret (pc := 143) Xc hQ (dT hX3_clause 73 rfl) (Nat.le_refl _) (Nat.le_refl _) (Or.inl rfl) ?_
                rw [(show clauP H p t = ((tellP H (sByt 2) p).1.1, (tellP H (sByt 2) p).1.2, if (tellP H (sByt 2) p).1.1 = true then (nI (tellP H (sByt 2) p).2, t.2.1, t.2.2) else t) from clau_103 c25 c108), tell_e hso_]
                rw [if_neg (by rw [hfo_]; decide)]
                exact ⟨by show _ = bI (figP H (true, (spelP H (sByt 2) (true, p)).2)).1.1; rw [hfo_]; rfl, ⟨_, hx39⟩, fun q => by have q : (figP H (true, (spelP H (sByt 2) (true, p)).2)).1.1 = true := q; rw [hfo_] at q; exact Bool.noConfusion q, ((OffS.of (S := (fun o => o = rd ∨ o = tw)) ho33 (Or.inl rfl)).tr (OffS.of (S := (fun o => o = rd ∨ o = tw)) ho40 (Or.inl rfl)))⟩
      · skip
        refine e_aload_n (pc := 28) Xc (dT hX3_clause 14 rfl) 1 rfl ?_
        refine e_iload_n (pc := 29) Xc (dT hX3_clause 15 rfl) 0 rfl ?_
        refine e_if_eq (tgt := 38) (pc := 30) Xc (dT hX3_clause 16 rfl) rfl (fun c30 => ?_) (fun c30 => ?_)
        · skip
          refine e_ldcS (i := 1) (pc := 38) Xc (dT hX3_clause 19 rfl) (by decide) rfl rfl ?_
          refine cl_X3_45 (pc := 40) (k := 0) (n := 0) (S := []) Xc hP.o (c3_word hP hPa hH hTA hnt hF1 p hF3 hp hne 1 (by decide)) (dT hX3_clause 20 rfl) rfl (Nat.le_of_ble_eq_true rfl) (Nat.le_of_ble_eq_true rfl) (Nat.le_of_ble_eq_true rfl) rfl (Nat.le_of_ble_eq_true rfl) (fun r48 σ49 hq50 => ?_)
          obtain ⟨r48e, hx51, ho52⟩ := hq50
          have r48e := r48e.symm; subst r48e
          rw [fR_4] at hx51
          have hsg_ := spelP_go hH (sByt 1) (true, p) (s_ne 1 (by decide)) hp
          have hsg1_ : p ≤ (spelP H (sByt 1) (true, p)).2 := hsg_.1
          have hP53 := hPa.off ho52 (Ne.symm hne)
          have hP54 := hP4.off ho52 (Ne.symm hrt)
          refine e_if_eq (tgt := 53) (pc := 43) Xc (dT hX3_clause 21 rfl) rfl (fun c43 => ?_) (fun c43 => ?_)
          · skip
            have hso_ : (spelP H (sByt 1) (true, p)).1 = false := bI_0.mp c43
            refine e_iconst (v := 0) (pc := 53) Xc (dT hX3_clause 25 rfl) rfl ?_
            refine e_zret (pc := 54) Xc hQ (dT hX3_clause 26 rfl) (Nat.le_refl _) (Nat.le_refl _) (Or.inl rfl) ?_
            rw [(show clauP H p t = feelP H (sByt 1) false p t from clau_98 c25), feel_f1 hso_]
            exact ⟨rfl, ⟨_, hx51⟩, fun q => Bool.noConfusion q, (OffS.of (S := (fun o => o = rd ∨ o = tw)) ho52 (Or.inl rfl))⟩
          · skip
            have hso_ : (spelP H (sByt 1) (true, p)).1 = true := by cases q_ : (spelP H (sByt 1) (true, p)).1; exact absurd (show bI (spelP H (sByt 1) (true, p)).1 = 0 by rw [q_]; rfl) c43; rfl
            refine e_aload_n (pc := 46) Xc (dT hX3_clause 22 rfl) 1 rfl ?_
            refine cl_X3_49 (pc := 47) (k := 0) (n := 0) (S := []) Xc hx51.o (c3_number hx51 hP53 hH hTA hnt hF1 (spelP H (sByt 1) (true, p)).2 rfl hsg_.2 hne hSg) (dT hX3_clause 23 rfl) rfl (Nat.le_of_ble_eq_true rfl) (Nat.le_of_ble_eq_true rfl) (Nat.le_of_ble_eq_true rfl) rfl (Nat.le_of_ble_eq_true rfl) (fun r55 σ56 hq57 => ?_)
            obtain ⟨r55e, v_, hx58, hv_, ho59⟩ := hq57
            have r55e := r55e.symm; subst r55e
            rw [fR_2] at hx58
            obtain ⟨hfg1_, hfg2_, -⟩ := figP_go hH (s := (true, (spelP H (sByt 1) (true, p)).2)) hsg_.2
            have hfg1_ : (spelP H (sByt 1) (true, p)).2 ≤ (figP H (true, (spelP H (sByt 1) (true, p)).2)).1.2 := hfg1_
            have hf99_ := figP_99 (H := H) (s := (true, (spelP H (sByt 1) (true, p)).2))
            have hP60 := hP53.off ho59 (Ne.symm hne)
            have hP61 := hP54.off ho59 (Ne.symm hrt)
            refine e_if_ne (tgt := 55) (pc := 50) Xc (dT hX3_clause 24 rfl) rfl (fun c50 => ?_) (fun c50 => ?_)
            · skip
              have hfo_ : (figP H (true, (spelP H (sByt 1) (true, p)).2)).1.1 = true := by cases q_ : (figP H (true, (spelP H (sByt 1) (true, p)).2)).1.1; exact absurd (show bI (figP H (true, (spelP H (sByt 1) (true, p)).2)).1.1 = 0 by rw [q_]; rfl) c50; rfl
              have hve_ := hv_ hfo_
              refine e_iload_n (pc := 55) Xc (dT hX3_clause 27 rfl) 0 rfl ?_
              refine e_if_eq (tgt := 66) (pc := 56) Xc (dT hX3_clause 28 rfl) rfl (fun c56 => ?_) (fun c56 => ?_)
              · skip
                refine e_aload_n (pc := 66) Xc (dT hX3_clause 32 rfl) 1 rfl ?_
                refine gf_X3_15 (pc := 67) Xc (dT hX3_clause 33 rfl) hx58.o rfl ?_
                refine e_val (y := v_) rfl ?_
                refine e_val (y := nI ((figP H (true, (spelP H (sByt 1) (true, p)).2)).2)) hve_ ?_
                refine e_ineg (pc := 70) Xc (dT hX3_clause 34 rfl) ?_
                refine e_istore_n (L' := [(2, .int (-(nI ((figP H (true, (spelP H (sByt 1) (true, p)).2)).2)))), (1, .int 0), (0, .ref rd)]) (pc := 71) Xc (dT hX3_clause 35 rfl) (by decide) rfl ?_
                refine e_aload_n (pc := 72) Xc (dT hX3_clause 36 rfl) 2 rfl ?_
                refine e_bipush (v := 32) (pc := 73) Xc (dT hX3_clause 37 rfl) rfl ?_
                refine cl_X3_33 (pc := 75) (k := 0) (n := 0) (S := []) Xc hx58.o (c3_takes hx58 hP60 hH hTA hnt hF1 (figP H (true, (spelP H (sByt 1) (true, p)).2)).1.2 rfl hfg2_ hne 32) (dT hX3_clause 38 rfl) rfl (Nat.le_of_ble_eq_true rfl) (Nat.le_of_ble_eq_true rfl) (Nat.le_of_ble_eq_true rfl) rfl (Nat.le_of_ble_eq_true rfl) (fun r62 σ63 hq64 => ?_)
                obtain ⟨r62e, hx65, ho66⟩ := hq64
                have r62e := r62e.symm; subst r62e
                rw [fR_3] at hx65
                obtain ⟨hmg1_, hmg2_⟩ := mustP_go hH (c := 32) (by decide) (s := (true, (figP H (true, (spelP H (sByt 1) (true, p)).2)).1.2)) hfg2_
                have hmg1_ : (figP H (true, (spelP H (sByt 1) (true, p)).2)).1.2 ≤ (mustP H 32 (true, (figP H (true, (spelP H (sByt 1) (true, p)).2)).1.2)).2 := hmg1_
                have hP67 := hP60.off ho66 (Ne.symm hne)
                have hP68 := hP61.off ho66 (Ne.symm hrt)
                refine e_if_eq (tgt := 90) (pc := 78) Xc (dT hX3_clause 39 rfl) rfl (fun c78 => ?_) (fun c78 => ?_)
                · skip
                  have hmo_ : (mustP H 32 (true, (figP H (true, (spelP H (sByt 1) (true, p)).2)).1.2)).1 = false := bI_0.mp c78
                  refine e_iconst (v := 0) (pc := 90) Xc (dT hX3_clause 45 rfl) rfl ?_
                  refine e_zret (pc := 91) Xc hQ (dT hX3_clause 46 rfl) (Nat.le_refl _) (Nat.le_refl _) (Or.inl rfl) ?_
                  rw [(show clauP H p t = feelP H (sByt 1) false p t from clau_98 c25), feel_f3 hso_ hfo_ hmo_]
                  exact ⟨rfl, ⟨_, hx65⟩, fun q => Bool.noConfusion q, (((OffS.of (S := (fun o => o = rd ∨ o = tw)) ho52 (Or.inl rfl)).tr (OffS.of (S := (fun o => o = rd ∨ o = tw)) ho59 (Or.inl rfl))).tr (OffS.of (S := (fun o => o = rd ∨ o = tw)) ho66 (Or.inl rfl)))⟩
                · skip
                  have hmo_ : (mustP H 32 (true, (figP H (true, (spelP H (sByt 1) (true, p)).2)).1.2)).1 = true := by cases q_ : (mustP H 32 (true, (figP H (true, (spelP H (sByt 1) (true, p)).2)).1.2)).1; exact absurd (show bI (mustP H 32 (true, (figP H (true, (spelP H (sByt 1) (true, p)).2)).1.2)).1 = 0 by rw [q_]; rfl) c78; rfl
                  refine e_aload_n (pc := 81) Xc (dT hX3_clause 40 rfl) 2 rfl ?_
                  refine e_iconst (v := 0) (pc := 82) Xc (dT hX3_clause 41 rfl) rfl ?_
                  refine e_iconst (v := 0) (pc := 83) Xc (dT hX3_clause 42 rfl) rfl ?_
                  refine cl_X3_51 (pc := 84) (k := 0) (n := 0) (S := []) Xc (c3_joinE5 hx65 hP67 hH hTA hnt hF1 (mustP H 32 (true, (figP H (true, (spelP H (sByt 1) (true, p)).2)).1.2)).2 rfl hmg2_ hne hP68 (t.2.2.flatMap flC).length hTW.2.2.2.2.2.2.1 (by omega) hSg hrt hpt) (dT hX3_clause 43 rfl) rfl (Nat.le_of_ble_eq_true rfl) (Nat.le_of_ble_eq_true rfl) (Nat.le_of_ble_eq_true rfl) rfl (Nat.le_of_ble_eq_true rfl) (fun r69 σ70 hq71 => ?_)
                  obtain ⟨r69e, ⟨v76_, hx73⟩, ht74, ho72⟩ := hq71
                  have r69e := r69e.symm; subst r69e
                  have hx73 : PX3 σ70 rd (fR F (eofP H (factP H 5) (mustP H 32 (true, (figP H (true, (spelP H (sByt 1) (true, p)).2)).1.2)).2).2.1 v76_) (tR pa tw) A := by
                    have h_ := hx73
                    first | (rw [fR_2] at h_; exact h_) | (rw [fR_4, fR_2] at h_; exact h_) | exact h_
                  have ht74 : tP σ70 tw F4 T4 A4 (t.2.2.flatMap flC).length ((eofP H (factP H 5) (mustP H 32 (true, (figP H (true, (spelP H (sByt 1) (true, p)).2)).1.2)).2).2.2.map encC) := ht74
                  have hpa75 := (hP67).cg (fun i => ho72.cell (fun e => e.elim (fun q => hne q.symm) hpt) i)
                  obtain ⟨hi1_, hi2_, hi3_, hi4_⟩ : goP nt (mustP H 32 (true, (figP H (true, (spelP H (sByt 1) (true, p)).2)).1.2)).2 (eofP H (factP H 5) (mustP H 32 (true, (figP H (true, (spelP H (sByt 1) (true, p)).2)).1.2)).2) := eofP_go hH (fun q hq => factP_go hH 5 q hq) hmg2_
                  have hlm_ : ((eofP H (factP H 5) (mustP H 32 (true, (figP H (true, (spelP H (sByt 1) (true, p)).2)).1.2)).2).2.2.map encC).length = (eofP H (factP H 5) (mustP H 32 (true, (figP H (true, (spelP H (sByt 1) (true, p)).2)).1.2)).2).2.2.length := List.length_map _
                  refine e_if_ne (tgt := 92) (pc := 87) Xc (dT hX3_clause 44 rfl) rfl (fun c87 => ?_) (fun c87 => ?_)
                  · skip
                    have hok_ : (eofP H (factP H 5) (mustP H 32 (true, (figP H (true, (spelP H (sByt 1) (true, p)).2)).1.2)).2).1 = true := by cases q_ : (eofP H (factP H 5) (mustP H 32 (true, (figP H (true, (spelP H (sByt 1) (true, p)).2)).1.2)).2).1; exact absurd (show bI (eofP H (factP H 5) (mustP H 32 (true, (figP H (true, (spelP H (sByt 1) (true, p)).2)).1.2)).2).1 = 0 by rw [q_]; rfl) c87; rfl
                    refine e_aload_n (pc := 92) Xc (dT hX3_clause 47 rfl) 2 rfl ?_
                    refine gf_X3_25 (pc := 93) Xc (dT hX3_clause 48 rfl) hx73.o rfl ?_
                    refine e_iload_n (pc := 96) Xc (dT hX3_clause 49 rfl) 0 rfl ?_
                    refine cl_X3_55 (pc := 97) (k := 0) (n := 0) (S := []) Xc ht74.o (c4_endFeeling ht74 t.2.2.length ((upd_n (by decide)).trans hTW.2.2.2.2.1) hl10 (-(nI ((figP H (true, (spelP H (sByt 1) (true, p)).2)).2)))) (dT hX3_clause 50 rfl) rfl (Nat.le_of_ble_eq_true rfl) (Nat.le_of_ble_eq_true rfl) (Nat.le_of_ble_eq_true rfl) rfl (Nat.le_of_ble_eq_true rfl) (fun σ78 hq79 => ?_)
                    obtain ⟨ht80, ho81⟩ := hq79
                    have hln_ : (t.2.2.flatMap flC).length + (eofP H (factP H 5) (mustP H 32 (true, (figP H (true, (spelP H (sByt 1) (true, p)).2)).1.2)).2).2.2.length ≤ (eofP H (factP H 5) (mustP H 32 (true, (figP H (true, (spelP H (sByt 1) (true, p)).2)).1.2)).2).2.1 := by omega
                    have htwc_ := TWc_feel (its := (eofP H (factP H 5) (mustP H 32 (true, (figP H (true, (spelP H (sByt 1) (true, p)).2)).1.2)).2).2.2) (b := false) (n := (figP H (true, (spelP H (sByt 1) (true, p)).2)).2) (v := (-(nI ((figP H (true, (spelP H (sByt 1) (true, p)).2)).2)))) hTW (gEa_okF (s := (true, (mustP H 32 (true, (figP H (true, (spelP H (sByt 1) (true, p)).2)).1.2)).2)) hok_ hf99_) hl10 (by omega) (by rfl)
                    have hP82 := hx73.off ho81 hrt
                    have hP83 := hpa75.off ho81 hpt
                    refine e_iconst (v := 1) (pc := 100) Xc (dT hX3_clause 51 rfl) rfl ?_
                    refine e_zret (pc := 101) Xc hQ (dT hX3_clause 52 rfl) (Nat.le_refl _) (Nat.le_refl _) (Or.inr rfl) ?_
                    rw [(show clauP H p t = feelP H (sByt 1) false p t from clau_98 c25), feel_e hso_ hfo_ hmo_, if_pos hok_]
                    refine ⟨by show _ = bI (eofP H (factP H 5) (mustP H 32 (true, (figP H (true, (spelP H (sByt 1) (true, p)).2)).1.2)).2).1; rw [hok_]; rfl, ⟨_, hP82⟩, fun _ => ⟨_, _, ht80, htwc_, ?_, ?_⟩, (((((OffS.of (S := (fun o => o = rd ∨ o = tw)) ho52 (Or.inl rfl)).tr (OffS.of (S := (fun o => o = rd ∨ o = tw)) ho59 (Or.inl rfl))).tr (OffS.of (S := (fun o => o = rd ∨ o = tw)) ho66 (Or.inl rfl))).tr ho72).tr (OffS.of (S := (fun o => o = rd ∨ o = tw)) ho81 (Or.inr rfl)))⟩
                    · show ((t.2.2 ++ [((eofP H (factP H 5) (mustP H 32 (true, (figP H (true, (spelP H (sByt 1) (true, p)).2)).1.2)).2).2.2, false, (figP H (true, (spelP H (sByt 1) (true, p)).2)).2)]).flatMap flC).length ≤ (eofP H (factP H 5) (mustP H 32 (true, (figP H (true, (spelP H (sByt 1) (true, p)).2)).1.2)).2).2.1
                      rw [flatC_snoc, List.length_append, flC, List.length_map]; exact hln_
                    · show (t.2.2 ++ [((eofP H (factP H 5) (mustP H 32 (true, (figP H (true, (spelP H (sByt 1) (true, p)).2)).1.2)).2).2.2, false, (figP H (true, (spelP H (sByt 1) (true, p)).2)).2)]).length ≤ _
                      rw [List.length_append, List.length_singleton]; exact Nat.le_refl _
                  · skip
                    have hok_ : (eofP H (factP H 5) (mustP H 32 (true, (figP H (true, (spelP H (sByt 1) (true, p)).2)).1.2)).2).1 = false := bI_0.mp c87
                    refine e_iconst (v := 0) (pc := 90) Xc (dT hX3_clause 45 rfl) rfl ?_
                    refine e_zret (pc := 91) Xc hQ (dT hX3_clause 46 rfl) (Nat.le_refl _) (Nat.le_refl _) (Or.inl rfl) ?_
                    rw [(show clauP H p t = feelP H (sByt 1) false p t from clau_98 c25), feel_e hso_ hfo_ hmo_]
                    exact ⟨by show _ = bI (eofP H (factP H 5) (mustP H 32 (true, (figP H (true, (spelP H (sByt 1) (true, p)).2)).1.2)).2).1; rw [hok_]; rfl, ⟨_, hx73⟩, fun q => by have q : (eofP H (factP H 5) (mustP H 32 (true, (figP H (true, (spelP H (sByt 1) (true, p)).2)).1.2)).2).1 = true := q; rw [hok_] at q; exact Bool.noConfusion q, ((((OffS.of (S := (fun o => o = rd ∨ o = tw)) ho52 (Or.inl rfl)).tr (OffS.of (S := (fun o => o = rd ∨ o = tw)) ho59 (Or.inl rfl))).tr (OffS.of (S := (fun o => o = rd ∨ o = tw)) ho66 (Or.inl rfl))).tr ho72)⟩
              · skip
                exact absurd c56 (by decide)
            · skip
              have hfo_ : (figP H (true, (spelP H (sByt 1) (true, p)).2)).1.1 = false := bI_0.mp c50
              refine e_iconst (v := 0) (pc := 53) Xc (dT hX3_clause 25 rfl) rfl ?_
              refine e_zret (pc := 54) Xc hQ (dT hX3_clause 26 rfl) (Nat.le_refl _) (Nat.le_refl _) (Or.inl rfl) ?_
              rw [(show clauP H p t = feelP H (sByt 1) false p t from clau_98 c25), feel_f2 hso_ hfo_]
              exact ⟨rfl, ⟨_, hx58⟩, fun q => Bool.noConfusion q, ((OffS.of (S := (fun o => o = rd ∨ o = tw)) ho52 (Or.inl rfl)).tr (OffS.of (S := (fun o => o = rd ∨ o = tw)) ho59 (Or.inl rfl)))⟩
        · skip
          exact absurd c30 (by decide)
  · skip
    refine e_iconst (v := 1) (pc := 9) Xc (dT hX3_clause 4 rfl) rfl ?_
    refine e_goto (tgt := 14) (pc := 10) Xc (dT hX3_clause 5 rfl) rfl ?_
    refine e_istore_n (L' := [(1, .int 1), (0, .ref rd)]) (pc := 14) Xc (dT hX3_clause 7 rfl) (by decide) rfl ?_
    refine e_iload_n (pc := 15) Xc (dT hX3_clause 8 rfl) 0 rfl ?_
    refine e_if_ne (tgt := 28) (pc := 16) Xc (dT hX3_clause 9 rfl) rfl (fun c16 => ?_) (fun c16 => ?_)
    · skip
      refine e_aload_n (pc := 28) Xc (dT hX3_clause 14 rfl) 1 rfl ?_
      refine e_iload_n (pc := 29) Xc (dT hX3_clause 15 rfl) 0 rfl ?_
      refine e_if_eq (tgt := 38) (pc := 30) Xc (dT hX3_clause 16 rfl) rfl (fun c30 => ?_) (fun c30 => ?_)
      · skip
        exact absurd c30 (by decide)
      · skip
        refine e_ldcS (i := 0) (pc := 33) Xc (dT hX3_clause 17 rfl) (by decide) rfl rfl ?_
        refine e_goto (tgt := 40) (pc := 35) Xc (dT hX3_clause 18 rfl) rfl ?_
        refine cl_X3_45 (pc := 40) (k := 0) (n := 0) (S := []) Xc hP.o (c3_word hP hPa hH hTA hnt hF1 p hF3 hp hne 0 (by decide)) (dT hX3_clause 20 rfl) rfl (Nat.le_of_ble_eq_true rfl) (Nat.le_of_ble_eq_true rfl) (Nat.le_of_ble_eq_true rfl) rfl (Nat.le_of_ble_eq_true rfl) (fun r84 σ85 hq86 => ?_)
        obtain ⟨r84e, hx87, ho88⟩ := hq86
        have r84e := r84e.symm; subst r84e
        rw [fR_4] at hx87
        have hsg_ := spelP_go hH (sByt 0) (true, p) (s_ne 0 (by decide)) hp
        have hsg1_ : p ≤ (spelP H (sByt 0) (true, p)).2 := hsg_.1
        have hP89 := hPa.off ho88 (Ne.symm hne)
        have hP90 := hP4.off ho88 (Ne.symm hrt)
        refine e_if_eq (tgt := 53) (pc := 43) Xc (dT hX3_clause 21 rfl) rfl (fun c43 => ?_) (fun c43 => ?_)
        · skip
          have hso_ : (spelP H (sByt 0) (true, p)).1 = false := bI_0.mp c43
          refine e_iconst (v := 0) (pc := 53) Xc (dT hX3_clause 25 rfl) rfl ?_
          refine e_zret (pc := 54) Xc hQ (dT hX3_clause 26 rfl) (Nat.le_refl _) (Nat.le_refl _) (Or.inl rfl) ?_
          rw [(show clauP H p t = feelP H (sByt 0) true p t from clau_108 (fun q => absurd (q.symm.trans c6) (by decide)) (fun q => absurd (q.symm.trans c6) (by decide)) c6), feel_f1 hso_]
          exact ⟨rfl, ⟨_, hx87⟩, fun q => Bool.noConfusion q, (OffS.of (S := (fun o => o = rd ∨ o = tw)) ho88 (Or.inl rfl))⟩
        · skip
          have hso_ : (spelP H (sByt 0) (true, p)).1 = true := by cases q_ : (spelP H (sByt 0) (true, p)).1; exact absurd (show bI (spelP H (sByt 0) (true, p)).1 = 0 by rw [q_]; rfl) c43; rfl
          refine e_aload_n (pc := 46) Xc (dT hX3_clause 22 rfl) 1 rfl ?_
          refine cl_X3_49 (pc := 47) (k := 0) (n := 0) (S := []) Xc hx87.o (c3_number hx87 hP89 hH hTA hnt hF1 (spelP H (sByt 0) (true, p)).2 rfl hsg_.2 hne hSg) (dT hX3_clause 23 rfl) rfl (Nat.le_of_ble_eq_true rfl) (Nat.le_of_ble_eq_true rfl) (Nat.le_of_ble_eq_true rfl) rfl (Nat.le_of_ble_eq_true rfl) (fun r91 σ92 hq93 => ?_)
          obtain ⟨r91e, v_, hx94, hv_, ho95⟩ := hq93
          have r91e := r91e.symm; subst r91e
          rw [fR_2] at hx94
          obtain ⟨hfg1_, hfg2_, -⟩ := figP_go hH (s := (true, (spelP H (sByt 0) (true, p)).2)) hsg_.2
          have hfg1_ : (spelP H (sByt 0) (true, p)).2 ≤ (figP H (true, (spelP H (sByt 0) (true, p)).2)).1.2 := hfg1_
          have hf99_ := figP_99 (H := H) (s := (true, (spelP H (sByt 0) (true, p)).2))
          have hP96 := hP89.off ho95 (Ne.symm hne)
          have hP97 := hP90.off ho95 (Ne.symm hrt)
          refine e_if_ne (tgt := 55) (pc := 50) Xc (dT hX3_clause 24 rfl) rfl (fun c50 => ?_) (fun c50 => ?_)
          · skip
            have hfo_ : (figP H (true, (spelP H (sByt 0) (true, p)).2)).1.1 = true := by cases q_ : (figP H (true, (spelP H (sByt 0) (true, p)).2)).1.1; exact absurd (show bI (figP H (true, (spelP H (sByt 0) (true, p)).2)).1.1 = 0 by rw [q_]; rfl) c50; rfl
            have hve_ := hv_ hfo_
            refine e_iload_n (pc := 55) Xc (dT hX3_clause 27 rfl) 0 rfl ?_
            refine e_if_eq (tgt := 66) (pc := 56) Xc (dT hX3_clause 28 rfl) rfl (fun c56 => ?_) (fun c56 => ?_)
            · skip
              exact absurd c56 (by decide)
            · skip
              refine e_aload_n (pc := 59) Xc (dT hX3_clause 29 rfl) 1 rfl ?_
              refine gf_X3_15 (pc := 60) Xc (dT hX3_clause 30 rfl) hx94.o rfl ?_
              refine e_val (y := v_) rfl ?_
              refine e_val (y := nI ((figP H (true, (spelP H (sByt 0) (true, p)).2)).2)) hve_ ?_
              refine e_goto (tgt := 71) (pc := 63) Xc (dT hX3_clause 31 rfl) rfl ?_
              refine e_istore_n (L' := [(2, .int (nI ((figP H (true, (spelP H (sByt 0) (true, p)).2)).2))), (1, .int 1), (0, .ref rd)]) (pc := 71) Xc (dT hX3_clause 35 rfl) (by decide) rfl ?_
              refine e_aload_n (pc := 72) Xc (dT hX3_clause 36 rfl) 2 rfl ?_
              refine e_bipush (v := 32) (pc := 73) Xc (dT hX3_clause 37 rfl) rfl ?_
              refine cl_X3_33 (pc := 75) (k := 0) (n := 0) (S := []) Xc hx94.o (c3_takes hx94 hP96 hH hTA hnt hF1 (figP H (true, (spelP H (sByt 0) (true, p)).2)).1.2 rfl hfg2_ hne 32) (dT hX3_clause 38 rfl) rfl (Nat.le_of_ble_eq_true rfl) (Nat.le_of_ble_eq_true rfl) (Nat.le_of_ble_eq_true rfl) rfl (Nat.le_of_ble_eq_true rfl) (fun r98 σ99 hq100 => ?_)
              obtain ⟨r98e, hx101, ho102⟩ := hq100
              have r98e := r98e.symm; subst r98e
              rw [fR_3] at hx101
              obtain ⟨hmg1_, hmg2_⟩ := mustP_go hH (c := 32) (by decide) (s := (true, (figP H (true, (spelP H (sByt 0) (true, p)).2)).1.2)) hfg2_
              have hmg1_ : (figP H (true, (spelP H (sByt 0) (true, p)).2)).1.2 ≤ (mustP H 32 (true, (figP H (true, (spelP H (sByt 0) (true, p)).2)).1.2)).2 := hmg1_
              have hP103 := hP96.off ho102 (Ne.symm hne)
              have hP104 := hP97.off ho102 (Ne.symm hrt)
              refine e_if_eq (tgt := 90) (pc := 78) Xc (dT hX3_clause 39 rfl) rfl (fun c78 => ?_) (fun c78 => ?_)
              · skip
                have hmo_ : (mustP H 32 (true, (figP H (true, (spelP H (sByt 0) (true, p)).2)).1.2)).1 = false := bI_0.mp c78
                refine e_iconst (v := 0) (pc := 90) Xc (dT hX3_clause 45 rfl) rfl ?_
                refine e_zret (pc := 91) Xc hQ (dT hX3_clause 46 rfl) (Nat.le_refl _) (Nat.le_refl _) (Or.inl rfl) ?_
                rw [(show clauP H p t = feelP H (sByt 0) true p t from clau_108 (fun q => absurd (q.symm.trans c6) (by decide)) (fun q => absurd (q.symm.trans c6) (by decide)) c6), feel_f3 hso_ hfo_ hmo_]
                exact ⟨rfl, ⟨_, hx101⟩, fun q => Bool.noConfusion q, (((OffS.of (S := (fun o => o = rd ∨ o = tw)) ho88 (Or.inl rfl)).tr (OffS.of (S := (fun o => o = rd ∨ o = tw)) ho95 (Or.inl rfl))).tr (OffS.of (S := (fun o => o = rd ∨ o = tw)) ho102 (Or.inl rfl)))⟩
              · skip
                have hmo_ : (mustP H 32 (true, (figP H (true, (spelP H (sByt 0) (true, p)).2)).1.2)).1 = true := by cases q_ : (mustP H 32 (true, (figP H (true, (spelP H (sByt 0) (true, p)).2)).1.2)).1; exact absurd (show bI (mustP H 32 (true, (figP H (true, (spelP H (sByt 0) (true, p)).2)).1.2)).1 = 0 by rw [q_]; rfl) c78; rfl
                refine e_aload_n (pc := 81) Xc (dT hX3_clause 40 rfl) 2 rfl ?_
                refine e_iconst (v := 0) (pc := 82) Xc (dT hX3_clause 41 rfl) rfl ?_
                refine e_iconst (v := 0) (pc := 83) Xc (dT hX3_clause 42 rfl) rfl ?_
                refine cl_X3_51 (pc := 84) (k := 0) (n := 0) (S := []) Xc (c3_joinE5 hx101 hP103 hH hTA hnt hF1 (mustP H 32 (true, (figP H (true, (spelP H (sByt 0) (true, p)).2)).1.2)).2 rfl hmg2_ hne hP104 (t.2.2.flatMap flC).length hTW.2.2.2.2.2.2.1 (by omega) hSg hrt hpt) (dT hX3_clause 43 rfl) rfl (Nat.le_of_ble_eq_true rfl) (Nat.le_of_ble_eq_true rfl) (Nat.le_of_ble_eq_true rfl) rfl (Nat.le_of_ble_eq_true rfl) (fun r105 σ106 hq107 => ?_)
                obtain ⟨r105e, ⟨v112_, hx109⟩, ht110, ho108⟩ := hq107
                have r105e := r105e.symm; subst r105e
                have hx109 : PX3 σ106 rd (fR F (eofP H (factP H 5) (mustP H 32 (true, (figP H (true, (spelP H (sByt 0) (true, p)).2)).1.2)).2).2.1 v112_) (tR pa tw) A := by
                  have h_ := hx109
                  first | (rw [fR_2] at h_; exact h_) | (rw [fR_4, fR_2] at h_; exact h_) | exact h_
                have ht110 : tP σ106 tw F4 T4 A4 (t.2.2.flatMap flC).length ((eofP H (factP H 5) (mustP H 32 (true, (figP H (true, (spelP H (sByt 0) (true, p)).2)).1.2)).2).2.2.map encC) := ht110
                have hpa111 := (hP103).cg (fun i => ho108.cell (fun e => e.elim (fun q => hne q.symm) hpt) i)
                obtain ⟨hi1_, hi2_, hi3_, hi4_⟩ : goP nt (mustP H 32 (true, (figP H (true, (spelP H (sByt 0) (true, p)).2)).1.2)).2 (eofP H (factP H 5) (mustP H 32 (true, (figP H (true, (spelP H (sByt 0) (true, p)).2)).1.2)).2) := eofP_go hH (fun q hq => factP_go hH 5 q hq) hmg2_
                have hlm_ : ((eofP H (factP H 5) (mustP H 32 (true, (figP H (true, (spelP H (sByt 0) (true, p)).2)).1.2)).2).2.2.map encC).length = (eofP H (factP H 5) (mustP H 32 (true, (figP H (true, (spelP H (sByt 0) (true, p)).2)).1.2)).2).2.2.length := List.length_map _
                refine e_if_ne (tgt := 92) (pc := 87) Xc (dT hX3_clause 44 rfl) rfl (fun c87 => ?_) (fun c87 => ?_)
                · skip
                  have hok_ : (eofP H (factP H 5) (mustP H 32 (true, (figP H (true, (spelP H (sByt 0) (true, p)).2)).1.2)).2).1 = true := by cases q_ : (eofP H (factP H 5) (mustP H 32 (true, (figP H (true, (spelP H (sByt 0) (true, p)).2)).1.2)).2).1; exact absurd (show bI (eofP H (factP H 5) (mustP H 32 (true, (figP H (true, (spelP H (sByt 0) (true, p)).2)).1.2)).2).1 = 0 by rw [q_]; rfl) c87; rfl
                  refine e_aload_n (pc := 92) Xc (dT hX3_clause 47 rfl) 2 rfl ?_
                  refine gf_X3_25 (pc := 93) Xc (dT hX3_clause 48 rfl) hx109.o rfl ?_
                  refine e_iload_n (pc := 96) Xc (dT hX3_clause 49 rfl) 0 rfl ?_
                  refine cl_X3_55 (pc := 97) (k := 0) (n := 0) (S := []) Xc ht110.o (c4_endFeeling ht110 t.2.2.length ((upd_n (by decide)).trans hTW.2.2.2.2.1) hl10 (nI ((figP H (true, (spelP H (sByt 0) (true, p)).2)).2))) (dT hX3_clause 50 rfl) rfl (Nat.le_of_ble_eq_true rfl) (Nat.le_of_ble_eq_true rfl) (Nat.le_of_ble_eq_true rfl) rfl (Nat.le_of_ble_eq_true rfl) (fun σ114 hq115 => ?_)
                  obtain ⟨ht116, ho117⟩ := hq115
                  have hln_ : (t.2.2.flatMap flC).length + (eofP H (factP H 5) (mustP H 32 (true, (figP H (true, (spelP H (sByt 0) (true, p)).2)).1.2)).2).2.2.length ≤ (eofP H (factP H 5) (mustP H 32 (true, (figP H (true, (spelP H (sByt 0) (true, p)).2)).1.2)).2).2.1 := by omega
                  have htwc_ := TWc_feel (its := (eofP H (factP H 5) (mustP H 32 (true, (figP H (true, (spelP H (sByt 0) (true, p)).2)).1.2)).2).2.2) (b := true) (n := (figP H (true, (spelP H (sByt 0) (true, p)).2)).2) (v := (nI ((figP H (true, (spelP H (sByt 0) (true, p)).2)).2))) hTW (gEa_okF (s := (true, (mustP H 32 (true, (figP H (true, (spelP H (sByt 0) (true, p)).2)).1.2)).2)) hok_ hf99_) hl10 (by omega) (by rfl)
                  have hP118 := hx109.off ho117 hrt
                  have hP119 := hpa111.off ho117 hpt
                  refine e_iconst (v := 1) (pc := 100) Xc (dT hX3_clause 51 rfl) rfl ?_
                  refine e_zret (pc := 101) Xc hQ (dT hX3_clause 52 rfl) (Nat.le_refl _) (Nat.le_refl _) (Or.inr rfl) ?_
                  rw [(show clauP H p t = feelP H (sByt 0) true p t from clau_108 (fun q => absurd (q.symm.trans c6) (by decide)) (fun q => absurd (q.symm.trans c6) (by decide)) c6), feel_e hso_ hfo_ hmo_, if_pos hok_]
                  refine ⟨by show _ = bI (eofP H (factP H 5) (mustP H 32 (true, (figP H (true, (spelP H (sByt 0) (true, p)).2)).1.2)).2).1; rw [hok_]; rfl, ⟨_, hP118⟩, fun _ => ⟨_, _, ht116, htwc_, ?_, ?_⟩, (((((OffS.of (S := (fun o => o = rd ∨ o = tw)) ho88 (Or.inl rfl)).tr (OffS.of (S := (fun o => o = rd ∨ o = tw)) ho95 (Or.inl rfl))).tr (OffS.of (S := (fun o => o = rd ∨ o = tw)) ho102 (Or.inl rfl))).tr ho108).tr (OffS.of (S := (fun o => o = rd ∨ o = tw)) ho117 (Or.inr rfl)))⟩
                  · show ((t.2.2 ++ [((eofP H (factP H 5) (mustP H 32 (true, (figP H (true, (spelP H (sByt 0) (true, p)).2)).1.2)).2).2.2, true, (figP H (true, (spelP H (sByt 0) (true, p)).2)).2)]).flatMap flC).length ≤ (eofP H (factP H 5) (mustP H 32 (true, (figP H (true, (spelP H (sByt 0) (true, p)).2)).1.2)).2).2.1
                    rw [flatC_snoc, List.length_append, flC, List.length_map]; exact hln_
                  · show (t.2.2 ++ [((eofP H (factP H 5) (mustP H 32 (true, (figP H (true, (spelP H (sByt 0) (true, p)).2)).1.2)).2).2.2, true, (figP H (true, (spelP H (sByt 0) (true, p)).2)).2)]).length ≤ _
                    rw [List.length_append, List.length_singleton]; exact Nat.le_refl _
                · skip
                  have hok_ : (eofP H (factP H 5) (mustP H 32 (true, (figP H (true, (spelP H (sByt 0) (true, p)).2)).1.2)).2).1 = false := bI_0.mp c87
                  refine e_iconst (v := 0) (pc := 90) Xc (dT hX3_clause 45 rfl) rfl ?_
                  refine e_zret (pc := 91) Xc hQ (dT hX3_clause 46 rfl) (Nat.le_refl _) (Nat.le_refl _) (Or.inl rfl) ?_
                  rw [(show clauP H p t = feelP H (sByt 0) true p t from clau_108 (fun q => absurd (q.symm.trans c6) (by decide)) (fun q => absurd (q.symm.trans c6) (by decide)) c6), feel_e hso_ hfo_ hmo_]
                  exact ⟨by show _ = bI (eofP H (factP H 5) (mustP H 32 (true, (figP H (true, (spelP H (sByt 0) (true, p)).2)).1.2)).2).1; rw [hok_]; rfl, ⟨_, hx109⟩, fun q => by have q : (eofP H (factP H 5) (mustP H 32 (true, (figP H (true, (spelP H (sByt 0) (true, p)).2)).1.2)).2).1 = true := q; rw [hok_] at q; exact Bool.noConfusion q, ((((OffS.of (S := (fun o => o = rd ∨ o = tw)) ho88 (Or.inl rfl)).tr (OffS.of (S := (fun o => o = rd ∨ o = tw)) ho95 (Or.inl rfl))).tr (OffS.of (S := (fun o => o = rd ∨ o = tw)) ho102 (Or.inl rfl))).tr ho108)⟩
          · skip
            have hfo_ : (figP H (true, (spelP H (sByt 0) (true, p)).2)).1.1 = false := bI_0.mp c50
            refine e_iconst (v := 0) (pc := 53) Xc (dT hX3_clause 25 rfl) rfl ?_
            refine e_zret (pc := 54) Xc hQ (dT hX3_clause 26 rfl) (Nat.le_refl _) (Nat.le_refl _) (Or.inl rfl) ?_
            rw [(show clauP H p t = feelP H (sByt 0) true p t from clau_108 (fun q => absurd (q.symm.trans c6) (by decide)) (fun q => absurd (q.symm.trans c6) (by decide)) c6), feel_f2 hso_ hfo_]
            exact ⟨rfl, ⟨_, hx94⟩, fun q => Bool.noConfusion q, ((OffS.of (S := (fun o => o = rd ∨ o = tw)) ho88 (Or.inl rfl)).tr (OffS.of (S := (fun o => o = rd ∨ o = tw)) ho95 (Or.inl rfl)))⟩
    · skip
      exact absurd c16 (by decide)
set_option maxRecDepth 100000 in
set_option maxHeartbeats 4000000 in
theorem c3_clauses {G : xG} {σ : xS} {rd pa tw : Nat} {F : Nat → Int32} {A : Nat → Nat → Int32} (hP : PX3 σ rd F (tR pa tw) A) {Fa : Nat → Int32} {Ta : Nat → Nat} {Aa : Nat → Nat → Int32} (hPa : PX2 σ pa Fa Ta Aa) {H : Nat → Int32} {nt : Nat} (hH : Hend H nt) (hTA : ∀ q, q < nt → Aa 1 q = H q) (hnt : nt ≤ 100) (hF1 : F 1 = nI nt) (hF3 : F 3 = 0) (hne : rd ≠ pa) {F4 : Nat → Int32} {T4 : Nat → Nat} {A4 : Nat → Nat → Int32} (hP4 : PX4 σ tw F4 T4 A4) (hTW : TWc F4 A4 tow0) (hSg : ∀ q, isSg (H q)) (hrt : rd ≠ tw) (hpt : pa ≠ tw) : CI G yX3_clauses cX3_clauses 2 (some .boolean) 23 0 0 [.ref rd] σ (fun z σ1 => z = bI (decide ((towP H).1 = true ∧ (towP H).2.1 = nt)) ∧ (∃ v, PX3 σ1 rd (fR F (towP H).2.1 v) (tR pa tw) A) ∧ ((towP H).1 = true ∧ (towP H).2.1 = nt → ∃ Fz Az, PX4 σ1 tw Fz T4 Az ∧ TWc Fz Az (towP H).2.2) ∧ OffS (fun o => o = rd ∨ o = tw) σ σ1) := by
  refine Met.ofX (by decide +kernel) (Nat.le_of_ble_eq_true rfl) (fun μ Xc hQ hnm => ?_)
  have Xc : xC G μ cX3_clauses 2 RX3 (some .boolean) 23 0 0 := Xc
  show Ev G μ 2 0 0 0 [(0, .ref rd)] [] σ
  refine e_iconst (v := 1) (pc := 0) Xc (dT hX3_clauses 0 rfl) rfl ?_
  refine e_istore_n (L' := [(1, .int 1), (0, .ref rd)]) (pc := 1) Xc (dT hX3_clauses 1 rfl) (by decide) rfl ?_
  have lp2 : ∀ (n2 : Nat) (n_ k_ p_ : Nat) (t_ : xT) (Fz_ : Nat → Int32) (Az_ : Nat → Nat → Int32) (v_ : Int32) (σ2 : xS), 11 - n_ < n2 → (n_ + k_ = 10) → (1 ≤ n_) → (lpC H k_ (clauP H p_ t_) = (towP H)) → (p_ ≤ nt) → (TWc Fz_ Az_ t_) → ((t_.2.2.flatMap flC).length ≤ p_) → (t_.2.2.length < n_) → (PX3 σ2 rd (fR F p_ v_) (tR pa tw) A) → (PX4 σ2 tw Fz_ T4 Az_) → (OffS (fun o => o = rd ∨ o = tw) σ σ2) → Ev G μ 2 0 0 2 [(0, .ref rd), (1, .int (nI n_))] [] σ2 := by
    intro n2
    induction n2 with
    | zero => intro n_ k_ p_ t_ Fz_ Az_ v_ σ2 hn; exact absurd hn (Nat.not_lt_zero _)
    | succ n2 ih2 =>
      intro n_ k_ p_ t_ Fz_ Az_ v_ σ2 hn2 hnk_ h1n_ hR_ hpn_ htc_ hfl_ hln_ hx2 ht2 ho2
      have hpa2 := hPa.cg (fun i => ho2.cell (fun e => e.elim (fun q => hne q.symm) hpt) i)
      refine e_iload_n (pc := 2) Xc (dT hX3_clauses 2 rfl) 1 rfl ?_
      refine e_bipush (v := 10) (pc := 3) Xc (dT hX3_clauses 3 rfl) rfl ?_
      refine e_icmp_gtN (x := n_) (y := 10) (tgt := 53) (pc := 5) Xc (dT hX3_clauses 4 rfl) rfl (by omega) (by omega) (fun c5 => ?_) (fun c5 => ?_)
      · skip
        exact absurd c5 (by omega)
      · skip
        refine e_aload_n (pc := 8) Xc (dT hX3_clauses 5 rfl) 0 rfl ?_
        refine cl_X3_29 (pc := 9) (k := 0) (n := 0) (S := []) Xc hx2.o (c3_clause hx2 hpa2 hH hTA hnt hF1 p_ rfl hpn_ hne ht2 t_ htc_ hfl_ (by omega) hSg hrt hpt) (dT hX3_clauses 6 rfl) rfl (Nat.le_of_ble_eq_true rfl) (Nat.le_of_ble_eq_true rfl) (Nat.le_of_ble_eq_true rfl) rfl (Nat.le_of_ble_eq_true rfl) (fun r1 σ2 hq3 => ?_)
        obtain ⟨r1e, ⟨w_, hx5⟩, hcl_, ho4⟩ := hq3
        have r1e := r1e.symm; subst r1e
        have hx5 : PX3 σ2 rd (fR F (clauP H p_ t_).2.1 w_) (tR pa tw) A := by have h_ := hx5; rw [show fR (fR F p_ v_) (clauP H p_ t_).2.1 w_ = fR F (clauP H p_ t_).2.1 w_ from fR_2] at h_; exact h_
        obtain ⟨hcg1_, hcg2_⟩ := clauP_go (t := t_) hH hpn_
        have hpa6 := (hpa2).cg (fun i => ho4.cell (fun e => e.elim (fun q => hne q.symm) hpt) i)
        refine e_if_ne (tgt := 17) (pc := 12) Xc (dT hX3_clauses 7 rfl) rfl (fun c12 => ?_) (fun c12 => ?_)
        · skip
          have hco_ : (clauP H p_ t_).1 = true := by cases q_ : (clauP H p_ t_).1; exact absurd (show bI (clauP H p_ t_).1 = 0 by rw [q_]; rfl) c12; rfl
          obtain ⟨Fy_, Ay_, hy1_, hy2_, hy3_, hy4_⟩ := hcl_ hco_
          refine e_aload_n (pc := 17) Xc (dT hX3_clauses 10 rfl) 0 rfl ?_
          refine gf_X3_9 (pc := 18) Xc (dT hX3_clauses 11 rfl) hx5.o rfl ?_
          refine e_val (y := nI (clauP H p_ t_).2.1) rfl ?_
          refine e_aload_n (pc := 21) Xc (dT hX3_clauses 12 rfl) 0 rfl ?_
          refine gf_X3_22 (pc := 22) Xc (dT hX3_clauses 13 rfl) hx5.o rfl ?_
          refine e_val (y := F 1) rfl ?_
          refine e_val (y := nI nt) hF1 ?_
          refine e_icmp_neN (x := (clauP H p_ t_).2.1) (y := nt) (tgt := 30) (pc := 25) Xc (dT hX3_clauses 14 rfl) rfl (by omega) (by omega) (fun c25 => ?_) (fun c25 => ?_)
          · skip
            refine e_iload_n (pc := 30) Xc (dT hX3_clauses 17 rfl) 1 rfl ?_
            refine e_bipush (v := 10) (pc := 31) Xc (dT hX3_clauses 18 rfl) rfl ?_
            refine e_icmp_eqN (x := n_) (y := 10) (tgt := 45) (pc := 33) Xc (dT hX3_clauses 19 rfl) rfl (by omega) (by omega) (fun c33 => ?_) (fun c33 => ?_)
            · skip
              refine e_iconst (v := 0) (pc := 45) Xc (dT hX3_clauses 24 rfl) rfl ?_
              refine e_zret (pc := 46) Xc hQ (dT hX3_clauses 25 rfl) (Nat.le_refl _) (Nat.le_refl _) (Or.inl rfl) ?_
              have hk0_ : k_ = 0 := by omega
              subst hk0_
              have hR_ : (clauP H p_ t_) = towP H := hR_
              rw [← hR_]
              exact ⟨by rw [decide_eq_false (fun q => c25 q.2)]; rfl, ⟨_, hx5⟩, fun q => absurd q.2 c25, (ho2.tr ho4)⟩
            · skip
              have hlt2_ : (clauP H p_ t_).2.1 < nt := by omega
              obtain ⟨k_, rfl⟩ : ∃ k, k_ = k + 1 := ⟨k_ - 1, by omega⟩
              refine e_aload_n (pc := 36) Xc (dT hX3_clauses 20 rfl) 0 rfl ?_
              refine e_bipush (v := 59) (pc := 37) Xc (dT hX3_clauses 21 rfl) rfl ?_
              refine cl_X3_33 (pc := 39) (k := 0) (n := 0) (S := []) Xc hx5.o (c3_takes hx5 hpa6 hH hTA hnt hF1 (clauP H p_ t_).2.1 rfl hcg2_ hne 59) (dT hX3_clauses 22 rfl) rfl (Nat.le_of_ble_eq_true rfl) (Nat.le_of_ble_eq_true rfl) (Nat.le_of_ble_eq_true rfl) rfl (Nat.le_of_ble_eq_true rfl) (fun r7 σ8 hq9 => ?_)
              obtain ⟨r7e, hx10, ho11⟩ := hq9
              rw [fR_3] at hx10
              have hy1b_ := hy1_.off ho11 (Ne.symm hrt)
              by_cases hsep_ : H (clauP H p_ t_).2.1 = 59
              · skip
                rw [must_t hsep_] at r7e hx10
                have r7e := r7e.symm; subst r7e
                have hP12 := hpa6.off ho11 (Ne.symm hne)
                refine e_val (y := 1) rfl ?_
                refine e_if_ne (tgt := 47) (pc := 42) Xc (dT hX3_clauses 23 rfl) rfl (fun c42 => ?_) (fun c42 => ?_)
                · skip
                  refine e_iincN (a := n_) (b := 1) (L' := [(1, .int (nI (n_ + 1))), (0, .ref rd)]) (pc := 47) Xc (dT hX3_clauses 26 rfl) 1 rfl rfl (by decide) rfl ?_
                  refine e_goto (tgt := 2) (pc := 50) Xc (dT hX3_clauses 27 rfl) rfl ?_
                  refine Ev.pick (L' := [(0, .ref rd), (1, .int (nI (n_ + 1)))]) [1, 0] rfl ?_
                  exact ih2 (n_ + 1) k_ ((clauP H p_ t_).2.1 + 1) ((clauP H p_ t_).2.2) Fy_ Ay_ w_ σ8 (by omega) (by omega) (by omega) ((lpC_s2 hco_ hsep_).symm.trans hR_) (by omega) hy2_ (by omega) (by omega) hx10 hy1b_ ((ho2.tr ho4).tr (OffS.of (S := (fun o => o = rd ∨ o = tw)) ho11 (Or.inl rfl)))
                · skip
                  exact absurd c42 (by decide)
              · skip
                rw [must_x hsep_] at r7e hx10
                have r7e := r7e.symm; subst r7e
                have hP13 := hpa6.off ho11 (Ne.symm hne)
                refine e_val (y := 0) rfl ?_
                refine e_if_ne (tgt := 47) (pc := 42) Xc (dT hX3_clauses 23 rfl) rfl (fun c42 => ?_) (fun c42 => ?_)
                · skip
                  exact absurd c42 (by decide)
                · skip
                  refine e_iconst (v := 0) (pc := 45) Xc (dT hX3_clauses 24 rfl) rfl ?_
                  refine e_zret (pc := 46) Xc hQ (dT hX3_clauses 25 rfl) (Nat.le_refl _) (Nat.le_refl _) (Or.inl rfl) ?_
                  rw [lpC_x (r := (clauP H p_ t_)) (fun q => hsep_ q.2)] at hR_
                  rw [← hR_]
                  exact ⟨by rw [decide_eq_false (fun q => c25 q.2)]; rfl, ⟨_, hx10⟩, fun q => absurd q.2 c25, ((ho2.tr ho4).tr (OffS.of (S := (fun o => o = rd ∨ o = tw)) ho11 (Or.inl rfl)))⟩
          · skip
            refine e_iconst (v := 1) (pc := 28) Xc (dT hX3_clauses 15 rfl) rfl ?_
            refine e_zret (pc := 29) Xc hQ (dT hX3_clauses 16 rfl) (Nat.le_refl _) (Nat.le_refl _) (Or.inr rfl) ?_
            rw [lpC_x (r := (clauP H p_ t_)) (fun q => by have q2 := q.2; rw [c25, hH nt (Nat.le_refl _)] at q2; exact absurd q2 (by decide))] at hR_
            rw [← hR_]
            exact ⟨by rw [decide_eq_true ⟨hco_, c25⟩]; rfl, ⟨_, hx5⟩, fun _ => ⟨Fy_, Ay_, hy1_, hy2_⟩, (ho2.tr ho4)⟩
        · skip
          have hco_ : (clauP H p_ t_).1 = false := bI_0.mp c12
          refine e_iconst (v := 0) (pc := 15) Xc (dT hX3_clauses 8 rfl) rfl ?_
          refine e_zret (pc := 16) Xc hQ (dT hX3_clauses 9 rfl) (Nat.le_refl _) (Nat.le_refl _) (Or.inl rfl) ?_
          rw [lpC_x (r := (clauP H p_ t_)) (fun q => by rw [hco_] at q; exact Bool.noConfusion q.1)] at hR_
          rw [← hR_]
          exact ⟨by rw [decide_eq_false (fun q => by rw [hco_] at q; exact Bool.noConfusion q.1)]; rfl, ⟨_, hx5⟩, fun q => by rw [hco_] at q; exact Bool.noConfusion q.1, (ho2.tr ho4)⟩
  refine Ev.pick (L' := [(0, .ref rd), (1, .int 1)]) [1, 0] rfl ?_
  exact lp2 ((11 - 1) + 1) 1 9 0 tow0 F4 A4 (F 4) σ (Nat.lt_succ_self _) rfl (Nat.le_refl _) rfl (Nat.zero_le _) hTW (Nat.zero_le _) (Nat.zero_lt_one) (by rw [fR_id hF3]; exact hP) hP4 OffS.rf
