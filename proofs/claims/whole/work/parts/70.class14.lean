set_option maxRecDepth 100000 in
set_option maxHeartbeats 4000000 in
theorem c3_testing {G : xG} {σ : xS} {rd pa tw : Nat} {F : Nat → Int32} {A : Nat → Nat → Int32} (hP : PX3 σ rd F (tR pa tw) A) {Fa : Nat → Int32} {Ta : Nat → Nat} {Aa : Nat → Nat → Int32} (hPa : PX2 σ pa Fa Ta Aa) {H : Nat → Int32} {nt : Nat} (hH : Hend H nt) (hTA : ∀ q, q < nt → Aa 1 q = H q) (hnt : nt ≤ 100) (hF1 : F 1 = nI nt) (p : Nat) (hF3 : F 3 = nI p) (hp : p ≤ nt) (hne : rd ≠ pa) {F4 : Nat → Int32} {T4 : Nat → Nat} {A4 : Nat → Nat → Int32} (hP4 : PX4 σ tw F4 T4 A4) (n0 : Nat) (hn0 : F4 3 = nI n0) (hn : n0 ≤ p) (hSg : ∀ q, isSg (H q)) (hrt : rd ≠ tw) (hpt : pa ≠ tw) : CI G yX3_testing cX3_testing 3 (some .boolean) 2 0 0 [.ref rd] σ (fun z σ1 => z = bI (testP H p).1 ∧ (∃ v, PX3 σ1 rd (upd (upd F 3 (nI (testP H p).2.1)) 4 v) (tR pa tw) A) ∧ tP σ1 tw F4 T4 A4 n0 ((testP H p).2.2.map encC) ∧ OffS (fun o => o = rd ∨ o = tw) σ σ1) := by
  refine Met.ofX (by decide +kernel) (Nat.le_of_ble_eq_true rfl) (fun μ Xc hQ hnm => ?_)
  have Xc : xC G μ cX3_testing 3 RX3 (some .boolean) 2 0 0 := Xc
  show Ev G μ 3 0 0 0 [(0, .ref rd)] [] σ
  refine e_aload_n (pc := 0) Xc (dT hX3_testing 0 rfl) 0 rfl ?_
  refine cl_X3_37 (pc := 1) (k := 0) (n := 0) (S := []) Xc hP.o (c3_sign hP hPa hH hTA hnt hF1 p hF3 hp hne) (dT hX3_testing 1 rfl) rfl (Nat.le_of_ble_eq_true rfl) (Nat.le_of_ble_eq_true rfl) (Nat.le_of_ble_eq_true rfl) rfl (Nat.le_of_ble_eq_true rfl) (fun r1 σ2 hq3 => ?_)
  obtain ⟨r1e, r1s⟩ := hq3
  have r1e := r1e.symm; subst r1e; have r1s := r1s.symm; subst r1s
  refine cl_X3_87 (pc := 4) (k := 0) (n := 0) (S := []) Xc (c3_letter (H p)) (dT hX3_testing 2 rfl) rfl (Nat.le_of_ble_eq_true rfl) (Nat.le_of_ble_eq_true rfl) (Nat.le_of_ble_eq_true rfl) rfl (Nat.le_of_ble_eq_true rfl) (fun r4 σ5 hq6 => ?_)
  obtain ⟨r4e, r4s⟩ := hq6
  have r4e := r4e.symm; subst r4e; have r4s := r4s.symm; subst r4s
  refine e_istore_n (L' := [(1, .int (amL 4 (H p))), (0, .ref rd)]) (pc := 7) Xc (dT hX3_testing 3 rfl) (by decide) rfl ?_
  refine e_iload_n (pc := 8) Xc (dT hX3_testing 4 rfl) 0 rfl ?_
  refine e_bipush (v := -5) (pc := 9) Xc (dT hX3_testing 5 rfl) rfl ?_
  refine e_icmp_ne (tgt := 16) (pc := 11) Xc (dT hX3_testing 6 rfl) rfl (fun c11 => ?_) (fun c11 => ?_)
  · skip
    obtain ⟨k4_, hk4_, hl4_, -, hk46_⟩ := (amL_is (i := 4) (x := H p) (by decide)).resolve_left (fun q => c11 q.1)
    have hlt1_ := hH.lt rfl (amo_ne (by decide) hk4_)
    refine e_aload_n (pc := 16) Xc (dT hX3_testing 9 rfl) 1 rfl ?_
    refine e_dup (pc := 17) Xc (dT hX3_testing 10 rfl) rfl ?_
    refine gf_X3_9 (pc := 18) Xc (dT hX3_testing 11 rfl) hP.o rfl ?_
    refine e_val (y := nI p) hF3 ?_
    refine e_iconst (v := 1) (pc := 21) Xc (dT hX3_testing 12 rfl) rfl ?_
    refine e_iaddN (a := p) (b := 1) (pc := 22) Xc (dT hX3_testing 13 rfl) ?_
    refine pf_X3_9 (fs' := olX3 rd (upd F 3 (nI (p + 1))) (tR pa tw)) (pc := 23) Xc (dT hX3_testing 14 rfl) hP.o (Nat.le_of_ble_eq_true rfl) rfl ?_
    refine Ev.gen (fun z => PX3 z rd (upd F 3 (nI (p + 1))) (tR pa tw) A) (hP.wf3 (x := nI (p + 1))) Off.set (fun σ7 hP8 ho9 => ?_)
    have hP10 := hPa.off ho9 (Ne.symm hne)
    have hP11 := hP4.off ho9 (Ne.symm hrt)
    refine e_aload_n (pc := 26) Xc (dT hX3_testing 15 rfl) 1 rfl ?_
    refine cl_X3_37 (pc := 27) (k := 0) (n := 0) (S := []) Xc hP8.o (c3_sign hP8 hP10 hH hTA hnt hF1 (p + 1) rfl (by omega) hne) (dT hX3_testing 16 rfl) rfl (Nat.le_of_ble_eq_true rfl) (Nat.le_of_ble_eq_true rfl) (Nat.le_of_ble_eq_true rfl) rfl (Nat.le_of_ble_eq_true rfl) (fun r12 σ13 hq14 => ?_)
    obtain ⟨r12e, r12s⟩ := hq14
    have r12e := r12e.symm; subst r12e; have r12s := r12s.symm; subst r12s
    refine e_val (y := H (p + 1)) rfl ?_
    refine cl_X3_91 (pc := 30) (k := 0) (n := 0) (S := []) Xc (c3_compare (H (p + 1)) (hSg _)) (dT hX3_testing 17 rfl) rfl (Nat.le_of_ble_eq_true rfl) (Nat.le_of_ble_eq_true rfl) (Nat.le_of_ble_eq_true rfl) rfl (Nat.le_of_ble_eq_true rfl) (fun r15 σ16 hq17 => ?_)
    obtain ⟨r15e, r15s⟩ := hq17
    have r15e := r15e.symm; subst r15e; have r15s := r15s.symm; subst r15s
    refine e_istore_n (L' := [(2, .int (amL 5 (H (p + 1)))), (1, .int (amL 4 (H p))), (0, .ref rd)]) (pc := 33) Xc (dT hX3_testing 18 rfl) (by decide) rfl ?_
    refine e_iload_n (pc := 34) Xc (dT hX3_testing 19 rfl) 0 rfl ?_
    refine e_bipush (v := -5) (pc := 35) Xc (dT hX3_testing 20 rfl) rfl ?_
    refine e_icmp_ne (tgt := 42) (pc := 37) Xc (dT hX3_testing 21 rfl) rfl (fun c37 => ?_) (fun c37 => ?_)
    · skip
      obtain ⟨k5_, hk5_, hl5_, -, hk56_⟩ := (amL_is (i := 5) (x := H (p + 1)) (by decide)).resolve_left (fun q => c37 q.1)
      have hlt2_ := hH.lt rfl (amo_ne (by decide) hk5_)
      refine e_aload_n (pc := 42) Xc (dT hX3_testing 24 rfl) 2 rfl ?_
      refine e_dup (pc := 43) Xc (dT hX3_testing 25 rfl) rfl ?_
      refine gf_X3_9 (pc := 44) Xc (dT hX3_testing 26 rfl) hP8.o rfl ?_
      refine e_val (y := nI (p + 1)) rfl ?_
      refine e_iconst (v := 1) (pc := 47) Xc (dT hX3_testing 27 rfl) rfl ?_
      refine e_iaddN (a := p + 1) (b := 1) (pc := 48) Xc (dT hX3_testing 28 rfl) ?_
      refine pf_X3_9 (fs' := olX3 rd (upd (upd F 3 (nI (p + 1))) 3 (nI ((p + 1) + 1))) (tR pa tw)) (pc := 49) Xc (dT hX3_testing 29 rfl) hP8.o (Nat.le_of_ble_eq_true rfl) rfl ?_
      refine Ev.gen (fun z => PX3 z rd (upd (upd F 3 (nI (p + 1))) 3 (nI ((p + 1) + 1))) (tR pa tw) A) (hP8.wf3 (x := nI ((p + 1) + 1))) Off.set (fun σ18 hP19 ho20 => ?_)
      have hP21 := hP10.off ho20 (Ne.symm hne)
      have hP22 := hP11.off ho20 (Ne.symm hrt)
      refine e_aload_n (pc := 52) Xc (dT hX3_testing 30 rfl) 2 rfl ?_
      refine cl_X3_49 (pc := 53) (k := 0) (n := 0) (S := []) Xc hP19.o (c3_number hP19 hP21 hH hTA hnt hF1 (p + 2) rfl (by omega) hne hSg) (dT hX3_testing 31 rfl) rfl (Nat.le_of_ble_eq_true rfl) (Nat.le_of_ble_eq_true rfl) (Nat.le_of_ble_eq_true rfl) rfl (Nat.le_of_ble_eq_true rfl) (fun r23 σ24 hq25 => ?_)
      obtain ⟨r23e, v_, hP26, hv_, ho27⟩ := hq25
      have r23e := r23e.symm; subst r23e
      have hP28 := hP21.off ho27 (Ne.symm hne)
      have hP29 := hP22.off ho27 (Ne.symm hrt)
      refine e_if_ne (tgt := 61) (pc := 56) Xc (dT hX3_testing 32 rfl) rfl (fun c56 => ?_) (fun c56 => ?_)
      · skip
        have hok_ : (figP H (true, p + 2)).1.1 = true := by simp only [bI_0, Bool.not_eq_false] at c56; exact c56
        have hve_ := hv_ hok_
        refine e_aload_n (pc := 61) Xc (dT hX3_testing 35 rfl) 2 rfl ?_
        refine gf_X3_25 (pc := 62) Xc (dT hX3_testing 36 rfl) hP26.o rfl ?_
        refine e_iload_n (pc := 65) Xc (dT hX3_testing 37 rfl) 1 rfl ?_
        refine e_val (y := nI k4_) hl4_ ?_
        refine e_iload_n (pc := 66) Xc (dT hX3_testing 38 rfl) 0 rfl ?_
        refine e_val (y := nI k5_) hl5_ ?_
        refine e_aload_n (pc := 67) Xc (dT hX3_testing 39 rfl) 2 rfl ?_
        refine gf_X3_15 (pc := 68) Xc (dT hX3_testing 40 rfl) hP26.o rfl ?_
        refine e_val (y := v_) rfl ?_
        refine e_val (y := nI ((figP H (true, p + 2)).2)) hve_ ?_
        refine cl_X3_94 (pc := 71) (k := 0) (n := 0) (S := [.ref tw]) Xc (c4_test k4_ k5_ ((figP H (true, p + 2)).2)) (dT hX3_testing 41 rfl) rfl (Nat.le_of_ble_eq_true rfl) (Nat.le_of_ble_eq_true rfl) (Nat.le_of_ble_eq_true rfl) rfl (Nat.le_of_ble_eq_true rfl) (fun r30 σ31 hq32 => ?_)
        obtain ⟨r30e, r30s⟩ := hq32
        have r30e := r30e.symm; subst r30e; have r30s := r30s.symm; subst r30s
        refine cl_X3_81 (pc := 74) (k := 0) (n := 0) (S := []) Xc hP29.o (c4_write hP29 n0 hn0 (by omega) (nI ((k4_ * 3 + k5_) * 100 + (figP H (true, p + 2)).2))) (dT hX3_testing 42 rfl) rfl (Nat.le_of_ble_eq_true rfl) (Nat.le_of_ble_eq_true rfl) (Nat.le_of_ble_eq_true rfl) rfl (Nat.le_of_ble_eq_true rfl) (fun σ34 hq35 => ?_)
        obtain ⟨hP36, ho37⟩ := hq35
        have hP38 := hP26.off ho37 hrt
        have hP39 := hP28.off ho37 hpt
        refine e_iconst (v := 1) (pc := 77) Xc (dT hX3_testing 43 rfl) rfl ?_
        refine e_zret (pc := 78) Xc hQ (dT hX3_testing 44 rfl) (Nat.le_refl _) (Nat.le_refl _) (Or.inr rfl) ?_
        rw [te_s hk4_ hk5_, if_pos hok_]
        exact ⟨by rw [hok_]; rfl, ⟨v_, by have h_ := hP38; rw [upd_2, upd_2] at h_; exact h_⟩, hP36, ((((OffS.of (S := (fun o => o = rd ∨ o = tw)) ho9 (Or.inl rfl)).tr (OffS.of (S := (fun o => o = rd ∨ o = tw)) ho20 (Or.inl rfl))).tr (OffS.of (S := (fun o => o = rd ∨ o = tw)) ho27 (Or.inl rfl))).tr (OffS.of (S := (fun o => o = rd ∨ o = tw)) ho37 (Or.inr rfl)))⟩
      · skip
        have hok_ : (figP H (true, p + 2)).1.1 = false := by simp only [bI_0] at c56; exact c56
        refine e_iconst (v := 0) (pc := 59) Xc (dT hX3_testing 33 rfl) rfl ?_
        refine e_zret (pc := 60) Xc hQ (dT hX3_testing 34 rfl) (Nat.le_refl _) (Nat.le_refl _) (Or.inl rfl) ?_
        rw [te_s hk4_ hk5_, if_neg (by rw [hok_]; decide)]
        exact ⟨by rw [hok_]; rfl, ⟨v_, by have h_ := hP26; rw [upd_2, upd_2] at h_; exact h_⟩, (by show PX4 _ tw (upd F4 3 (nI n0)) T4 (upA A4 1 (A4 1)); rw [upA_id, ← hn0, upd_self]; exact hP29), (((OffS.of (S := (fun o => o = rd ∨ o = tw)) ho9 (Or.inl rfl)).tr (OffS.of (S := (fun o => o = rd ∨ o = tw)) ho20 (Or.inl rfl))).tr (OffS.of (S := (fun o => o = rd ∨ o = tw)) ho27 (Or.inl rfl)))⟩
    · skip
      have hk5_ := ((amL_is (i := 5) (x := H (p + 1)) (by decide)).resolve_right (fun ⟨k, _, _, q, _⟩ => q c37)).2
      refine e_iconst (v := 0) (pc := 40) Xc (dT hX3_testing 22 rfl) rfl ?_
      refine e_zret (pc := 41) Xc hQ (dT hX3_testing 23 rfl) (Nat.le_refl _) (Nat.le_refl _) (Or.inl rfl) ?_
      rw [te_n2 hk4_ hk5_]
      exact ⟨rfl, ⟨F 4, by show PX3 _ rd (upd (upd F 3 (nI (p + 1))) 4 (F 4)) (tR pa tw) A; have h_ := hP8; rw [show upd (upd F 3 (nI (p + 1))) 4 (F 4) = upd F 3 (nI (p + 1)) from upd_self (f := upd F 3 (nI (p + 1)))]; exact h_⟩, (by show PX4 _ tw (upd F4 3 (nI n0)) T4 (upA A4 1 (A4 1)); rw [upA_id, ← hn0, upd_self]; exact hP11), (OffS.of (S := (fun o => o = rd ∨ o = tw)) ho9 (Or.inl rfl))⟩
  · skip
    have hk4_ := ((amL_is (i := 4) (x := H p) (by decide)).resolve_right (fun ⟨k, _, _, q, _⟩ => q c11)).2
    refine e_iconst (v := 0) (pc := 14) Xc (dT hX3_testing 7 rfl) rfl ?_
    refine e_zret (pc := 15) Xc hQ (dT hX3_testing 8 rfl) (Nat.le_refl _) (Nat.le_refl _) (Or.inl rfl) ?_
    rw [te_n1 hk4_]
    exact ⟨rfl, ⟨F 4, by show PX3 _ rd (upd (upd F 3 (nI p)) 4 (F 4)) (tR pa tw) A; rw [← hF3, upd_self, upd_self]; exact hP⟩, (by show PX4 _ tw (upd F4 3 (nI n0)) T4 (upA A4 1 (A4 1)); rw [upA_id, ← hn0, upd_self]; exact hP4), OffS.rf⟩
