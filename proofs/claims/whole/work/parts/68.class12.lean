set_option maxRecDepth 100000 in
set_option maxHeartbeats 4000000 in
theorem c3_sign {G : xG} {σ : xS} {rd pa tw : Nat} {F : Nat → Int32} {A : Nat → Nat → Int32} (hP : PX3 σ rd F (tR pa tw) A) {Fa : Nat → Int32} {Ta : Nat → Nat} {Aa : Nat → Nat → Int32} (hPa : PX2 σ pa Fa Ta Aa) {H : Nat → Int32} {nt : Nat} (hH : Hend H nt) (hTA : ∀ q, q < nt → Aa 1 q = H q) (hnt : nt ≤ 100) (hF1 : F 1 = nI nt) (p : Nat) (hF3 : F 3 = nI p) (hp : p ≤ nt) (hne : rd ≠ pa) : CI G yX3_sign cX3_sign 1 (some .int) 0 0 0 [.ref rd] σ (fun z σ1 => z = H p ∧ σ1 = σ) := by
  refine Met.ofX (by decide +kernel) (Nat.le_of_ble_eq_true rfl) (fun μ Xc hQ hnm => ?_)
  have Xc : xC G μ cX3_sign 1 RX3 (some .int) 0 0 0 := Xc
  show Ev G μ 1 0 0 0 [(0, .ref rd)] [] σ
  refine e_aload_n (pc := 0) Xc (dT hX3_sign 0 rfl) 0 rfl ?_
  refine gf_X3_9 (pc := 1) Xc (dT hX3_sign 1 rfl) hP.o rfl ?_
  refine e_val (y := nI p) hF3 ?_
  refine e_if_lt (tgt := 42) (pc := 4) Xc (dT hX3_sign 2 rfl) rfl (fun c4 => ?_) (fun c4 => ?_)
  · skip
    exact absurd c4 (nI_pos (by omega))
  · skip
    refine e_aload_n (pc := 7) Xc (dT hX3_sign 3 rfl) 0 rfl ?_
    refine gf_X3_9 (pc := 8) Xc (dT hX3_sign 4 rfl) hP.o rfl ?_
    refine e_val (y := nI p) hF3 ?_
    refine e_aload_n (pc := 11) Xc (dT hX3_sign 5 rfl) 0 rfl ?_
    refine gf_X3_22 (pc := 12) Xc (dT hX3_sign 6 rfl) hP.o rfl ?_
    refine e_val (y := nI nt) hF1 ?_
    refine e_icmp_geN (x := p) (y := nt) (tgt := 42) (pc := 15) Xc (dT hX3_sign 7 rfl) rfl (by omega) (by omega) (fun c15 => ?_) (fun c15 => ?_)
    · skip
      refine e_iconst (v := -1) (pc := 42) Xc (dT hX3_sign 20 rfl) rfl ?_
      refine e_iret (pc := 43) Xc hQ (dT hX3_sign 21 rfl) (Nat.le_refl _) (Nat.le_refl _) ?_
      exact ⟨(hH p c15).symm, rfl⟩
    · skip
      refine e_aload_n (pc := 18) Xc (dT hX3_sign 8 rfl) 0 rfl ?_
      refine gf_X3_9 (pc := 19) Xc (dT hX3_sign 9 rfl) hP.o rfl ?_
      refine e_val (y := nI p) hF3 ?_
      refine e_aload_n (pc := 22) Xc (dT hX3_sign 10 rfl) 0 rfl ?_
      refine gf_X3_18 (pc := 23) Xc (dT hX3_sign 11 rfl) hP.o rfl ?_
      refine e_alen (v := 100) (pc := 26) Xc (dT hX3_sign 12 rfl) hPa.a1 rfl rfl ?_
      refine e_icmp_geN (x := p) (y := 100) (tgt := 42) (pc := 27) Xc (dT hX3_sign 13 rfl) rfl (by omega) (by omega) (fun c27 => ?_) (fun c27 => ?_)
      · skip
        exact absurd c27 (by omega)
      · skip
        refine e_aload_n (pc := 30) Xc (dT hX3_sign 14 rfl) 0 rfl ?_
        refine gf_X3_18 (pc := 31) Xc (dT hX3_sign 15 rfl) hP.o rfl ?_
        refine e_aload_n (pc := 34) Xc (dT hX3_sign 16 rfl) 0 rfl ?_
        refine gf_X3_9 (pc := 35) Xc (dT hX3_sign 17 rfl) hP.o rfl ?_
        refine e_val (y := nI p) hF3 ?_
        refine e_ialdN (pc := 38) Xc (dT hX3_sign 18 rfl) hPa.a1 (by decide) rfl p rfl (by omega) (by decide) ?_
        refine e_goto (tgt := 43) (pc := 39) Xc (dT hX3_sign 19 rfl) rfl ?_
        refine e_iret (pc := 43) Xc hQ (dT hX3_sign 21 rfl) (Nat.le_refl _) (Nat.le_refl _) ?_
        exact ⟨hTA p c15, rfl⟩
set_option maxRecDepth 100000 in
set_option maxHeartbeats 4000000 in
theorem c3_takes {G : xG} {σ : xS} {rd pa tw : Nat} {F : Nat → Int32} {A : Nat → Nat → Int32} (hP : PX3 σ rd F (tR pa tw) A) {Fa : Nat → Int32} {Ta : Nat → Nat} {Aa : Nat → Nat → Int32} (hPa : PX2 σ pa Fa Ta Aa) {H : Nat → Int32} {nt : Nat} (hH : Hend H nt) (hTA : ∀ q, q < nt → Aa 1 q = H q) (hnt : nt ≤ 100) (hF1 : F 1 = nI nt) (p : Nat) (hF3 : F 3 = nI p) (hp : p ≤ nt) (hne : rd ≠ pa) (c : Int32) : CI G yX3_takes cX3_takes 2 (some .boolean) 1 0 0 [.ref rd, .int c] σ (fun z σ1 => z = bI (mustP H c (true, p)).1 ∧ PX3 σ1 rd (upd F 3 (nI (mustP H c (true, p)).2)) (tR pa tw) A ∧ Off rd σ σ1) := by
  refine Met.ofX (by decide +kernel) (Nat.le_of_ble_eq_true rfl) (fun μ Xc hQ hnm => ?_)
  have Xc : xC G μ cX3_takes 2 RX3 (some .boolean) 1 0 0 := Xc
  show Ev G μ 2 0 0 0 [(0, .ref rd), (1, .int c)] [] σ
  refine e_aload_n (pc := 0) Xc (dT hX3_takes 0 rfl) 0 rfl ?_
  refine cl_X3_37 (pc := 1) (k := 0) (n := 0) (S := []) Xc hP.o (c3_sign hP hPa hH hTA hnt hF1 p hF3 hp hne) (dT hX3_takes 1 rfl) rfl (Nat.le_of_ble_eq_true rfl) (Nat.le_of_ble_eq_true rfl) (Nat.le_of_ble_eq_true rfl) rfl (Nat.le_of_ble_eq_true rfl) (fun r1 σ2 hq3 => ?_)
  obtain ⟨r1e, r1s⟩ := hq3
  have r1e := r1e.symm; subst r1e; have r1s := r1s.symm; subst r1s
  refine e_iload_n (pc := 4) Xc (dT hX3_takes 2 rfl) 1 rfl ?_
  refine e_icmp_eq (tgt := 10) (pc := 5) Xc (dT hX3_takes 3 rfl) rfl (fun c5 => ?_) (fun c5 => ?_)
  · skip
    refine e_aload_n (pc := 10) Xc (dT hX3_takes 6 rfl) 0 rfl ?_
    refine e_dup (pc := 11) Xc (dT hX3_takes 7 rfl) rfl ?_
    refine gf_X3_9 (pc := 12) Xc (dT hX3_takes 8 rfl) hP.o rfl ?_
    refine e_val (y := nI p) hF3 ?_
    refine e_iconst (v := 1) (pc := 15) Xc (dT hX3_takes 9 rfl) rfl ?_
    refine e_iaddN (a := p) (b := 1) (pc := 16) Xc (dT hX3_takes 10 rfl) ?_
    refine pf_X3_9 (fs' := olX3 rd (upd F 3 (nI (p + 1))) (tR pa tw)) (pc := 17) Xc (dT hX3_takes 11 rfl) hP.o (Nat.le_of_ble_eq_true rfl) rfl ?_
    refine Ev.gen (fun z => PX3 z rd (upd F 3 (nI (p + 1))) (tR pa tw) A) (hP.wf3 (x := nI (p + 1))) Off.set (fun σ4 hP5 ho6 => ?_)
    have hP7 := hPa.off ho6 (Ne.symm hne)
    refine e_iconst (v := 1) (pc := 20) Xc (dT hX3_takes 12 rfl) rfl ?_
    refine e_zret (pc := 21) Xc hQ (dT hX3_takes 13 rfl) (Nat.le_refl _) (Nat.le_refl _) (Or.inr rfl) ?_
    rw [must_t c5]
    exact ⟨rfl, hP5, ho6⟩
  · skip
    refine e_iconst (v := 0) (pc := 8) Xc (dT hX3_takes 4 rfl) rfl ?_
    refine e_zret (pc := 9) Xc hQ (dT hX3_takes 5 rfl) (Nat.le_refl _) (Nat.le_refl _) (Or.inl rfl) ?_
    rw [must_x c5]
    refine ⟨rfl, ?_, Off.rf⟩
    show PX3 σ rd (upd F 3 (nI p)) (tR pa tw) A
    rw [← hF3, upd_self]
    exact hP
set_option maxRecDepth 100000 in
set_option maxHeartbeats 4000000 in
theorem c3_word {G : xG} {σ : xS} {rd pa tw : Nat} {F : Nat → Int32} {A : Nat → Nat → Int32} (hP : PX3 σ rd F (tR pa tw) A) {Fa : Nat → Int32} {Ta : Nat → Nat} {Aa : Nat → Nat → Int32} (hPa : PX2 σ pa Fa Ta Aa) {H : Nat → Int32} {nt : Nat} (hH : Hend H nt) (hTA : ∀ q, q < nt → Aa 1 q = H q) (hnt : nt ≤ 100) (hF1 : F 1 = nI nt) (p : Nat) (hF3 : F 3 = nI p) (hp : p ≤ nt) (hne : rd ≠ pa) (i : Nat) (hi : i < 10) : CI G yX3_word cX3_word 3 (some .boolean) 4 0 0 [.ref rd, .ref (gK G i)] σ (fun z σ1 => z = bI (spelP H (sByt i) (true, p)).1 ∧ PX3 σ1 rd (upd F 3 (nI (spelP H (sByt i) (true, p)).2)) (tR pa tw) A ∧ Off rd σ σ1) := by
  refine Met.ofX (by decide +kernel) (Nat.le_of_ble_eq_true rfl) (fun μ Xc hQ hnm => ?_)
  have Xc : xC G μ cX3_word 3 RX3 (some .boolean) 4 0 0 := Xc
  have hl6_ := s_len i hi
  show Ev G μ 3 0 0 0 [(0, .ref rd), (1, .ref (gK G i))] [] σ
  refine e_iconst (v := 0) (pc := 0) Xc (dT hX3_word 0 rfl) rfl ?_
  refine e_istore_n (L' := [(2, .int 0), (0, .ref rd), (1, .ref (gK G i))]) (pc := 1) Xc (dT hX3_word 1 rfl) (by decide) rfl ?_
  have lp2 : ∀ (n2 : Nat) (k_ : Nat) (σ2 : xS), (sByt i).length - k_ < n2 → (k_ ≤ (sByt i).length) → (true = (spelP H ((sByt i).take k_) (true, p)).1) → (PX3 σ2 rd (upd F 3 (nI (spelP H ((sByt i).take k_) (true, p)).2)) (tR pa tw) A) → (Off rd σ σ2) → Ev G μ 3 0 0 2 [(0, .ref rd), (1, .ref (gK G i)), (2, .int (nI k_))] [] σ2 := by
    intro n2
    induction n2 with
    | zero => intro k_ σ2 hn; exact absurd hn (Nat.not_lt_zero _)
    | succ n2 ih2 =>
      intro k_ σ2 hn2 hk_ hok_ hp2 ho2
      have hsp_ := spelP_go hH ((sByt i).take k_) (true, p) (fun c hc => s_ne i hi c (List.mem_of_mem_take hc)) hp
      have hokk_ : (true, (spelP H ((sByt i).take k_) (true, p)).2) = (spelP H ((sByt i).take k_) (true, p)) := Prod.ext hok_ rfl
      have hPa := hPa.off ho2 (Ne.symm hne)
      refine e_iload_n (pc := 2) Xc (dT hX3_word 2 rfl) 2 rfl ?_
      refine e_aload_n (pc := 3) Xc (dT hX3_word 3 rfl) 1 rfl ?_
      refine e_callStI (pc := 4) (k := 0) (n := 0) (As := []) (S := [.int (nI k_)]) Xc m_J0_length_8abf5 w_ml_X3_100 w_inst_J0_length_8abf5 w_sel_J0_length_8abf5 hi rfl (c_length (i := i) hi) (dT hX3_word 4 rfl) rfl (Nat.le_of_ble_eq_true rfl) (by decide) (Nat.le_of_ble_eq_true rfl) (Nat.le_of_ble_eq_true rfl) rfl (Nat.le_of_ble_eq_true rfl) (fun r1 σ2 hq3 => ?_)
      obtain ⟨r1e, r1s⟩ := hq3
      have r1e := r1e.symm; subst r1e; have r1s := r1s.symm; subst r1s
      refine e_icmp_geN (x := k_) (y := (sByt i).length) (tgt := 30) (pc := 7) Xc (dT hX3_word 5 rfl) rfl (by omega) (by omega) (fun c7 => ?_) (fun c7 => ?_)
      · skip
        refine e_iconst (v := 1) (pc := 30) Xc (dT hX3_word 16 rfl) rfl ?_
        refine e_zret (pc := 31) Xc hQ (dT hX3_word 17 rfl) (Nat.le_refl _) (Nat.le_refl _) (Or.inr rfl) ?_
        have hke_ : k_ = (sByt i).length := by omega
        subst hke_
        rw [List.take_length] at hp2 hok_
        exact ⟨by rw [← hok_]; rfl, hp2, ho2⟩
      · skip
        refine e_aload_n (pc := 10) Xc (dT hX3_word 6 rfl) 0 rfl ?_
        refine e_aload_n (pc := 11) Xc (dT hX3_word 7 rfl) 1 rfl ?_
        refine e_iload_n (pc := 12) Xc (dT hX3_word 8 rfl) 2 rfl ?_
        refine e_callStI (pc := 13) (k := 0) (n := 0) (As := [.int (nI k_)]) (S := [.ref rd]) Xc m_J0_charAt_5068e w_ml_X3_105 w_inst_J0_charAt_5068e w_sel_J0_charAt_5068e hi rfl (c_charAt (i := i) (j := k_) hi (by omega)) (dT hX3_word 9 rfl) rfl (Nat.le_of_ble_eq_true rfl) (by decide) (Nat.le_of_ble_eq_true rfl) (Nat.le_of_ble_eq_true rfl) rfl (Nat.le_of_ble_eq_true rfl) (fun r4 σ5 hq6 => ?_)
        obtain ⟨r4e, r4s⟩ := hq6
        have r4e := r4e.symm; subst r4e; have r4s := r4s.symm; subst r4s
        refine cl_X3_33 (pc := 16) (k := 0) (n := 0) (S := []) Xc hp2.o (c3_takes hp2 hPa hH hTA hnt hF1 (spelP H ((sByt i).take k_) (true, p)).2 upd_s hsp_.2 hne ((sByt i).getD k_ 0)) (dT hX3_word 10 rfl) rfl (Nat.le_of_ble_eq_true rfl) (Nat.le_of_ble_eq_true rfl) (Nat.le_of_ble_eq_true rfl) rfl (Nat.le_of_ble_eq_true rfl) (fun r7 σ8 hq9 => ?_)
        obtain ⟨r7e, hP10, ho11⟩ := hq9
        have hS1_ : mustP H ((sByt i).getD k_ 0) (true, (spelP H ((sByt i).take k_) (true, p)).2) = (spelP H ((sByt i).take (k_ + 1)) (true, p)) := by rw [spel_s (by omega), ← hokk_]
        rw [hS1_] at r7e hP10
        rw [upd_2] at hP10
        have r7e := r7e.symm; subst r7e
        have hP12 := hPa.off ho11 (Ne.symm hne)
        refine e_if_ne (tgt := 24) (pc := 19) Xc (dT hX3_word 11 rfl) rfl (fun c19 => ?_) (fun c19 => ?_)
        · skip
          have hok1_ : (spelP H ((sByt i).take (k_ + 1)) (true, p)).1 = true := by simp only [bI_0, Bool.not_eq_false] at c19; exact c19
          refine e_iincN (a := k_) (b := 1) (L' := [(2, .int (nI (k_ + 1))), (0, .ref rd), (1, .ref (gK G i))]) (pc := 24) Xc (dT hX3_word 14 rfl) 2 rfl rfl (by decide) rfl ?_
          refine e_goto (tgt := 2) (pc := 27) Xc (dT hX3_word 15 rfl) rfl ?_
          refine Ev.pick (L' := [(0, .ref rd), (1, .ref (gK G i)), (2, .int (nI (k_ + 1)))]) [1, 2, 0] rfl ?_
          exact ih2 (k_ + 1) σ8 (by omega) (by omega) hok1_.symm hP10 (ho2.tr ho11)
        · skip
          have hok1_ : (spelP H ((sByt i).take (k_ + 1)) (true, p)).1 = false := by simp only [bI_0] at c19; exact c19
          refine e_iconst (v := 0) (pc := 22) Xc (dT hX3_word 12 rfl) rfl ?_
          refine e_zret (pc := 23) Xc hQ (dT hX3_word 13 rfl) (Nat.le_refl _) (Nat.le_refl _) (Or.inl rfl) ?_
          rw [spel_k (by omega) hok1_]
          exact ⟨rfl, hP10, (ho2.tr ho11)⟩
  refine Ev.pick (L' := [(0, .ref rd), (1, .ref (gK G i)), (2, .int 0)]) [1, 2, 0] rfl ?_
  exact lp2 (((sByt i).length - 0) + 1) 0 σ (Nat.lt_succ_self _) (Nat.zero_le _) (by rw [List.take_zero]; rfl) (by rw [List.take_zero]; show PX3 σ rd (upd F 3 (nI p)) (tR pa tw) A; rw [← hF3, upd_self]; exact hP) Off.rf
set_option maxRecDepth 100000 in
set_option maxHeartbeats 4000000 in
theorem c3_letter {G : xG} {σ : xS} (x : Int32) : CI G yX3_letter cX3_letter 1 (some .int) 0 0 0 [.int x] σ (fun z σ1 => z = amL 4 x ∧ σ1 = σ) := by
  refine Met.ofX (by decide +kernel) (Nat.le_of_ble_eq_true rfl) (fun μ Xc hQ hnm => ?_)
  have Xc : xC G μ cX3_letter 1 RX3 (some .int) 0 0 0 := Xc
  show Ev G μ 1 0 0 0 [(0, .int x)] [] σ
  refine e_iload_n (pc := 0) Xc (dT hX3_letter 0 rfl) 0 rfl ?_
  by_cases sw1_0 : x = 98
  · skip
    refine e_val (y := 98) sw1_0 ?_
    refine e_lookup (x := 98) (off := 65) (tgt := 66) (pc := 1) Xc (dT hX3_letter 1 rfl) (by decide) (by decide) rfl ?_
    refine e_iconst (v := 3) (pc := 66) Xc (dT hX3_letter 8 rfl) rfl ?_
    refine e_iret (pc := 67) Xc hQ (dT hX3_letter 9 rfl) (Nat.le_refl _) (Nat.le_refl _) ?_
    exact ⟨by rw [sw1_0]; rfl, rfl⟩
  by_cases sw1_1 : x = 100
  · skip
    refine e_val (y := 100) sw1_1 ?_
    refine e_lookup (x := 100) (off := 69) (tgt := 70) (pc := 1) Xc (dT hX3_letter 1 rfl) (by decide) (by decide) rfl ?_
    refine e_iconst (v := 5) (pc := 70) Xc (dT hX3_letter 12 rfl) rfl ?_
    refine e_iret (pc := 71) Xc hQ (dT hX3_letter 13 rfl) (Nat.le_refl _) (Nat.le_refl _) ?_
    exact ⟨by rw [sw1_1]; rfl, rfl⟩
  by_cases sw1_2 : x = 107
  · skip
    refine e_val (y := 107) sw1_2 ?_
    refine e_lookup (x := 107) (off := 61) (tgt := 62) (pc := 1) Xc (dT hX3_letter 1 rfl) (by decide) (by decide) rfl ?_
    refine e_iconst (v := 1) (pc := 62) Xc (dT hX3_letter 4 rfl) rfl ?_
    refine e_iret (pc := 63) Xc hQ (dT hX3_letter 5 rfl) (Nat.le_refl _) (Nat.le_refl _) ?_
    exact ⟨by rw [sw1_2]; rfl, rfl⟩
  by_cases sw1_3 : x = 114
  · skip
    refine e_val (y := 114) sw1_3 ?_
    refine e_lookup (x := 114) (off := 59) (tgt := 60) (pc := 1) Xc (dT hX3_letter 1 rfl) (by decide) (by decide) rfl ?_
    refine e_iconst (v := 0) (pc := 60) Xc (dT hX3_letter 2 rfl) rfl ?_
    refine e_iret (pc := 61) Xc hQ (dT hX3_letter 3 rfl) (Nat.le_refl _) (Nat.le_refl _) ?_
    exact ⟨by rw [sw1_3]; rfl, rfl⟩
  by_cases sw1_4 : x = 116
  · skip
    refine e_val (y := 116) sw1_4 ?_
    refine e_lookup (x := 116) (off := 67) (tgt := 68) (pc := 1) Xc (dT hX3_letter 1 rfl) (by decide) (by decide) rfl ?_
    refine e_iconst (v := 4) (pc := 68) Xc (dT hX3_letter 10 rfl) rfl ?_
    refine e_iret (pc := 69) Xc hQ (dT hX3_letter 11 rfl) (Nat.le_refl _) (Nat.le_refl _) ?_
    exact ⟨by rw [sw1_4]; rfl, rfl⟩
  by_cases sw1_5 : x = 118
  · skip
    refine e_val (y := 118) sw1_5 ?_
    refine e_lookup (x := 118) (off := 63) (tgt := 64) (pc := 1) Xc (dT hX3_letter 1 rfl) (by decide) (by decide) rfl ?_
    refine e_iconst (v := 2) (pc := 64) Xc (dT hX3_letter 6 rfl) rfl ?_
    refine e_iret (pc := 65) Xc hQ (dT hX3_letter 7 rfl) (Nat.le_refl _) (Nat.le_refl _) ?_
    exact ⟨by rw [sw1_5]; rfl, rfl⟩
  have so1_0 := lv_neT sw1_0 (a := 98) rfl
  have so1_1 := lv_neT sw1_1 (a := 100) rfl
  have so1_2 := lv_neT sw1_2 (a := 107) rfl
  have so1_3 := lv_neT sw1_3 (a := 114) rfl
  have so1_4 := lv_neT sw1_4 (a := 116) rfl
  have so1_5 := lv_neT sw1_5 (a := 118) rfl
  refine e_lookup (off := 71) (tgt := 72) (pc := 1) Xc (dT hX3_letter 1 rfl) (by decide) (by exact (lv_osw (a := 98) sw1_0 rfl).trans ((lv_osw (a := 100) sw1_1 rfl).trans ((lv_osw (a := 107) sw1_2 rfl).trans ((lv_osw (a := 114) sw1_3 rfl).trans ((lv_osw (a := 116) sw1_4 rfl).trans ((lv_osw (a := 118) sw1_5 rfl).trans (rfl))))))) rfl ?_
  refine e_bipush (v := -5) (pc := 72) Xc (dT hX3_letter 14 rfl) rfl ?_
  refine e_iret (pc := 74) Xc hQ (dT hX3_letter 15 rfl) (Nat.le_refl _) (Nat.le_refl _) ?_
  refine ⟨?_, rfl⟩
  rw [amL_none]
  intro j hj
  have hj : j < 6 := hj
  rcases (show j = 0 ∨ j = 1 ∨ j = 2 ∨ j = 3 ∨ j = 4 ∨ j = 5 by omega) with rfl | rfl | rfl | rfl | rfl | rfl
  · exact fun q => sw1_3 q.symm
  · exact fun q => sw1_2 q.symm
  · exact fun q => sw1_5 q.symm
  · exact fun q => sw1_0 q.symm
  · exact fun q => sw1_4 q.symm
  · exact fun q => sw1_1 q.symm
set_option maxRecDepth 100000 in
set_option maxHeartbeats 4000000 in
theorem c3_compare {G : xG} {σ : xS} (x : Int32) (hx : isSg x) : CI G yX3_compare cX3_compare 1 (some .int) 0 0 0 [.int x] σ (fun z σ1 => z = amL 5 x ∧ σ1 = σ) := by
  refine Met.ofX (by decide +kernel) (Nat.le_of_ble_eq_true rfl) (fun μ Xc hQ hnm => ?_)
  have Xc : xC G μ cX3_compare 1 RX3 (some .int) 0 0 0 := Xc
  show Ev G μ 1 0 0 0 [(0, .int x)] [] σ
  refine e_iload_n (pc := 0) Xc (dT hX3_compare 0 rfl) 0 rfl ?_
  refine e_bipush (v := 60) (pc := 1) Xc (dT hX3_compare 1 rfl) rfl ?_
  refine e_icmp_lt (tgt := 19) (pc := 3) Xc (dT hX3_compare 2 rfl) rfl (fun c3 => ?_) (fun c3 => ?_)
  · skip
    refine e_bipush (v := -5) (pc := 19) Xc (dT hX3_compare 10 rfl) rfl ?_
    refine e_iret (pc := 21) Xc hQ (dT hX3_compare 11 rfl) (Nat.le_refl _) (Nat.le_refl _) ?_
    refine ⟨?_, rfl⟩
    rw [← cmp_ok hx, if_pos c3]
  · skip
    refine e_iload_n (pc := 6) Xc (dT hX3_compare 3 rfl) 0 rfl ?_
    refine e_bipush (v := 62) (pc := 7) Xc (dT hX3_compare 4 rfl) rfl ?_
    refine e_icmp_gt (tgt := 19) (pc := 9) Xc (dT hX3_compare 5 rfl) rfl (fun c9 => ?_) (fun c9 => ?_)
    · skip
      refine e_bipush (v := -5) (pc := 19) Xc (dT hX3_compare 10 rfl) rfl ?_
      refine e_iret (pc := 21) Xc hQ (dT hX3_compare 11 rfl) (Nat.le_refl _) (Nat.le_refl _) ?_
      refine ⟨?_, rfl⟩
      rw [← cmp_ok hx, if_neg c3, if_pos c9]
    · skip
      refine e_iload_n (pc := 12) Xc (dT hX3_compare 6 rfl) 0 rfl ?_
      refine e_bipush (v := 60) (pc := 13) Xc (dT hX3_compare 7 rfl) rfl ?_
      refine e_isub (pc := 15) Xc (dT hX3_compare 8 rfl) ?_
      refine e_goto (tgt := 21) (pc := 16) Xc (dT hX3_compare 9 rfl) rfl ?_
      refine e_iret (pc := 21) Xc hQ (dT hX3_compare 11 rfl) (Nat.le_refl _) (Nat.le_refl _) ?_
      refine ⟨?_, rfl⟩
      rw [← cmp_ok hx, if_neg c3, if_neg c9]
set_option maxRecDepth 100000 in
set_option maxHeartbeats 4000000 in
theorem c3_number {G : xG} {σ : xS} {rd pa tw : Nat} {F : Nat → Int32} {A : Nat → Nat → Int32} (hP : PX3 σ rd F (tR pa tw) A) {Fa : Nat → Int32} {Ta : Nat → Nat} {Aa : Nat → Nat → Int32} (hPa : PX2 σ pa Fa Ta Aa) {H : Nat → Int32} {nt : Nat} (hH : Hend H nt) (hTA : ∀ q, q < nt → Aa 1 q = H q) (hnt : nt ≤ 100) (hF1 : F 1 = nI nt) (p : Nat) (hF3 : F 3 = nI p) (hp : p ≤ nt) (hne : rd ≠ pa) (hSg : ∀ q, isSg (H q)) : CI G yX3_number cX3_number 3 (some .boolean) 1 0 0 [.ref rd] σ (fun z σ1 => z = bI (figP H (true, p)).1.1 ∧ ∃ v, PX3 σ1 rd (upd (upd F 3 (nI (figP H (true, p)).1.2)) 4 v) (tR pa tw) A ∧ ((figP H (true, p)).1.1 = true → v = nI (figP H (true, p)).2) ∧ Off rd σ σ1) := by
  refine Met.ofX (by decide +kernel) (Nat.le_of_ble_eq_true rfl) (fun μ Xc hQ hnm => ?_)
  have Xc : xC G μ cX3_number 3 RX3 (some .boolean) 1 0 0 := Xc
  show Ev G μ 3 0 0 0 [(0, .ref rd)] [] σ
  refine e_aload_n (pc := 0) Xc (dT hX3_number 0 rfl) 0 rfl ?_
  refine cl_X3_37 (pc := 1) (k := 0) (n := 0) (S := []) Xc hP.o (c3_sign hP hPa hH hTA hnt hF1 p hF3 hp hne) (dT hX3_number 1 rfl) rfl (Nat.le_of_ble_eq_true rfl) (Nat.le_of_ble_eq_true rfl) (Nat.le_of_ble_eq_true rfl) rfl (Nat.le_of_ble_eq_true rfl) (fun r1 σ2 hq3 => ?_)
  obtain ⟨r1e, r1s⟩ := hq3
  have r1e := r1e.symm; subst r1e; have r1s := r1s.symm; subst r1s
  refine e_bipush (v := 48) (pc := 4) Xc (dT hX3_number 2 rfl) rfl ?_
  refine e_isub (pc := 6) Xc (dT hX3_number 3 rfl) ?_
  refine e_istore_n (L' := [(1, .int ((H p) - 48)), (0, .ref rd)]) (pc := 7) Xc (dT hX3_number 4 rfl) (by decide) rfl ?_
  refine e_iload_n (pc := 8) Xc (dT hX3_number 5 rfl) 0 rfl ?_
  refine e_if_lt (tgt := 18) (pc := 9) Xc (dT hX3_number 6 rfl) rfl (fun c9 => ?_) (fun c9 => ?_)
  · skip
    have hd1_ : ¬ dgP (H p) = true := fun q => ((dg_sub (hSg p)).1.mp q).1 c9
    refine e_iconst (v := 0) (pc := 18) Xc (dT hX3_number 10 rfl) rfl ?_
    refine e_zret (pc := 19) Xc hQ (dT hX3_number 11 rfl) (Nat.le_refl _) (Nat.le_refl _) (Or.inl rfl) ?_
    rw [fig_x hd1_]
    refine ⟨rfl, F 4, ?_, fun q => Bool.noConfusion q, Off.rf⟩
    show PX3 σ rd (upd (upd F 3 (nI p)) 4 (F 4)) (tR pa tw) A
    rw [← hF3, upd_self, upd_self]
    exact hP
  · skip
    refine e_iload_n (pc := 12) Xc (dT hX3_number 7 rfl) 0 rfl ?_
    refine e_bipush (v := 9) (pc := 13) Xc (dT hX3_number 8 rfl) rfl ?_
    refine e_icmp_le (tgt := 20) (pc := 15) Xc (dT hX3_number 9 rfl) rfl (fun c15 => ?_) (fun c15 => ?_)
    · skip
      have hd1_ : dgP (H p) = true := (dg_sub (hSg p)).1.mpr ⟨c9, c15⟩
      obtain ⟨c1_, hc48_, hc57_, he1_⟩ := dg_nat hd1_
      have hs1_ : H p - 48 = nI (c1_ - 48) := by rw [((dg_sub (hSg p)).2 hd1_).1, he1_, cl_nI (by omega)]
      have hlt1_ := hH.lt rfl (dg_ne hd1_)
      rw [hs1_]
      refine e_aload_n (pc := 20) Xc (dT hX3_number 12 rfl) 1 rfl ?_
      refine e_dup (pc := 21) Xc (dT hX3_number 13 rfl) rfl ?_
      refine gf_X3_9 (pc := 22) Xc (dT hX3_number 14 rfl) hP.o rfl ?_
      refine e_val (y := nI p) hF3 ?_
      refine e_iconst (v := 1) (pc := 25) Xc (dT hX3_number 15 rfl) rfl ?_
      refine e_iaddN (a := p) (b := 1) (pc := 26) Xc (dT hX3_number 16 rfl) ?_
      refine pf_X3_9 (fs' := olX3 rd (upd F 3 (nI (p + 1))) (tR pa tw)) (pc := 27) Xc (dT hX3_number 17 rfl) hP.o (Nat.le_of_ble_eq_true rfl) rfl ?_
      refine Ev.gen (fun z => PX3 z rd (upd F 3 (nI (p + 1))) (tR pa tw) A) (hP.wf3 (x := nI (p + 1))) Off.set (fun σ4 hP5 ho6 => ?_)
      have hP7 := hPa.off ho6 (Ne.symm hne)
      refine e_aload_n (pc := 30) Xc (dT hX3_number 18 rfl) 1 rfl ?_
      refine e_iload_n (pc := 31) Xc (dT hX3_number 19 rfl) 0 rfl ?_
      refine pf_X3_15 (fs' := olX3 rd (upd (upd F 3 (nI (p + 1))) 4 (nI (c1_ - 48))) (tR pa tw)) (pc := 32) Xc (dT hX3_number 20 rfl) hP5.o (Nat.le_of_ble_eq_true rfl) rfl ?_
      refine Ev.gen (fun z => PX3 z rd (upd (upd F 3 (nI (p + 1))) 4 (nI (c1_ - 48))) (tR pa tw) A) (hP5.wf4 (x := nI (c1_ - 48))) Off.set (fun σ8 hP9 ho10 => ?_)
      have hP11 := hP7.off ho10 (Ne.symm hne)
      refine e_aload_n (pc := 35) Xc (dT hX3_number 21 rfl) 1 rfl ?_
      refine cl_X3_37 (pc := 36) (k := 0) (n := 0) (S := []) Xc hP9.o (c3_sign hP9 hP11 hH hTA hnt hF1 (p + 1) rfl (by omega) hne) (dT hX3_number 22 rfl) rfl (Nat.le_of_ble_eq_true rfl) (Nat.le_of_ble_eq_true rfl) (Nat.le_of_ble_eq_true rfl) rfl (Nat.le_of_ble_eq_true rfl) (fun r12 σ13 hq14 => ?_)
      obtain ⟨r12e, r12s⟩ := hq14
      have r12e := r12e.symm; subst r12e; have r12s := r12s.symm; subst r12s
      refine e_val (y := H (p + 1)) rfl ?_
      refine e_bipush (v := 48) (pc := 39) Xc (dT hX3_number 23 rfl) rfl ?_
      refine e_isub (pc := 41) Xc (dT hX3_number 24 rfl) ?_
      refine e_istore_n (L' := [(2, .int ((H (p + 1)) - 48)), (1, .int (nI (c1_ - 48))), (0, .ref rd)]) (pc := 42) Xc (dT hX3_number 25 rfl) (by decide) rfl ?_
      refine e_iload_n (pc := 43) Xc (dT hX3_number 26 rfl) 1 rfl ?_
      refine e_if_eq (tgt := 77) (pc := 44) Xc (dT hX3_number 27 rfl) rfl (fun c44 => ?_) (fun c44 => ?_)
      · skip
        have hz48_ : c1_ = 48 := by
          by_cases e_ : c1_ = 48
          · exact e_
          · exact absurd c44 (nI_ne0 (by omega) (by omega))
        refine e_iconst (v := 1) (pc := 77) Xc (dT hX3_number 46 rfl) rfl ?_
        refine e_zret (pc := 78) Xc hQ (dT hX3_number 47 rfl) (Nat.le_refl _) (Nat.le_refl _) (Or.inr rfl) ?_
        rw [fig_1 hd1_ he1_ hc48_ hc57_ (Or.inl hz48_)]
        exact ⟨rfl, _, hP9, fun _ => rfl, (ho6.tr ho10)⟩
      · skip
        have hz48_ : ¬ c1_ = 48 := fun q => c44 (by rw [q]; rfl)
        refine e_iload_n (pc := 47) Xc (dT hX3_number 28 rfl) 0 rfl ?_
        refine e_if_lt (tgt := 77) (pc := 48) Xc (dT hX3_number 29 rfl) rfl (fun c48 => ?_) (fun c48 => ?_)
        · skip
          have hd2_ : ¬ dgP (H (p + 1)) = true := fun q => ((dg_sub (hSg _)).1.mp q).1 c48
          refine e_iconst (v := 1) (pc := 77) Xc (dT hX3_number 46 rfl) rfl ?_
          refine e_zret (pc := 78) Xc hQ (dT hX3_number 47 rfl) (Nat.le_refl _) (Nat.le_refl _) (Or.inr rfl) ?_
          rw [fig_1 hd1_ he1_ hc48_ hc57_ (Or.inr hd2_)]
          exact ⟨rfl, _, hP9, fun _ => rfl, (ho6.tr ho10)⟩
        · skip
          refine e_iload_n (pc := 51) Xc (dT hX3_number 30 rfl) 0 rfl ?_
          refine e_bipush (v := 9) (pc := 52) Xc (dT hX3_number 31 rfl) rfl ?_
          refine e_icmp_gt (tgt := 77) (pc := 54) Xc (dT hX3_number 32 rfl) rfl (fun c54 => ?_) (fun c54 => ?_)
          · skip
            have hd2_ : ¬ dgP (H (p + 1)) = true := fun q => Int32.not_lt.mpr ((dg_sub (hSg _)).1.mp q).2 c54
            refine e_iconst (v := 1) (pc := 77) Xc (dT hX3_number 46 rfl) rfl ?_
            refine e_zret (pc := 78) Xc hQ (dT hX3_number 47 rfl) (Nat.le_refl _) (Nat.le_refl _) (Or.inr rfl) ?_
            rw [fig_1 hd1_ he1_ hc48_ hc57_ (Or.inr hd2_)]
            exact ⟨rfl, _, hP9, fun _ => rfl, (ho6.tr ho10)⟩
          · skip
            have hd2_ : dgP (H (p + 1)) = true := (dg_sub (hSg _)).1.mpr ⟨c48, Int32.not_lt.mp c54⟩
            obtain ⟨c2_, hd48_, hd57_, he2_⟩ := dg_nat hd2_
            have hs2_ : H (p + 1) - 48 = nI (c2_ - 48) := by rw [((dg_sub (hSg _)).2 hd2_).1, he2_, cl_nI (by omega)]
            rw [hs2_]
            refine e_aload_n (pc := 57) Xc (dT hX3_number 33 rfl) 2 rfl ?_
            refine e_dup (pc := 58) Xc (dT hX3_number 34 rfl) rfl ?_
            refine gf_X3_9 (pc := 59) Xc (dT hX3_number 35 rfl) hP9.o rfl ?_
            refine e_val (y := nI (p + 1)) rfl ?_
            refine e_iconst (v := 1) (pc := 62) Xc (dT hX3_number 36 rfl) rfl ?_
            refine e_iaddN (a := p + 1) (b := 1) (pc := 63) Xc (dT hX3_number 37 rfl) ?_
            refine pf_X3_9 (fs' := olX3 rd (upd (upd (upd F 3 (nI (p + 1))) 4 (nI (c1_ - 48))) 3 (nI ((p + 1) + 1))) (tR pa tw)) (pc := 64) Xc (dT hX3_number 38 rfl) hP9.o (Nat.le_of_ble_eq_true rfl) rfl ?_
            refine Ev.gen (fun z => PX3 z rd (upd (upd (upd F 3 (nI (p + 1))) 4 (nI (c1_ - 48))) 3 (nI ((p + 1) + 1))) (tR pa tw) A) (hP9.wf3 (x := nI ((p + 1) + 1))) Off.set (fun σ15 hP16 ho17 => ?_)
            have hP18 := hP11.off ho17 (Ne.symm hne)
            refine e_aload_n (pc := 67) Xc (dT hX3_number 39 rfl) 2 rfl ?_
            refine e_iload_n (pc := 68) Xc (dT hX3_number 40 rfl) 1 rfl ?_
            refine e_bipush (v := 10) (pc := 69) Xc (dT hX3_number 41 rfl) rfl ?_
            refine e_imulN (a := c1_ - 48) (b := 10) (pc := 71) Xc (dT hX3_number 42 rfl) ?_
            refine e_iload_n (pc := 72) Xc (dT hX3_number 43 rfl) 0 rfl ?_
            refine e_iaddN (a := (c1_ - 48) * 10) (b := c2_ - 48) (pc := 73) Xc (dT hX3_number 44 rfl) ?_
            refine pf_X3_15 (fs' := olX3 rd (upd (upd (upd (upd F 3 (nI (p + 1))) 4 (nI (c1_ - 48))) 3 (nI ((p + 1) + 1))) 4 (nI (((c1_ - 48) * 10) + (c2_ - 48)))) (tR pa tw)) (pc := 74) Xc (dT hX3_number 45 rfl) hP16.o (Nat.le_of_ble_eq_true rfl) rfl ?_
            refine Ev.gen (fun z => PX3 z rd (upd (upd (upd (upd F 3 (nI (p + 1))) 4 (nI (c1_ - 48))) 3 (nI ((p + 1) + 1))) 4 (nI (((c1_ - 48) * 10) + (c2_ - 48)))) (tR pa tw) A) (hP16.wf4 (x := nI (((c1_ - 48) * 10) + (c2_ - 48)))) Off.set (fun σ19 hP20 ho21 => ?_)
            have hP22 := hP18.off ho21 (Ne.symm hne)
            refine e_iconst (v := 1) (pc := 77) Xc (dT hX3_number 46 rfl) rfl ?_
            refine e_zret (pc := 78) Xc hQ (dT hX3_number 47 rfl) (Nat.le_refl _) (Nat.le_refl _) (Or.inr rfl) ?_
            rw [fig_2 hd1_ he1_ hz48_ hc48_ hc57_ hd2_ he2_ hd57_]
            have h_ := hP20
            rw [upd34] at h_
            exact ⟨rfl, _, h_, fun _ => congrArg nI (by omega), (((ho6.tr ho10).tr ho17).tr ho21)⟩
    · skip
      have hd1_ : ¬ dgP (H p) = true := fun q => c15 ((dg_sub (hSg p)).1.mp q).2
      refine e_iconst (v := 0) (pc := 18) Xc (dT hX3_number 10 rfl) rfl ?_
      refine e_zret (pc := 19) Xc hQ (dT hX3_number 11 rfl) (Nat.le_refl _) (Nat.le_refl _) (Or.inl rfl) ?_
      rw [fig_x hd1_]
      refine ⟨rfl, F 4, ?_, fun q => Bool.noConfusion q, Off.rf⟩
      show PX3 σ rd (upd (upd F 3 (nI p)) 4 (F 4)) (tR pa tw) A
      rw [← hF3, upd_self, upd_self]
      exact hP
