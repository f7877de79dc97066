set_option maxRecDepth 100000 in
set_option maxHeartbeats 4000000 in
theorem c_lowest {G : xG} {σ : xS} (a_ b_ : Nat) (ha_ : a_ ≤ 100000) (hb_ : b_ ≤ 100000) (hb0_ : 0 < b_) (part : Int32) : CL G yX7_lowest cX7_lowest 11 (some .long) 0 0 0 [.long (lN a_), .long (lN b_), .int part] σ (fun z σ1 => z = loF a_ b_ part ∧ σ1 = σ) := by
  refine Met.ofX (by decide +kernel) (Nat.le_of_ble_eq_true rfl) (fun μ Xc hQ hnm => ?_)
  have Xc : xC G μ cX7_lowest 11 RX7 (some .long) 0 0 0 := Xc
  have lp6 : ∀ (n6 : Nat) (p_ q_ : Nat), q_ < n6 → (p_ ≤ 100000) → (q_ ≤ 100000) → (Nat.gcd p_ q_ = Nat.gcd a_ b_) → (0 < p_ ∨ 0 < q_) → Ev G μ 11 0 0 6 [(0, .long (lN a_)), (2, .long (lN b_)), (4, .int part), (5, .long (lN p_)), (7, .long (lN q_))] [] σ := by
    intro n6
    induction n6 with
    | zero => intro p_ q_ hn; exact absurd hn (Nat.not_lt_zero _)
    | succ n6 ih6 =>
      intro p_ q_ hn6 hp_ hq_ hg_ hz_
      refine e_lload (pc := 6) Xc (dT hX7_lowest 4 rfl) 4 rfl ?_
      refine e_lconst (v := 0) (pc := 8) Xc (dT hX7_lowest 5 rfl) rfl ?_
      refine e_lcmp (pc := 9) Xc (dT hX7_lowest 6 rfl) ?_
      refine e_if_eq (tgt := 31) (pc := 10) Xc (dT hX7_lowest 7 rfl) rfl (fun c10 => ?_) (fun c10 => ?_)
      · skip
        have hq0_ : q_ = 0 := (lcmp0 (by omega)).mp c10
        subst hq0_
        have hgp_ : p_ = Nat.gcd a_ b_ := by rw [← hg_, Nat.gcd_zero_right]
        have hp0_ : 0 < p_ := by omega
        refine e_iload (pc := 31) Xc (dT hX7_lowest 17 rfl) 2 rfl ?_
        refine e_if_ne (tgt := 40) (pc := 33) Xc (dT hX7_lowest 18 rfl) rfl (fun c33 => ?_) (fun c33 => ?_)
        · skip
          refine e_lload_n (pc := 40) Xc (dT hX7_lowest 21 rfl) 1 rfl ?_
          refine e_lload (pc := 41) Xc (dT hX7_lowest 22 rfl) 3 rfl ?_
          refine e_ldiv (pc := 43) Xc (dT hX7_lowest 23 rfl) ((lNne (by omega) (by omega))) ?_
          refine e_lret (pc := 44) Xc hQ (dT hX7_lowest 24 rfl) (Nat.le_refl _) (Nat.le_refl _) ?_
          rw [loF, if_neg c33, ← hgp_]
          exact ⟨pk_lDiv (by omega) hp0_ (by omega), rfl⟩
        · skip
          refine e_lload_n (pc := 36) Xc (dT hX7_lowest 19 rfl) 0 rfl ?_
          refine e_goto (tgt := 41) (pc := 37) Xc (dT hX7_lowest 20 rfl) rfl ?_
          refine e_lload (pc := 41) Xc (dT hX7_lowest 22 rfl) 3 rfl ?_
          refine e_ldiv (pc := 43) Xc (dT hX7_lowest 23 rfl) ((lNne (by omega) (by omega))) ?_
          refine e_lret (pc := 44) Xc hQ (dT hX7_lowest 24 rfl) (Nat.le_refl _) (Nat.le_refl _) ?_
          rw [loF, if_pos c33, ← hgp_]
          exact ⟨pk_lDiv (by omega) hp0_ (by omega), rfl⟩
      · skip
        have hq0_ : ¬ q_ = 0 := fun e_ => c10 ((lcmp0 (by omega)).mpr e_)
        refine e_lload (pc := 13) Xc (dT hX7_lowest 8 rfl) 3 rfl ?_
        refine e_lload (pc := 15) Xc (dT hX7_lowest 9 rfl) 4 rfl ?_
        refine e_lrem (pc := 17) Xc (dT hX7_lowest 10 rfl) ((lNne (by omega) hq0_)) ?_
        refine e_valL (y := lN (p_ % q_)) (pk_lRem (by omega) (by omega) (by omega)) ?_
        refine e_lstore (L' := [(9, .long (lN (p_ % q_))), (0, .long (lN a_)), (2, .long (lN b_)), (4, .int part), (5, .long (lN p_)), (7, .long (lN q_))]) (pc := 18) Xc (dT hX7_lowest 11 rfl) (by decide) rfl ?_
        refine e_lload (pc := 20) Xc (dT hX7_lowest 12 rfl) 5 rfl ?_
        refine e_lstore (L' := [(5, .long (lN q_)), (9, .long (lN (p_ % q_))), (0, .long (lN a_)), (2, .long (lN b_)), (4, .int part), (7, .long (lN q_))]) (pc := 22) Xc (dT hX7_lowest 13 rfl) (by decide) rfl ?_
        refine e_lload (pc := 24) Xc (dT hX7_lowest 14 rfl) 1 rfl ?_
        refine e_lstore (L' := [(7, .long (lN (p_ % q_))), (5, .long (lN q_)), (9, .long (lN (p_ % q_))), (0, .long (lN a_)), (2, .long (lN b_)), (4, .int part)]) (pc := 26) Xc (dT hX7_lowest 15 rfl) (by decide) rfl ?_
        refine e_goto (tgt := 6) (pc := 28) Xc (dT hX7_lowest 16 rfl) rfl ?_
        have hmd_ := Nat.mod_lt p_ (show q_ > 0 by omega)
        refine Ev.pick (L' := [(0, .long (lN a_)), (2, .long (lN b_)), (4, .int part), (5, .long (lN q_)), (7, .long (lN (p_ % q_)))]) [3, 4, 5, 1, 0] rfl ?_
        exact ih6 q_ (p_ % q_) (by omega) (by omega) (by have := Nat.mod_lt p_ (show q_ > 0 by omega); omega) (gcd_step hg_) (Or.inl (by omega))
  show Ev G μ 11 0 0 0 [(0, .long (lN a_)), (2, .long (lN b_)), (4, .int part)] [] σ
  refine e_lload_n (pc := 0) Xc (dT hX7_lowest 0 rfl) 0 rfl ?_
  refine e_lstore (L' := [(5, .long (lN a_)), (0, .long (lN a_)), (2, .long (lN b_)), (4, .int part)]) (pc := 1) Xc (dT hX7_lowest 1 rfl) (by decide) rfl ?_
  refine e_lload_n (pc := 3) Xc (dT hX7_lowest 2 rfl) 2 rfl ?_
  refine e_lstore (L' := [(7, .long (lN b_)), (5, .long (lN a_)), (0, .long (lN a_)), (2, .long (lN b_)), (4, .int part)]) (pc := 4) Xc (dT hX7_lowest 3 rfl) (by decide) rfl ?_
  refine Ev.pick (L' := [(0, .long (lN a_)), (2, .long (lN b_)), (4, .int part), (5, .long (lN a_)), (7, .long (lN b_))]) [2, 3, 4, 1, 0] rfl ?_
  exact lp6 ((b_) + 1) a_ b_ (Nat.lt_succ_self _) ha_ hb_ rfl (Or.inr hb0_)
set_option maxRecDepth 100000 in
set_option maxHeartbeats 4000000 in
theorem p_odds {G : xG} {σ : xS} {m : Nat} {X Y bd : Nat → Int32} {hi rn : Int32} (hM : MK σ m X Y bd hi rn) {nr nb ns np nn nt na dy : Nat} {t : xT} (hK : OK X nr nb t ns np nn nt na dy) (b : Int32) (part : Int32) : CL G yX7_odds cX7_odds 6 (some .long) 6 0 0 [.ref m, .int b, .int part] σ (fun z σ1 => z = v_odds X t nr nb b part ∧ MK σ1 m X Y bd hi rn ∧ Off m σ σ1) := by
  refine Met.ofX (by decide +kernel) (Nat.le_of_ble_eq_true rfl) (fun μ Xc hQ hnm => ?_)
  have Xc : xC G μ cX7_odds 6 RX7 (some .long) 6 0 0 := Xc
  obtain ⟨F, T, A, hP, e1, e2, e3, e4, e5⟩ := hM
  subst e1 e2 e3 e4 e5
  obtain ⟨hG, hT, hS, hPl, hNo, hTa, hA, hJ, hR, hD⟩ := id hK
  have hr4 := hG.r4
  have hb7 := hG.b7
  have hs6 := hS.1
  have hp8 := hPl.1
  have hn8 := hNo.1
  have ht100 := hTa.1
  have ha5 := hA.1
  have hd9 := hD.1
  show Ev G μ 6 0 0 0 [(0, .ref m), (1, .int b), (2, .int part)] [] σ
  refine e_aload_n (pc := 0) Xc (dT hX7_odds 0 rfl) 0 rfl ?_
  refine e_iload_n (pc := 1) Xc (dT hX7_odds 1 rfl) 1 rfl ?_
  refine cl_X7_177 (pc := 2) (k := 0) (n := 0) (S := []) Xc hP.o (c_isBook hP hG b) (dT hX7_odds 2 rfl) rfl (Nat.le_of_ble_eq_true rfl) (Nat.le_of_ble_eq_true rfl) (Nat.le_of_ble_eq_true rfl) rfl (Nat.le_of_ble_eq_true rfl) (fun r1 σ2 hq3 => ?_)
  obtain ⟨r1e, r1s⟩ := hq3
  have r1e := r1e.symm; subst r1e; have r1s := r1s.symm; subst r1s
  refine e_if_eq (tgt := 27) (pc := 5) Xc (dT hX7_odds 3 rfl) rfl (fun c5 => ?_) (fun c5 => ?_)
  · skip
    refine e_ldc2 (pc := 27) Xc (dT hX7_odds 14 rfl) w_k_X7_285 ?_
    refine e_lret (pc := 30) Xc hQ (dT hX7_odds 15 rfl) (Nat.le_refl _) (Nat.le_refl _) ?_
    have hz : v_odds (A 1) t nr nb b part = (-9223372036854775808) := by
      try simp only [bI_0, bI_1, Bool.not_eq_true, Bool.not_eq_false] at c5
      first | (simp [v_odds, c5]; done) | (clear hK hG hT hS hPl hNo hTa hA hJ hR hD hQ Xc; simp_all [v_odds]; done)
    exact ⟨hz.symm, ⟨_, _, _, hP, rfl, rfl, rfl, rfl, rfl⟩, Off.rf⟩
  · skip
    obtain ⟨p, hp, rfl⟩ := inF_nat (v := b) (n := nb) (by omega) (by simpa [bI_0, bI_1] using c5)
    have hc_p : cl (nI p) = p := cl_nI (by omega)
    refine e_iload_n (pc := 8) Xc (dT hX7_odds 4 rfl) 2 rfl ?_
    refine e_iconst (v := 0) (pc := 9) Xc (dT hX7_odds 5 rfl) rfl ?_
    refine e_iconst (v := 1) (pc := 10) Xc (dT hX7_odds 6 rfl) rfl ?_
    refine cl_X7_50 (pc := 11) (k := 0) (n := 0) (S := []) Xc (c_in part 0 1) (dT hX7_odds 7 rfl) rfl (Nat.le_of_ble_eq_true rfl) (Nat.le_of_ble_eq_true rfl) (Nat.le_of_ble_eq_true rfl) rfl (Nat.le_of_ble_eq_true rfl) (fun r4 σ5 hq6 => ?_)
    obtain ⟨r4e, r4s⟩ := hq6
    have r4e := r4e.symm; subst r4e; have r4s := r4s.symm; subst r4s
    refine e_if_eq (tgt := 27) (pc := 14) Xc (dT hX7_odds 8 rfl) rfl (fun c14 => ?_) (fun c14 => ?_)
    · skip
      refine e_ldc2 (pc := 27) Xc (dT hX7_odds 14 rfl) w_k_X7_285 ?_
      refine e_lret (pc := 30) Xc hQ (dT hX7_odds 15 rfl) (Nat.le_refl _) (Nat.le_refl _) ?_
      have hz : v_odds (A 1) t nr nb (nI p) part = (-9223372036854775808) := by
        try simp only [bI_0, bI_1, Bool.not_eq_true, Bool.not_eq_false] at c5 c14
        first | (simp [v_odds, c5, c14, hc_p]; done) | (clear hK hG hT hS hPl hNo hTa hA hJ hR hD hQ Xc; simp_all [v_odds]; done)
      exact ⟨hz.symm, ⟨_, _, _, hP, rfl, rfl, rfl, rfl, rfl⟩, Off.rf⟩
    · skip
      refine e_aload_n (pc := 17) Xc (dT hX7_odds 9 rfl) 0 rfl ?_
      refine gf_X7_9 (pc := 18) Xc (dT hX7_odds 10 rfl) hP.o rfl ?_
      refine e_bipush (v := 12) (pc := 21) Xc (dT hX7_odds 11 rfl) rfl ?_
      refine e_ialdN (pc := 23) Xc (dT hX7_odds 12 rfl) hP.a1 (by decide) rfl 12 rfl (by omega) (by decide) ?_
      refine e_val (y := nI nr) hG.1.2.2.1 ?_
      refine e_if_ne (tgt := 31) (pc := 24) Xc (dT hX7_odds 13 rfl) rfl (fun c24 => ?_) (fun c24 => ?_)
      · skip
        have hn0_ : ¬ nr = 0 := fun e_ => c24 (by rw [e_]; rfl)
        refine e_aload_n (pc := 31) Xc (dT hX7_odds 16 rfl) 0 rfl ?_
        refine cl_X7_202 (pc := 32) (k := 0) (n := 0) (S := []) Xc hP.o (c_keeps hP) (dT hX7_odds 17 rfl) rfl (Nat.le_of_ble_eq_true rfl) (Nat.le_of_ble_eq_true rfl) (Nat.le_of_ble_eq_true rfl) rfl (Nat.le_of_ble_eq_true rfl) (fun σ8 hq9 => ?_)
        obtain ⟨fr, hP10, hf0, ho11⟩ := hq9
        obtain ⟨B, hP10, b1, b2, b11, hf⟩ : ∃ B, PX7 σ8 m F T B ∧ A 1 = B 1 ∧ A 2 = B 2 ∧ A 11 = B 11 ∧ ∀ j, j < 12 → B 3 j = B 1 j := ⟨_, hP10, rfl, rfl, rfl, hf0⟩
        rw [b1] at hK
        rw [b1, b2, b11] at hQ
        try simp only [b1] at *
        obtain ⟨hG, hT, hS, hPl, hNo, hTa, hA, hJ, hR, hD⟩ := id hK
        refine e_lconst (v := 0) (pc := 35) Xc (dT hX7_odds 18 rfl) rfl ?_
        refine e_lstore_n (L' := [(3, .long 0), (0, .ref m), (1, .int (nI p)), (2, .int part)]) (pc := 36) Xc (dT hX7_odds 19 rfl) (by decide) rfl ?_
        refine e_iconst (v := 0) (pc := 37) Xc (dT hX7_odds 20 rfl) rfl ?_
        refine e_istore (L' := [(5, .int 0), (3, .long 0), (0, .ref m), (1, .int (nI p)), (2, .int part)]) (pc := 38) Xc (dT hX7_odds 21 rfl) (by decide) rfl ?_
        have lp40 : ∀ (n40 : Nat) (r_ u_ : Nat) (σ2 : xS), nr - r_ < n40 → (r_ ≤ nr) → (u_ = odN (B 1) t nr nb (nI p) r_) → (PX7 σ2 m F T B) → (Off m σ σ2) → Ev G μ 6 0 0 40 [(0, .ref m), (1, .int (nI p)), (2, .int part), (3, .long (lN u_)), (5, .int (nI r_))] [] σ2 := by
          intro n40
          induction n40 with
          | zero => intro r_ u_ σ2 hn; exact absurd hn (Nat.not_lt_zero _)
          | succ n40 ih40 =>
            intro r_ u_ σ2 hn40 hr_ hu_ hp2 ho2
            refine e_iload (pc := 40) Xc (dT hX7_odds 22 rfl) 4 rfl ?_
            refine e_aload_n (pc := 42) Xc (dT hX7_odds 23 rfl) 0 rfl ?_
            refine gf_X7_9 (pc := 43) Xc (dT hX7_odds 24 rfl) hp2.o rfl ?_
            refine e_bipush (v := 12) (pc := 46) Xc (dT hX7_odds 25 rfl) rfl ?_
            refine e_ialdN (pc := 48) Xc (dT hX7_odds 26 rfl) hp2.a1 (by decide) rfl 12 rfl (by omega) (by decide) ?_
            refine e_val (y := nI nr) hG.1.2.2.1 ?_
            refine e_icmp_geN (x := r_) (y := nr) (tgt := 85) (pc := 49) Xc (dT hX7_odds 27 rfl) rfl (by omega) (by omega) (fun c49 => ?_) (fun c49 => ?_)
            · skip
              have hre_ : r_ = nr := by omega
              have hfin_ : odN (B 1) t nr nb (nI p) nr = u_ := by rw [hu_, hre_]
              have hul_ : u_ ≤ nr := by rw [← hfin_]; exact odN_le _
              refine e_lload_n (pc := 85) Xc (dT hX7_odds 46 rfl) 3 rfl ?_
              refine e_aload_n (pc := 86) Xc (dT hX7_odds 47 rfl) 0 rfl ?_
              refine gf_X7_9 (pc := 87) Xc (dT hX7_odds 48 rfl) hp2.o rfl ?_
              refine e_bipush (v := 12) (pc := 90) Xc (dT hX7_odds 49 rfl) rfl ?_
              refine e_ialdN (pc := 92) Xc (dT hX7_odds 50 rfl) hp2.a1 (by decide) rfl 12 rfl (by omega) (by decide) ?_
              refine e_val (y := nI nr) hG.1.2.2.1 ?_
              refine e_i2l (v := (nI nr).toInt64) (pc := 93) Xc (dT hX7_odds 51 rfl) rfl ?_
              refine e_valL (y := lN nr) (nI_l (by omega)) ?_
              refine e_iload_n (pc := 94) Xc (dT hX7_odds 52 rfl) 2 rfl ?_
              refine cl_X7_287 (pc := 95) (k := 0) (n := 0) (S := []) Xc (c_lowest u_ nr (by omega) (by omega) (by omega) part) (dT hX7_odds 53 rfl) rfl (Nat.le_of_ble_eq_true rfl) (Nat.le_of_ble_eq_true rfl) (Nat.le_of_ble_eq_true rfl) rfl (Nat.le_of_ble_eq_true rfl) (fun r12 σ13 hq14 => ?_)
              obtain ⟨r12e, r12s⟩ := hq14
              have r12s := r12s.symm; subst r12s
              subst r12e
              refine e_lret (pc := 98) Xc hQ (dT hX7_odds 54 rfl) (Nat.le_refl _) (Nat.le_refl _) ?_
              have hz : v_odds (B 1) t nr nb (nI p) part = loF u_ nr part := by
                try simp only [bI_0, bI_1, Bool.not_eq_true, Bool.not_eq_false] at c5 c14 c24 c49
                first | (simp [v_odds, c5, c14, c24, c49, hc_p, hn0_, hfin_]; done) | (clear hK hG hT hS hPl hNo hTa hA hJ hR hD hQ Xc; simp_all [v_odds]; done)
              exact ⟨hz.symm, ⟨_, _, _, hp2, rfl, rfl, rfl, rfl, rfl⟩, ho2⟩
            · skip
              refine e_aload_n (pc := 52) Xc (dT hX7_odds 28 rfl) 0 rfl ?_
              refine e_iload (pc := 53) Xc (dT hX7_odds 29 rfl) 4 rfl ?_
              refine cl_X7_189 (pc := 55) (k := 0) (n := 0) (S := []) Xc hp2.o (c_comes hp2 hG hT r_ (by omega)) (dT hX7_odds 30 rfl) rfl (Nat.le_of_ble_eq_true rfl) (Nat.le_of_ble_eq_true rfl) (Nat.le_of_ble_eq_true rfl) rfl (Nat.le_of_ble_eq_true rfl) (fun r15 σ16 hq17 => ?_)
              obtain ⟨r15e, hP18, ho19⟩ := hq17
              have r15e := r15e.symm; subst r15e
              refine e_pop (pc := 58) Xc (dT hX7_odds 31 rfl) rfl ?_
              refine e_lload_n (pc := 59) Xc (dT hX7_odds 32 rfl) 3 rfl ?_
              refine e_aload_n (pc := 60) Xc (dT hX7_odds 33 rfl) 0 rfl ?_
              refine e_iload_n (pc := 61) Xc (dT hX7_odds 34 rfl) 1 rfl ?_
              refine cl_X7_147 (pc := 62) (k := 0) (n := 0) (S := [.long (lN u_)]) Xc hP18.o (c_isOn hP18 (hG.come (by omega)) (nI p)) (dT hX7_odds 35 rfl) rfl (Nat.le_of_ble_eq_true rfl) (Nat.le_of_ble_eq_true rfl) (Nat.le_of_ble_eq_true rfl) rfl (Nat.le_of_ble_eq_true rfl) (fun r20 σ21 hq22 => ?_)
              obtain ⟨r20e, r20s⟩ := hq22
              have r20e := r20e.symm; subst r20e; have r20s := r20s.symm; subst r20s
              refine e_val (y := bI (onF (comeF (B 1) t nr nb r_) nr (nI p))) rfl ?_
              refine e_if_eq (tgt := 72) (pc := 65) Xc (dT hX7_odds 36 rfl) rfl (fun c65 => ?_) (fun c65 => ?_)
              · skip
                refine e_lconst (v := 0) (pc := 72) Xc (dT hX7_odds 39 rfl) rfl ?_
                refine e_ladd (pc := 73) Xc (dT hX7_odds 40 rfl) ?_
                refine e_valL (y := lN (u_ + 0)) (lN_0' u_) ?_
                refine e_lstore_n (L' := [(3, .long (lN (u_ + 0))), (0, .ref m), (1, .int (nI p)), (2, .int part), (5, .int (nI r_))]) (pc := 74) Xc (dT hX7_odds 41 rfl) (by decide) rfl ?_
                refine e_aload_n (pc := 75) Xc (dT hX7_odds 42 rfl) 1 rfl ?_
                refine cl_X7_205 (pc := 76) (k := 0) (n := 0) (S := []) Xc hP18.o (c_goesBack hP18) (dT hX7_odds 43 rfl) rfl (Nat.le_of_ble_eq_true rfl) (Nat.le_of_ble_eq_true rfl) (Nat.le_of_ble_eq_true rfl) rfl (Nat.le_of_ble_eq_true rfl) (fun σ24 hq25 => ?_)
                obtain ⟨hP26, ho27⟩ := hq25
                have hP26 : PX7 σ24 m F T (upA B 1 (backF (comeF (B 1) t nr nb r_) (B 3))) := by rw [upA_2] at hP26; exact hP26
                refine e_iincN (a := r_) (b := 1) (L' := [(5, .int (nI (r_ + 1))), (3, .long (lN (u_ + 0))), (0, .ref m), (1, .int (nI p)), (2, .int part)]) (pc := 79) Xc (dT hX7_odds 44 rfl) 4 rfl rfl (by decide) rfl ?_
                refine e_goto (tgt := 40) (pc := 82) Xc (dT hX7_odds 45 rfl) rfl ?_
                refine Ev.pick (L' := [(0, .ref m), (1, .int (nI p)), (2, .int part), (3, .long (lN (u_ + 0))), (5, .int (nI (r_ + 1)))]) [2, 3, 4, 1, 0] rfl ?_
                exact ih40 (r_ + 1) (u_ + 0) σ24 (by omega) (by omega) (by show _ = odN (B 1) t nr nb (nI p) r_ + _; rw [← hu_]; simp only [bI_0, Bool.not_eq_false] at c65; rw [c65]; rfl) (by have e_ := back_hi (X := B 1) (Y := comeF (B 1) t nr nb r_) hf (fun j hj => come_hi (by omega) (by omega)); have h_ := hP26; rw [e_, upA_id] at h_; exact h_) ((ho2.tr ho19).tr ho27)
              · skip
                refine e_lconst (v := 1) (pc := 68) Xc (dT hX7_odds 37 rfl) rfl ?_
                refine e_goto (tgt := 73) (pc := 69) Xc (dT hX7_odds 38 rfl) rfl ?_
                refine e_ladd (pc := 73) Xc (dT hX7_odds 40 rfl) ?_
                refine e_valL (y := lN (u_ + 1)) (lN_1 u_) ?_
                refine e_lstore_n (L' := [(3, .long (lN (u_ + 1))), (0, .ref m), (1, .int (nI p)), (2, .int part), (5, .int (nI r_))]) (pc := 74) Xc (dT hX7_odds 41 rfl) (by decide) rfl ?_
                refine e_aload_n (pc := 75) Xc (dT hX7_odds 42 rfl) 1 rfl ?_
                refine cl_X7_205 (pc := 76) (k := 0) (n := 0) (S := []) Xc hP18.o (c_goesBack hP18) (dT hX7_odds 43 rfl) rfl (Nat.le_of_ble_eq_true rfl) (Nat.le_of_ble_eq_true rfl) (Nat.le_of_ble_eq_true rfl) rfl (Nat.le_of_ble_eq_true rfl) (fun σ29 hq30 => ?_)
                obtain ⟨hP31, ho32⟩ := hq30
                have hP31 : PX7 σ29 m F T (upA B 1 (backF (comeF (B 1) t nr nb r_) (B 3))) := by rw [upA_2] at hP31; exact hP31
                refine e_iincN (a := r_) (b := 1) (L' := [(5, .int (nI (r_ + 1))), (3, .long (lN (u_ + 1))), (0, .ref m), (1, .int (nI p)), (2, .int part)]) (pc := 79) Xc (dT hX7_odds 44 rfl) 4 rfl rfl (by decide) rfl ?_
                refine e_goto (tgt := 40) (pc := 82) Xc (dT hX7_odds 45 rfl) rfl ?_
                refine Ev.pick (L' := [(0, .ref m), (1, .int (nI p)), (2, .int part), (3, .long (lN (u_ + 1))), (5, .int (nI (r_ + 1)))]) [2, 3, 4, 1, 0] rfl ?_
                exact ih40 (r_ + 1) (u_ + 1) σ29 (by omega) (by omega) (by show _ = odN (B 1) t nr nb (nI p) r_ + _; rw [← hu_]; simp only [bI_0, Bool.not_eq_false] at c65; rw [c65]; rfl) (by have e_ := back_hi (X := B 1) (Y := comeF (B 1) t nr nb r_) hf (fun j hj => come_hi (by omega) (by omega)); have h_ := hP31; rw [e_, upA_id] at h_; exact h_) ((ho2.tr ho19).tr ho32)
        refine Ev.pick (L' := [(0, .ref m), (1, .int (nI p)), (2, .int part), (3, .long 0), (5, .int 0)]) [2, 3, 4, 1, 0] rfl ?_
        exact lp40 ((nr - 0) + 1) 0 0 σ8 (Nat.lt_succ_self _) (Nat.zero_le _) rfl hP10 ho11
      · skip
        have hn0_ : nr = 0 := by
          by_cases e_ : nr = 0
          · exact e_
          · exact absurd c24 (nI_ne0 (by omega) (by omega))
        refine e_ldc2 (pc := 27) Xc (dT hX7_odds 14 rfl) w_k_X7_285 ?_
        refine e_lret (pc := 30) Xc hQ (dT hX7_odds 15 rfl) (Nat.le_refl _) (Nat.le_refl _) ?_
        have hz : v_odds (A 1) t nr nb (nI p) part = (-9223372036854775808) := by
          try simp only [bI_0, bI_1, Bool.not_eq_true, Bool.not_eq_false] at c5 c14 c24
          first | (simp [v_odds, c5, c14, c24, hc_p, hn0_]; done) | (clear hK hG hT hS hPl hNo hTa hA hJ hR hD hQ Xc; simp_all [v_odds]; done)
        exact ⟨hz.symm, ⟨_, _, _, hP, rfl, rfl, rfl, rfl, rfl⟩, Off.rf⟩
set_option maxRecDepth 100000 in
set_option maxHeartbeats 4000000 in
theorem p_mean {G : xG} {σ : xS} {m : Nat} {X Y bd : Nat → Int32} {hi rn : Int32} (hM : MK σ m X Y bd hi rn) {nr nb ns np nn nt na dy : Nat} {t : xT} (hK : OK X nr nb t ns np nn nt na dy) (n : Int32) (part : Int32) : CL G yX7_mean cX7_mean 7 (some .long) 7 0 0 [.ref m, .int n, .int part] σ (fun z σ1 => z = v_mean X t nr nb n part ∧ MK σ1 m X Y bd hi rn ∧ Off m σ σ1) := by
  refine Met.ofX (by decide +kernel) (Nat.le_of_ble_eq_true rfl) (fun μ Xc hQ hnm => ?_)
  have Xc : xC G μ cX7_mean 7 RX7 (some .long) 7 0 0 := Xc
  obtain ⟨F, T, A, hP, e1, e2, e3, e4, e5⟩ := hM
  subst e1 e2 e3 e4 e5
  obtain ⟨hG, hT, hS, hPl, hNo, hTa, hA, hJ, hR, hD⟩ := id hK
  have hr4 := hG.r4
  have hb7 := hG.b7
  have hs6 := hS.1
  have hp8 := hPl.1
  have hn8 := hNo.1
  have ht100 := hTa.1
  have ha5 := hA.1
  have hd9 := hD.1
  show Ev G μ 7 0 0 0 [(0, .ref m), (1, .int n), (2, .int part)] [] σ
  refine e_iload_n (pc := 0) Xc (dT hX7_mean 0 rfl) 1 rfl ?_
  refine e_iconst (v := 0) (pc := 1) Xc (dT hX7_mean 1 rfl) rfl ?_
  refine e_bipush (v := 40) (pc := 2) Xc (dT hX7_mean 2 rfl) rfl ?_
  refine cl_X7_50 (pc := 4) (k := 0) (n := 0) (S := []) Xc (c_in n 0 40) (dT hX7_mean 3 rfl) rfl (Nat.le_of_ble_eq_true rfl) (Nat.le_of_ble_eq_true rfl) (Nat.le_of_ble_eq_true rfl) rfl (Nat.le_of_ble_eq_true rfl) (fun r1 σ2 hq3 => ?_)
  obtain ⟨r1e, r1s⟩ := hq3
  have r1e := r1e.symm; subst r1e; have r1s := r1s.symm; subst r1s
  refine e_if_eq (tgt := 19) (pc := 7) Xc (dT hX7_mean 4 rfl) rfl (fun c7 => ?_) (fun c7 => ?_)
  · skip
    refine e_ldc2 (pc := 19) Xc (dT hX7_mean 10 rfl) w_k_X7_285 ?_
    refine e_lret (pc := 22) Xc hQ (dT hX7_mean 11 rfl) (Nat.le_refl _) (Nat.le_refl _) ?_
    have hz : v_mean (A 1) t nr nb n part = (-9223372036854775808) := by
      try simp only [bI_0, bI_1, Bool.not_eq_true, Bool.not_eq_false] at c7
      first | (simp [v_mean, c7]; done) | (clear hK hG hT hS hPl hNo hTa hA hJ hR hD hQ Xc; simp_all [v_mean]; done)
    exact ⟨hz.symm, ⟨_, _, _, hP, rfl, rfl, rfl, rfl, rfl⟩, Off.rf⟩
  · skip
    obtain ⟨kn_, hkn_, rfl⟩ := in_N (w := n) (n := 40) (by omega) (by have hcc := c7; simp only [bI_0, bI_1, Bool.not_eq_true, Bool.not_eq_false] at hcc; exact hcc)
    have hc_kn_ : cl (nI kn_) = kn_ := cl_nI (by omega)
    refine e_iload_n (pc := 10) Xc (dT hX7_mean 5 rfl) 2 rfl ?_
    refine e_iconst (v := 0) (pc := 11) Xc (dT hX7_mean 6 rfl) rfl ?_
    refine e_iconst (v := 1) (pc := 12) Xc (dT hX7_mean 7 rfl) rfl ?_
    refine cl_X7_50 (pc := 13) (k := 0) (n := 0) (S := []) Xc (c_in part 0 1) (dT hX7_mean 8 rfl) rfl (Nat.le_of_ble_eq_true rfl) (Nat.le_of_ble_eq_true rfl) (Nat.le_of_ble_eq_true rfl) rfl (Nat.le_of_ble_eq_true rfl) (fun r4 σ5 hq6 => ?_)
    obtain ⟨r4e, r4s⟩ := hq6
    have r4e := r4e.symm; subst r4e; have r4s := r4s.symm; subst r4s
    refine e_if_ne (tgt := 23) (pc := 16) Xc (dT hX7_mean 9 rfl) rfl (fun c16 => ?_) (fun c16 => ?_)
    · skip
      refine e_aload_n (pc := 23) Xc (dT hX7_mean 12 rfl) 0 rfl ?_
      refine cl_X7_202 (pc := 24) (k := 0) (n := 0) (S := []) Xc hP.o (c_keeps hP) (dT hX7_mean 13 rfl) rfl (Nat.le_of_ble_eq_true rfl) (Nat.le_of_ble_eq_true rfl) (Nat.le_of_ble_eq_true rfl) rfl (Nat.le_of_ble_eq_true rfl) (fun σ8 hq9 => ?_)
      obtain ⟨fr, hP10, hf0, ho11⟩ := hq9
      obtain ⟨B, hP10, b1, b2, b11, hf⟩ : ∃ B, PX7 σ8 m F T B ∧ A 1 = B 1 ∧ A 2 = B 2 ∧ A 11 = B 11 ∧ ∀ j, j < 12 → B 3 j = B 1 j := ⟨_, hP10, rfl, rfl, rfl, hf0⟩
      rw [b1] at hK
      rw [b1, b2, b11] at hQ
      try simp only [b1] at *
      obtain ⟨hG, hT, hS, hPl, hNo, hTa, hA, hJ, hR, hD⟩ := id hK
      refine e_aload_n (pc := 27) Xc (dT hX7_mean 14 rfl) 0 rfl ?_
      refine e_iload_n (pc := 28) Xc (dT hX7_mean 15 rfl) 1 rfl ?_
      refine cl_X7_269 (pc := 29) (k := 0) (n := 0) (S := []) Xc hP10.o (c_goesOn hP10 hG hT kn_ (by omega)) (dT hX7_mean 16 rfl) rfl (Nat.le_of_ble_eq_true rfl) (Nat.le_of_ble_eq_true rfl) (Nat.le_of_ble_eq_true rfl) rfl (Nat.le_of_ble_eq_true rfl) (fun σ13 hq14 => ?_)
      obtain ⟨hP15, ho16⟩ := hq14
      refine e_aload_n (pc := 32) Xc (dT hX7_mean 17 rfl) 0 rfl ?_
      refine cl_X7_186 (pc := 33) (k := 0) (n := 0) (S := []) Xc hP15.o (c_shelf hP15 (days_ok hG hT kn_).1) (dT hX7_mean 18 rfl) rfl (Nat.le_of_ble_eq_true rfl) (Nat.le_of_ble_eq_true rfl) (Nat.le_of_ble_eq_true rfl) rfl (Nat.le_of_ble_eq_true rfl) (fun r17 σ18 hq19 => ?_)
      obtain ⟨r17e, r17s⟩ := hq19
      have r17e := r17e.symm; subst r17e; have r17s := r17s.symm; subst r17s
      refine e_val (y := shelfF ((daysF (B 1) t nr nb kn_).2) nr nb) rfl ?_
      refine e_val (y := nI (shN (daysF (B 1) t nr nb kn_).2 nr nb)) (shN_eq hb7) ?_
      refine e_istore_n (L' := [(3, .int (nI (shN (daysF (B 1) t nr nb kn_).2 nr nb))), (0, .ref m), (1, .int (nI kn_)), (2, .int part)]) (pc := 36) Xc (dT hX7_mean 19 rfl) (by decide) rfl ?_
      refine e_aload_n (pc := 37) Xc (dT hX7_mean 20 rfl) 1 rfl ?_
      refine cl_X7_266 (pc := 38) (k := 0) (n := 0) (S := []) Xc hP15.o (c_shelfThick hP15 (days_ok hG hT kn_).1) (dT hX7_mean 21 rfl) rfl (Nat.le_of_ble_eq_true rfl) (Nat.le_of_ble_eq_true rfl) (Nat.le_of_ble_eq_true rfl) rfl (Nat.le_of_ble_eq_true rfl) (fun r20 σ21 hq22 => ?_)
      obtain ⟨r20e, r20s⟩ := hq22
      have r20e := r20e.symm; subst r20e; have r20s := r20s.symm; subst r20s
      refine e_val (y := shThF ((daysF (B 1) t nr nb kn_).2) nr nb) rfl ?_
      refine e_val (y := nI (thN (daysF (B 1) t nr nb kn_).2 nr nb)) (thN_eq (days_ok hG hT kn_).1).1 ?_
      refine e_istore (L' := [(4, .int (nI (thN (daysF (B 1) t nr nb kn_).2 nr nb))), (3, .int (nI (shN (daysF (B 1) t nr nb kn_).2 nr nb))), (0, .ref m), (1, .int (nI kn_)), (2, .int part)]) (pc := 41) Xc (dT hX7_mean 22 rfl) (by decide) rfl ?_
      refine e_aload_n (pc := 43) Xc (dT hX7_mean 23 rfl) 2 rfl ?_
      refine cl_X7_205 (pc := 44) (k := 0) (n := 0) (S := []) Xc hP15.o (c_goesBack hP15) (dT hX7_mean 24 rfl) rfl (Nat.le_of_ble_eq_true rfl) (Nat.le_of_ble_eq_true rfl) (Nat.le_of_ble_eq_true rfl) rfl (Nat.le_of_ble_eq_true rfl) (fun σ24 hq25 => ?_)
      obtain ⟨hP26, ho27⟩ := hq25
      have hP26 : PX7 σ24 m F T (upA B 1 (backF ((daysF (B 1) t nr nb kn_).2) (B 3))) := by rw [upA_2] at hP26; exact hP26
      have hpb_ := hP26
      rw [back_hi (X := B 1) hf (fun j hj => days_hi hr4 (by omega) _), upA_id] at hpb_
      have hth_ := (thN_eq (nr := nr) (nb := nb) (days_ok hG hT kn_).1).2
      refine e_iconst (v := 0) (pc := 47) Xc (dT hX7_mean 25 rfl) rfl ?_
      refine e_istore (L' := [(5, .int 0), (4, .int (nI (thN (daysF (B 1) t nr nb kn_).2 nr nb))), (3, .int (nI (shN (daysF (B 1) t nr nb kn_).2 nr nb))), (0, .ref m), (1, .int (nI kn_)), (2, .int part)]) (pc := 48) Xc (dT hX7_mean 26 rfl) (by decide) rfl ?_
      refine e_iconst (v := 0) (pc := 50) Xc (dT hX7_mean 27 rfl) rfl ?_
      refine e_istore (L' := [(6, .int 0), (5, .int 0), (4, .int (nI (thN (daysF (B 1) t nr nb kn_).2 nr nb))), (3, .int (nI (shN (daysF (B 1) t nr nb kn_).2 nr nb))), (0, .ref m), (1, .int (nI kn_)), (2, .int part)]) (pc := 51) Xc (dT hX7_mean 28 rfl) (by decide) rfl ?_
      have lp53 : ∀ (n53 : Nat) (k_ mn_ : Nat), 7 - k_ < n53 → (k_ ≤ 7) → (mn_ = popN (shN (daysF (B 1) t nr nb kn_).2 nr nb) k_) → Ev G μ 7 0 0 53 [(0, .ref m), (1, .int (nI kn_)), (2, .int part), (3, .int (nI (shN (daysF (B 1) t nr nb kn_).2 nr nb))), (4, .int (nI (thN (daysF (B 1) t nr nb kn_).2 nr nb))), (5, .int (nI mn_)), (6, .int (nI k_))] [] σ24 := by
        intro n53
        induction n53 with
        | zero => intro k_ mn_ hn; exact absurd hn (Nat.not_lt_zero _)
        | succ n53 ih53 =>
          intro k_ mn_ hn53 hk_ hmn_
          refine e_iload (pc := 53) Xc (dT hX7_mean 29 rfl) 6 rfl ?_
          refine e_bipush (v := 7) (pc := 55) Xc (dT hX7_mean 30 rfl) rfl ?_
          refine e_icmp_geN (x := k_) (y := 7) (tgt := 77) (pc := 57) Xc (dT hX7_mean 31 rfl) rfl (by omega) (by omega) (fun c57 => ?_) (fun c57 => ?_)
          · skip
            have hke_ : k_ = 7 := by omega
            have hfin_ : popN (shN (daysF (B 1) t nr nb kn_).2 nr nb) 7 = mn_ := by rw [hmn_, hke_]
            have hml_ : mn_ ≤ 7 := by rw [← hfin_]; exact popN_le _
            refine e_iload (pc := 77) Xc (dT hX7_mean 42 rfl) 5 rfl ?_
            refine e_if_ne (tgt := 88) (pc := 79) Xc (dT hX7_mean 43 rfl) rfl (fun c79 => ?_) (fun c79 => ?_)
            · skip
              have hm0_ : ¬ mn_ = 0 := fun e_ => c79 (by rw [e_]; rfl)
              refine e_iload (pc := 88) Xc (dT hX7_mean 46 rfl) 4 rfl ?_
              refine e_i2l (v := (nI (thN (daysF (B 1) t nr nb kn_).2 nr nb)).toInt64) (pc := 90) Xc (dT hX7_mean 47 rfl) rfl ?_
              refine e_valL (y := lN (thN (daysF (B 1) t nr nb kn_).2 nr nb)) (nI_l (by omega)) ?_
              refine e_iload (pc := 91) Xc (dT hX7_mean 48 rfl) 5 rfl ?_
              refine e_i2l (v := (nI mn_).toInt64) (pc := 93) Xc (dT hX7_mean 49 rfl) rfl ?_
              refine e_valL (y := lN mn_) (nI_l (by omega)) ?_
              refine e_iload_n (pc := 94) Xc (dT hX7_mean 50 rfl) 2 rfl ?_
              refine cl_X7_287 (pc := 95) (k := 0) (n := 0) (S := []) Xc (c_lowest (thN (daysF (B 1) t nr nb kn_).2 nr nb) mn_ (by omega) (by omega) (by omega) part) (dT hX7_mean 51 rfl) rfl (Nat.le_of_ble_eq_true rfl) (Nat.le_of_ble_eq_true rfl) (Nat.le_of_ble_eq_true rfl) rfl (Nat.le_of_ble_eq_true rfl) (fun r28 σ29 hq30 => ?_)
              obtain ⟨r28e, r28s⟩ := hq30
              have r28s := r28s.symm; subst r28s
              subst r28e
              refine e_lret (pc := 98) Xc hQ (dT hX7_mean 52 rfl) (Nat.le_refl _) (Nat.le_refl _) ?_
              have hz : v_mean (B 1) t nr nb (nI kn_) part = loF (thN (daysF (B 1) t nr nb kn_).2 nr nb) mn_ part := by
                try simp only [bI_0, bI_1, Bool.not_eq_true, Bool.not_eq_false] at c7 c16 c57 c79
                first | (simp [v_mean, c7, c16, c57, c79, hc_kn_, hfin_, hm0_]; done) | (clear hK hG hT hS hPl hNo hTa hA hJ hR hD hQ Xc; simp_all [v_mean]; done)
              exact ⟨hz.symm, ⟨_, _, _, hpb_, rfl, rfl, rfl, rfl, rfl⟩, ((ho11.tr ho16).tr ho27)⟩
            · skip
              have hm0_ : mn_ = 0 := by
                by_cases e_ : mn_ = 0
                · exact e_
                · exact absurd c79 (nI_ne0 (by omega) (by omega))
              refine e_ldc2 (pc := 82) Xc (dT hX7_mean 44 rfl) w_k_X7_285 ?_
              refine e_goto (tgt := 98) (pc := 85) Xc (dT hX7_mean 45 rfl) rfl ?_
              refine e_lret (pc := 98) Xc hQ (dT hX7_mean 52 rfl) (Nat.le_refl _) (Nat.le_refl _) ?_
              have hz : v_mean (B 1) t nr nb (nI kn_) part = (-9223372036854775808) := by
                try simp only [bI_0, bI_1, Bool.not_eq_true, Bool.not_eq_false] at c7 c16 c57 c79
                first | (simp [v_mean, c7, c16, c57, c79, hc_kn_, hfin_, hm0_]; done) | (clear hK hG hT hS hPl hNo hTa hA hJ hR hD hQ Xc; simp_all [v_mean]; done)
              exact ⟨hz.symm, ⟨_, _, _, hpb_, rfl, rfl, rfl, rfl, rfl⟩, ((ho11.tr ho16).tr ho27)⟩
          · skip
            refine e_iload (pc := 60) Xc (dT hX7_mean 32 rfl) 5 rfl ?_
            refine e_iload_n (pc := 62) Xc (dT hX7_mean 33 rfl) 3 rfl ?_
            refine e_iload (pc := 63) Xc (dT hX7_mean 34 rfl) 6 rfl ?_
            refine e_ishr (pc := 65) Xc (dT hX7_mean 35 rfl) ?_
            refine e_val (y := nI (shN (daysF (B 1) t nr nb kn_).2 nr nb / 2 ^ k_)) (shrN (by omega) (by have := shN_lt (X := (daysF (B 1) t nr nb kn_).2) (nr := nr) hb7; omega)) ?_
            refine e_iconst (v := 1) (pc := 66) Xc (dT hX7_mean 36 rfl) rfl ?_
            refine e_iand (pc := 67) Xc (dT hX7_mean 37 rfl) ?_
            refine e_val (y := nI (shN (daysF (B 1) t nr nb kn_).2 nr nb / 2 ^ k_ % 2)) (and1 _ (Nat.lt_of_le_of_lt (Nat.div_le_self _ _) (by have := shN_lt (X := (daysF (B 1) t nr nb kn_).2) (nr := nr) hb7; omega))) ?_
            refine e_iaddN (a := mn_) (b := shN (daysF (B 1) t nr nb kn_).2 nr nb / 2 ^ k_ % 2) (pc := 68) Xc (dT hX7_mean 38 rfl) ?_
            refine e_istore (L' := [(5, .int (nI (mn_ + (shN (daysF (B 1) t nr nb kn_).2 nr nb / 2 ^ k_ % 2)))), (0, .ref m), (1, .int (nI kn_)), (2, .int part), (3, .int (nI (shN (daysF (B 1) t nr nb kn_).2 nr nb))), (4, .int (nI (thN (daysF (B 1) t nr nb kn_).2 nr nb))), (6, .int (nI k_))]) (pc := 69) Xc (dT hX7_mean 39 rfl) (by decide) rfl ?_
            refine e_iincN (a := k_) (b := 1) (L' := [(6, .int (nI (k_ + 1))), (5, .int (nI (mn_ + (shN (daysF (B 1) t nr nb kn_).2 nr nb / 2 ^ k_ % 2)))), (0, .ref m), (1, .int (nI kn_)), (2, .int part), (3, .int (nI (shN (daysF (B 1) t nr nb kn_).2 nr nb))), (4, .int (nI (thN (daysF (B 1) t nr nb kn_).2 nr nb)))]) (pc := 71) Xc (dT hX7_mean 40 rfl) 6 rfl rfl (by decide) rfl ?_
            refine e_goto (tgt := 53) (pc := 74) Xc (dT hX7_mean 41 rfl) rfl ?_
            refine Ev.pick (L' := [(0, .ref m), (1, .int (nI kn_)), (2, .int part), (3, .int (nI (shN (daysF (B 1) t nr nb kn_).2 nr nb))), (4, .int (nI (thN (daysF (B 1) t nr nb kn_).2 nr nb))), (5, .int (nI (mn_ + (shN (daysF (B 1) t nr nb kn_).2 nr nb / 2 ^ k_ % 2)))), (6, .int (nI (k_ + 1)))]) [2, 3, 4, 5, 6, 1, 0] rfl ?_
            exact ih53 (k_ + 1) (mn_ + (shN (daysF (B 1) t nr nb kn_).2 nr nb / 2 ^ k_ % 2)) (by omega) (by omega) (by show _ = popN (shN (daysF (B 1) t nr nb kn_).2 nr nb) k_ + _; rw [← hmn_])
      refine Ev.pick (L' := [(0, .ref m), (1, .int (nI kn_)), (2, .int part), (3, .int (nI (shN (daysF (B 1) t nr nb kn_).2 nr nb))), (4, .int (nI (thN (daysF (B 1) t nr nb kn_).2 nr nb))), (5, .int 0), (6, .int 0)]) [4, 5, 6, 3, 2, 1, 0] rfl ?_
      exact lp53 ((7 - 0) + 1) 0 0 (Nat.lt_succ_self _) (Nat.zero_le _) rfl
    · skip
      refine e_ldc2 (pc := 19) Xc (dT hX7_mean 10 rfl) w_k_X7_285 ?_
      refine e_lret (pc := 22) Xc hQ (dT hX7_mean 11 rfl) (Nat.le_refl _) (Nat.le_refl _) ?_
      have hz : v_mean (A 1) t nr nb (nI kn_) part = (-9223372036854775808) := by
        try simp only [bI_0, bI_1, Bool.not_eq_true, Bool.not_eq_false] at c7 c16
        first | (simp [v_mean, c7, c16, hc_kn_]; done) | (clear hK hG hT hS hPl hNo hTa hA hJ hR hD hQ Xc; simp_all [v_mean]; done)
      exact ⟨hz.symm, ⟨_, _, _, hP, rfl, rfl, rfl, rfl, rfl⟩, Off.rf⟩
set_option maxRecDepth 100000 in
set_option maxHeartbeats 4000000 in
theorem p_plan {G : xG} {σ : xS} {m : Nat} {X Y bd : Nat → Int32} {hi rn : Int32} (hM : MK σ m X Y bd hi rn) {nr nb ns np nn nt na dy : Nat} {t : xT} (hK : OK X nr nb t ns np nn nt na dy) (w : Int32) (v : Int32) : CI G yX7_plan cX7_plan 3 (some .int) 2 0 0 [.ref m, .int w, .int v] σ (fun z σ1 => z = (v_plan X nr np w v).1 ∧ MK σ1 m (v_plan X nr np w v).2 Y bd hi rn ∧ Off m σ σ1) := by
  refine Met.ofX (by decide +kernel) (Nat.le_of_ble_eq_true rfl) (fun μ Xc hQ hnm => ?_)
  have Xc : xC G μ cX7_plan 3 RX7 (some .int) 2 0 0 := Xc
  obtain ⟨F, T, A, hP, e1, e2, e3, e4, e5⟩ := hM
  subst e1 e2 e3 e4 e5
  obtain ⟨hG, hT, hS, hPl, hNo, hTa, hA, hJ, hR, hD⟩ := id hK
  have hr4 := hG.r4
  have hb7 := hG.b7
  have hs6 := hS.1
  have hp8 := hPl.1
  have hn8 := hNo.1
  have ht100 := hTa.1
  have ha5 := hA.1
  have hd9 := hD.1
  show Ev G μ 3 0 0 0 [(0, .ref m), (1, .int w), (2, .int v)] [] σ
  refine e_iload_n (pc := 0) Xc (dT hX7_plan 0 rfl) 1 rfl ?_
  refine e_iconst (v := -1) (pc := 1) Xc (dT hX7_plan 1 rfl) rfl ?_
  refine e_icmp_ne (tgt := 15) (pc := 2) Xc (dT hX7_plan 2 rfl) rfl (fun c2 => ?_) (fun c2 => ?_)
  · skip
    refine e_iload_n (pc := 15) Xc (dT hX7_plan 10 rfl) 1 rfl ?_
    refine e_iconst (v := 0) (pc := 16) Xc (dT hX7_plan 11 rfl) rfl ?_
    refine e_iconst (v := 3) (pc := 17) Xc (dT hX7_plan 12 rfl) rfl ?_
    refine cl_X7_50 (pc := 18) (k := 0) (n := 0) (S := []) Xc (c_in w 0 3) (dT hX7_plan 13 rfl) rfl (Nat.le_of_ble_eq_true rfl) (Nat.le_of_ble_eq_true rfl) (Nat.le_of_ble_eq_true rfl) rfl (Nat.le_of_ble_eq_true rfl) (fun r1 σ2 hq3 => ?_)
    obtain ⟨r1e, r1s⟩ := hq3
    have r1e := r1e.symm; subst r1e; have r1s := r1s.symm; subst r1s
    refine e_if_eq (tgt := 37) (pc := 21) Xc (dT hX7_plan 14 rfl) rfl (fun c21 => ?_) (fun c21 => ?_)
    · skip
      refine e_iconst (v := -1) (pc := 37) Xc (dT hX7_plan 22 rfl) rfl ?_
      refine e_iret (pc := 38) Xc hQ (dT hX7_plan 23 rfl) (Nat.le_refl _) (Nat.le_refl _) ?_
      have hz : v_plan (A 1) nr np w v = ((-1), A 1) := by
        try simp only [bI_0, bI_1, Bool.not_eq_true, Bool.not_eq_false] at c2 c21
        first | (simp [v_plan, c2, c21, ← Int32.not_lt]; done) | (clear hK hG hT hS hPl hNo hTa hA hJ hR hD hQ Xc; simp_all [v_plan, ← Int32.not_lt]; done)
      rw [hz]
      exact ⟨rfl, ⟨_, _, _, hP, rfl, rfl, rfl, rfl, rfl⟩, Off.rf⟩
    · skip
      refine e_iload_n (pc := 24) Xc (dT hX7_plan 15 rfl) 1 rfl ?_
      refine e_iconst (v := 3) (pc := 25) Xc (dT hX7_plan 16 rfl) rfl ?_
      refine e_icmp_ge (tgt := 39) (pc := 26) Xc (dT hX7_plan 17 rfl) rfl (fun c26 => ?_) (fun c26 => ?_)
      · skip
        refine e_aload_n (pc := 39) Xc (dT hX7_plan 24 rfl) 0 rfl ?_
        refine gf_X7_9 (pc := 40) Xc (dT hX7_plan 25 rfl) hP.o rfl ?_
        refine e_bipush (v := 16) (pc := 43) Xc (dT hX7_plan 26 rfl) rfl ?_
        refine e_ialdN (pc := 45) Xc (dT hX7_plan 27 rfl) hP.a1 (by decide) rfl 16 rfl (by omega) (by decide) ?_
        refine e_val (y := nI np) hPl.2.1 ?_
        refine e_bipush (v := 8) (pc := 46) Xc (dT hX7_plan 28 rfl) rfl ?_
        refine e_icmp_neN (x := np) (y := 8) (tgt := 54) (pc := 48) Xc (dT hX7_plan 29 rfl) rfl (by omega) (by omega) (fun c48 => ?_) (fun c48 => ?_)
        · skip
          refine e_aload_n (pc := 54) Xc (dT hX7_plan 32 rfl) 0 rfl ?_
          refine gf_X7_9 (pc := 55) Xc (dT hX7_plan 33 rfl) hP.o rfl ?_
          refine e_bipush (v := 62) (pc := 58) Xc (dT hX7_plan 34 rfl) rfl ?_
          refine e_aload_n (pc := 60) Xc (dT hX7_plan 35 rfl) 0 rfl ?_
          refine gf_X7_9 (pc := 61) Xc (dT hX7_plan 36 rfl) hP.o rfl ?_
          refine e_bipush (v := 16) (pc := 64) Xc (dT hX7_plan 37 rfl) rfl ?_
          refine e_ialdN (pc := 66) Xc (dT hX7_plan 38 rfl) hP.a1 (by decide) rfl 16 rfl (by omega) (by decide) ?_
          refine e_val (y := nI np) hPl.2.1 ?_
          refine e_iaddN (a := 62) (b := np) (pc := 67) Xc (dT hX7_plan 39 rfl) ?_
          refine e_iload_n (pc := 68) Xc (dT hX7_plan 40 rfl) 1 rfl ?_
          refine e_iastN (pc := 69) Xc (dT hX7_plan 41 rfl) hP.a1 rfl (62 + np) rfl (by omega) (by decide) ?_
          refine Ev.gen (fun z => PX7 z m F T (upA A 1 (upd (A 1) (62 + np) w))) (hP.wa1 (g := (upd (A 1) (62 + np) w))) Off.set (fun σ4 hP5 ho6 => ?_)
          refine e_aload_n (pc := 70) Xc (dT hX7_plan 42 rfl) 0 rfl ?_
          refine gf_X7_9 (pc := 71) Xc (dT hX7_plan 43 rfl) hP5.o rfl ?_
          refine e_bipush (v := 70) (pc := 74) Xc (dT hX7_plan 44 rfl) rfl ?_
          refine e_aload_n (pc := 76) Xc (dT hX7_plan 45 rfl) 0 rfl ?_
          refine gf_X7_9 (pc := 77) Xc (dT hX7_plan 46 rfl) hP5.o rfl ?_
          refine e_bipush (v := 16) (pc := 80) Xc (dT hX7_plan 47 rfl) rfl ?_
          refine e_ialdN (pc := 82) Xc (dT hX7_plan 48 rfl) hP5.a1 (by decide) rfl 16 rfl (by omega) (by decide) ?_
          refine e_val (y := (upd (A 1) (62 + np) w) 16) rfl ?_
          refine e_val (y := A 1 16) (upd_n (by omega)) ?_
          refine e_val (y := nI np) hPl.2.1 ?_
          refine e_iaddN (a := 70) (b := np) (pc := 83) Xc (dT hX7_plan 49 rfl) ?_
          refine e_iload_n (pc := 84) Xc (dT hX7_plan 50 rfl) 2 rfl ?_
          refine e_iastN (pc := 85) Xc (dT hX7_plan 51 rfl) hP5.a1 rfl (70 + np) rfl (by omega) (by decide) ?_
          refine Ev.gen (fun z => PX7 z m F T (upA (upA A 1 (upd (A 1) (62 + np) w)) 1 (upd (upd (A 1) (62 + np) w) (70 + np) v))) (hP5.wa1 (g := (upd (upd (A 1) (62 + np) w) (70 + np) v))) Off.set (fun σ7 hP8 ho9 => ?_)
          have hP8 : PX7 σ7 m F T (upA A 1 (upd (upd (A 1) (62 + np) w) (70 + np) v)) := by rw [upA_2] at hP8; exact hP8
          refine e_aload_n (pc := 86) Xc (dT hX7_plan 52 rfl) 0 rfl ?_
          refine gf_X7_9 (pc := 87) Xc (dT hX7_plan 53 rfl) hP8.o rfl ?_
          refine e_bipush (v := 16) (pc := 90) Xc (dT hX7_plan 54 rfl) rfl ?_
          refine e_dup2 (pc := 92) Xc (dT hX7_plan 55 rfl) rfl rfl ?_
          refine e_ialdN (pc := 93) Xc (dT hX7_plan 56 rfl) hP8.a1 (by decide) rfl 16 rfl (by omega) (by decide) ?_
          refine e_val (y := (upd (upd (A 1) (62 + np) w) (70 + np) v) 16) rfl ?_
          refine e_val (y := A 1 16) ((upd_n (by omega)).trans (upd_n (by omega))) ?_
          refine e_val (y := nI np) hPl.2.1 ?_
          refine e_iconst (v := 1) (pc := 94) Xc (dT hX7_plan 57 rfl) rfl ?_
          refine e_iaddN (a := np) (b := 1) (pc := 95) Xc (dT hX7_plan 58 rfl) ?_
          refine e_iastN (pc := 96) Xc (dT hX7_plan 59 rfl) hP8.a1 rfl 16 rfl (by omega) (by decide) ?_
          refine Ev.gen (fun z => PX7 z m F T (upA (upA A 1 (upd (upd (A 1) (62 + np) w) (70 + np) v)) 1 (upd (upd (upd (A 1) (62 + np) w) (70 + np) v) 16 (nI (np + 1))))) (hP8.wa1 (g := (upd (upd (upd (A 1) (62 + np) w) (70 + np) v) 16 (nI (np + 1))))) Off.set (fun σ10 hP11 ho12 => ?_)
          have hP11 : PX7 σ10 m F T (upA A 1 (upd (upd (upd (A 1) (62 + np) w) (70 + np) v) 16 (nI (np + 1)))) := by rw [upA_2] at hP11; exact hP11
          refine e_aload_n (pc := 97) Xc (dT hX7_plan 60 rfl) 0 rfl ?_
          refine gf_X7_9 (pc := 98) Xc (dT hX7_plan 61 rfl) hP11.o rfl ?_
          refine e_bipush (v := 16) (pc := 101) Xc (dT hX7_plan 62 rfl) rfl ?_
          refine e_ialdN (pc := 103) Xc (dT hX7_plan 63 rfl) hP11.a1 (by decide) rfl 16 rfl (by omega) (by decide) ?_
          refine e_val (y := (upd (upd (upd (A 1) (62 + np) w) (70 + np) v) 16 (nI (np + 1))) 16) rfl ?_
          refine e_val (y := nI (np + 1)) upd_s ?_
          refine e_iret (pc := 104) Xc hQ (dT hX7_plan 64 rfl) (Nat.le_refl _) (Nat.le_refl _) ?_
          have hz : v_plan (A 1) nr np w v = (nI (np + 1), (upd (upd (upd (A 1) (62 + np) w) (70 + np) v) 16 (nI (np + 1)))) := by
            try simp only [bI_0, bI_1, Bool.not_eq_true, Bool.not_eq_false] at c2 c21 c26 c48
            first | (simp [v_plan, c2, c21, c26, c48, ← Int32.not_lt]; done) | (clear hK hG hT hS hPl hNo hTa hA hJ hR hD hQ Xc; simp_all [v_plan, ← Int32.not_lt]; done)
          rw [hz]
          exact ⟨rfl, ⟨_, _, _, hP11, rfl, rfl, rfl, rfl, rfl⟩, ((ho6.tr ho9).tr ho12)⟩
        · skip
          refine e_bipush (v := -4) (pc := 51) Xc (dT hX7_plan 30 rfl) rfl ?_
          refine e_iret (pc := 53) Xc hQ (dT hX7_plan 31 rfl) (Nat.le_refl _) (Nat.le_refl _) ?_
          have hz : v_plan (A 1) nr np w v = ((-4), A 1) := by
            try simp only [bI_0, bI_1, Bool.not_eq_true, Bool.not_eq_false] at c2 c21 c26 c48
            first | (simp [v_plan, c2, c21, c26, c48, ← Int32.not_lt]; done) | (clear hK hG hT hS hPl hNo hTa hA hJ hR hD hQ Xc; simp_all [v_plan, ← Int32.not_lt]; done)
          rw [hz]
          exact ⟨rfl, ⟨_, _, _, hP, rfl, rfl, rfl, rfl, rfl⟩, Off.rf⟩
      · skip
        refine e_aload_n (pc := 29) Xc (dT hX7_plan 18 rfl) 0 rfl ?_
        refine e_iload_n (pc := 30) Xc (dT hX7_plan 19 rfl) 2 rfl ?_
        refine cl_X7_165 (pc := 31) (k := 0) (n := 0) (S := []) Xc hP.o (c_isReader hP hG v) (dT hX7_plan 20 rfl) rfl (Nat.le_of_ble_eq_true rfl) (Nat.le_of_ble_eq_true rfl) (Nat.le_of_ble_eq_true rfl) rfl (Nat.le_of_ble_eq_true rfl) (fun r13 σ14 hq15 => ?_)
        obtain ⟨r13e, r13s⟩ := hq15
        have r13e := r13e.symm; subst r13e; have r13s := r13s.symm; subst r13s
        refine e_if_ne (tgt := 39) (pc := 34) Xc (dT hX7_plan 21 rfl) rfl (fun c34 => ?_) (fun c34 => ?_)
        · skip
          refine e_aload_n (pc := 39) Xc (dT hX7_plan 24 rfl) 0 rfl ?_
          refine gf_X7_9 (pc := 40) Xc (dT hX7_plan 25 rfl) hP.o rfl ?_
          refine e_bipush (v := 16) (pc := 43) Xc (dT hX7_plan 26 rfl) rfl ?_
          refine e_ialdN (pc := 45) Xc (dT hX7_plan 27 rfl) hP.a1 (by decide) rfl 16 rfl (by omega) (by decide) ?_
          refine e_val (y := nI np) hPl.2.1 ?_
          refine e_bipush (v := 8) (pc := 46) Xc (dT hX7_plan 28 rfl) rfl ?_
          refine e_icmp_neN (x := np) (y := 8) (tgt := 54) (pc := 48) Xc (dT hX7_plan 29 rfl) rfl (by omega) (by omega) (fun c48 => ?_) (fun c48 => ?_)
          · skip
            refine e_aload_n (pc := 54) Xc (dT hX7_plan 32 rfl) 0 rfl ?_
            refine gf_X7_9 (pc := 55) Xc (dT hX7_plan 33 rfl) hP.o rfl ?_
            refine e_bipush (v := 62) (pc := 58) Xc (dT hX7_plan 34 rfl) rfl ?_
            refine e_aload_n (pc := 60) Xc (dT hX7_plan 35 rfl) 0 rfl ?_
            refine gf_X7_9 (pc := 61) Xc (dT hX7_plan 36 rfl) hP.o rfl ?_
            refine e_bipush (v := 16) (pc := 64) Xc (dT hX7_plan 37 rfl) rfl ?_
            refine e_ialdN (pc := 66) Xc (dT hX7_plan 38 rfl) hP.a1 (by decide) rfl 16 rfl (by omega) (by decide) ?_
            refine e_val (y := nI np) hPl.2.1 ?_
            refine e_iaddN (a := 62) (b := np) (pc := 67) Xc (dT hX7_plan 39 rfl) ?_
            refine e_iload_n (pc := 68) Xc (dT hX7_plan 40 rfl) 1 rfl ?_
            refine e_iastN (pc := 69) Xc (dT hX7_plan 41 rfl) hP.a1 rfl (62 + np) rfl (by omega) (by decide) ?_
            refine Ev.gen (fun z => PX7 z m F T (upA A 1 (upd (A 1) (62 + np) w))) (hP.wa1 (g := (upd (A 1) (62 + np) w))) Off.set (fun σ16 hP17 ho18 => ?_)
            refine e_aload_n (pc := 70) Xc (dT hX7_plan 42 rfl) 0 rfl ?_
            refine gf_X7_9 (pc := 71) Xc (dT hX7_plan 43 rfl) hP17.o rfl ?_
            refine e_bipush (v := 70) (pc := 74) Xc (dT hX7_plan 44 rfl) rfl ?_
            refine e_aload_n (pc := 76) Xc (dT hX7_plan 45 rfl) 0 rfl ?_
            refine gf_X7_9 (pc := 77) Xc (dT hX7_plan 46 rfl) hP17.o rfl ?_
            refine e_bipush (v := 16) (pc := 80) Xc (dT hX7_plan 47 rfl) rfl ?_
            refine e_ialdN (pc := 82) Xc (dT hX7_plan 48 rfl) hP17.a1 (by decide) rfl 16 rfl (by omega) (by decide) ?_
            refine e_val (y := (upd (A 1) (62 + np) w) 16) rfl ?_
            refine e_val (y := A 1 16) (upd_n (by omega)) ?_
            refine e_val (y := nI np) hPl.2.1 ?_
            refine e_iaddN (a := 70) (b := np) (pc := 83) Xc (dT hX7_plan 49 rfl) ?_
            refine e_iload_n (pc := 84) Xc (dT hX7_plan 50 rfl) 2 rfl ?_
            refine e_iastN (pc := 85) Xc (dT hX7_plan 51 rfl) hP17.a1 rfl (70 + np) rfl (by omega) (by decide) ?_
            refine Ev.gen (fun z => PX7 z m F T (upA (upA A 1 (upd (A 1) (62 + np) w)) 1 (upd (upd (A 1) (62 + np) w) (70 + np) v))) (hP17.wa1 (g := (upd (upd (A 1) (62 + np) w) (70 + np) v))) Off.set (fun σ19 hP20 ho21 => ?_)
            have hP20 : PX7 σ19 m F T (upA A 1 (upd (upd (A 1) (62 + np) w) (70 + np) v)) := by rw [upA_2] at hP20; exact hP20
            refine e_aload_n (pc := 86) Xc (dT hX7_plan 52 rfl) 0 rfl ?_
            refine gf_X7_9 (pc := 87) Xc (dT hX7_plan 53 rfl) hP20.o rfl ?_
            refine e_bipush (v := 16) (pc := 90) Xc (dT hX7_plan 54 rfl) rfl ?_
            refine e_dup2 (pc := 92) Xc (dT hX7_plan 55 rfl) rfl rfl ?_
            refine e_ialdN (pc := 93) Xc (dT hX7_plan 56 rfl) hP20.a1 (by decide) rfl 16 rfl (by omega) (by decide) ?_
            refine e_val (y := (upd (upd (A 1) (62 + np) w) (70 + np) v) 16) rfl ?_
            refine e_val (y := A 1 16) ((upd_n (by omega)).trans (upd_n (by omega))) ?_
            refine e_val (y := nI np) hPl.2.1 ?_
            refine e_iconst (v := 1) (pc := 94) Xc (dT hX7_plan 57 rfl) rfl ?_
            refine e_iaddN (a := np) (b := 1) (pc := 95) Xc (dT hX7_plan 58 rfl) ?_
            refine e_iastN (pc := 96) Xc (dT hX7_plan 59 rfl) hP20.a1 rfl 16 rfl (by omega) (by decide) ?_
            refine Ev.gen (fun z => PX7 z m F T (upA (upA A 1 (upd (upd (A 1) (62 + np) w) (70 + np) v)) 1 (upd (upd (upd (A 1) (62 + np) w) (70 + np) v) 16 (nI (np + 1))))) (hP20.wa1 (g := (upd (upd (upd (A 1) (62 + np) w) (70 + np) v) 16 (nI (np + 1))))) Off.set (fun σ22 hP23 ho24 => ?_)
            have hP23 : PX7 σ22 m F T (upA A 1 (upd (upd (upd (A 1) (62 + np) w) (70 + np) v) 16 (nI (np + 1)))) := by rw [upA_2] at hP23; exact hP23
            refine e_aload_n (pc := 97) Xc (dT hX7_plan 60 rfl) 0 rfl ?_
            refine gf_X7_9 (pc := 98) Xc (dT hX7_plan 61 rfl) hP23.o rfl ?_
            refine e_bipush (v := 16) (pc := 101) Xc (dT hX7_plan 62 rfl) rfl ?_
            refine e_ialdN (pc := 103) Xc (dT hX7_plan 63 rfl) hP23.a1 (by decide) rfl 16 rfl (by omega) (by decide) ?_
            refine e_val (y := (upd (upd (upd (A 1) (62 + np) w) (70 + np) v) 16 (nI (np + 1))) 16) rfl ?_
            refine e_val (y := nI (np + 1)) upd_s ?_
            refine e_iret (pc := 104) Xc hQ (dT hX7_plan 64 rfl) (Nat.le_refl _) (Nat.le_refl _) ?_
            have hz : v_plan (A 1) nr np w v = (nI (np + 1), (upd (upd (upd (A 1) (62 + np) w) (70 + np) v) 16 (nI (np + 1)))) := by
              try simp only [bI_0, bI_1, Bool.not_eq_true, Bool.not_eq_false] at c2 c21 c26 c34 c48
              first | (simp [v_plan, c2, c21, c26, c34, c48, ← Int32.not_lt]; done) | (clear hK hG hT hS hPl hNo hTa hA hJ hR hD hQ Xc; simp_all [v_plan, ← Int32.not_lt]; done)
            rw [hz]
            exact ⟨rfl, ⟨_, _, _, hP23, rfl, rfl, rfl, rfl, rfl⟩, ((ho18.tr ho21).tr ho24)⟩
          · skip
            refine e_bipush (v := -4) (pc := 51) Xc (dT hX7_plan 30 rfl) rfl ?_
            refine e_iret (pc := 53) Xc hQ (dT hX7_plan 31 rfl) (Nat.le_refl _) (Nat.le_refl _) ?_
            have hz : v_plan (A 1) nr np w v = ((-4), A 1) := by
              try simp only [bI_0, bI_1, Bool.not_eq_true, Bool.not_eq_false] at c2 c21 c26 c34 c48
              first | (simp [v_plan, c2, c21, c26, c34, c48, ← Int32.not_lt]; done) | (clear hK hG hT hS hPl hNo hTa hA hJ hR hD hQ Xc; simp_all [v_plan, ← Int32.not_lt]; done)
            rw [hz]
            exact ⟨rfl, ⟨_, _, _, hP, rfl, rfl, rfl, rfl, rfl⟩, Off.rf⟩
        · skip
          refine e_iconst (v := -1) (pc := 37) Xc (dT hX7_plan 22 rfl) rfl ?_
          refine e_iret (pc := 38) Xc hQ (dT hX7_plan 23 rfl) (Nat.le_refl _) (Nat.le_refl _) ?_
          have hz : v_plan (A 1) nr np w v = ((-1), A 1) := by
            try simp only [bI_0, bI_1, Bool.not_eq_true, Bool.not_eq_false] at c2 c21 c26 c34
            first | (simp [v_plan, c2, c21, c26, c34, ← Int32.not_lt]; done) | (clear hK hG hT hS hPl hNo hTa hA hJ hR hD hQ Xc; simp_all [v_plan, ← Int32.not_lt]; done)
          rw [hz]
          exact ⟨rfl, ⟨_, _, _, hP, rfl, rfl, rfl, rfl, rfl⟩, Off.rf⟩
  · skip
    refine e_aload_n (pc := 5) Xc (dT hX7_plan 3 rfl) 0 rfl ?_
    refine gf_X7_9 (pc := 6) Xc (dT hX7_plan 4 rfl) hP.o rfl ?_
    refine e_bipush (v := 16) (pc := 9) Xc (dT hX7_plan 5 rfl) rfl ?_
    refine e_iconst (v := 0) (pc := 11) Xc (dT hX7_plan 6 rfl) rfl ?_
    refine e_iastN (pc := 12) Xc (dT hX7_plan 7 rfl) hP.a1 rfl 16 rfl (by omega) (by decide) ?_
    refine Ev.gen (fun z => PX7 z m F T (upA A 1 (upd (A 1) 16 0))) (hP.wa1 (g := (upd (A 1) 16 0))) Off.set (fun σ25 hP26 ho27 => ?_)
    refine e_iconst (v := 0) (pc := 13) Xc (dT hX7_plan 8 rfl) rfl ?_
    refine e_iret (pc := 14) Xc hQ (dT hX7_plan 9 rfl) (Nat.le_refl _) (Nat.le_refl _) ?_
    have hz : v_plan (A 1) nr np w v = (0, (upd (A 1) 16 0)) := by
      try simp only [bI_0, bI_1, Bool.not_eq_true, Bool.not_eq_false] at c2
      first | (simp [v_plan, c2, ← Int32.not_lt]; done) | (clear hK hG hT hS hPl hNo hTa hA hJ hR hD hQ Xc; simp_all [v_plan, ← Int32.not_lt]; done)
    rw [hz]
    exact ⟨rfl, ⟨_, _, _, hP26, rfl, rfl, rfl, rfl, rfl⟩, ho27⟩
set_option maxRecDepth 100000 in
set_option maxHeartbeats 4000000 in
theorem c_does {G : xG} {σ : xS} {m : Nat} {F : Nat → Int32} {T : Nat → Nat} {A : Nat → Nat → Int32} (hP : PX7 σ m F T A) {nr nb : Nat} (hG : Gd (A 1) nr nb) {t : xT} (hT : Hd (A 1) t) (w v : Int32) (hw : ∃ wn, wn ≤ 3 ∧ w = nI wn ∧ (wn < 3 → ∃ q, q < nr ∧ v = nI q)) : CV G yX7_does cX7_does 3 none 6 0 0 [.ref m, .int w, .int v] σ (fun σ1 => PX7 σ1 m F T (upA A 1 (doesF (A 1) t nr nb w v)) ∧ Off m σ σ1) := by
  refine Met.ofX (by decide +kernel) (Nat.le_of_ble_eq_true rfl) (fun μ Xc hQ hnm => ?_)
  have Xc : xC G μ cX7_does 3 RX7 none 6 0 0 := Xc
  have hr4 := hG.r4
  show Ev G μ 3 0 0 0 [(0, .ref m), (1, .int w), (2, .int v)] [] σ
  obtain ⟨wn, hwn, rfl, hv⟩ := hw
  rcases (show wn = 0 ∨ wn = 1 ∨ wn = 2 ∨ wn = 3 by omega) with rfl | rfl | rfl | rfl
  · skip
    obtain ⟨q, hq, rfl⟩ := hv (by decide)
    have hc_q : cl (nI q) = q := cl_nI (by omega)
    refine e_iload_n (pc := 0) Xc (dT hX7_does 0 rfl) 1 rfl ?_
    refine e_if_ne (tgt := 13) (pc := 1) Xc (dT hX7_does 1 rfl) rfl (fun c1 => ?_) (fun c1 => ?_)
    · skip
      exact absurd c1 (by decide)
    · skip
      refine e_aload_n (pc := 4) Xc (dT hX7_does 2 rfl) 0 rfl ?_
      refine e_iload_n (pc := 5) Xc (dT hX7_does 3 rfl) 2 rfl ?_
      refine cl_X7_189 (pc := 6) (k := 0) (n := 0) (S := []) Xc hP.o (c_comes hP hG hT q (by omega)) (dT hX7_does 4 rfl) rfl (Nat.le_of_ble_eq_true rfl) (Nat.le_of_ble_eq_true rfl) (Nat.le_of_ble_eq_true rfl) rfl (Nat.le_of_ble_eq_true rfl) (fun r1 σ2 hq3 => ?_)
      obtain ⟨r1e, hP4, ho5⟩ := hq3
      have r1e := r1e.symm; subst r1e
      refine e_pop (pc := 9) Xc (dT hX7_does 5 rfl) rfl ?_
      refine e_goto (tgt := 41) (pc := 10) Xc (dT hX7_does 6 rfl) rfl ?_
      refine e_vret (pc := 41) Xc hQ (dT hX7_does 23 rfl) (Nat.le_refl _) (Nat.le_refl _) ?_
      refine ⟨?_, ho5⟩
      rw [doesF, if_pos (show nI 0 = 0 from rfl), hc_q]
      exact hP4
  · skip
    obtain ⟨q, hq, rfl⟩ := hv (by decide)
    have hc_q : cl (nI q) = q := cl_nI (by omega)
    refine e_iload_n (pc := 0) Xc (dT hX7_does 0 rfl) 1 rfl ?_
    refine e_if_ne (tgt := 13) (pc := 1) Xc (dT hX7_does 1 rfl) rfl (fun c1 => ?_) (fun c1 => ?_)
    · skip
      refine e_iload_n (pc := 13) Xc (dT hX7_does 7 rfl) 1 rfl ?_
      refine e_iconst (v := 3) (pc := 14) Xc (dT hX7_does 8 rfl) rfl ?_
      refine e_icmp_neN (x := 1) (y := 3) (tgt := 26) (pc := 15) Xc (dT hX7_does 9 rfl) rfl (by have := hG.1; omega) (by have := hG.1; omega) (fun c15 => ?_) (fun c15 => ?_)
      · skip
        refine e_aload_n (pc := 26) Xc (dT hX7_does 14 rfl) 0 rfl ?_
        refine e_iload_n (pc := 27) Xc (dT hX7_does 15 rfl) 2 rfl ?_
        refine e_iload_n (pc := 28) Xc (dT hX7_does 16 rfl) 1 rfl ?_
        refine e_iconst (v := 1) (pc := 29) Xc (dT hX7_does 17 rfl) rfl ?_
        refine e_icmp_neN (x := 1) (y := 1) (tgt := 37) (pc := 30) Xc (dT hX7_does 18 rfl) rfl (by have := hG.1; omega) (by have := hG.1; omega) (fun c30 => ?_) (fun c30 => ?_)
        · skip
          exact absurd c30 (by decide)
        · skip
          refine e_iconst (v := 1) (pc := 33) Xc (dT hX7_does 19 rfl) rfl ?_
          refine e_goto (tgt := 38) (pc := 34) Xc (dT hX7_does 20 rfl) rfl ?_
          refine cl_X7_195 (pc := 38) (k := 0) (n := 0) (S := []) Xc hP.o (c_pastes hP hG q (by omega) 1) (dT hX7_does 22 rfl) rfl (Nat.le_of_ble_eq_true rfl) (Nat.le_of_ble_eq_true rfl) (Nat.le_of_ble_eq_true rfl) rfl (Nat.le_of_ble_eq_true rfl) (fun σ7 hq8 => ?_)
          obtain ⟨hP9, ho10⟩ := hq8
          refine e_vret (pc := 41) Xc hQ (dT hX7_does 23 rfl) (Nat.le_refl _) (Nat.le_refl _) ?_
          refine ⟨?_, ho10⟩
          rw [doesF, if_neg (by decide), if_neg (by decide), if_pos (show nI 1 = 1 from rfl), hc_q]
          exact hP9
      · skip
        exact absurd c15 (by decide)
    · skip
      exact absurd c1 (by decide)
  · skip
    obtain ⟨q, hq, rfl⟩ := hv (by decide)
    have hc_q : cl (nI q) = q := cl_nI (by omega)
    refine e_iload_n (pc := 0) Xc (dT hX7_does 0 rfl) 1 rfl ?_
    refine e_if_ne (tgt := 13) (pc := 1) Xc (dT hX7_does 1 rfl) rfl (fun c1 => ?_) (fun c1 => ?_)
    · skip
      refine e_iload_n (pc := 13) Xc (dT hX7_does 7 rfl) 1 rfl ?_
      refine e_iconst (v := 3) (pc := 14) Xc (dT hX7_does 8 rfl) rfl ?_
      refine e_icmp_neN (x := 2) (y := 3) (tgt := 26) (pc := 15) Xc (dT hX7_does 9 rfl) rfl (by have := hG.1; omega) (by have := hG.1; omega) (fun c15 => ?_) (fun c15 => ?_)
      · skip
        refine e_aload_n (pc := 26) Xc (dT hX7_does 14 rfl) 0 rfl ?_
        refine e_iload_n (pc := 27) Xc (dT hX7_does 15 rfl) 2 rfl ?_
        refine e_iload_n (pc := 28) Xc (dT hX7_does 16 rfl) 1 rfl ?_
        refine e_iconst (v := 1) (pc := 29) Xc (dT hX7_does 17 rfl) rfl ?_
        refine e_icmp_neN (x := 2) (y := 1) (tgt := 37) (pc := 30) Xc (dT hX7_does 18 rfl) rfl (by have := hG.1; omega) (by have := hG.1; omega) (fun c30 => ?_) (fun c30 => ?_)
        · skip
          refine e_iconst (v := 0) (pc := 37) Xc (dT hX7_does 21 rfl) rfl ?_
          refine cl_X7_195 (pc := 38) (k := 0) (n := 0) (S := []) Xc hP.o (c_pastes hP hG q (by omega) 0) (dT hX7_does 22 rfl) rfl (Nat.le_of_ble_eq_true rfl) (Nat.le_of_ble_eq_true rfl) (Nat.le_of_ble_eq_true rfl) rfl (Nat.le_of_ble_eq_true rfl) (fun σ12 hq13 => ?_)
          obtain ⟨hP14, ho15⟩ := hq13
          refine e_vret (pc := 41) Xc hQ (dT hX7_does 23 rfl) (Nat.le_refl _) (Nat.le_refl _) ?_
          refine ⟨?_, ho15⟩
          rw [doesF, if_neg (by decide), if_neg (by decide), if_neg (by decide), hc_q]
          exact hP14
        · skip
          exact absurd c30 (by decide)
      · skip
        exact absurd c15 (by decide)
    · skip
      exact absurd c1 (by decide)
  · skip
    refine e_iload_n (pc := 0) Xc (dT hX7_does 0 rfl) 1 rfl ?_
    refine e_if_ne (tgt := 13) (pc := 1) Xc (dT hX7_does 1 rfl) rfl (fun c1 => ?_) (fun c1 => ?_)
    · skip
      refine e_iload_n (pc := 13) Xc (dT hX7_does 7 rfl) 1 rfl ?_
      refine e_iconst (v := 3) (pc := 14) Xc (dT hX7_does 8 rfl) rfl ?_
      refine e_icmp_neN (x := 3) (y := 3) (tgt := 26) (pc := 15) Xc (dT hX7_does 9 rfl) rfl (by have := hG.1; omega) (by have := hG.1; omega) (fun c15 => ?_) (fun c15 => ?_)
      · skip
        exact absurd c15 (by decide)
      · skip
        refine e_aload_n (pc := 18) Xc (dT hX7_does 10 rfl) 0 rfl ?_
        refine cl_X7_199 (pc := 19) (k := 0) (n := 0) (S := []) Xc hP.o (c_goes hP hG hT) (dT hX7_does 11 rfl) rfl (Nat.le_of_ble_eq_true rfl) (Nat.le_of_ble_eq_true rfl) (Nat.le_of_ble_eq_true rfl) rfl (Nat.le_of_ble_eq_true rfl) (fun r16 σ17 hq18 => ?_)
        obtain ⟨r16e, hP19, ho20⟩ := hq18
        have r16e := r16e.symm; subst r16e
        refine e_pop (pc := 22) Xc (dT hX7_does 12 rfl) rfl ?_
        refine e_goto (tgt := 41) (pc := 23) Xc (dT hX7_does 13 rfl) rfl ?_
        refine e_vret (pc := 41) Xc hQ (dT hX7_does 23 rfl) (Nat.le_refl _) (Nat.le_refl _) ?_
        refine ⟨?_, ho20⟩
        rw [doesF, if_neg (by decide), if_pos (show nI 3 = 3 from rfl)]
        exact hP19
    · skip
      exact absurd c1 (by decide)
set_option maxRecDepth 100000 in
set_option maxHeartbeats 4000000 in
theorem p_done {G : xG} {σ : xS} {m : Nat} {X Y bd : Nat → Int32} {hi rn : Int32} (hM : MK σ m X Y bd hi rn) {nr nb ns np nn nt na dy : Nat} {t : xT} (hK : OK X nr nb t ns np nn nt na dy) (w : Int32) : CI G yX7_done cX7_done 3 (some .int) 7 0 0 [.ref m, .int w] σ (fun z σ1 => z = v_done X t nr nb np w ∧ MK σ1 m X Y bd hi rn ∧ Off m σ σ1) := by
  refine Met.ofX (by decide +kernel) (Nat.le_of_ble_eq_true rfl) (fun μ Xc hQ hnm => ?_)
  have Xc : xC G μ cX7_done 3 RX7 (some .int) 7 0 0 := Xc
  obtain ⟨F, T, A, hP, e1, e2, e3, e4, e5⟩ := hM
  subst e1 e2 e3 e4 e5
  obtain ⟨hG, hT, hS, hPl, hNo, hTa, hA, hJ, hR, hD⟩ := id hK
  have hr4 := hG.r4
  have hb7 := hG.b7
  have hs6 := hS.1
  have hp8 := hPl.1
  have hn8 := hNo.1
  have ht100 := hTa.1
  have ha5 := hA.1
  have hd9 := hD.1
  show Ev G μ 3 0 0 0 [(0, .ref m), (1, .int w)] [] σ
  refine e_iload_n (pc := 0) Xc (dT hX7_done 0 rfl) 1 rfl ?_
  refine e_iconst (v := 0) (pc := 1) Xc (dT hX7_done 1 rfl) rfl ?_
  refine e_iconst (v := 1) (pc := 2) Xc (dT hX7_done 2 rfl) rfl ?_
  refine cl_X7_50 (pc := 3) (k := 0) (n := 0) (S := []) Xc (c_in w 0 1) (dT hX7_done 3 rfl) rfl (Nat.le_of_ble_eq_true rfl) (Nat.le_of_ble_eq_true rfl) (Nat.le_of_ble_eq_true rfl) rfl (Nat.le_of_ble_eq_true rfl) (fun r1 σ2 hq3 => ?_)
  obtain ⟨r1e, r1s⟩ := hq3
  have r1e := r1e.symm; subst r1e; have r1s := r1s.symm; subst r1s
  refine e_if_ne (tgt := 13) (pc := 6) Xc (dT hX7_done 4 rfl) rfl (fun c6 => ?_) (fun c6 => ?_)
  · skip
    refine e_aload_n (pc := 13) Xc (dT hX7_done 7 rfl) 0 rfl ?_
    refine cl_X7_202 (pc := 14) (k := 0) (n := 0) (S := []) Xc hP.o (c_keeps hP) (dT hX7_done 8 rfl) rfl (Nat.le_of_ble_eq_true rfl) (Nat.le_of_ble_eq_true rfl) (Nat.le_of_ble_eq_true rfl) rfl (Nat.le_of_ble_eq_true rfl) (fun σ5 hq6 => ?_)
    obtain ⟨fr, hP7, hf0, ho8⟩ := hq6
    obtain ⟨B, hP7, b1, b2, b11, hf⟩ : ∃ B, PX7 σ5 m F T B ∧ A 1 = B 1 ∧ A 2 = B 2 ∧ A 11 = B 11 ∧ ∀ j, j < 12 → B 3 j = B 1 j := ⟨_, hP7, rfl, rfl, rfl, hf0⟩
    rw [b1] at hK
    rw [b1, b2, b11] at hQ
    try simp only [b1] at *
    obtain ⟨hG, hT, hS, hPl, hNo, hTa, hA, hJ, hR, hD⟩ := id hK
    refine e_iconst (v := 0) (pc := 17) Xc (dT hX7_done 9 rfl) rfl ?_
    refine e_istore_n (L' := [(2, .int 0), (0, .ref m), (1, .int w)]) (pc := 18) Xc (dT hX7_done 10 rfl) (by decide) rfl ?_
    have lp19 : ∀ (n19 : Nat) (k_ : Nat) (X1 : Nat → Int32) (σ2 : xS), np - k_ < n19 → (k_ ≤ np) → (X1 = doN (B 1) t nr nb k_) → (Gd X1 nr nb) → (Hd X1 t) → (PX7 σ2 m F T (upA B 1 X1)) → (Off m σ σ2) → Ev G μ 3 0 0 19 [(0, .ref m), (1, .int w), (2, .int (nI k_))] [] σ2 := by
      intro n19
      induction n19 with
      | zero => intro k_ X1 σ2 hn; exact absurd hn (Nat.not_lt_zero _)
      | succ n19 ih19 =>
        intro k_ X1 σ2 hn19 hk_ hX_ hG1 hT1 hp ho
        refine e_iload_n (pc := 19) Xc (dT hX7_done 11 rfl) 2 rfl ?_
        refine e_aload_n (pc := 20) Xc (dT hX7_done 12 rfl) 0 rfl ?_
        refine gf_X7_9 (pc := 21) Xc (dT hX7_done 13 rfl) hp.o rfl ?_
        refine e_bipush (v := 16) (pc := 24) Xc (dT hX7_done 14 rfl) rfl ?_
        refine e_ialdN (pc := 26) Xc (dT hX7_done 15 rfl) hp.a1 (by decide) rfl 16 rfl (by omega) (by decide) ?_
        refine e_val (y := X1 16) rfl ?_
        refine e_val (y := nI np) (((by rw [hX_]; exact doN_hi hPl hG hT _ (by omega) _ (by decide)) : X1 16 = B 1 16).trans hPl.2.1) ?_
        refine e_icmp_geN (x := k_) (y := np) (tgt := 58) (pc := 27) Xc (dT hX7_done 16 rfl) rfl (by omega) (by omega) (fun c27 => ?_) (fun c27 => ?_)
        · skip
          have hke_ : k_ = np := by omega
          have hfin_ : doN (B 1) t nr nb np = X1 := by rw [hX_, hke_]
          refine e_iload_n (pc := 58) Xc (dT hX7_done 33 rfl) 1 rfl ?_
          refine e_if_ne (tgt := 69) (pc := 59) Xc (dT hX7_done 34 rfl) rfl (fun c59 => ?_) (fun c59 => ?_)
          · skip
            refine e_aload_n (pc := 69) Xc (dT hX7_done 38 rfl) 0 rfl ?_
            refine cl_X7_186 (pc := 70) (k := 0) (n := 0) (S := []) Xc hp.o (c_shelf hp hG1) (dT hX7_done 39 rfl) rfl (Nat.le_of_ble_eq_true rfl) (Nat.le_of_ble_eq_true rfl) (Nat.le_of_ble_eq_true rfl) rfl (Nat.le_of_ble_eq_true rfl) (fun r9 σ10 hq11 => ?_)
            obtain ⟨r9e, r9s⟩ := hq11
            have r9e := r9e.symm; subst r9e; have r9s := r9s.symm; subst r9s
            refine e_val (y := shelfF X1 nr nb) rfl ?_
            refine e_istore_n (L' := [(2, .int (shelfF X1 nr nb)), (0, .ref m), (1, .int w)]) (pc := 73) Xc (dT hX7_done 40 rfl) (by decide) rfl ?_
            refine e_aload_n (pc := 74) Xc (dT hX7_done 41 rfl) 1 rfl ?_
            refine cl_X7_205 (pc := 75) (k := 0) (n := 0) (S := []) Xc hp.o (c_goesBack hp) (dT hX7_done 42 rfl) rfl (Nat.le_of_ble_eq_true rfl) (Nat.le_of_ble_eq_true rfl) (Nat.le_of_ble_eq_true rfl) rfl (Nat.le_of_ble_eq_true rfl) (fun σ13 hq14 => ?_)
            obtain ⟨hP15, ho16⟩ := hq14
            have hP15 : PX7 σ13 m F T (upA B 1 (backF X1 (B 3))) := by rw [upA_2] at hP15; exact hP15
            refine e_iload_n (pc := 78) Xc (dT hX7_done 43 rfl) 0 rfl ?_
            refine e_iret (pc := 79) Xc hQ (dT hX7_done 44 rfl) (Nat.le_refl _) (Nat.le_refl _) ?_
            have hz : v_done (B 1) t nr nb np w = shelfF X1 nr nb := by
              try simp only [bI_0, bI_1, Bool.not_eq_true, Bool.not_eq_false] at c6 c27 c59
              first | (simp [v_done, c6, c27, c59, hfin_]; done) | (clear hK hG hT hS hPl hNo hTa hA hJ hR hD hQ Xc; simp_all [v_done]; done)
            exact ⟨hz.symm, ⟨_, _, _, hP15, (back_hi hf (fun j hj => by rw [hX_]; exact doN_hi hPl hG hT _ (by omega) _ hj)), rfl, rfl, rfl, rfl⟩, (ho.tr ho16)⟩
          · skip
            refine e_aload_n (pc := 62) Xc (dT hX7_done 35 rfl) 0 rfl ?_
            refine cl_X7_183 (pc := 63) (k := 0) (n := 0) (S := []) Xc hp.o (c_totalNow hp hG1 hT1) (dT hX7_done 36 rfl) rfl (Nat.le_of_ble_eq_true rfl) (Nat.le_of_ble_eq_true rfl) (Nat.le_of_ble_eq_true rfl) rfl (Nat.le_of_ble_eq_true rfl) (fun r17 σ18 hq19 => ?_)
            obtain ⟨r17e, hP20, ho21⟩ := hq19
            have r17e := r17e.symm; subst r17e
            refine e_val (y := totF X1 t nr) rfl ?_
            refine e_goto (tgt := 73) (pc := 66) Xc (dT hX7_done 37 rfl) rfl ?_
            refine e_istore_n (L' := [(2, .int (totF X1 t nr)), (0, .ref m), (1, .int w)]) (pc := 73) Xc (dT hX7_done 40 rfl) (by decide) rfl ?_
            refine e_aload_n (pc := 74) Xc (dT hX7_done 41 rfl) 1 rfl ?_
            refine cl_X7_205 (pc := 75) (k := 0) (n := 0) (S := []) Xc hP20.o (c_goesBack hP20) (dT hX7_done 42 rfl) rfl (Nat.le_of_ble_eq_true rfl) (Nat.le_of_ble_eq_true rfl) (Nat.le_of_ble_eq_true rfl) rfl (Nat.le_of_ble_eq_true rfl) (fun σ23 hq24 => ?_)
            obtain ⟨hP25, ho26⟩ := hq24
            have hP25 : PX7 σ23 m F T (upA B 1 (backF X1 (B 3))) := by rw [upA_2] at hP25; exact hP25
            refine e_iload_n (pc := 78) Xc (dT hX7_done 43 rfl) 0 rfl ?_
            refine e_iret (pc := 79) Xc hQ (dT hX7_done 44 rfl) (Nat.le_refl _) (Nat.le_refl _) ?_
            have hz : v_done (B 1) t nr nb np w = totF X1 t nr := by
              try simp only [bI_0, bI_1, Bool.not_eq_true, Bool.not_eq_false] at c6 c27 c59
              first | (simp [v_done, c6, c27, c59, hfin_]; done) | (clear hK hG hT hS hPl hNo hTa hA hJ hR hD hQ Xc; simp_all [v_done]; done)
            exact ⟨hz.symm, ⟨_, _, _, hP25, (back_hi hf (fun j hj => by rw [hX_]; exact doN_hi hPl hG hT _ (by omega) _ hj)), rfl, rfl, rfl, rfl⟩, ((ho.tr ho21).tr ho26)⟩
        · skip
          refine e_aload_n (pc := 30) Xc (dT hX7_done 17 rfl) 0 rfl ?_
          refine e_aload_n (pc := 31) Xc (dT hX7_done 18 rfl) 0 rfl ?_
          refine gf_X7_9 (pc := 32) Xc (dT hX7_done 19 rfl) hp.o rfl ?_
          refine e_bipush (v := 62) (pc := 35) Xc (dT hX7_done 20 rfl) rfl ?_
          refine e_iload_n (pc := 37) Xc (dT hX7_done 21 rfl) 2 rfl ?_
          refine e_iaddN (a := 62) (b := k_) (pc := 38) Xc (dT hX7_done 22 rfl) ?_
          refine e_ialdN (pc := 39) Xc (dT hX7_done 23 rfl) hp.a1 (by decide) rfl (62 + k_) rfl (by omega) (by decide) ?_
          refine e_val (y := X1 (62 + k_)) rfl ?_
          refine e_val (y := B 1 (62 + k_)) (by rw [hX_]; exact doN_hi hPl hG hT _ (by omega) _ (by omega)) ?_
          refine e_aload_n (pc := 40) Xc (dT hX7_done 24 rfl) 0 rfl ?_
          refine gf_X7_9 (pc := 41) Xc (dT hX7_done 25 rfl) hp.o rfl ?_
          refine e_bipush (v := 70) (pc := 44) Xc (dT hX7_done 26 rfl) rfl ?_
          refine e_iload_n (pc := 46) Xc (dT hX7_done 27 rfl) 2 rfl ?_
          refine e_iaddN (a := 70) (b := k_) (pc := 47) Xc (dT hX7_done 28 rfl) ?_
          refine e_ialdN (pc := 48) Xc (dT hX7_done 29 rfl) hp.a1 (by decide) rfl (70 + k_) rfl (by omega) (by decide) ?_
          refine e_val (y := X1 (70 + k_)) rfl ?_
          refine e_val (y := B 1 (70 + k_)) (by rw [hX_]; exact doN_hi hPl hG hT _ (by omega) _ (by omega)) ?_
          refine cl_X7_291 (pc := 49) (k := 0) (n := 0) (S := []) Xc hp.o (c_does hp hG1 hT1 (B 1 (62 + k_)) (B 1 (70 + k_)) (hPl.2.2 k_ (by omega))) (dT hX7_done 30 rfl) rfl (Nat.le_of_ble_eq_true rfl) (Nat.le_of_ble_eq_true rfl) (Nat.le_of_ble_eq_true rfl) rfl (Nat.le_of_ble_eq_true rfl) (fun σ28 hq29 => ?_)
          obtain ⟨hP30, ho31⟩ := hq29
          have hP30 : PX7 σ28 m F T (upA B 1 (doesF X1 t nr nb (B 1 (62 + k_)) (B 1 (70 + k_)))) := by rw [upA_2] at hP30; exact hP30
          refine e_iincN (a := k_) (b := 1) (L' := [(2, .int (nI (k_ + 1))), (0, .ref m), (1, .int w)]) (pc := 52) Xc (dT hX7_done 31 rfl) 2 rfl rfl (by decide) rfl ?_
          refine e_goto (tgt := 19) (pc := 55) Xc (dT hX7_done 32 rfl) rfl ?_
          refine Ev.pick (L' := [(0, .ref m), (1, .int w), (2, .int (nI (k_ + 1)))]) [1, 2, 0] rfl ?_
          exact ih19 (k_ + 1) (doesF X1 t nr nb (B 1 (62 + k_)) (B 1 (70 + k_))) σ28 (by omega) (by omega) (by rw [hX_]; rfl) ((does_ok hPl (by omega) hG1 hT1).1) ((does_ok hPl (by omega) hG1 hT1).2) hP30 (ho.tr ho31)
    refine Ev.pick (L' := [(0, .ref m), (1, .int w), (2, .int 0)]) [1, 2, 0] rfl ?_
    exact lp19 ((np - 0) + 1) 0 (B 1) σ5 (Nat.lt_succ_self _) (Nat.zero_le _) rfl hG hT (by rw [upA_id]; exact hP7) ho8
  · skip
    refine e_sipush (v := -10001) (pc := 9) Xc (dT hX7_done 5 rfl) rfl ?_
    refine e_iret (pc := 12) Xc hQ (dT hX7_done 6 rfl) (Nat.le_refl _) (Nat.le_refl _) ?_
    have hz : v_done (A 1) t nr nb np w = (-10001) := by
      try simp only [bI_0, bI_1, Bool.not_eq_true, Bool.not_eq_false] at c6
      first | (simp [v_done, c6]; done) | (clear hK hG hT hS hPl hNo hTa hA hJ hR hD hQ Xc; simp_all [v_done]; done)
    exact ⟨hz.symm, ⟨_, _, _, hP, rfl, rfl, rfl, rfl, rfl⟩, Off.rf⟩
set_option maxRecDepth 100000 in
set_option maxHeartbeats 4000000 in
theorem p_note {G : xG} {σ : xS} {m : Nat} {X Y bd : Nat → Int32} {hi rn : Int32} (hM : MK σ m X Y bd hi rn) {nr nb ns np nn nt na dy : Nat} {t : xT} (hK : OK X nr nb t ns np nn nt na dy) (v : Int32) (b : Int32) : CI G yX7_note cX7_note 3 (some .int) 2 0 0 [.ref m, .int v, .int b] σ (fun z σ1 => z = (v_note X nr nb nn v b).1 ∧ MK σ1 m (v_note X nr nb nn v b).2 Y bd hi rn ∧ Off m σ σ1) := by
  refine Met.ofX (by decide +kernel) (Nat.le_of_ble_eq_true rfl) (fun μ Xc hQ hnm => ?_)
  have Xc : xC G μ cX7_note 3 RX7 (some .int) 2 0 0 := Xc
  obtain ⟨F, T, A, hP, e1, e2, e3, e4, e5⟩ := hM
  subst e1 e2 e3 e4 e5
  obtain ⟨hG, hT, hS, hPl, hNo, hTa, hA, hJ, hR, hD⟩ := id hK
  have hr4 := hG.r4
  have hb7 := hG.b7
  have hs6 := hS.1
  have hp8 := hPl.1
  have hn8 := hNo.1
  have ht100 := hTa.1
  have ha5 := hA.1
  have hd9 := hD.1
  show Ev G μ 3 0 0 0 [(0, .ref m), (1, .int v), (2, .int b)] [] σ
  refine e_iload_n (pc := 0) Xc (dT hX7_note 0 rfl) 1 rfl ?_
  refine e_iconst (v := -1) (pc := 1) Xc (dT hX7_note 1 rfl) rfl ?_
  refine e_icmp_ne (tgt := 15) (pc := 2) Xc (dT hX7_note 2 rfl) rfl (fun c2 => ?_) (fun c2 => ?_)
  · skip
    refine e_aload_n (pc := 15) Xc (dT hX7_note 10 rfl) 0 rfl ?_
    refine e_iload_n (pc := 16) Xc (dT hX7_note 11 rfl) 1 rfl ?_
    refine cl_X7_165 (pc := 17) (k := 0) (n := 0) (S := []) Xc hP.o (c_isReader hP hG v) (dT hX7_note 12 rfl) rfl (Nat.le_of_ble_eq_true rfl) (Nat.le_of_ble_eq_true rfl) (Nat.le_of_ble_eq_true rfl) rfl (Nat.le_of_ble_eq_true rfl) (fun r1 σ2 hq3 => ?_)
    obtain ⟨r1e, r1s⟩ := hq3
    have r1e := r1e.symm; subst r1e; have r1s := r1s.symm; subst r1s
    refine e_if_eq (tgt := 31) (pc := 20) Xc (dT hX7_note 13 rfl) rfl (fun c20 => ?_) (fun c20 => ?_)
    · skip
      refine e_iconst (v := -1) (pc := 31) Xc (dT hX7_note 18 rfl) rfl ?_
      refine e_iret (pc := 32) Xc hQ (dT hX7_note 19 rfl) (Nat.le_refl _) (Nat.le_refl _) ?_
      have hz : v_note (A 1) nr nb nn v b = ((-1), A 1) := by
        try simp only [bI_0, bI_1, Bool.not_eq_true, Bool.not_eq_false] at c2 c20
        first | (simp [v_note, c2, c20]; done) | (clear hK hG hT hS hPl hNo hTa hA hJ hR hD hQ Xc; simp_all [v_note]; done)
      rw [hz]
      exact ⟨rfl, ⟨_, _, _, hP, rfl, rfl, rfl, rfl, rfl⟩, Off.rf⟩
    · skip
      refine e_aload_n (pc := 23) Xc (dT hX7_note 14 rfl) 0 rfl ?_
      refine e_iload_n (pc := 24) Xc (dT hX7_note 15 rfl) 2 rfl ?_
      refine cl_X7_177 (pc := 25) (k := 0) (n := 0) (S := []) Xc hP.o (c_isBook hP hG b) (dT hX7_note 16 rfl) rfl (Nat.le_of_ble_eq_true rfl) (Nat.le_of_ble_eq_true rfl) (Nat.le_of_ble_eq_true rfl) rfl (Nat.le_of_ble_eq_true rfl) (fun r4 σ5 hq6 => ?_)
      obtain ⟨r4e, r4s⟩ := hq6
      have r4e := r4e.symm; subst r4e; have r4s := r4s.symm; subst r4s
      refine e_if_ne (tgt := 33) (pc := 28) Xc (dT hX7_note 17 rfl) rfl (fun c28 => ?_) (fun c28 => ?_)
      · skip
        refine e_aload_n (pc := 33) Xc (dT hX7_note 20 rfl) 0 rfl ?_
        refine gf_X7_9 (pc := 34) Xc (dT hX7_note 21 rfl) hP.o rfl ?_
        refine e_bipush (v := 17) (pc := 37) Xc (dT hX7_note 22 rfl) rfl ?_
        refine e_ialdN (pc := 39) Xc (dT hX7_note 23 rfl) hP.a1 (by decide) rfl 17 rfl (by omega) (by decide) ?_
        refine e_val (y := nI nn) hNo.2.1 ?_
        refine e_bipush (v := 8) (pc := 40) Xc (dT hX7_note 24 rfl) rfl ?_
        refine e_icmp_neN (x := nn) (y := 8) (tgt := 48) (pc := 42) Xc (dT hX7_note 25 rfl) rfl (by omega) (by omega) (fun c42 => ?_) (fun c42 => ?_)
        · skip
          refine e_aload_n (pc := 48) Xc (dT hX7_note 28 rfl) 0 rfl ?_
          refine gf_X7_9 (pc := 49) Xc (dT hX7_note 29 rfl) hP.o rfl ?_
          refine e_bipush (v := 78) (pc := 52) Xc (dT hX7_note 30 rfl) rfl ?_
          refine e_aload_n (pc := 54) Xc (dT hX7_note 31 rfl) 0 rfl ?_
          refine gf_X7_9 (pc := 55) Xc (dT hX7_note 32 rfl) hP.o rfl ?_
          refine e_bipush (v := 17) (pc := 58) Xc (dT hX7_note 33 rfl) rfl ?_
          refine e_ialdN (pc := 60) Xc (dT hX7_note 34 rfl) hP.a1 (by decide) rfl 17 rfl (by omega) (by decide) ?_
          refine e_val (y := nI nn) hNo.2.1 ?_
          refine e_iaddN (a := 78) (b := nn) (pc := 61) Xc (dT hX7_note 35 rfl) ?_
          refine e_iload_n (pc := 62) Xc (dT hX7_note 36 rfl) 1 rfl ?_
          refine e_iastN (pc := 63) Xc (dT hX7_note 37 rfl) hP.a1 rfl (78 + nn) rfl (by omega) (by decide) ?_
          refine Ev.gen (fun z => PX7 z m F T (upA A 1 (upd (A 1) (78 + nn) v))) (hP.wa1 (g := (upd (A 1) (78 + nn) v))) Off.set (fun σ7 hP8 ho9 => ?_)
          refine e_aload_n (pc := 64) Xc (dT hX7_note 38 rfl) 0 rfl ?_
          refine gf_X7_9 (pc := 65) Xc (dT hX7_note 39 rfl) hP8.o rfl ?_
          refine e_bipush (v := 86) (pc := 68) Xc (dT hX7_note 40 rfl) rfl ?_
          refine e_aload_n (pc := 70) Xc (dT hX7_note 41 rfl) 0 rfl ?_
          refine gf_X7_9 (pc := 71) Xc (dT hX7_note 42 rfl) hP8.o rfl ?_
          refine e_bipush (v := 17) (pc := 74) Xc (dT hX7_note 43 rfl) rfl ?_
          refine e_ialdN (pc := 76) Xc (dT hX7_note 44 rfl) hP8.a1 (by decide) rfl 17 rfl (by omega) (by decide) ?_
          refine e_val (y := (upd (A 1) (78 + nn) v) 17) rfl ?_
          refine e_val (y := A 1 17) (upd_n (by omega)) ?_
          refine e_val (y := nI nn) hNo.2.1 ?_
          refine e_iaddN (a := 86) (b := nn) (pc := 77) Xc (dT hX7_note 45 rfl) ?_
          refine e_iload_n (pc := 78) Xc (dT hX7_note 46 rfl) 2 rfl ?_
          refine e_iastN (pc := 79) Xc (dT hX7_note 47 rfl) hP8.a1 rfl (86 + nn) rfl (by omega) (by decide) ?_
          refine Ev.gen (fun z => PX7 z m F T (upA (upA A 1 (upd (A 1) (78 + nn) v)) 1 (upd (upd (A 1) (78 + nn) v) (86 + nn) b))) (hP8.wa1 (g := (upd (upd (A 1) (78 + nn) v) (86 + nn) b))) Off.set (fun σ10 hP11 ho12 => ?_)
          have hP11 : PX7 σ10 m F T (upA A 1 (upd (upd (A 1) (78 + nn) v) (86 + nn) b)) := by rw [upA_2] at hP11; exact hP11
          refine e_aload_n (pc := 80) Xc (dT hX7_note 48 rfl) 0 rfl ?_
          refine gf_X7_9 (pc := 81) Xc (dT hX7_note 49 rfl) hP11.o rfl ?_
          refine e_bipush (v := 17) (pc := 84) Xc (dT hX7_note 50 rfl) rfl ?_
          refine e_dup2 (pc := 86) Xc (dT hX7_note 51 rfl) rfl rfl ?_
          refine e_ialdN (pc := 87) Xc (dT hX7_note 52 rfl) hP11.a1 (by decide) rfl 17 rfl (by omega) (by decide) ?_
          refine e_val (y := (upd (upd (A 1) (78 + nn) v) (86 + nn) b) 17) rfl ?_
          refine e_val (y := A 1 17) ((upd_n (by omega)).trans (upd_n (by omega))) ?_
          refine e_val (y := nI nn) hNo.2.1 ?_
          refine e_iconst (v := 1) (pc := 88) Xc (dT hX7_note 53 rfl) rfl ?_
          refine e_iaddN (a := nn) (b := 1) (pc := 89) Xc (dT hX7_note 54 rfl) ?_
          refine e_iastN (pc := 90) Xc (dT hX7_note 55 rfl) hP11.a1 rfl 17 rfl (by omega) (by decide) ?_
          refine Ev.gen (fun z => PX7 z m F T (upA (upA A 1 (upd (upd (A 1) (78 + nn) v) (86 + nn) b)) 1 (upd (upd (upd (A 1) (78 + nn) v) (86 + nn) b) 17 (nI (nn + 1))))) (hP11.wa1 (g := (upd (upd (upd (A 1) (78 + nn) v) (86 + nn) b) 17 (nI (nn + 1))))) Off.set (fun σ13 hP14 ho15 => ?_)
          have hP14 : PX7 σ13 m F T (upA A 1 (upd (upd (upd (A 1) (78 + nn) v) (86 + nn) b) 17 (nI (nn + 1)))) := by rw [upA_2] at hP14; exact hP14
          refine e_aload_n (pc := 91) Xc (dT hX7_note 56 rfl) 0 rfl ?_
          refine gf_X7_9 (pc := 92) Xc (dT hX7_note 57 rfl) hP14.o rfl ?_
          refine e_bipush (v := 17) (pc := 95) Xc (dT hX7_note 58 rfl) rfl ?_
          refine e_ialdN (pc := 97) Xc (dT hX7_note 59 rfl) hP14.a1 (by decide) rfl 17 rfl (by omega) (by decide) ?_
          refine e_val (y := (upd (upd (upd (A 1) (78 + nn) v) (86 + nn) b) 17 (nI (nn + 1))) 17) rfl ?_
          refine e_val (y := nI (nn + 1)) upd_s ?_
          refine e_iret (pc := 98) Xc hQ (dT hX7_note 60 rfl) (Nat.le_refl _) (Nat.le_refl _) ?_
          have hz : v_note (A 1) nr nb nn v b = (nI (nn + 1), (upd (upd (upd (A 1) (78 + nn) v) (86 + nn) b) 17 (nI (nn + 1)))) := by
            try simp only [bI_0, bI_1, Bool.not_eq_true, Bool.not_eq_false] at c2 c20 c28 c42
            first | (simp [v_note, c2, c20, c28, c42]; done) | (clear hK hG hT hS hPl hNo hTa hA hJ hR hD hQ Xc; simp_all [v_note]; done)
          rw [hz]
          exact ⟨rfl, ⟨_, _, _, hP14, rfl, rfl, rfl, rfl, rfl⟩, ((ho9.tr ho12).tr ho15)⟩
        · skip
          refine e_bipush (v := -4) (pc := 45) Xc (dT hX7_note 26 rfl) rfl ?_
          refine e_iret (pc := 47) Xc hQ (dT hX7_note 27 rfl) (Nat.le_refl _) (Nat.le_refl _) ?_
          have hz : v_note (A 1) nr nb nn v b = ((-4), A 1) := by
            try simp only [bI_0, bI_1, Bool.not_eq_true, Bool.not_eq_false] at c2 c20 c28 c42
            first | (simp [v_note, c2, c20, c28, c42]; done) | (clear hK hG hT hS hPl hNo hTa hA hJ hR hD hQ Xc; simp_all [v_note]; done)
          rw [hz]
          exact ⟨rfl, ⟨_, _, _, hP, rfl, rfl, rfl, rfl, rfl⟩, Off.rf⟩
      · skip
        refine e_iconst (v := -1) (pc := 31) Xc (dT hX7_note 18 rfl) rfl ?_
        refine e_iret (pc := 32) Xc hQ (dT hX7_note 19 rfl) (Nat.le_refl _) (Nat.le_refl _) ?_
        have hz : v_note (A 1) nr nb nn v b = ((-1), A 1) := by
          try simp only [bI_0, bI_1, Bool.not_eq_true, Bool.not_eq_false] at c2 c20 c28
          first | (simp [v_note, c2, c20, c28]; done) | (clear hK hG hT hS hPl hNo hTa hA hJ hR hD hQ Xc; simp_all [v_note]; done)
        rw [hz]
        exact ⟨rfl, ⟨_, _, _, hP, rfl, rfl, rfl, rfl, rfl⟩, Off.rf⟩
  · skip
    refine e_aload_n (pc := 5) Xc (dT hX7_note 3 rfl) 0 rfl ?_
    refine gf_X7_9 (pc := 6) Xc (dT hX7_note 4 rfl) hP.o rfl ?_
    refine e_bipush (v := 17) (pc := 9) Xc (dT hX7_note 5 rfl) rfl ?_
    refine e_iconst (v := 0) (pc := 11) Xc (dT hX7_note 6 rfl) rfl ?_
    refine e_iastN (pc := 12) Xc (dT hX7_note 7 rfl) hP.a1 rfl 17 rfl (by omega) (by decide) ?_
    refine Ev.gen (fun z => PX7 z m F T (upA A 1 (upd (A 1) 17 0))) (hP.wa1 (g := (upd (A 1) 17 0))) Off.set (fun σ16 hP17 ho18 => ?_)
    refine e_iconst (v := 0) (pc := 13) Xc (dT hX7_note 8 rfl) rfl ?_
    refine e_iret (pc := 14) Xc hQ (dT hX7_note 9 rfl) (Nat.le_refl _) (Nat.le_refl _) ?_
    have hz : v_note (A 1) nr nb nn v b = (0, (upd (A 1) 17 0)) := by
      try simp only [bI_0, bI_1, Bool.not_eq_true, Bool.not_eq_false] at c2
      first | (simp [v_note, c2]; done) | (clear hK hG hT hS hPl hNo hTa hA hJ hR hD hQ Xc; simp_all [v_note]; done)
    rw [hz]
    exact ⟨rfl, ⟨_, _, _, hP17, rfl, rfl, rfl, rfl, rfl⟩, ho18⟩
set_option maxRecDepth 100000 in
set_option maxHeartbeats 4000000 in
theorem p_looked {G : xG} {σ : xS} {m : Nat} {X Y bd : Nat → Int32} {hi rn : Int32} (hM : MK σ m X Y bd hi rn) {nr nb ns np nn nt na dy : Nat} {t : xT} (hK : OK X nr nb t ns np nn nt na dy)  : CI G yX7_looked cX7_looked 2 (some .int) 1 0 0 [.ref m] σ (fun z σ1 => z = v_looked X nn ∧ MK σ1 m X Y bd hi rn ∧ Off m σ σ1) := by
  refine Met.ofX (by decide +kernel) (Nat.le_of_ble_eq_true rfl) (fun μ Xc hQ hnm => ?_)
  have Xc : xC G μ cX7_looked 2 RX7 (some .int) 1 0 0 := Xc
  obtain ⟨F, T, A, hP, e1, e2, e3, e4, e5⟩ := hM
  subst e1 e2 e3 e4 e5
  obtain ⟨hG, hT, hS, hPl, hNo, hTa, hA, hJ, hR, hD⟩ := id hK
  have hr4 := hG.r4
  have hb7 := hG.b7
  have hs6 := hS.1
  have hp8 := hPl.1
  have hn8 := hNo.1
  have ht100 := hTa.1
  have ha5 := hA.1
  have hd9 := hD.1
  have lp2 : ∀ (n2 : Nat) (k_ : Nat), nn - k_ < n2 → (k_ ≤ nn) → (fst (looP (A 1)) k_ = none) → Ev G μ 2 0 0 2 [(0, .ref m), (1, .int (nI k_))] [] σ := by
    intro n2
    induction n2 with
    | zero => intro k_ hn; exact absurd hn (Nat.not_lt_zero _)
    | succ n2 ih2 =>
      intro k_ hn2 hk_ hs_
      refine e_iload_n (pc := 2) Xc (dT hX7_looked 2 rfl) 1 rfl ?_
      refine e_aload_n (pc := 3) Xc (dT hX7_looked 3 rfl) 0 rfl ?_
      refine gf_X7_9 (pc := 4) Xc (dT hX7_looked 4 rfl) hP.o rfl ?_
      refine e_bipush (v := 17) (pc := 7) Xc (dT hX7_looked 5 rfl) rfl ?_
      refine e_ialdN (pc := 9) Xc (dT hX7_looked 6 rfl) hP.a1 (by decide) rfl 17 rfl (by omega) (by decide) ?_
      refine e_val (y := nI nn) hNo.2.1 ?_
      refine e_icmp_geN (x := k_) (y := nn) (tgt := 49) (pc := 10) Xc (dT hX7_looked 7 rfl) rfl (by omega) (by omega) (fun c10 => ?_) (fun c10 => ?_)
      · skip
        refine e_bipush (v := -5) (pc := 49) Xc (dT hX7_looked 30 rfl) rfl ?_
        refine e_iret (pc := 51) Xc hQ (dT hX7_looked 31 rfl) (Nat.le_refl _) (Nat.le_refl _) ?_
        have hke_ : k_ = nn := by omega
        have hz : v_looked (A 1) nn = -5 := by
          rw [v_looked, fndF, ← hke_, hs_]
        exact ⟨hz.symm, ⟨_, _, _, hP, rfl, rfl, rfl, rfl, rfl⟩, Off.rf⟩
      · skip
        obtain ⟨⟨q_, hq_r, hq_e⟩, -⟩ := hNo.2.2 k_ (by omega)
        have hlp_ : looP (A 1) k_ = decide (A 1 (1 + q_) ≠ A 1 (86 + k_)) := by rw [looP, hq_e, cl_nI (by omega)]
        refine e_aload_n (pc := 13) Xc (dT hX7_looked 8 rfl) 0 rfl ?_
        refine gf_X7_9 (pc := 14) Xc (dT hX7_looked 9 rfl) hP.o rfl ?_
        refine e_iconst (v := 1) (pc := 17) Xc (dT hX7_looked 10 rfl) rfl ?_
        refine e_aload_n (pc := 18) Xc (dT hX7_looked 11 rfl) 0 rfl ?_
        refine gf_X7_9 (pc := 19) Xc (dT hX7_looked 12 rfl) hP.o rfl ?_
        refine e_bipush (v := 78) (pc := 22) Xc (dT hX7_looked 13 rfl) rfl ?_
        refine e_iload_n (pc := 24) Xc (dT hX7_looked 14 rfl) 1 rfl ?_
        refine e_iaddN (a := 78) (b := k_) (pc := 25) Xc (dT hX7_looked 15 rfl) ?_
        refine e_ialdN (pc := 26) Xc (dT hX7_looked 16 rfl) hP.a1 (by decide) rfl (78 + k_) rfl (by omega) (by decide) ?_
        refine e_val (y := nI q_) hq_e ?_
        refine e_iaddN (a := 1) (b := q_) (pc := 27) Xc (dT hX7_looked 17 rfl) ?_
        refine e_ialdN (pc := 28) Xc (dT hX7_looked 18 rfl) hP.a1 (by decide) rfl (1 + q_) rfl (by omega) (by decide) ?_
        refine e_aload_n (pc := 29) Xc (dT hX7_looked 19 rfl) 0 rfl ?_
        refine gf_X7_9 (pc := 30) Xc (dT hX7_looked 20 rfl) hP.o rfl ?_
        refine e_bipush (v := 86) (pc := 33) Xc (dT hX7_looked 21 rfl) rfl ?_
        refine e_iload_n (pc := 35) Xc (dT hX7_looked 22 rfl) 1 rfl ?_
        refine e_iaddN (a := 86) (b := k_) (pc := 36) Xc (dT hX7_looked 23 rfl) ?_
        refine e_ialdN (pc := 37) Xc (dT hX7_looked 24 rfl) hP.a1 (by decide) rfl (86 + k_) rfl (by omega) (by decide) ?_
        refine e_icmp_eq (tgt := 43) (pc := 38) Xc (dT hX7_looked 25 rfl) rfl (fun c38 => ?_) (fun c38 => ?_)
        · skip
          refine e_iincN (a := k_) (b := 1) (L' := [(1, .int (nI (k_ + 1))), (0, .ref m)]) (pc := 43) Xc (dT hX7_looked 28 rfl) 1 rfl rfl (by decide) rfl ?_
          refine e_goto (tgt := 2) (pc := 46) Xc (dT hX7_looked 29 rfl) rfl ?_
          refine Ev.pick (L' := [(0, .ref m), (1, .int (nI (k_ + 1)))]) [1, 0] rfl ?_
          exact ih2 (k_ + 1) (by omega) (by omega) (by rw [fst, hs_, hlp_]; simp [c38])
        · skip
          refine e_iload_n (pc := 41) Xc (dT hX7_looked 26 rfl) 1 rfl ?_
          refine e_iret (pc := 42) Xc hQ (dT hX7_looked 27 rfl) (Nat.le_refl _) (Nat.le_refl _) ?_
          have hz : v_looked (A 1) nn = nI k_ := by
            rw [v_looked, fndF, show fst (looP (A 1)) nn = some k_ from fst_some.mpr ⟨by omega, by rw [hlp_]; simpa using c38, fst_none.mp hs_⟩]
          exact ⟨hz.symm, ⟨_, _, _, hP, rfl, rfl, rfl, rfl, rfl⟩, Off.rf⟩
  show Ev G μ 2 0 0 0 [(0, .ref m)] [] σ
  refine e_iconst (v := 0) (pc := 0) Xc (dT hX7_looked 0 rfl) rfl ?_
  refine e_istore_n (L' := [(1, .int 0), (0, .ref m)]) (pc := 1) Xc (dT hX7_looked 1 rfl) (by decide) rfl ?_
  refine Ev.pick (L' := [(0, .ref m), (1, .int 0)]) [1, 0] rfl ?_
  exact lp2 ((nn - 0) + 1) 0 (Nat.lt_succ_self _) (Nat.zero_le _) rfl
