set_option maxRecDepth 100000 in
set_option maxHeartbeats 4000000 in
theorem b_wanted {G : xG} {σ : xS} {x m : Nat} {X Y bd : Nat → Int32} {hi : Int32} {rr : Nat} {nr nb ns np nn nt na dy : Nat} {t : xT} (hB : BK G σ x m X Y bd hi rr nr nb ns np nn nt t) (hK : OK X nr nb t ns np nn nt na dy) (b : Int32) : CI G yX6_wanted cX6_wanted 4 (some .int) 7 0 0 [.ref x, .int b] σ (fun z σ1 => z = v_wanted X t nr nb b ∧ BK G σ1 x m X Y bd hi rr nr nb ns np nn nt t ∧ OffB x σ σ1) := by
  refine Met.ofX (by decide +kernel) (Nat.le_of_ble_eq_true rfl) (fun μ Xc hQ hnm => ?_)
  have Xc : xC G μ cX6_wanted 4 RX6 (some .int) 7 0 0 := Xc
  obtain ⟨hSA, ⟨hgA, hgO⟩, hxm, hms, ⟨Fx, Ax, hx, hF7⟩, ⟨tw, htw, hXn⟩, ⟨F5, T5, A5, hP5⟩, ⟨Fp, Tp, Ap, hPp, hRP⟩, ⟨Fg, Tg, Ag, hPg⟩, ⟨Fa, Ta, Aa, hPa, hFa1, hAa⟩, hBI⟩ := id hB
  obtain ⟨htw1, htw2, htw3⟩ := id htw
  obtain ⟨hG, hT, hS, hPl, hNo, hTa, hA, hJ, hR, hD⟩ := id hK
  have hr4 := hG.r4
  have hb7 := hG.b7
  have hs6 := hS.1
  have hp8 := hPl.1
  have hn8 := hNo.1
  have ht100 := hTa.1
  have ha5 := hA.1
  have hdy := hD.1
  have hd0 := hD.2
  have ht13 : tw ≠ x + 13 := by omega
  have hb8 : ns ≤ 6 ∧ np ≤ 8 ∧ nn ≤ 8 ∧ nt ≤ 100 := ⟨hs6, hp8, hn8, ht100⟩
  show Ev G μ 4 0 0 0 [(0, .ref x), (1, .int b)] [] σ
  obtain ⟨Fw1, Tw1, Aw1, hBw1, htw1⟩ := id hXn
  have hWw1 := hBw1.2.1
  refine e_aload_n (pc := 0) Xc (dT hX6_wanted 0 rfl) 0 rfl ?_
  refine gf_X6_12 (pc := 1) Xc (dT hX6_wanted 1 rfl) hx.o rfl ?_
  refine e_iload_n (pc := 4) Xc (dT hX6_wanted 2 rfl) 1 rfl ?_
  refine cl_X6_126 (pc := 5) (k := 0) (n := 0) (S := []) Xc hBw1.1.o (c5_isBook hBw1 b) (dT hX6_wanted 3 rfl) rfl (Nat.le_of_ble_eq_true rfl) (Nat.le_of_ble_eq_true rfl) (Nat.le_of_ble_eq_true rfl) rfl (Nat.le_of_ble_eq_true rfl) (fun r2 σ3 hq4 => ?_)
  obtain ⟨r2e, r2s⟩ := hq4
  have r2e := r2e.symm; subst r2e; have r2s := r2s.symm; subst r2s
  refine e_if_ne (tgt := 13) (pc := 8) Xc (dT hX6_wanted 4 rfl) rfl (fun c8 => ?_) (fun c8 => ?_)
  · skip
    obtain ⟨p, hp, rfl⟩ := inF_nat (v := b) (n := nb) (by omega) (by simpa [bI_0, bI_1] using c8)
    have hc_p : cl (nI p) = p := cl_nI (by omega)
    refine e_aload_n (pc := 13) Xc (dT hX6_wanted 7 rfl) 0 rfl ?_
    refine cl_X6_116 (pc := 14) (k := 0) (n := 0) (S := []) Xc hx.o (c6_fresh hx ⟨Fw1, Tw1, Aw1, hBw1, htw1⟩ ht13 hP5 hdy hd0) (dT hX6_wanted 8 rfl) rfl (Nat.le_of_ble_eq_true rfl) (Nat.le_of_ble_eq_true rfl) (Nat.le_of_ble_eq_true rfl) rfl (Nat.le_of_ble_eq_true rfl) (fun σ6 hq7 => ?_)
    obtain ⟨hT8, ho9⟩ := hq7
    have hP10 := hx.off ho9 (by omega)
    have hP11 := hPp.off ho9 (by omega)
    have hP12 := hPg.off ho9 (by omega)
    have hP13 := hPa.off ho9 (by omega)
    have hB14 := hBw1.off ho9 (by omega) (by rw [htw1]; omega)
    obtain ⟨lnw15, hXw15, hdlw15, hd0w15, hbtw15⟩ := id hT8
    obtain ⟨Fw15, Tw15, Aw15, hBw15, htw15⟩ := id hXw15
    have hWw15 := hBw15.2.1
    refine e_iconst (v := 0) (pc := 17) Xc (dT hX6_wanted 9 rfl) rfl ?_
    refine e_istore_n (L' := [(2, .int 0), (0, .ref x), (1, .int (nI p))]) (pc := 18) Xc (dT hX6_wanted 10 rfl) (by decide) rfl ?_
    refine e_iconst (v := 0) (pc := 19) Xc (dT hX6_wanted 11 rfl) rfl ?_
    refine e_istore_n (L' := [(3, .int 0), (2, .int 0), (0, .ref x), (1, .int (nI p))]) (pc := 20) Xc (dT hX6_wanted 12 rfl) (by decide) rfl ?_
    have lp21 : ∀ (n21 : Nat) (k_ : Nat) (ac_ : Int32), nr - k_ < n21 → (k_ ≤ nr) → (ac_ = itr (fun r a => a ||| (if mostLF X t nb r p then 1 <<< (nI r &&& 31) else 0)) 0 k_) → Ev G μ 4 0 0 21 [(0, .ref x), (1, .int (nI p)), (2, .int ac_), (3, .int (nI k_))] [] σ6 := by
      intro n21
      induction n21 with
      | zero => intro k_ ac_ hn; exact absurd hn (Nat.not_lt_zero _)
      | succ n21 ih21 =>
        intro k_ ac_ hn21 hk_ hac_
        refine e_iload_n (pc := 21) Xc (dT hX6_wanted 13 rfl) 3 rfl ?_
        refine e_aload_n (pc := 22) Xc (dT hX6_wanted 14 rfl) 0 rfl ?_
        refine gf_X6_12 (pc := 23) Xc (dT hX6_wanted 15 rfl) hP10.o rfl ?_
        refine gf_X6_92 (pc := 26) Xc (dT hX6_wanted 16 rfl) hB14.1.o rfl ?_
        refine e_val (y := nI nr) hWw1.2.2.2.2.2.2.1 ?_
        refine e_icmp_geN (x := k_) (y := nr) (tgt := 56) (pc := 29) Xc (dT hX6_wanted 17 rfl) rfl (by omega) (by omega) (fun c29 => ?_) (fun c29 => ?_)
        · skip
          refine e_iload_n (pc := 56) Xc (dT hX6_wanted 32 rfl) 2 rfl ?_
          refine e_iret (pc := 57) Xc hQ (dT hX6_wanted 33 rfl) (Nat.le_refl _) (Nat.le_refl _) ?_
          have hke_ : k_ = nr := by omega
          have hz : v_wanted X t nr nb (nI p) = ac_ := by rw [v_wanted, if_pos (inF_of (by omega) hp), hc_p, hac_, hke_]
          obtain ⟨hb_, ho_⟩ := hB.asks (OffS.of (S := fun o => o = x + 13 ∨ o = x + 55) ho9 (Or.inl rfl)) ⟨_, _, _, hBw15.1⟩ ⟨_, _, _, hP12⟩
          exact ⟨hz.symm, hb_, ho_⟩
        · skip
          refine e_aload_n (pc := 32) Xc (dT hX6_wanted 18 rfl) 0 rfl ?_
          refine gf_X6_18 (pc := 33) Xc (dT hX6_wanted 19 rfl) hP10.o rfl ?_
          refine e_iload_n (pc := 36) Xc (dT hX6_wanted 20 rfl) 3 rfl ?_
          refine e_iload_n (pc := 37) Xc (dT hX6_wanted 21 rfl) 1 rfl ?_
          refine cl_X6_225 (pc := 38) (k := 0) (n := 0) (S := []) Xc hBw15.1.o (c5_likesMost hBw15 ⟨_, hdlw15, hd0w15, hbtw15⟩ k_ p (by omega) (by omega)) (dT hX6_wanted 22 rfl) rfl (Nat.le_of_ble_eq_true rfl) (Nat.le_of_ble_eq_true rfl) (Nat.le_of_ble_eq_true rfl) rfl (Nat.le_of_ble_eq_true rfl) (fun r16 σ17 hq18 => ?_)
          obtain ⟨r16e, r16s⟩ := hq18
          have r16e := r16e.symm; subst r16e; have r16s := r16s.symm; subst r16s
          refine e_if_eq (tgt := 50) (pc := 41) Xc (dT hX6_wanted 23 rfl) rfl (fun c41 => ?_) (fun c41 => ?_)
          · skip
            refine e_iincN (a := k_) (b := 1) (L' := [(3, .int (nI (k_ + 1))), (0, .ref x), (1, .int (nI p)), (2, .int ac_)]) (pc := 50) Xc (dT hX6_wanted 30 rfl) 3 rfl rfl (by decide) rfl ?_
            refine e_goto (tgt := 21) (pc := 53) Xc (dT hX6_wanted 31 rfl) rfl ?_
            refine Ev.pick (L' := [(0, .ref x), (1, .int (nI p)), (2, .int ac_), (3, .int (nI (k_ + 1)))]) [1, 2, 3, 0] rfl ?_
            exact ih21 (k_ + 1) ac_ (by omega) (by omega) (by rw [itr, ← hac_]; simp only [bI_0] at c41; simp [c41])
          · skip
            refine e_iload_n (pc := 44) Xc (dT hX6_wanted 24 rfl) 2 rfl ?_
            refine e_iconst (v := 1) (pc := 45) Xc (dT hX6_wanted 25 rfl) rfl ?_
            refine e_iload_n (pc := 46) Xc (dT hX6_wanted 26 rfl) 3 rfl ?_
            refine e_ishl (pc := 47) Xc (dT hX6_wanted 27 rfl) ?_
            refine e_ior (pc := 48) Xc (dT hX6_wanted 28 rfl) ?_
            refine e_istore_n (L' := [(2, .int (ac_ ||| (1 <<< ((nI k_) &&& 31)))), (0, .ref x), (1, .int (nI p)), (3, .int (nI k_))]) (pc := 49) Xc (dT hX6_wanted 29 rfl) (by decide) rfl ?_
            refine e_iincN (a := k_) (b := 1) (L' := [(3, .int (nI (k_ + 1))), (2, .int (ac_ ||| (1 <<< ((nI k_) &&& 31)))), (0, .ref x), (1, .int (nI p))]) (pc := 50) Xc (dT hX6_wanted 30 rfl) 3 rfl rfl (by decide) rfl ?_
            refine e_goto (tgt := 21) (pc := 53) Xc (dT hX6_wanted 31 rfl) rfl ?_
            refine Ev.pick (L' := [(0, .ref x), (1, .int (nI p)), (2, .int (ac_ ||| (1 <<< ((nI k_) &&& 31)))), (3, .int (nI (k_ + 1)))]) [2, 3, 1, 0] rfl ?_
            exact ih21 (k_ + 1) (ac_ ||| (1 <<< ((nI k_) &&& 31))) (by omega) (by omega) (by rw [itr, ← hac_]; simp only [bI_0] at c41; simp [c41])
    refine Ev.pick (L' := [(0, .ref x), (1, .int (nI p)), (2, .int 0), (3, .int 0)]) [2, 3, 1, 0] rfl ?_
    exact lp21 ((nr - 0) + 1) 0 0 (Nat.lt_succ_self _) (Nat.zero_le _) rfl
  · skip
    refine e_iconst (v := -1) (pc := 11) Xc (dT hX6_wanted 5 rfl) rfl ?_
    refine e_iret (pc := 12) Xc hQ (dT hX6_wanted 6 rfl) (Nat.le_refl _) (Nat.le_refl _) ?_
    have hz : v_wanted X t nr nb b = (-1) := by
      try simp only [bI_0, bI_1, Bool.not_eq_true, Bool.not_eq_false] at c8
      first | (simp [v_wanted, c8]; done) | (clear hB hK hSA hx hXn hP5 hPp hRP hPg hPa hBI hG hT hS hPl hNo hTa hA hJ hR hD hQ Xc; simp_all [v_wanted]; done)
    exact ⟨hz.symm, hB, OffB.rf⟩
set_option maxRecDepth 100000 in
set_option maxHeartbeats 4000000 in
theorem b_swells {G : xG} {σ : xS} {x m : Nat} {X Y bd : Nat → Int32} {hi : Int32} {rr : Nat} {nr nb ns np nn nt na dy : Nat} {t : xT} (hB : BK G σ x m X Y bd hi rr nr nb ns np nn nt t) (hK : OK X nr nb t ns np nn nt na dy) (n : Int32) : CI G yX6_swells cX6_swells 2 (some .int) 8 0 0 [.ref x, .int n] σ (fun z σ1 => z = v_swells X t nr nb n ∧ BK G σ1 x m X Y bd hi rr nr nb ns np nn nt t ∧ OffB x σ σ1) := by
  refine Met.ofX (by decide +kernel) (Nat.le_of_ble_eq_true rfl) (fun μ Xc hQ hnm => ?_)
  have Xc : xC G μ cX6_swells 2 RX6 (some .int) 8 0 0 := Xc
  obtain ⟨hSA, ⟨hgA, hgO⟩, hxm, hms, ⟨Fx, Ax, hx, hF7⟩, ⟨tw, htw, hXn⟩, ⟨F5, T5, A5, hP5⟩, ⟨Fp, Tp, Ap, hPp, hRP⟩, ⟨Fg, Tg, Ag, hPg⟩, ⟨Fa, Ta, Aa, hPa, hFa1, hAa⟩, hBI⟩ := id hB
  obtain ⟨htw1, htw2, htw3⟩ := id htw
  obtain ⟨hG, hT, hS, hPl, hNo, hTa, hA, hJ, hR, hD⟩ := id hK
  have hr4 := hG.r4
  have hb7 := hG.b7
  have hs6 := hS.1
  have hp8 := hPl.1
  have hn8 := hNo.1
  have ht100 := hTa.1
  have ha5 := hA.1
  have hdy := hD.1
  have hd0 := hD.2
  have ht13 : tw ≠ x + 13 := by omega
  have hb8 : ns ≤ 6 ∧ np ≤ 8 ∧ nn ≤ 8 ∧ nt ≤ 100 := ⟨hs6, hp8, hn8, ht100⟩
  show Ev G μ 2 0 0 0 [(0, .ref x), (1, .int n)] [] σ
  obtain ⟨Fw1, Tw1, Aw1, hBw1, htw1⟩ := id hXn
  have hWw1 := hBw1.2.1
  refine e_iload_n (pc := 0) Xc (dT hX6_swells 0 rfl) 1 rfl ?_
  refine cl_X6_165 (pc := 1) (k := 0) (n := 0) (S := []) Xc (c6_isDays n) (dT hX6_swells 1 rfl) rfl (Nat.le_of_ble_eq_true rfl) (Nat.le_of_ble_eq_true rfl) (Nat.le_of_ble_eq_true rfl) rfl (Nat.le_of_ble_eq_true rfl) (fun r2 σ3 hq4 => ?_)
  obtain ⟨r2e, r2s⟩ := hq4
  have r2e := r2e.symm; subst r2e; have r2s := r2s.symm; subst r2s
  refine e_if_ne (tgt := 11) (pc := 4) Xc (dT hX6_swells 2 rfl) rfl (fun c4 => ?_) (fun c4 => ?_)
  · skip
    obtain ⟨kn_, hkn_, rfl⟩ := in_N (w := n) (n := 40) (by omega) (by have hcc := c4; simp only [bI_0, bI_1, Bool.not_eq_true, Bool.not_eq_false] at hcc; exact hcc)
    have hc_kn_ : cl (nI kn_) = kn_ := cl_nI (by omega)
    refine e_aload_n (pc := 11) Xc (dT hX6_swells 5 rfl) 0 rfl ?_
    refine e_iload_n (pc := 12) Xc (dT hX6_swells 6 rfl) 1 rfl ?_
    refine cl_X6_171 (pc := 13) (k := 0) (n := 0) (S := []) Xc hx.o (c6_goOn hx ⟨Fw1, Tw1, Aw1, hBw1, htw1⟩ ht13 hP5 hdy hd0 kn_ (by omega)) (dT hX6_swells 7 rfl) rfl (Nat.le_of_ble_eq_true rfl) (Nat.le_of_ble_eq_true rfl) (Nat.le_of_ble_eq_true rfl) rfl (Nat.le_of_ble_eq_true rfl) (fun r5 σ6 hq7 => ?_)
    obtain ⟨r5e, hT8, ho9⟩ := hq7
    have r5e := r5e.symm; subst r5e
    have hP10 := hx.off ho9 (by omega)
    have hP11 := hPp.off ho9 (by omega)
    have hP12 := hPg.off ho9 (by omega)
    have hP13 := hPa.off ho9 (by omega)
    have hB14 := hBw1.off ho9 (by omega) (by rw [htw1]; omega)
    obtain ⟨lnw15, hXw15, hdlw15, hd0w15, hbtw15⟩ := id hT8
    obtain ⟨Fw15, Tw15, Aw15, hBw15, htw15⟩ := id hXw15
    have hWw15 := hBw15.2.1
    refine e_pop (pc := 16) Xc (dT hX6_swells 8 rfl) rfl ?_
    refine e_aload_n (pc := 17) Xc (dT hX6_swells 9 rfl) 0 rfl ?_
    refine gf_X6_18 (pc := 18) Xc (dT hX6_swells 10 rfl) hP10.o rfl ?_
    refine cl_X6_228 (pc := 21) (k := 0) (n := 0) (S := []) Xc hBw15.1.o (c5_shelfThick hBw15) (dT hX6_swells 11 rfl) rfl (Nat.le_of_ble_eq_true rfl) (Nat.le_of_ble_eq_true rfl) (Nat.le_of_ble_eq_true rfl) rfl (Nat.le_of_ble_eq_true rfl) (fun r16 σ17 hq18 => ?_)
    obtain ⟨r16e, r16s⟩ := hq18
    have r16e := r16e.symm; subst r16e; have r16s := r16s.symm; subst r16s
    refine e_aload_n (pc := 24) Xc (dT hX6_swells 12 rfl) 0 rfl ?_
    refine gf_X6_12 (pc := 25) Xc (dT hX6_swells 13 rfl) hP10.o rfl ?_
    refine cl_X6_228 (pc := 28) (k := 0) (n := 0) (S := [.int (shThF ((daysF X t nr nb kn_).2) nr nb)]) Xc hB14.1.o (c5_shelfThick hB14) (dT hX6_swells 14 rfl) rfl (Nat.le_of_ble_eq_true rfl) (Nat.le_of_ble_eq_true rfl) (Nat.le_of_ble_eq_true rfl) rfl (Nat.le_of_ble_eq_true rfl) (fun r19 σ20 hq21 => ?_)
    obtain ⟨r19e, r19s⟩ := hq21
    have r19e := r19e.symm; subst r19e; have r19s := r19s.symm; subst r19s
    refine e_isub (pc := 31) Xc (dT hX6_swells 15 rfl) ?_
    refine e_iret (pc := 32) Xc hQ (dT hX6_swells 16 rfl) (Nat.le_refl _) (Nat.le_refl _) ?_
    have hz : v_swells X t nr nb (nI kn_) = (shThF ((daysF X t nr nb kn_).2) nr nb) - (shThF X nr nb) := by
      try simp only [bI_0, bI_1, Bool.not_eq_true, Bool.not_eq_false] at c4
      first | (simp [v_swells, c4, hc_kn_]; done) | (clear hB hK hSA hx hXn hP5 hPp hRP hPg hPa hBI hG hT hS hPl hNo hTa hA hJ hR hD hQ Xc; simp_all [v_swells]; done)
    obtain ⟨hb_, ho_⟩ := hB.asks (OffS.of (S := fun o => o = x + 13 ∨ o = x + 55) ho9 (Or.inl rfl)) ⟨_, _, _, hBw15.1⟩ ⟨_, _, _, hP12⟩
    exact ⟨hz.symm, hb_, ho_⟩
  · skip
    refine e_sipush (v := -10002) (pc := 7) Xc (dT hX6_swells 3 rfl) rfl ?_
    refine e_iret (pc := 10) Xc hQ (dT hX6_swells 4 rfl) (Nat.le_refl _) (Nat.le_refl _) ?_
    have hz : v_swells X t nr nb n = (-10002) := by
      try simp only [bI_0, bI_1, Bool.not_eq_true, Bool.not_eq_false] at c4
      first | (simp [v_swells, c4]; done) | (clear hB hK hSA hx hXn hP5 hPp hRP hPg hPa hBI hG hT hS hPl hNo hTa hA hJ hR hD hQ Xc; simp_all [v_swells]; done)
    exact ⟨hz.symm, hB, OffB.rf⟩
set_option maxRecDepth 100000 in
set_option maxHeartbeats 4000000 in
theorem b_glues {G : xG} {σ : xS} {x m : Nat} {X Y bd : Nat → Int32} {hi : Int32} {rr : Nat} {nr nb ns np nn nt na dy : Nat} {t : xT} (hB : BK G σ x m X Y bd hi rr nr nb ns np nn nt t) (hK : OK X nr nb t ns np nn nt na dy) (hPa9 : okPt X) (v : Int32) (b : Int32) : CI G yX6_glues cX6_glues 6 (some .int) 3 0 0 [.ref x, .int v, .int b] σ (fun z σ1 => z = v_glues X nr nb v b ∧ BK G σ1 x m X Y bd hi rr nr nb ns np nn nt t ∧ OffB x σ σ1) := by
  refine Met.ofX (by decide +kernel) (Nat.le_of_ble_eq_true rfl) (fun μ Xc hQ hnm => ?_)
  have Xc : xC G μ cX6_glues 6 RX6 (some .int) 3 0 0 := Xc
  obtain ⟨hSA, ⟨hgA, hgO⟩, hxm, hms, ⟨Fx, Ax, hx, hF7⟩, ⟨tw, htw, hXn⟩, ⟨F5, T5, A5, hP5⟩, ⟨Fp, Tp, Ap, hPp, hRP⟩, ⟨Fg, Tg, Ag, hPg⟩, ⟨Fa, Ta, Aa, hPa, hFa1, hAa⟩, hBI⟩ := id hB
  obtain ⟨htw1, htw2, htw3⟩ := id htw
  obtain ⟨hG, hT, hS, hPl, hNo, hTa, hA, hJ, hR, hD⟩ := id hK
  have hr4 := hG.r4
  have hb7 := hG.b7
  have hs6 := hS.1
  have hp8 := hPl.1
  have hn8 := hNo.1
  have ht100 := hTa.1
  have ha5 := hA.1
  have hdy := hD.1
  have hd0 := hD.2
  have ht13 : tw ≠ x + 13 := by omega
  have hb8 : ns ≤ 6 ∧ np ≤ 8 ∧ nn ≤ 8 ∧ nt ≤ 100 := ⟨hs6, hp8, hn8, ht100⟩
  show Ev G μ 6 0 0 0 [(0, .ref x), (1, .int v), (2, .int b)] [] σ
  obtain ⟨Fw1, Tw1, Aw1, hBw1, htw1⟩ := id hXn
  have hWw1 := hBw1.2.1
  refine e_aload_n (pc := 0) Xc (dT hX6_glues 0 rfl) 0 rfl ?_
  refine gf_X6_12 (pc := 1) Xc (dT hX6_glues 1 rfl) hx.o rfl ?_
  refine e_iload_n (pc := 4) Xc (dT hX6_glues 2 rfl) 1 rfl ?_
  refine cl_X6_99 (pc := 5) (k := 0) (n := 0) (S := []) Xc hBw1.1.o (c5_isReader hBw1 v) (dT hX6_glues 3 rfl) rfl (Nat.le_of_ble_eq_true rfl) (Nat.le_of_ble_eq_true rfl) (Nat.le_of_ble_eq_true rfl) rfl (Nat.le_of_ble_eq_true rfl) (fun r2 σ3 hq4 => ?_)
  obtain ⟨r2e, r2s⟩ := hq4
  have r2e := r2e.symm; subst r2e; have r2s := r2s.symm; subst r2s
  refine e_if_eq (tgt := 22) (pc := 8) Xc (dT hX6_glues 4 rfl) rfl (fun c8 => ?_) (fun c8 => ?_)
  · skip
    refine e_iconst (v := -1) (pc := 22) Xc (dT hX6_glues 10 rfl) rfl ?_
    refine e_iret (pc := 23) Xc hQ (dT hX6_glues 11 rfl) (Nat.le_refl _) (Nat.le_refl _) ?_
    have hz : v_glues X nr nb v b = (-1) := by
      try simp only [bI_0, bI_1, Bool.not_eq_true, Bool.not_eq_false] at c8
      first | (simp [v_glues, c8]; done) | (clear hB hK hSA hx hXn hP5 hPp hRP hPg hPa hBI hG hT hS hPl hNo hTa hA hJ hR hD hQ Xc; simp_all [v_glues]; done)
    exact ⟨hz.symm, hB, OffB.rf⟩
  · skip
    obtain ⟨q, hq, rfl⟩ := inF_nat (v := v) (n := nr) (by omega) (by simpa [bI_0, bI_1] using c8)
    have hc_q : cl (nI q) = q := cl_nI (by omega)
    refine e_aload_n (pc := 11) Xc (dT hX6_glues 5 rfl) 0 rfl ?_
    refine gf_X6_12 (pc := 12) Xc (dT hX6_glues 6 rfl) hx.o rfl ?_
    refine e_iload_n (pc := 15) Xc (dT hX6_glues 7 rfl) 2 rfl ?_
    refine cl_X6_126 (pc := 16) (k := 0) (n := 0) (S := []) Xc hBw1.1.o (c5_isBook hBw1 b) (dT hX6_glues 8 rfl) rfl (Nat.le_of_ble_eq_true rfl) (Nat.le_of_ble_eq_true rfl) (Nat.le_of_ble_eq_true rfl) rfl (Nat.le_of_ble_eq_true rfl) (fun r5 σ6 hq7 => ?_)
    obtain ⟨r5e, r5s⟩ := hq7
    have r5e := r5e.symm; subst r5e; have r5s := r5s.symm; subst r5s
    refine e_if_ne (tgt := 24) (pc := 19) Xc (dT hX6_glues 9 rfl) rfl (fun c19 => ?_) (fun c19 => ?_)
    · skip
      obtain ⟨p, hp, rfl⟩ := inF_nat (v := b) (n := nb) (by omega) (by simpa [bI_0, bI_1] using c19)
      have hc_p : cl (nI p) = p := cl_nI (by omega)
      refine e_aload_n (pc := 24) Xc (dT hX6_glues 12 rfl) 0 rfl ?_
      refine gf_X6_12 (pc := 25) Xc (dT hX6_glues 13 rfl) hx.o rfl ?_
      refine gf_X6_113 (pc := 28) Xc (dT hX6_glues 14 rfl) hBw1.1.o rfl ?_
      refine e_iload_n (pc := 31) Xc (dT hX6_glues 15 rfl) 1 rfl ?_
      refine cl_X6_106 (pc := 32) (k := 0) (n := 0) (S := []) Xc (c_get hBw1.1.a4 (by decide) (by decide) q (by omega)) (dT hX6_glues 16 rfl) rfl (Nat.le_of_ble_eq_true rfl) (Nat.le_of_ble_eq_true rfl) (Nat.le_of_ble_eq_true rfl) rfl (Nat.le_of_ble_eq_true rfl) (fun r8 σ9 hq10 => ?_)
      obtain ⟨r8e, r8s⟩ := hq10
      have r8e := r8e.symm; subst r8e; have r8s := r8s.symm; subst r8s
      refine e_val (y := orN (X (1 + q))) (hWw1.2.2.2.1 q (by omega)) ?_
      refine e_istore_n (L' := [(3, .int (orN (X (1 + q)))), (0, .ref x), (1, .int (nI q)), (2, .int (nI p))]) (pc := 35) Xc (dT hX6_glues 17 rfl) (by decide) rfl ?_
      refine e_iload_n (pc := 36) Xc (dT hX6_glues 18 rfl) 0 rfl ?_
      refine e_bipush (v := -5) (pc := 37) Xc (dT hX6_glues 19 rfl) rfl ?_
      refine e_icmp_eq (tgt := 55) (pc := 39) Xc (dT hX6_glues 20 rfl) rfl (fun c39 => ?_) (fun c39 => ?_)
      · skip
        have hno_ : X (1 + q) = -1 := WB.has5 hG (by omega) c39
        refine e_bipush (v := -5) (pc := 55) Xc (dT hX6_glues 27 rfl) rfl ?_
        refine e_iret (pc := 57) Xc hQ (dT hX6_glues 28 rfl) (Nat.le_refl _) (Nat.le_refl _) ?_
        have hz : v_glues X nr nb (nI q) (nI p) = -5 := by rw [v_glues, if_pos ⟨inF_of (by omega) hq, inF_of (by omega) hp⟩, hc_q, hc_p]; exact fnd_miss (fun n _ => gl_no hr4 hq (Or.inl hno_))
        exact ⟨hz.symm, hB, OffB.rf⟩
      · skip
        have hnh_ : ¬ X (1 + q) = -1 := fun e_ => c39 (by rw [e_]; rfl)
        obtain ⟨h_, h_l, h_e⟩ := hG.has (r := q) (by omega) hnh_
        have h_o : orN (X (1 + q)) = nI h_ := by rw [h_e, orN_nI (by omega)]
        refine e_aload_n (pc := 42) Xc (dT hX6_glues 21 rfl) 1 rfl ?_
        refine gf_X6_12 (pc := 43) Xc (dT hX6_glues 22 rfl) hx.o rfl ?_
        refine e_iload_n (pc := 46) Xc (dT hX6_glues 23 rfl) 3 rfl ?_
        refine cl_X6_133 (pc := 47) (k := 0) (n := 0) (S := []) Xc hBw1.1.o (c5_holder hBw1 p (by omega)) (dT hX6_glues 24 rfl) rfl (Nat.le_of_ble_eq_true rfl) (Nat.le_of_ble_eq_true rfl) (Nat.le_of_ble_eq_true rfl) rfl (Nat.le_of_ble_eq_true rfl) (fun r11 σ12 hq13 => ?_)
        obtain ⟨r11e, r11s⟩ := hq13
        have r11e := r11e.symm; subst r11e; have r11s := r11s.symm; subst r11s
        refine e_bipush (v := -5) (pc := 50) Xc (dT hX6_glues 25 rfl) rfl ?_
        refine e_icmp_eq (tgt := 58) (pc := 52) Xc (dT hX6_glues 26 rfl) rfl (fun c52 => ?_) (fun c52 => ?_)
        · skip
          have hon_ : onF X nr (nI p) = true := (hold5 hr4).mp c52
          obtain ⟨Ft, Tt, At, hTP, hTc⟩ := id hBw1.2.2.1
          obtain ⟨t0_, t0_1, t0_9, t0_e⟩ := hG.2.2.1 h_ h_l
          obtain ⟨pa_, pa1_, pa9_, pae_⟩ := hPa9
          refine e_iconst (v := 0) (pc := 58) Xc (dT hX6_glues 29 rfl) rfl ?_
          refine e_istore (L' := [(4, .int 0), (3, .int (orN (X (1 + q)))), (0, .ref x), (1, .int (nI q)), (2, .int (nI p))]) (pc := 59) Xc (dT hX6_glues 30 rfl) (by decide) rfl ?_
          have lp61 : ∀ (n61 : Nat) (n_ : Nat), 21 - n_ < n61 → (n_ ≤ 21) → (∀ i, i < n_ → (fun n => mayF (pasN X q 1 n) nr q p) i = false) → Ev G μ 6 0 0 61 [(0, .ref x), (1, .int (nI q)), (2, .int (nI p)), (3, .int (orN (X (1 + q)))), (4, .int (nI n_))] [] σ := by
            intro n61
            induction n61 with
            | zero => intro n_ hn; exact absurd hn (Nat.not_lt_zero _)
            | succ n61 ih61 =>
              intro n_ hn61 hn_ hno2_
              refine e_iload (pc := 61) Xc (dT hX6_glues 31 rfl) 4 rfl ?_
              refine e_bipush (v := 20) (pc := 63) Xc (dT hX6_glues 32 rfl) rfl ?_
              refine e_icmp_gtN (x := n_) (y := 20) (tgt := 132) (pc := 65) Xc (dT hX6_glues 33 rfl) rfl (by omega) (by omega) (fun c65 => ?_) (fun c65 => ?_)
              · skip
                refine e_bipush (v := -5) (pc := 132) Xc (dT hX6_glues 63 rfl) rfl ?_
                refine e_iret (pc := 134) Xc hQ (dT hX6_glues 64 rfl) (Nat.le_refl _) (Nat.le_refl _) ?_
                have hne_ : n_ = 21 := by omega
                subst hne_
                have hz : v_glues X nr nb (nI q) (nI p) = -5 := by rw [v_glues, if_pos ⟨inF_of (by omega) hq, inF_of (by omega) hp⟩, hc_q, hc_p]; exact fnd_miss hno2_
                exact ⟨hz.symm, hB, OffB.rf⟩
              · skip
                refine e_bipush (v := 99) (pc := 68) Xc (dT hX6_glues 34 rfl) rfl ?_
                refine e_aload_n (pc := 70) Xc (dT hX6_glues 35 rfl) 0 rfl ?_
                refine gf_X6_12 (pc := 71) Xc (dT hX6_glues 36 rfl) hx.o rfl ?_
                refine gf_X6_89 (pc := 74) Xc (dT hX6_glues 37 rfl) hBw1.1.o rfl ?_
                refine e_iload_n (pc := 77) Xc (dT hX6_glues 38 rfl) 3 rfl ?_
                refine e_val (y := nI h_) h_o ?_
                refine cl_X6_106 (pc := 78) (k := 0) (n := 0) (S := [.int 99]) Xc (c_get hBw1.1.a1 (by decide) (by decide) h_ (by omega)) (dT hX6_glues 39 rfl) rfl (Nat.le_of_ble_eq_true rfl) (Nat.le_of_ble_eq_true rfl) (Nat.le_of_ble_eq_true rfl) rfl (Nat.le_of_ble_eq_true rfl) (fun r14 σ15 hq16 => ?_)
                obtain ⟨r14e, r14s⟩ := hq16
                have r14e := r14e.symm; subst r14e; have r14s := r14s.symm; subst r14s
                refine e_val (y := X (5 + h_)) (hWw1.1 h_ (by omega)) ?_
                refine e_val (y := nI t0_) t0_e ?_
                refine e_iload (pc := 81) Xc (dT hX6_glues 40 rfl) 4 rfl ?_
                refine e_aload_n (pc := 83) Xc (dT hX6_glues 41 rfl) 0 rfl ?_
                refine gf_X6_12 (pc := 84) Xc (dT hX6_glues 42 rfl) hx.o rfl ?_
                refine gf_X6_82 (pc := 87) Xc (dT hX6_glues 43 rfl) hBw1.1.o rfl ?_
                refine gf_X6_145 (pc := 90) Xc (dT hX6_glues 44 rfl) hTP.o rfl ?_
                refine e_val (y := pasteF X) (hTc.2.1.trans hT.paste.symm) ?_
                refine e_val (y := nI pa_) pae_ ?_
                refine e_imulN (a := n_) (b := pa_) (pc := 93) Xc (dT hX6_glues 45 rfl) ?_
                refine e_iaddN (a := t0_) (b := n_ * pa_) (pc := 94) Xc (dT hX6_glues 46 rfl) ?_
                refine e_min (pc := 95) Xc w_ml_X6_213 (dT hX6_glues 47 rfl) (by decide) (Nat.le_refl _) (Nat.le_refl _) (Nat.le_of_ble_eq_true rfl) ?_
                refine e_val (y := minF 99 (nI (t0_ + (n_ * pa_)))) rfl ?_
                refine e_istore (L' := [(5, .int (minF 99 (nI (t0_ + (n_ * pa_))))), (0, .ref x), (1, .int (nI q)), (2, .int (nI p)), (3, .int (orN (X (1 + q)))), (4, .int (nI n_))]) (pc := 98) Xc (dT hX6_glues 48 rfl) (by decide) rfl ?_
                refine e_aload_n (pc := 100) Xc (dT hX6_glues 49 rfl) 1 rfl ?_
                refine gf_X6_12 (pc := 101) Xc (dT hX6_glues 50 rfl) hx.o rfl ?_
                refine e_iload (pc := 104) Xc (dT hX6_glues 51 rfl) 0 rfl ?_
                refine e_aload_n (pc := 106) Xc (dT hX6_glues 52 rfl) 1 rfl ?_
                refine gf_X6_12 (pc := 107) Xc (dT hX6_glues 53 rfl) hx.o rfl ?_
                refine gf_X6_89 (pc := 110) Xc (dT hX6_glues 54 rfl) hBw1.1.o rfl ?_
                refine e_iload_n (pc := 113) Xc (dT hX6_glues 55 rfl) 3 rfl ?_
                refine cl_X6_106 (pc := 114) (k := 0) (n := 0) (S := [.int (minF 99 (nI (t0_ + (n_ * pa_)))), .ref (x + 1)]) Xc (c_get hBw1.1.a1 (by decide) (by decide) p (by omega)) (dT hX6_glues 56 rfl) rfl (Nat.le_of_ble_eq_true rfl) (Nat.le_of_ble_eq_true rfl) (Nat.le_of_ble_eq_true rfl) rfl (Nat.le_of_ble_eq_true rfl) (fun r17 σ18 hq19 => ?_)
                obtain ⟨r17e, r17s⟩ := hq19
                have r17e := r17e.symm; subst r17e; have r17s := r17s.symm; subst r17s
                refine e_val (y := X (5 + p)) (hWw1.1 p (by omega)) ?_
                refine cl_X6_218 (pc := 117) (k := 0) (n := 0) (S := []) Xc hBw1.1.o (c5_isThicker hBw1 (minF 99 (nI (t0_ + (n_ * pa_)))) (X (5 + p))) (dT hX6_glues 57 rfl) rfl (Nat.le_of_ble_eq_true rfl) (Nat.le_of_ble_eq_true rfl) (Nat.le_of_ble_eq_true rfl) rfl (Nat.le_of_ble_eq_true rfl) (fun r20 σ21 hq22 => ?_)
                obtain ⟨r20e, r20s⟩ := hq22
                have r20e := r20e.symm; subst r20e; have r20s := r20s.symm; subst r20s
                refine e_if_eq (tgt := 126) (pc := 120) Xc (dT hX6_glues 58 rfl) rfl (fun c120 => ?_) (fun c120 => ?_)
                · skip
                  refine e_iincN (a := n_) (b := 1) (L' := [(4, .int (nI (n_ + 1))), (5, .int (minF 99 (nI (t0_ + (n_ * pa_))))), (0, .ref x), (1, .int (nI q)), (2, .int (nI p)), (3, .int (orN (X (1 + q))))]) (pc := 126) Xc (dT hX6_glues 61 rfl) 5 rfl rfl (by decide) rfl ?_
                  refine e_goto (tgt := 61) (pc := 129) Xc (dT hX6_glues 62 rfl) rfl ?_
                  refine Ev.pick (L' := [(0, .ref x), (1, .int (nI q)), (2, .int (nI p)), (3, .int (orN (X (1 + q)))), (4, .int (nI (n_ + 1)))]) [2, 3, 4, 5, 0] rfl ?_
                  exact ih61 (n_ + 1) (by omega) (by omega) (no_next hno2_ (by rw [gl_may hG hT hq hp h_l hon_ h_e t0_e t0_1 t0_9 pae_ pa9_ (by omega)]; exact bI_0.mp c120))
                · skip
                  refine e_iload (pc := 123) Xc (dT hX6_glues 59 rfl) 5 rfl ?_
                  refine e_iret (pc := 125) Xc hQ (dT hX6_glues 60 rfl) (Nat.le_refl _) (Nat.le_refl _) ?_
                  have hz : v_glues X nr nb (nI q) (nI p) = nI n_ := by rw [v_glues, if_pos ⟨inF_of (by omega) hq, inF_of (by omega) hp⟩, hc_q, hc_p]; exact fnd_hit (by omega) (by show mayF (pasN X q 1 n_) nr q p = true; rw [gl_may hG hT hq hp h_l hon_ h_e t0_e t0_1 t0_9 pae_ pa9_ (by omega)]; cases q_ : thF t.1 (minF 99 (nI (t0_ + n_ * pa_))) (X (5 + p)); exact absurd (bI_0.mpr q_) c120; rfl) hno2_
                  exact ⟨hz.symm, hB, OffB.rf⟩
          refine Ev.pick (L' := [(0, .ref x), (1, .int (nI q)), (2, .int (nI p)), (3, .int (orN (X (1 + q)))), (4, .int 0)]) [2, 3, 4, 1, 0] rfl ?_
          exact lp61 ((21 - 0) + 1) 0 (Nat.lt_succ_self _) (by omega) (fun j hj => absurd hj (Nat.not_lt_zero j))
        · skip
          have hon_ : onF X nr (nI p) = false := by cases q_ : onF X nr (nI p); rfl; exact absurd ((hold5 hr4).mpr q_) c52
          refine e_bipush (v := -5) (pc := 55) Xc (dT hX6_glues 27 rfl) rfl ?_
          refine e_iret (pc := 57) Xc hQ (dT hX6_glues 28 rfl) (Nat.le_refl _) (Nat.le_refl _) ?_
          have hz : v_glues X nr nb (nI q) (nI p) = -5 := by rw [v_glues, if_pos ⟨inF_of (by omega) hq, inF_of (by omega) hp⟩, hc_q, hc_p]; exact fnd_miss (fun n _ => gl_no hr4 hq (Or.inr hon_))
          exact ⟨hz.symm, hB, OffB.rf⟩
    · skip
      refine e_iconst (v := -1) (pc := 22) Xc (dT hX6_glues 10 rfl) rfl ?_
      refine e_iret (pc := 23) Xc hQ (dT hX6_glues 11 rfl) (Nat.le_refl _) (Nat.le_refl _) ?_
      have hz : v_glues X nr nb (nI q) b = (-1) := by
        try simp only [bI_0, bI_1, Bool.not_eq_true, Bool.not_eq_false] at c8 c19
        first | (simp [v_glues, c8, c19, hc_q]; done) | (clear hB hK hSA hx hXn hP5 hPp hRP hPg hPa hBI hG hT hS hPl hNo hTa hA hJ hR hD hQ Xc; simp_all [v_glues]; done)
      exact ⟨hz.symm, hB, OffB.rf⟩
