set_option maxRecDepth 100000 in
set_option maxHeartbeats 4000000 in
theorem p_order {G : xG} {σ : xS} {m : Nat} {X Y bd : Nat → Int32} {hi rn : Int32} (hM : MK σ m X Y bd hi rn) {nr nb ns np nn nt na dy : Nat} {t : xT} (hK : OK X nr nb t ns np nn nt na dy) (hW : okW X) (k : Int32) : CI G yX7_order cX7_order 2 (some .int) 10 0 0 [.ref m, .int k] σ (fun z σ1 => z = v_order X t nr nb k ∧ MK σ1 m X Y bd hi rn ∧ Off m σ σ1) := by
  refine Met.ofX (by decide +kernel) (Nat.le_of_ble_eq_true rfl) (fun μ Xc hQ hnm => ?_)
  have Xc : xC G μ cX7_order 2 RX7 (some .int) 10 0 0 := Xc
  obtain ⟨F, T, A, hP, e1, e2, e3, e4, e5⟩ := hM
  subst e1 e2 e3 e4 e5
  obtain ⟨hG, hT, hS, hPl, hNo, hTa, hA, hJ, hR, hD⟩ := id hK
  have hr4 := hG.r4
  have hb7 := hG.b7
  have hs6 := hS.1
  have hp8 := hPl.1
  have hn8 := hNo.1
  have ht100 := hTa.1
  have ha5 := hA.1
  have hd9 := hD.1
  show Ev G μ 2 0 0 0 [(0, .ref m), (1, .int k)] [] σ
  refine e_iload_n (pc := 0) Xc (dT hX7_order 0 rfl) 1 rfl ?_
  refine e_iconst (v := -1) (pc := 1) Xc (dT hX7_order 1 rfl) rfl ?_
  refine e_iconst (v := 3) (pc := 2) Xc (dT hX7_order 2 rfl) rfl ?_
  refine cl_X7_50 (pc := 3) (k := 0) (n := 0) (S := []) Xc (c_in k (-1) 3) (dT hX7_order 3 rfl) rfl (Nat.le_of_ble_eq_true rfl) (Nat.le_of_ble_eq_true rfl) (Nat.le_of_ble_eq_true rfl) rfl (Nat.le_of_ble_eq_true rfl) (fun r1 σ2 hq3 => ?_)
  obtain ⟨r1e, r1s⟩ := hq3
  have r1e := r1e.symm; subst r1e; have r1s := r1s.symm; subst r1s
  refine e_if_ne (tgt := 13) (pc := 6) Xc (dT hX7_order 4 rfl) rfl (fun c6 => ?_) (fun c6 => ?_)
  · skip
    refine e_aload_n (pc := 13) Xc (dT hX7_order 7 rfl) 0 rfl ?_
    refine e_ldc (pc := 14) Xc (dT hX7_order 8 rfl) w_k_X7_158 ?_
    refine pf_X7_257 (fs' := olX7 m (upd F 17 (-1000000)) T) (pc := 16) Xc (dT hX7_order 9 rfl) hP.o (Nat.le_of_ble_eq_true rfl) rfl ?_
    refine Ev.gen (fun z => PX7 z m (upd F 17 (-1000000)) T A) (hP.wf17 (x := (-1000000))) Off.set (fun σ4 hP5 ho6 => ?_)
    refine e_aload_n (pc := 19) Xc (dT hX7_order 10 rfl) 0 rfl ?_
    refine e_iconst (v := 0) (pc := 20) Xc (dT hX7_order 11 rfl) rfl ?_
    refine e_iconst (v := 0) (pc := 21) Xc (dT hX7_order 12 rfl) rfl ?_
    rcases (show nr = 0 ∨ nr = 1 ∨ nr = 2 ∨ nr = 3 ∨ nr = 4 by omega) with hn_ | hn_ | hn_ | hn_ | hn_
    · skip
      refine cl_X7_263 (pc := 22) (k := 0) (n := 0) (S := []) Xc hP5.o (c_orders0 hP5 hG hT 0 0 [] (-1000000, []) rfl (by decide) rfl (fun j hj => absurd hj (Nat.not_lt_zero _)) (fun j hj => absurd hj (Nat.not_lt_zero _)) (by omega)) (dT hX7_order 13 rfl) rfl (Nat.le_of_ble_eq_true rfl) (Nat.le_of_ble_eq_true rfl) (Nat.le_of_ble_eq_true rfl) rfl (Nat.le_of_ble_eq_true rfl) (fun σ8 hq9 => ?_)
      obtain ⟨l9n, l10n, hP10, -, h10n, ho11⟩ := hq9
      have hbo_ : foO (A 1) t nr nb [] (-1000000, []) (lvO 0 nr 0) = bestO (A 1) t nr nb := by rw [bestO, ← hn_]
      have hP10 : PX7 σ8 m (upd (upd F 17 (-1000000)) 17 (foO (A 1) t nr nb [] (-1000000, []) (lvO 0 nr 0)).1) T (upA (upA A 9 l9n) 10 l10n) := hP10
      rw [hbo_, upd_2] at hP10
      rw [hbo_] at h10n
      refine e_iload_n (pc := 25) Xc (dT hX7_order 14 rfl) 1 rfl ?_
      refine e_iconst (v := -1) (pc := 26) Xc (dT hX7_order 15 rfl) rfl ?_
      refine e_icmp_ne (tgt := 37) (pc := 27) Xc (dT hX7_order 16 rfl) rfl (fun c27 => ?_) (fun c27 => ?_)
      · skip
        refine e_iload_n (pc := 37) Xc (dT hX7_order 20 rfl) 1 rfl ?_
        refine e_aload_n (pc := 38) Xc (dT hX7_order 21 rfl) 0 rfl ?_
        refine gf_X7_9 (pc := 39) Xc (dT hX7_order 22 rfl) hP10.o rfl ?_
        refine e_bipush (v := 12) (pc := 42) Xc (dT hX7_order 23 rfl) rfl ?_
        refine e_ialdN (pc := 44) Xc (dT hX7_order 24 rfl) hP10.a1 (by decide) rfl 12 rfl (by omega) (by decide) ?_
        refine e_val (y := A 1 12) rfl ?_
        refine e_val (y := nI nr) hG.1.2.2.1 ?_
        refine e_icmp_ge (tgt := 57) (pc := 45) Xc (dT hX7_order 25 rfl) rfl (fun c45 => ?_) (fun c45 => ?_)
        · skip
          refine e_bipush (v := -5) (pc := 57) Xc (dT hX7_order 31 rfl) rfl ?_
          refine e_iret (pc := 59) Xc hQ (dT hX7_order 32 rfl) (Nat.le_refl _) (Nat.le_refl _) ?_
          simp only [bI_0, Bool.not_eq_true, Bool.not_eq_false] at c6
          have hz : v_order (A 1) t nr nb k = -5 := by
            rw [v_order, if_pos c6, if_neg c27, if_neg (Int32.not_lt.mpr c45)]
          exact ⟨hz.symm, ⟨_, _, _, hP10, rfl, rfl, rfl, rfl, rfl⟩, (ho6.tr ho11)⟩
        · skip
          obtain ⟨q, hq, rfl⟩ : ∃ q, q < nr ∧ k = nI q := ord_k (by omega) (by have h_ := c6; simp only [bI_0, Bool.not_eq_false] at h_; exact h_) c27 c45
          have hc_q : cl (nI q) = q := cl_nI (by omega)
          refine e_aload_n (pc := 48) Xc (dT hX7_order 26 rfl) 0 rfl ?_
          refine gf_X7_40 (pc := 49) Xc (dT hX7_order 27 rfl) hP10.o rfl ?_
          refine e_iload_n (pc := 52) Xc (dT hX7_order 28 rfl) 1 rfl ?_
          refine e_ialdN (pc := 53) Xc (dT hX7_order 29 rfl) hP10.a10 (by decide) rfl q rfl (by omega) (by decide) ?_
          refine e_val (y := l10n q) rfl ?_
          refine e_goto (tgt := 59) (pc := 54) Xc (dT hX7_order 30 rfl) rfl ?_
          refine e_iret (pc := 59) Xc hQ (dT hX7_order 32 rfl) (Nat.le_refl _) (Nat.le_refl _) ?_
          simp only [bI_0, Bool.not_eq_true, Bool.not_eq_false] at c6
          have hz : v_order (A 1) t nr nb (nI q) = l10n q := by
            rw [v_order, if_pos c6, if_neg c27, if_pos (Int32.not_le.mp c45), hc_q, h10n q (by rw [bestO_len hG hT hW]; exact hq)]
          exact ⟨hz.symm, ⟨_, _, _, hP10, rfl, rfl, rfl, rfl, rfl⟩, (ho6.tr ho11)⟩
      · skip
        refine e_aload_n (pc := 30) Xc (dT hX7_order 17 rfl) 0 rfl ?_
        refine gf_X7_257 (pc := 31) Xc (dT hX7_order 18 rfl) hP10.o rfl ?_
        refine e_val (y := (bestO (A 1) t nr nb).1) rfl ?_
        refine e_goto (tgt := 59) (pc := 34) Xc (dT hX7_order 19 rfl) rfl ?_
        refine e_iret (pc := 59) Xc hQ (dT hX7_order 32 rfl) (Nat.le_refl _) (Nat.le_refl _) ?_
        simp only [bI_0, Bool.not_eq_true, Bool.not_eq_false] at c6
        have hz : v_order (A 1) t nr nb k = (bestO (A 1) t nr nb).1 := by
          rw [v_order, if_pos c6, if_pos c27]
        exact ⟨hz.symm, ⟨_, _, _, hP10, rfl, rfl, rfl, rfl, rfl⟩, (ho6.tr ho11)⟩
    · skip
      refine cl_X7_263 (pc := 22) (k := 0) (n := 0) (S := []) Xc hP5.o (c_orders1 hP5 hG hT 0 0 [] (-1000000, []) rfl (by decide) rfl (fun j hj => absurd hj (Nat.not_lt_zero _)) (fun j hj => absurd hj (Nat.not_lt_zero _)) (by omega)) (dT hX7_order 13 rfl) rfl (Nat.le_of_ble_eq_true rfl) (Nat.le_of_ble_eq_true rfl) (Nat.le_of_ble_eq_true rfl) rfl (Nat.le_of_ble_eq_true rfl) (fun σ13 hq14 => ?_)
      obtain ⟨l9n, l10n, hP15, -, h10n, ho16⟩ := hq14
      have hbo_ : foO (A 1) t nr nb [] (-1000000, []) (lvO 1 nr 0) = bestO (A 1) t nr nb := by rw [bestO, ← hn_]
      have hP15 : PX7 σ13 m (upd (upd F 17 (-1000000)) 17 (foO (A 1) t nr nb [] (-1000000, []) (lvO 1 nr 0)).1) T (upA (upA A 9 l9n) 10 l10n) := hP15
      rw [hbo_, upd_2] at hP15
      rw [hbo_] at h10n
      refine e_iload_n (pc := 25) Xc (dT hX7_order 14 rfl) 1 rfl ?_
      refine e_iconst (v := -1) (pc := 26) Xc (dT hX7_order 15 rfl) rfl ?_
      refine e_icmp_ne (tgt := 37) (pc := 27) Xc (dT hX7_order 16 rfl) rfl (fun c27 => ?_) (fun c27 => ?_)
      · skip
        refine e_iload_n (pc := 37) Xc (dT hX7_order 20 rfl) 1 rfl ?_
        refine e_aload_n (pc := 38) Xc (dT hX7_order 21 rfl) 0 rfl ?_
        refine gf_X7_9 (pc := 39) Xc (dT hX7_order 22 rfl) hP15.o rfl ?_
        refine e_bipush (v := 12) (pc := 42) Xc (dT hX7_order 23 rfl) rfl ?_
        refine e_ialdN (pc := 44) Xc (dT hX7_order 24 rfl) hP15.a1 (by decide) rfl 12 rfl (by omega) (by decide) ?_
        refine e_val (y := A 1 12) rfl ?_
        refine e_val (y := nI nr) hG.1.2.2.1 ?_
        refine e_icmp_ge (tgt := 57) (pc := 45) Xc (dT hX7_order 25 rfl) rfl (fun c45 => ?_) (fun c45 => ?_)
        · skip
          refine e_bipush (v := -5) (pc := 57) Xc (dT hX7_order 31 rfl) rfl ?_
          refine e_iret (pc := 59) Xc hQ (dT hX7_order 32 rfl) (Nat.le_refl _) (Nat.le_refl _) ?_
          simp only [bI_0, Bool.not_eq_true, Bool.not_eq_false] at c6
          have hz : v_order (A 1) t nr nb k = -5 := by
            rw [v_order, if_pos c6, if_neg c27, if_neg (Int32.not_lt.mpr c45)]
          exact ⟨hz.symm, ⟨_, _, _, hP15, rfl, rfl, rfl, rfl, rfl⟩, (ho6.tr ho16)⟩
        · skip
          obtain ⟨q, hq, rfl⟩ : ∃ q, q < nr ∧ k = nI q := ord_k (by omega) (by have h_ := c6; simp only [bI_0, Bool.not_eq_false] at h_; exact h_) c27 c45
          have hc_q : cl (nI q) = q := cl_nI (by omega)
          refine e_aload_n (pc := 48) Xc (dT hX7_order 26 rfl) 0 rfl ?_
          refine gf_X7_40 (pc := 49) Xc (dT hX7_order 27 rfl) hP15.o rfl ?_
          refine e_iload_n (pc := 52) Xc (dT hX7_order 28 rfl) 1 rfl ?_
          refine e_ialdN (pc := 53) Xc (dT hX7_order 29 rfl) hP15.a10 (by decide) rfl q rfl (by omega) (by decide) ?_
          refine e_val (y := l10n q) rfl ?_
          refine e_goto (tgt := 59) (pc := 54) Xc (dT hX7_order 30 rfl) rfl ?_
          refine e_iret (pc := 59) Xc hQ (dT hX7_order 32 rfl) (Nat.le_refl _) (Nat.le_refl _) ?_
          simp only [bI_0, Bool.not_eq_true, Bool.not_eq_false] at c6
          have hz : v_order (A 1) t nr nb (nI q) = l10n q := by
            rw [v_order, if_pos c6, if_neg c27, if_pos (Int32.not_le.mp c45), hc_q, h10n q (by rw [bestO_len hG hT hW]; exact hq)]
          exact ⟨hz.symm, ⟨_, _, _, hP15, rfl, rfl, rfl, rfl, rfl⟩, (ho6.tr ho16)⟩
      · skip
        refine e_aload_n (pc := 30) Xc (dT hX7_order 17 rfl) 0 rfl ?_
        refine gf_X7_257 (pc := 31) Xc (dT hX7_order 18 rfl) hP15.o rfl ?_
        refine e_val (y := (bestO (A 1) t nr nb).1) rfl ?_
        refine e_goto (tgt := 59) (pc := 34) Xc (dT hX7_order 19 rfl) rfl ?_
        refine e_iret (pc := 59) Xc hQ (dT hX7_order 32 rfl) (Nat.le_refl _) (Nat.le_refl _) ?_
        simp only [bI_0, Bool.not_eq_true, Bool.not_eq_false] at c6
        have hz : v_order (A 1) t nr nb k = (bestO (A 1) t nr nb).1 := by
          rw [v_order, if_pos c6, if_pos c27]
        exact ⟨hz.symm, ⟨_, _, _, hP15, rfl, rfl, rfl, rfl, rfl⟩, (ho6.tr ho16)⟩
    · skip
      refine cl_X7_263 (pc := 22) (k := 0) (n := 0) (S := []) Xc hP5.o (c_orders2 hP5 hG hT 0 0 [] (-1000000, []) rfl (by decide) rfl (fun j hj => absurd hj (Nat.not_lt_zero _)) (fun j hj => absurd hj (Nat.not_lt_zero _)) (by omega)) (dT hX7_order 13 rfl) rfl (Nat.le_of_ble_eq_true rfl) (Nat.le_of_ble_eq_true rfl) (Nat.le_of_ble_eq_true rfl) rfl (Nat.le_of_ble_eq_true rfl) (fun σ18 hq19 => ?_)
      obtain ⟨l9n, l10n, hP20, -, h10n, ho21⟩ := hq19
      have hbo_ : foO (A 1) t nr nb [] (-1000000, []) (lvO 2 nr 0) = bestO (A 1) t nr nb := by rw [bestO, ← hn_]
      have hP20 : PX7 σ18 m (upd (upd F 17 (-1000000)) 17 (foO (A 1) t nr nb [] (-1000000, []) (lvO 2 nr 0)).1) T (upA (upA A 9 l9n) 10 l10n) := hP20
      rw [hbo_, upd_2] at hP20
      rw [hbo_] at h10n
      refine e_iload_n (pc := 25) Xc (dT hX7_order 14 rfl) 1 rfl ?_
      refine e_iconst (v := -1) (pc := 26) Xc (dT hX7_order 15 rfl) rfl ?_
      refine e_icmp_ne (tgt := 37) (pc := 27) Xc (dT hX7_order 16 rfl) rfl (fun c27 => ?_) (fun c27 => ?_)
      · skip
        refine e_iload_n (pc := 37) Xc (dT hX7_order 20 rfl) 1 rfl ?_
        refine e_aload_n (pc := 38) Xc (dT hX7_order 21 rfl) 0 rfl ?_
        refine gf_X7_9 (pc := 39) Xc (dT hX7_order 22 rfl) hP20.o rfl ?_
        refine e_bipush (v := 12) (pc := 42) Xc (dT hX7_order 23 rfl) rfl ?_
        refine e_ialdN (pc := 44) Xc (dT hX7_order 24 rfl) hP20.a1 (by decide) rfl 12 rfl (by omega) (by decide) ?_
        refine e_val (y := A 1 12) rfl ?_
        refine e_val (y := nI nr) hG.1.2.2.1 ?_
        refine e_icmp_ge (tgt := 57) (pc := 45) Xc (dT hX7_order 25 rfl) rfl (fun c45 => ?_) (fun c45 => ?_)
        · skip
          refine e_bipush (v := -5) (pc := 57) Xc (dT hX7_order 31 rfl) rfl ?_
          refine e_iret (pc := 59) Xc hQ (dT hX7_order 32 rfl) (Nat.le_refl _) (Nat.le_refl _) ?_
          simp only [bI_0, Bool.not_eq_true, Bool.not_eq_false] at c6
          have hz : v_order (A 1) t nr nb k = -5 := by
            rw [v_order, if_pos c6, if_neg c27, if_neg (Int32.not_lt.mpr c45)]
          exact ⟨hz.symm, ⟨_, _, _, hP20, rfl, rfl, rfl, rfl, rfl⟩, (ho6.tr ho21)⟩
        · skip
          obtain ⟨q, hq, rfl⟩ : ∃ q, q < nr ∧ k = nI q := ord_k (by omega) (by have h_ := c6; simp only [bI_0, Bool.not_eq_false] at h_; exact h_) c27 c45
          have hc_q : cl (nI q) = q := cl_nI (by omega)
          refine e_aload_n (pc := 48) Xc (dT hX7_order 26 rfl) 0 rfl ?_
          refine gf_X7_40 (pc := 49) Xc (dT hX7_order 27 rfl) hP20.o rfl ?_
          refine e_iload_n (pc := 52) Xc (dT hX7_order 28 rfl) 1 rfl ?_
          refine e_ialdN (pc := 53) Xc (dT hX7_order 29 rfl) hP20.a10 (by decide) rfl q rfl (by omega) (by decide) ?_
          refine e_val (y := l10n q) rfl ?_
          refine e_goto (tgt := 59) (pc := 54) Xc (dT hX7_order 30 rfl) rfl ?_
          refine e_iret (pc := 59) Xc hQ (dT hX7_order 32 rfl) (Nat.le_refl _) (Nat.le_refl _) ?_
          simp only [bI_0, Bool.not_eq_true, Bool.not_eq_false] at c6
          have hz : v_order (A 1) t nr nb (nI q) = l10n q := by
            rw [v_order, if_pos c6, if_neg c27, if_pos (Int32.not_le.mp c45), hc_q, h10n q (by rw [bestO_len hG hT hW]; exact hq)]
          exact ⟨hz.symm, ⟨_, _, _, hP20, rfl, rfl, rfl, rfl, rfl⟩, (ho6.tr ho21)⟩
      · skip
        refine e_aload_n (pc := 30) Xc (dT hX7_order 17 rfl) 0 rfl ?_
        refine gf_X7_257 (pc := 31) Xc (dT hX7_order 18 rfl) hP20.o rfl ?_
        refine e_val (y := (bestO (A 1) t nr nb).1) rfl ?_
        refine e_goto (tgt := 59) (pc := 34) Xc (dT hX7_order 19 rfl) rfl ?_
        refine e_iret (pc := 59) Xc hQ (dT hX7_order 32 rfl) (Nat.le_refl _) (Nat.le_refl _) ?_
        simp only [bI_0, Bool.not_eq_true, Bool.not_eq_false] at c6
        have hz : v_order (A 1) t nr nb k = (bestO (A 1) t nr nb).1 := by
          rw [v_order, if_pos c6, if_pos c27]
        exact ⟨hz.symm, ⟨_, _, _, hP20, rfl, rfl, rfl, rfl, rfl⟩, (ho6.tr ho21)⟩
    · skip
      refine cl_X7_263 (pc := 22) (k := 0) (n := 0) (S := []) Xc hP5.o (c_orders3 hP5 hG hT 0 0 [] (-1000000, []) rfl (by decide) rfl (fun j hj => absurd hj (Nat.not_lt_zero _)) (fun j hj => absurd hj (Nat.not_lt_zero _)) (by omega)) (dT hX7_order 13 rfl) rfl (Nat.le_of_ble_eq_true rfl) (Nat.le_of_ble_eq_true rfl) (Nat.le_of_ble_eq_true rfl) rfl (Nat.le_of_ble_eq_true rfl) (fun σ23 hq24 => ?_)
      obtain ⟨l9n, l10n, hP25, -, h10n, ho26⟩ := hq24
      have hbo_ : foO (A 1) t nr nb [] (-1000000, []) (lvO 3 nr 0) = bestO (A 1) t nr nb := by rw [bestO, ← hn_]
      have hP25 : PX7 σ23 m (upd (upd F 17 (-1000000)) 17 (foO (A 1) t nr nb [] (-1000000, []) (lvO 3 nr 0)).1) T (upA (upA A 9 l9n) 10 l10n) := hP25
      rw [hbo_, upd_2] at hP25
      rw [hbo_] at h10n
      refine e_iload_n (pc := 25) Xc (dT hX7_order 14 rfl) 1 rfl ?_
      refine e_iconst (v := -1) (pc := 26) Xc (dT hX7_order 15 rfl) rfl ?_
      refine e_icmp_ne (tgt := 37) (pc := 27) Xc (dT hX7_order 16 rfl) rfl (fun c27 => ?_) (fun c27 => ?_)
      · skip
        refine e_iload_n (pc := 37) Xc (dT hX7_order 20 rfl) 1 rfl ?_
        refine e_aload_n (pc := 38) Xc (dT hX7_order 21 rfl) 0 rfl ?_
        refine gf_X7_9 (pc := 39) Xc (dT hX7_order 22 rfl) hP25.o rfl ?_
        refine e_bipush (v := 12) (pc := 42) Xc (dT hX7_order 23 rfl) rfl ?_
        refine e_ialdN (pc := 44) Xc (dT hX7_order 24 rfl) hP25.a1 (by decide) rfl 12 rfl (by omega) (by decide) ?_
        refine e_val (y := A 1 12) rfl ?_
        refine e_val (y := nI nr) hG.1.2.2.1 ?_
        refine e_icmp_ge (tgt := 57) (pc := 45) Xc (dT hX7_order 25 rfl) rfl (fun c45 => ?_) (fun c45 => ?_)
        · skip
          refine e_bipush (v := -5) (pc := 57) Xc (dT hX7_order 31 rfl) rfl ?_
          refine e_iret (pc := 59) Xc hQ (dT hX7_order 32 rfl) (Nat.le_refl _) (Nat.le_refl _) ?_
          simp only [bI_0, Bool.not_eq_true, Bool.not_eq_false] at c6
          have hz : v_order (A 1) t nr nb k = -5 := by
            rw [v_order, if_pos c6, if_neg c27, if_neg (Int32.not_lt.mpr c45)]
          exact ⟨hz.symm, ⟨_, _, _, hP25, rfl, rfl, rfl, rfl, rfl⟩, (ho6.tr ho26)⟩
        · skip
          obtain ⟨q, hq, rfl⟩ : ∃ q, q < nr ∧ k = nI q := ord_k (by omega) (by have h_ := c6; simp only [bI_0, Bool.not_eq_false] at h_; exact h_) c27 c45
          have hc_q : cl (nI q) = q := cl_nI (by omega)
          refine e_aload_n (pc := 48) Xc (dT hX7_order 26 rfl) 0 rfl ?_
          refine gf_X7_40 (pc := 49) Xc (dT hX7_order 27 rfl) hP25.o rfl ?_
          refine e_iload_n (pc := 52) Xc (dT hX7_order 28 rfl) 1 rfl ?_
          refine e_ialdN (pc := 53) Xc (dT hX7_order 29 rfl) hP25.a10 (by decide) rfl q rfl (by omega) (by decide) ?_
          refine e_val (y := l10n q) rfl ?_
          refine e_goto (tgt := 59) (pc := 54) Xc (dT hX7_order 30 rfl) rfl ?_
          refine e_iret (pc := 59) Xc hQ (dT hX7_order 32 rfl) (Nat.le_refl _) (Nat.le_refl _) ?_
          simp only [bI_0, Bool.not_eq_true, Bool.not_eq_false] at c6
          have hz : v_order (A 1) t nr nb (nI q) = l10n q := by
            rw [v_order, if_pos c6, if_neg c27, if_pos (Int32.not_le.mp c45), hc_q, h10n q (by rw [bestO_len hG hT hW]; exact hq)]
          exact ⟨hz.symm, ⟨_, _, _, hP25, rfl, rfl, rfl, rfl, rfl⟩, (ho6.tr ho26)⟩
      · skip
        refine e_aload_n (pc := 30) Xc (dT hX7_order 17 rfl) 0 rfl ?_
        refine gf_X7_257 (pc := 31) Xc (dT hX7_order 18 rfl) hP25.o rfl ?_
        refine e_val (y := (bestO (A 1) t nr nb).1) rfl ?_
        refine e_goto (tgt := 59) (pc := 34) Xc (dT hX7_order 19 rfl) rfl ?_
        refine e_iret (pc := 59) Xc hQ (dT hX7_order 32 rfl) (Nat.le_refl _) (Nat.le_refl _) ?_
        simp only [bI_0, Bool.not_eq_true, Bool.not_eq_false] at c6
        have hz : v_order (A 1) t nr nb k = (bestO (A 1) t nr nb).1 := by
          rw [v_order, if_pos c6, if_pos c27]
        exact ⟨hz.symm, ⟨_, _, _, hP25, rfl, rfl, rfl, rfl, rfl⟩, (ho6.tr ho26)⟩
    · skip
      refine cl_X7_263 (pc := 22) (k := 0) (n := 0) (S := []) Xc hP5.o (c_orders4 hP5 hG hT 0 0 [] (-1000000, []) rfl (by decide) rfl (fun j hj => absurd hj (Nat.not_lt_zero _)) (fun j hj => absurd hj (Nat.not_lt_zero _)) (by omega)) (dT hX7_order 13 rfl) rfl (Nat.le_of_ble_eq_true rfl) (Nat.le_of_ble_eq_true rfl) (Nat.le_of_ble_eq_true rfl) rfl (Nat.le_of_ble_eq_true rfl) (fun σ28 hq29 => ?_)
      obtain ⟨l9n, l10n, hP30, -, h10n, ho31⟩ := hq29
      have hbo_ : foO (A 1) t nr nb [] (-1000000, []) (lvO 4 nr 0) = bestO (A 1) t nr nb := by rw [bestO, ← hn_]
      have hP30 : PX7 σ28 m (upd (upd F 17 (-1000000)) 17 (foO (A 1) t nr nb [] (-1000000, []) (lvO 4 nr 0)).1) T (upA (upA A 9 l9n) 10 l10n) := hP30
      rw [hbo_, upd_2] at hP30
      rw [hbo_] at h10n
      refine e_iload_n (pc := 25) Xc (dT hX7_order 14 rfl) 1 rfl ?_
      refine e_iconst (v := -1) (pc := 26) Xc (dT hX7_order 15 rfl) rfl ?_
      refine e_icmp_ne (tgt := 37) (pc := 27) Xc (dT hX7_order 16 rfl) rfl (fun c27 => ?_) (fun c27 => ?_)
      · skip
        refine e_iload_n (pc := 37) Xc (dT hX7_order 20 rfl) 1 rfl ?_
        refine e_aload_n (pc := 38) Xc (dT hX7_order 21 rfl) 0 rfl ?_
        refine gf_X7_9 (pc := 39) Xc (dT hX7_order 22 rfl) hP30.o rfl ?_
        refine e_bipush (v := 12) (pc := 42) Xc (dT hX7_order 23 rfl) rfl ?_
        refine e_ialdN (pc := 44) Xc (dT hX7_order 24 rfl) hP30.a1 (by decide) rfl 12 rfl (by omega) (by decide) ?_
        refine e_val (y := A 1 12) rfl ?_
        refine e_val (y := nI nr) hG.1.2.2.1 ?_
        refine e_icmp_ge (tgt := 57) (pc := 45) Xc (dT hX7_order 25 rfl) rfl (fun c45 => ?_) (fun c45 => ?_)
        · skip
          refine e_bipush (v := -5) (pc := 57) Xc (dT hX7_order 31 rfl) rfl ?_
          refine e_iret (pc := 59) Xc hQ (dT hX7_order 32 rfl) (Nat.le_refl _) (Nat.le_refl _) ?_
          simp only [bI_0, Bool.not_eq_true, Bool.not_eq_false] at c6
          have hz : v_order (A 1) t nr nb k = -5 := by
            rw [v_order, if_pos c6, if_neg c27, if_neg (Int32.not_lt.mpr c45)]
          exact ⟨hz.symm, ⟨_, _, _, hP30, rfl, rfl, rfl, rfl, rfl⟩, (ho6.tr ho31)⟩
        · skip
          obtain ⟨q, hq, rfl⟩ : ∃ q, q < nr ∧ k = nI q := ord_k (by omega) (by have h_ := c6; simp only [bI_0, Bool.not_eq_false] at h_; exact h_) c27 c45
          have hc_q : cl (nI q) = q := cl_nI (by omega)
          refine e_aload_n (pc := 48) Xc (dT hX7_order 26 rfl) 0 rfl ?_
          refine gf_X7_40 (pc := 49) Xc (dT hX7_order 27 rfl) hP30.o rfl ?_
          refine e_iload_n (pc := 52) Xc (dT hX7_order 28 rfl) 1 rfl ?_
          refine e_ialdN (pc := 53) Xc (dT hX7_order 29 rfl) hP30.a10 (by decide) rfl q rfl (by omega) (by decide) ?_
          refine e_val (y := l10n q) rfl ?_
          refine e_goto (tgt := 59) (pc := 54) Xc (dT hX7_order 30 rfl) rfl ?_
          refine e_iret (pc := 59) Xc hQ (dT hX7_order 32 rfl) (Nat.le_refl _) (Nat.le_refl _) ?_
          simp only [bI_0, Bool.not_eq_true, Bool.not_eq_false] at c6
          have hz : v_order (A 1) t nr nb (nI q) = l10n q := by
            rw [v_order, if_pos c6, if_neg c27, if_pos (Int32.not_le.mp c45), hc_q, h10n q (by rw [bestO_len hG hT hW]; exact hq)]
          exact ⟨hz.symm, ⟨_, _, _, hP30, rfl, rfl, rfl, rfl, rfl⟩, (ho6.tr ho31)⟩
      · skip
        refine e_aload_n (pc := 30) Xc (dT hX7_order 17 rfl) 0 rfl ?_
        refine gf_X7_257 (pc := 31) Xc (dT hX7_order 18 rfl) hP30.o rfl ?_
        refine e_val (y := (bestO (A 1) t nr nb).1) rfl ?_
        refine e_goto (tgt := 59) (pc := 34) Xc (dT hX7_order 19 rfl) rfl ?_
        refine e_iret (pc := 59) Xc hQ (dT hX7_order 32 rfl) (Nat.le_refl _) (Nat.le_refl _) ?_
        simp only [bI_0, Bool.not_eq_true, Bool.not_eq_false] at c6
        have hz : v_order (A 1) t nr nb k = (bestO (A 1) t nr nb).1 := by
          rw [v_order, if_pos c6, if_pos c27]
        exact ⟨hz.symm, ⟨_, _, _, hP30, rfl, rfl, rfl, rfl, rfl⟩, (ho6.tr ho31)⟩
  · skip
    refine e_sipush (v := -10001) (pc := 9) Xc (dT hX7_order 5 rfl) rfl ?_
    refine e_iret (pc := 12) Xc hQ (dT hX7_order 6 rfl) (Nat.le_refl _) (Nat.le_refl _) ?_
    have hz : v_order (A 1) t nr nb k = -10001 := by
      simp only [bI_0, Bool.not_eq_true, Bool.not_eq_false] at c6
      rw [v_order, if_neg (by rw [c6]; decide)]
    exact ⟨hz.symm, ⟨_, _, _, hP, rfl, rfl, rfl, rfl, rfl⟩, Off.rf⟩
