set_option maxRecDepth 100000 in
set_option maxHeartbeats 4000000 in
theorem c5_isReader {G : xG} {σ : xS} {w : Nat} {X : Nat → Int32} {nr nb : Nat} {t : xT} {F : Nat → Int32} {T : Nat → Nat} {A : Nat → Nat → Int32} {ln : Nat} (hB : WB σ w X nr nb t F T A ln) (v : Int32) : CI G yX5_isReader cX5_isReader 2 (some .boolean) 0 0 0 [.ref w, .int v] σ (fun z σ1 => z = bI (inF v 0 (nI nr - 1)) ∧ σ1 = σ) := by
  refine Met.ofX (by decide +kernel) (Nat.le_of_ble_eq_true rfl) (fun μ Xc hQ hnm => ?_)
  have Xc : xC G μ cX5_isReader 2 RX5 (some .boolean) 0 0 0 := Xc
  obtain ⟨hP, hW, hTw, hne, hG, hT⟩ := id hB
  have hr4 := hG.r4
  have hb7 := hG.b7
  show Ev G μ 2 0 0 0 [(0, .ref w), (1, .int v)] [] σ
  refine e_iload_n (pc := 0) Xc (dT hX5_isReader 0 rfl) 1 rfl ?_
  refine e_if_lt (tgt := 16) (pc := 1) Xc (dT hX5_isReader 1 rfl) rfl (fun c1 => ?_) (fun c1 => ?_)
  · skip
    refine e_iconst (v := 0) (pc := 16) Xc (dT hX5_isReader 8 rfl) rfl ?_
    refine e_zret (pc := 17) Xc hQ (dT hX5_isReader 9 rfl) (Nat.le_refl _) (Nat.le_refl _) (Or.inl rfl) ?_
    refine ⟨?_, rfl⟩
    rw [inF_lt (by omega)]
    simp only [← Int32.not_lt] at *
    simp_all [bI]
  · skip
    refine e_iload_n (pc := 4) Xc (dT hX5_isReader 2 rfl) 1 rfl ?_
    refine e_aload_n (pc := 5) Xc (dT hX5_isReader 3 rfl) 0 rfl ?_
    refine gf_X5_40 (pc := 6) Xc (dT hX5_isReader 4 rfl) hP.o rfl ?_
    refine e_val (y := nI nr) hW.2.2.2.2.2.2.1 ?_
    refine e_icmp_ge (tgt := 16) (pc := 9) Xc (dT hX5_isReader 5 rfl) rfl (fun c9 => ?_) (fun c9 => ?_)
    · skip
      refine e_iconst (v := 0) (pc := 16) Xc (dT hX5_isReader 8 rfl) rfl ?_
      refine e_zret (pc := 17) Xc hQ (dT hX5_isReader 9 rfl) (Nat.le_refl _) (Nat.le_refl _) (Or.inl rfl) ?_
      refine ⟨?_, rfl⟩
      rw [inF_lt (by omega)]
      simp only [← Int32.not_lt] at *
      simp_all [bI]
    · skip
      refine e_iconst (v := 1) (pc := 12) Xc (dT hX5_isReader 6 rfl) rfl ?_
      refine e_goto (tgt := 17) (pc := 13) Xc (dT hX5_isReader 7 rfl) rfl ?_
      refine e_zret (pc := 17) Xc hQ (dT hX5_isReader 9 rfl) (Nat.le_refl _) (Nat.le_refl _) (Or.inr rfl) ?_
      refine ⟨?_, rfl⟩
      rw [inF_lt (by omega)]
      simp only [← Int32.not_lt] at *
      simp_all [bI]
set_option maxRecDepth 100000 in
set_option maxHeartbeats 4000000 in
theorem c5_isBook {G : xG} {σ : xS} {w : Nat} {X : Nat → Int32} {nr nb : Nat} {t : xT} {F : Nat → Int32} {T : Nat → Nat} {A : Nat → Nat → Int32} {ln : Nat} (hB : WB σ w X nr nb t F T A ln) (v : Int32) : CI G yX5_isBook cX5_isBook 2 (some .boolean) 0 0 0 [.ref w, .int v] σ (fun z σ1 => z = bI (inF v 0 (nI nb - 1)) ∧ σ1 = σ) := by
  refine Met.ofX (by decide +kernel) (Nat.le_of_ble_eq_true rfl) (fun μ Xc hQ hnm => ?_)
  have Xc : xC G μ cX5_isBook 2 RX5 (some .boolean) 0 0 0 := Xc
  obtain ⟨hP, hW, hTw, hne, hG, hT⟩ := id hB
  have hr4 := hG.r4
  have hb7 := hG.b7
  show Ev G μ 2 0 0 0 [(0, .ref w), (1, .int v)] [] σ
  refine e_iload_n (pc := 0) Xc (dT hX5_isBook 0 rfl) 1 rfl ?_
  refine e_if_lt (tgt := 16) (pc := 1) Xc (dT hX5_isBook 1 rfl) rfl (fun c1 => ?_) (fun c1 => ?_)
  · skip
    refine e_iconst (v := 0) (pc := 16) Xc (dT hX5_isBook 8 rfl) rfl ?_
    refine e_zret (pc := 17) Xc hQ (dT hX5_isBook 9 rfl) (Nat.le_refl _) (Nat.le_refl _) (Or.inl rfl) ?_
    refine ⟨?_, rfl⟩
    rw [inF_lt (by omega)]
    simp only [← Int32.not_lt] at *
    simp_all [bI]
  · skip
    refine e_iload_n (pc := 4) Xc (dT hX5_isBook 2 rfl) 1 rfl ?_
    refine e_aload_n (pc := 5) Xc (dT hX5_isBook 3 rfl) 0 rfl ?_
    refine gf_X5_37 (pc := 6) Xc (dT hX5_isBook 4 rfl) hP.o rfl ?_
    refine e_val (y := nI nb) hW.2.2.2.2.2.1 ?_
    refine e_icmp_ge (tgt := 16) (pc := 9) Xc (dT hX5_isBook 5 rfl) rfl (fun c9 => ?_) (fun c9 => ?_)
    · skip
      refine e_iconst (v := 0) (pc := 16) Xc (dT hX5_isBook 8 rfl) rfl ?_
      refine e_zret (pc := 17) Xc hQ (dT hX5_isBook 9 rfl) (Nat.le_refl _) (Nat.le_refl _) (Or.inl rfl) ?_
      refine ⟨?_, rfl⟩
      rw [inF_lt (by omega)]
      simp only [← Int32.not_lt] at *
      simp_all [bI]
    · skip
      refine e_iconst (v := 1) (pc := 12) Xc (dT hX5_isBook 6 rfl) rfl ?_
      refine e_goto (tgt := 17) (pc := 13) Xc (dT hX5_isBook 7 rfl) rfl ?_
      refine e_zret (pc := 17) Xc hQ (dT hX5_isBook 9 rfl) (Nat.le_refl _) (Nat.le_refl _) (Or.inr rfl) ?_
      refine ⟨?_, rfl⟩
      rw [inF_lt (by omega)]
      simp only [← Int32.not_lt] at *
      simp_all [bI]
set_option maxRecDepth 100000 in
set_option maxHeartbeats 4000000 in
theorem c5_holder {G : xG} {σ : xS} {w : Nat} {X : Nat → Int32} {nr nb : Nat} {t : xT} {F : Nat → Int32} {T : Nat → Nat} {A : Nat → Nat → Int32} {ln : Nat} (hB : WB σ w X nr nb t F T A ln) (b : Nat) (hb : b < 7) : CI G yX5_holder cX5_holder 3 (some .int) 0 0 0 [.ref w, .int (nI b)] σ (fun z σ1 => z = orN (holdF X nr (nI b)) ∧ σ1 = σ) := by
  refine Met.ofX (by decide +kernel) (Nat.le_of_ble_eq_true rfl) (fun μ Xc hQ hnm => ?_)
  have Xc : xC G μ cX5_holder 3 RX5 (some .int) 0 0 0 := Xc
  obtain ⟨hP, hW, hTw, hne, hG, hT⟩ := id hB
  have hr4 := hG.r4
  have hb7 := hG.b7
  have lp2 : ∀ (n2 : Nat) (r : Nat), nr - r < n2 → (r ≤ nr) → (fst (fun r => X (1 + r) == nI b) r = none) → Ev G μ 3 0 0 2 [(0, .ref w), (1, .int (nI b)), (2, .int (nI r))] [] σ := by
    intro n2
    induction n2 with
    | zero => intro r hn; exact absurd hn (Nat.not_lt_zero _)
    | succ n2 ih2 =>
      intro r hn2 hr hs
      refine e_iload_n (pc := 2) Xc (dT hX5_holder 2 rfl) 2 rfl ?_
      refine e_aload_n (pc := 3) Xc (dT hX5_holder 3 rfl) 0 rfl ?_
      refine gf_X5_40 (pc := 4) Xc (dT hX5_holder 4 rfl) hP.o rfl ?_
      refine e_val (y := nI nr) hW.2.2.2.2.2.2.1 ?_
      refine e_icmp_geN (x := r) (y := nr) (tgt := 37) (pc := 7) Xc (dT hX5_holder 5 rfl) rfl (by omega) (by omega) (fun c7 => ?_) (fun c7 => ?_)
      · skip
        refine e_bipush (v := -5) (pc := 37) Xc (dT hX5_holder 21 rfl) rfl ?_
        refine e_iret (pc := 39) Xc hQ (dT hX5_holder 22 rfl) (Nat.le_refl _) (Nat.le_refl _) ?_
        refine ⟨?_, rfl⟩
        have hre : r = nr := by omega
        subst hre
        rw [holdF, hs]
        rfl
      · skip
        refine e_iload_n (pc := 10) Xc (dT hX5_holder 6 rfl) 2 rfl ?_
        refine e_aload_n (pc := 11) Xc (dT hX5_holder 7 rfl) 0 rfl ?_
        refine gf_X5_21 (pc := 12) Xc (dT hX5_holder 8 rfl) hP.o rfl ?_
        refine e_alen (v := 4) (pc := 15) Xc (dT hX5_holder 9 rfl) hP.a4 rfl rfl ?_
        refine e_icmp_geN (x := r) (y := 4) (tgt := 37) (pc := 16) Xc (dT hX5_holder 10 rfl) rfl (by omega) (by omega) (fun c16 => ?_) (fun c16 => ?_)
        · skip
          refine e_bipush (v := -5) (pc := 37) Xc (dT hX5_holder 21 rfl) rfl ?_
          refine e_iret (pc := 39) Xc hQ (dT hX5_holder 22 rfl) (Nat.le_refl _) (Nat.le_refl _) ?_
          refine ⟨?_, rfl⟩
          have hre : r = nr := by omega
          subst hre
          rw [holdF, hs]
          rfl
        · skip
          refine e_aload_n (pc := 19) Xc (dT hX5_holder 11 rfl) 0 rfl ?_
          refine gf_X5_21 (pc := 20) Xc (dT hX5_holder 12 rfl) hP.o rfl ?_
          refine e_iload_n (pc := 23) Xc (dT hX5_holder 13 rfl) 2 rfl ?_
          refine e_ialdN (pc := 24) Xc (dT hX5_holder 14 rfl) hP.a4 (by decide) rfl r rfl (by omega) (by decide) ?_
          refine e_iload_n (pc := 25) Xc (dT hX5_holder 15 rfl) 1 rfl ?_
          refine e_icmp_ne (tgt := 31) (pc := 26) Xc (dT hX5_holder 16 rfl) rfl (fun c26 => ?_) (fun c26 => ?_)
          · skip
            have hrl : r < nr := by omega
            have hcb : ¬ X (1 + r) = nI b := fun q => c26 (by rw [hW.2.2.2.1 r hrl, q, orN_nI (by omega)])
            refine e_iincN (a := r) (b := 1) (L' := [(2, .int (nI (r + 1))), (0, .ref w), (1, .int (nI b))]) (pc := 31) Xc (dT hX5_holder 19 rfl) 2 rfl rfl (by decide) rfl ?_
            refine e_goto (tgt := 2) (pc := 34) Xc (dT hX5_holder 20 rfl) rfl ?_
            refine Ev.pick (L' := [(0, .ref w), (1, .int (nI b)), (2, .int (nI (r + 1)))]) [1, 2, 0] rfl ?_
            exact ih2 (r + 1) (by omega) (by omega) (by rw [fst, hs]; simp [hcb])
          · skip
            have hrl : r < nr := by omega
            have hcb : X (1 + r) = nI b := by
              rw [hW.2.2.2.1 r hrl] at c26
              rcases hG.2.1 r hrl with q | ⟨b', hb', q⟩
              · rw [q] at c26; exact absurd c26.symm (nI_nm5 (by omega))
              · rw [q, orN_nI (by omega)] at c26; rw [q, c26]
            refine e_iload_n (pc := 29) Xc (dT hX5_holder 17 rfl) 2 rfl ?_
            refine e_iret (pc := 30) Xc hQ (dT hX5_holder 18 rfl) (Nat.le_refl _) (Nat.le_refl _) ?_
            refine ⟨?_, rfl⟩
            rw [holdF, show fst (fun r => X (1 + r) == nI b) nr = some r from fst_some.mpr ⟨by omega, by simpa using hcb, fst_none.mp hs⟩]
            exact (orN_nI (by omega)).symm
  show Ev G μ 3 0 0 0 [(0, .ref w), (1, .int (nI b))] [] σ
  refine e_iconst (v := 0) (pc := 0) Xc (dT hX5_holder 0 rfl) rfl ?_
  refine e_istore_n (L' := [(2, .int 0), (0, .ref w), (1, .int (nI b))]) (pc := 1) Xc (dT hX5_holder 1 rfl) (by decide) rfl ?_
  refine Ev.pick (L' := [(0, .ref w), (1, .int (nI b)), (2, .int 0)]) [1, 2, 0] rfl ?_
  exact lp2 ((nr - 0) + 1) 0 (Nat.lt_succ_self _) (by omega) rfl
set_option maxRecDepth 100000 in
set_option maxHeartbeats 4000000 in
theorem c5_isThicker {G : xG} {σ : xS} {w : Nat} {X : Nat → Int32} {nr nb : Nat} {t : xT} {F : Nat → Int32} {T : Nat → Nat} {A : Nat → Nat → Int32} {ln : Nat} (hB : WB σ w X nr nb t F T A ln) (x y : Int32) : CI G yX5_isThicker cX5_isThicker 3 (some .boolean) 1 0 0 [.ref w, .int x, .int y] σ (fun z σ1 => z = bI (thF t.1 x y) ∧ σ1 = σ) := by
  refine Met.ofX (by decide +kernel) (Nat.le_of_ble_eq_true rfl) (fun μ Xc hQ hnm => ?_)
  have Xc : xC G μ cX5_isThicker 3 RX5 (some .boolean) 1 0 0 := Xc
  obtain ⟨hP, hW, hTw, hne, hG, hT⟩ := id hB
  have hr4 := hG.r4
  have hb7 := hG.b7
  obtain ⟨Ft, Tt, At, hTP, hTc⟩ := hTw
  show Ev G μ 3 0 0 0 [(0, .ref w), (1, .int x), (2, .int y)] [] σ
  refine e_iload_n (pc := 0) Xc (dT hX5_isThicker 0 rfl) 1 rfl ?_
  refine e_iload_n (pc := 1) Xc (dT hX5_isThicker 1 rfl) 2 rfl ?_
  refine e_isub (pc := 2) Xc (dT hX5_isThicker 2 rfl) ?_
  refine e_iconst (v := 1) (pc := 3) Xc (dT hX5_isThicker 3 rfl) rfl ?_
  refine e_aload_n (pc := 4) Xc (dT hX5_isThicker 4 rfl) 0 rfl ?_
  refine gf_X5_52 (pc := 5) Xc (dT hX5_isThicker 5 rfl) hP.o rfl ?_
  refine gf_X5_87 (pc := 8) Xc (dT hX5_isThicker 6 rfl) hTP.o rfl ?_
  refine e_max (pc := 11) Xc w_ml_X5_90 (dT hX5_isThicker 7 rfl) (by decide) (Nat.le_refl _) (Nat.le_refl _) (Nat.le_of_ble_eq_true rfl) ?_
  refine e_val (y := maxF 1 (Ft 5)) rfl ?_
  refine e_icmp_lt (tgt := 21) (pc := 14) Xc (dT hX5_isThicker 8 rfl) rfl (fun c14 => ?_) (fun c14 => ?_)
  · skip
    refine e_iconst (v := 0) (pc := 21) Xc (dT hX5_isThicker 11 rfl) rfl ?_
    refine e_zret (pc := 22) Xc hQ (dT hX5_isThicker 12 rfl) (Nat.le_refl _) (Nat.le_refl _) (Or.inl rfl) ?_
    refine ⟨?_, rfl⟩
    rw [thF, ← hTc.1]
    simp only [← Int32.not_lt] at *
    simp_all [bI]
  · skip
    refine e_iconst (v := 1) (pc := 17) Xc (dT hX5_isThicker 9 rfl) rfl ?_
    refine e_goto (tgt := 22) (pc := 18) Xc (dT hX5_isThicker 10 rfl) rfl ?_
    refine e_zret (pc := 22) Xc hQ (dT hX5_isThicker 12 rfl) (Nat.le_refl _) (Nat.le_refl _) (Or.inr rfl) ?_
    refine ⟨?_, rfl⟩
    rw [thF, ← hTc.1]
    simp only [← Int32.not_lt] at *
    simp_all [bI]
set_option maxRecDepth 100000 in
set_option maxHeartbeats 4000000 in
theorem c5_may {G : xG} {σ : xS} {w : Nat} {X : Nat → Int32} {nr nb : Nat} {t : xT} {F : Nat → Int32} {T : Nat → Nat} {A : Nat → Nat → Int32} {ln : Nat} (hB : WB σ w X nr nb t F T A ln) (r b : Nat) (hr : r < nr) (hb : b < nb) : CI G yX5_may cX5_may 4 (some .boolean) 2 0 0 [.ref w, .int (nI r), .int (nI b)] σ (fun z σ1 => z = bI (mayF X nr r b) ∧ σ1 = σ) := by
  refine Met.ofX (by decide +kernel) (Nat.le_of_ble_eq_true rfl) (fun μ Xc hQ hnm => ?_)
  have Xc : xC G μ cX5_may 4 RX5 (some .boolean) 2 0 0 := Xc
  obtain ⟨hP, hW, hTw, hne, hG, hT⟩ := id hB
  have hr4 := hG.r4
  have hb7 := hG.b7
  show Ev G μ 4 0 0 0 [(0, .ref w), (1, .int (nI r)), (2, .int (nI b))] [] σ
  refine e_aload_n (pc := 0) Xc (dT hX5_may 0 rfl) 0 rfl ?_
  refine gf_X5_21 (pc := 1) Xc (dT hX5_may 1 rfl) hP.o rfl ?_
  refine e_iload_n (pc := 4) Xc (dT hX5_may 2 rfl) 1 rfl ?_
  refine cl_X5_68 (pc := 5) (k := 0) (n := 0) (S := []) Xc (c_get hP.a4 (by decide) (by decide) r (by omega)) (dT hX5_may 3 rfl) rfl (Nat.le_of_ble_eq_true rfl) (Nat.le_of_ble_eq_true rfl) (Nat.le_of_ble_eq_true rfl) rfl (Nat.le_of_ble_eq_true rfl) (fun r1 σ2 hq3 => ?_)
  obtain ⟨r1e, r1s⟩ := hq3
  have r1e := r1e.symm; subst r1e; have r1s := r1s.symm; subst r1s
  refine e_istore_n (L' := [(3, .int (A 4 r)), (0, .ref w), (1, .int (nI r)), (2, .int (nI b))]) (pc := 8) Xc (dT hX5_may 4 rfl) (by decide) rfl ?_
  refine e_iload_n (pc := 9) Xc (dT hX5_may 5 rfl) 0 rfl ?_
  refine e_bipush (v := -5) (pc := 10) Xc (dT hX5_may 6 rfl) rfl ?_
  refine e_icmp_eq (tgt := 52) (pc := 12) Xc (dT hX5_may 7 rfl) rfl (fun c12 => ?_) (fun c12 => ?_)
  · skip
    have hn : X (1 + r) = -1 := WB.has5 hG (by omega) (by rw [← hW.2.2.2.1 r (by omega)]; exact c12)
    refine e_iconst (v := 0) (pc := 52) Xc (dT hX5_may 26 rfl) rfl ?_
    refine e_zret (pc := 53) Xc hQ (dT hX5_may 27 rfl) (Nat.le_refl _) (Nat.le_refl _) (Or.inl rfl) ?_
    refine ⟨?_, rfl⟩
    rw [may_no hn]
    rfl
  · skip
    obtain ⟨h, hl, he⟩ := hG.has (r := r) (by omega) (orN_ne (by rw [← hW.2.2.2.1 r (by omega)]; exact c12))
    have ha : A 4 r = nI h := by rw [hW.2.2.2.1 r (by omega), he, orN_nI (by omega)]
    refine e_aload_n (pc := 15) Xc (dT hX5_may 8 rfl) 1 rfl ?_
    refine e_iload_n (pc := 16) Xc (dT hX5_may 9 rfl) 3 rfl ?_
    refine cl_X5_72 (pc := 17) (k := 0) (n := 0) (S := []) Xc hP.o (c5_holder hB b (by omega)) (dT hX5_may 10 rfl) rfl (Nat.le_of_ble_eq_true rfl) (Nat.le_of_ble_eq_true rfl) (Nat.le_of_ble_eq_true rfl) rfl (Nat.le_of_ble_eq_true rfl) (fun r4 σ5 hq6 => ?_)
    obtain ⟨r4e, r4s⟩ := hq6
    have r4e := r4e.symm; subst r4e; have r4s := r4s.symm; subst r4s
    refine e_bipush (v := -5) (pc := 20) Xc (dT hX5_may 11 rfl) rfl ?_
    refine e_icmp_ne (tgt := 52) (pc := 22) Xc (dT hX5_may 12 rfl) rfl (fun c22 => ?_) (fun c22 => ?_)
    · skip
      refine e_iconst (v := 0) (pc := 52) Xc (dT hX5_may 26 rfl) rfl ?_
      refine e_zret (pc := 53) Xc hQ (dT hX5_may 27 rfl) (Nat.le_refl _) (Nat.le_refl _) (Or.inl rfl) ?_
      refine ⟨?_, rfl⟩
      rw [may_off (by cases ho : onF X nr (nI b) with
        | false => rfl
        | true => exact absurd ((hold5 hr4).mpr ho) c22)]
      rfl
    · skip
      refine e_aload_n (pc := 25) Xc (dT hX5_may 13 rfl) 1 rfl ?_
      refine e_aload_n (pc := 26) Xc (dT hX5_may 14 rfl) 1 rfl ?_
      refine gf_X5_9 (pc := 27) Xc (dT hX5_may 15 rfl) hP.o rfl ?_
      refine e_iload_n (pc := 30) Xc (dT hX5_may 16 rfl) 0 rfl ?_
      refine e_val (y := nI h) ha ?_
      refine cl_X5_68 (pc := 31) (k := 0) (n := 0) (S := [.ref w]) Xc (c_get hP.a1 (by decide) (by decide) h (by omega)) (dT hX5_may 17 rfl) rfl (Nat.le_of_ble_eq_true rfl) (Nat.le_of_ble_eq_true rfl) (Nat.le_of_ble_eq_true rfl) rfl (Nat.le_of_ble_eq_true rfl) (fun r7 σ8 hq9 => ?_)
      obtain ⟨r7e, r7s⟩ := hq9
      have r7e := r7e.symm; subst r7e; have r7s := r7s.symm; subst r7s
      refine e_aload_n (pc := 34) Xc (dT hX5_may 18 rfl) 1 rfl ?_
      refine gf_X5_9 (pc := 35) Xc (dT hX5_may 19 rfl) hP.o rfl ?_
      refine e_iload_n (pc := 38) Xc (dT hX5_may 20 rfl) 3 rfl ?_
      refine cl_X5_68 (pc := 39) (k := 0) (n := 0) (S := [.int (A 1 h), .ref w]) Xc (c_get hP.a1 (by decide) (by decide) b (by omega)) (dT hX5_may 21 rfl) rfl (Nat.le_of_ble_eq_true rfl) (Nat.le_of_ble_eq_true rfl) (Nat.le_of_ble_eq_true rfl) rfl (Nat.le_of_ble_eq_true rfl) (fun r10 σ11 hq12 => ?_)
      obtain ⟨r10e, r10s⟩ := hq12
      have r10e := r10e.symm; subst r10e; have r10s := r10s.symm; subst r10s
      refine cl_X5_95 (pc := 42) (k := 0) (n := 0) (S := []) Xc hP.o (c5_isThicker hB (A 1 h) (A 1 b)) (dT hX5_may 22 rfl) rfl (Nat.le_of_ble_eq_true rfl) (Nat.le_of_ble_eq_true rfl) (Nat.le_of_ble_eq_true rfl) rfl (Nat.le_of_ble_eq_true rfl) (fun r13 σ14 hq15 => ?_)
      obtain ⟨r13e, r13s⟩ := hq15
      have r13e := r13e.symm; subst r13e; have r13s := r13s.symm; subst r13s
      refine e_if_eq (tgt := 52) (pc := 45) Xc (dT hX5_may 23 rfl) rfl (fun c45 => ?_) (fun c45 => ?_)
      · skip
        refine e_iconst (v := 0) (pc := 52) Xc (dT hX5_may 26 rfl) rfl ?_
        refine e_zret (pc := 53) Xc hQ (dT hX5_may 27 rfl) (Nat.le_refl _) (Nat.le_refl _) (Or.inl rfl) ?_
        refine ⟨?_, rfl⟩
        rw [may_th (by omega) he ((hold5 hr4).mp c22) hT.gap, ← hW.1 h (by omega), ← hW.1 b (by omega)]
        simp only [bI_0, Bool.not_eq_false] at c45
        rw [c45]
        rfl
      · skip
        refine e_iconst (v := 1) (pc := 48) Xc (dT hX5_may 24 rfl) rfl ?_
        refine e_goto (tgt := 53) (pc := 49) Xc (dT hX5_may 25 rfl) rfl ?_
        refine e_zret (pc := 53) Xc hQ (dT hX5_may 27 rfl) (Nat.le_refl _) (Nat.le_refl _) (Or.inr rfl) ?_
        refine ⟨?_, rfl⟩
        rw [may_th (by omega) he ((hold5 hr4).mp c22) hT.gap, ← hW.1 h (by omega), ← hW.1 b (by omega)]
        simp only [bI_0, Bool.not_eq_false] at c45
        rw [c45]
        rfl
