set_option maxRecDepth 100000 in
set_option maxHeartbeats 4000000 in
theorem c5_trade {G : xG} {σ : xS} {w tw : Nat} {X : Nat → Int32} {nr nb : Nat} {t : xT} {ln : Nat} (hX : WX σ w tw X nr nb t ln) (r b : Nat) (hr : r < nr) (hb : b < nb) : CV G yX5_trade cX5_trade 4 none 2 0 0 [.ref w, .int (nI r), .int (nI b)] σ (fun σ1 => WX σ1 w tw (swapF X nr r b) nr nb t ln ∧ Off w σ σ1) := by
  refine Met.ofX (by decide +kernel) (Nat.le_of_ble_eq_true rfl) (fun μ Xc hQ hnm => ?_)
  have Xc : xC G μ cX5_trade 4 RX5 none 2 0 0 := Xc
  obtain ⟨F, T, A, hB, htw⟩ := id hX
  obtain ⟨hP, hW, hTw, hne, hG, hT⟩ := id hB
  have hr4 := hG.r4
  have hb7 := hG.b7
  show Ev G μ 4 0 0 0 [(0, .ref w), (1, .int (nI r)), (2, .int (nI b))] [] σ
  refine e_aload_n (pc := 0) Xc (dT hX5_trade 0 rfl) 0 rfl ?_
  refine e_iload_n (pc := 1) Xc (dT hX5_trade 1 rfl) 2 rfl ?_
  refine cl_X5_72 (pc := 2) (k := 0) (n := 0) (S := []) Xc hP.o (c5_holder hB b (by omega)) (dT hX5_trade 2 rfl) rfl (Nat.le_of_ble_eq_true rfl) (Nat.le_of_ble_eq_true rfl) (Nat.le_of_ble_eq_true rfl) rfl (Nat.le_of_ble_eq_true rfl) (fun r1 σ2 hq3 => ?_)
  obtain ⟨r1e, r1s⟩ := hq3
  have r1e := r1e.symm; subst r1e; have r1s := r1s.symm; subst r1s
  refine e_istore_n (L' := [(3, .int (orN (holdF X nr (nI b)))), (0, .ref w), (1, .int (nI r)), (2, .int (nI b))]) (pc := 5) Xc (dT hX5_trade 3 rfl) (by decide) rfl ?_
  refine e_iload_n (pc := 6) Xc (dT hX5_trade 4 rfl) 0 rfl ?_
  refine e_bipush (v := -5) (pc := 7) Xc (dT hX5_trade 5 rfl) rfl ?_
  refine e_icmp_eq (tgt := 28) (pc := 9) Xc (dT hX5_trade 6 rfl) rfl (fun c9 => ?_) (fun c9 => ?_)
  · skip
    have hnh : holdF X nr (nI b) = -1 := (holdF_on hr4).mpr ((hold5 hr4).mp c9)
    refine e_aload_n (pc := 28) Xc (dT hX5_trade 15 rfl) 1 rfl ?_
    refine gf_X5_21 (pc := 29) Xc (dT hX5_trade 16 rfl) hP.o rfl ?_
    refine e_iload_n (pc := 32) Xc (dT hX5_trade 17 rfl) 2 rfl ?_
    refine e_iload_n (pc := 33) Xc (dT hX5_trade 18 rfl) 3 rfl ?_
    refine cl_X5_60 (pc := 34) (k := 0) (n := 0) (S := []) Xc (c_put hP.a4 (by decide) r (by omega) (nI b)) (dT hX5_trade 19 rfl) rfl (Nat.le_of_ble_eq_true rfl) (Nat.le_of_ble_eq_true rfl) (Nat.le_of_ble_eq_true rfl) rfl (Nat.le_of_ble_eq_true rfl) (fun σ5 hq6 => ?_)
    subst hq6
    refine Ev.gen (fun z => PX5 z w F T (upA A 4 (upd (A 4) r (nI b)))) (hP.wa4 (g := (upd (A 4) r (nI b)))) Off.set (fun σ7 hP8 ho9 => ?_)
    refine e_vret (pc := 37) Xc hQ (dT hX5_trade 20 rfl) (Nat.le_refl _) (Nat.le_refl _) ?_
    refine ⟨⟨F, T, _, ⟨hP8, ?_, hTw.off ho9 (Ne.symm hne), hne, hG.swap hr hb, hT.swap hG hr⟩, htw⟩, ho9⟩
    rw [swapF, if_pos hnh]
    have := hW.set_has (r := r) (v := nI b) (by omega)
    rw [orN_nI (by omega)] at this
    exact this
  · skip
    have hnh : ¬ holdF X nr (nI b) = -1 := orN_ne c9
    obtain ⟨j, hj, hje⟩ := holdF_has hnh
    have hja : orN (holdF X nr (nI b)) = nI j := by rw [hje, orN_nI (by omega)]
    refine e_aload_n (pc := 12) Xc (dT hX5_trade 7 rfl) 1 rfl ?_
    refine gf_X5_21 (pc := 13) Xc (dT hX5_trade 8 rfl) hP.o rfl ?_
    refine e_iload_n (pc := 16) Xc (dT hX5_trade 9 rfl) 0 rfl ?_
    refine e_val (y := nI j) hja ?_
    refine e_aload_n (pc := 17) Xc (dT hX5_trade 10 rfl) 1 rfl ?_
    refine gf_X5_21 (pc := 18) Xc (dT hX5_trade 11 rfl) hP.o rfl ?_
    refine e_iload_n (pc := 21) Xc (dT hX5_trade 12 rfl) 2 rfl ?_
    refine cl_X5_68 (pc := 22) (k := 0) (n := 0) (S := [.int (nI j), .ref (w + 4)]) Xc (c_get hP.a4 (by decide) (by decide) r (by omega)) (dT hX5_trade 13 rfl) rfl (Nat.le_of_ble_eq_true rfl) (Nat.le_of_ble_eq_true rfl) (Nat.le_of_ble_eq_true rfl) rfl (Nat.le_of_ble_eq_true rfl) (fun r10 σ11 hq12 => ?_)
    obtain ⟨r10e, r10s⟩ := hq12
    have r10e := r10e.symm; subst r10e; have r10s := r10s.symm; subst r10s
    refine cl_X5_60 (pc := 25) (k := 0) (n := 0) (S := []) Xc (c_put hP.a4 (by decide) j (by omega) (A 4 r)) (dT hX5_trade 14 rfl) rfl (Nat.le_of_ble_eq_true rfl) (Nat.le_of_ble_eq_true rfl) (Nat.le_of_ble_eq_true rfl) rfl (Nat.le_of_ble_eq_true rfl) (fun σ14 hq15 => ?_)
    subst hq15
    refine Ev.gen (fun z => PX5 z w F T (upA A 4 (upd (A 4) j (A 4 r)))) (hP.wa4 (g := (upd (A 4) j (A 4 r)))) Off.set (fun σ16 hP17 ho18 => ?_)
    refine e_aload_n (pc := 28) Xc (dT hX5_trade 15 rfl) 1 rfl ?_
    refine gf_X5_21 (pc := 29) Xc (dT hX5_trade 16 rfl) hP17.o rfl ?_
    refine e_iload_n (pc := 32) Xc (dT hX5_trade 17 rfl) 2 rfl ?_
    refine e_iload_n (pc := 33) Xc (dT hX5_trade 18 rfl) 3 rfl ?_
    refine cl_X5_60 (pc := 34) (k := 0) (n := 0) (S := []) Xc (c_put hP17.a4 (by decide) r (by omega) (nI b)) (dT hX5_trade 19 rfl) rfl (Nat.le_of_ble_eq_true rfl) (Nat.le_of_ble_eq_true rfl) (Nat.le_of_ble_eq_true rfl) rfl (Nat.le_of_ble_eq_true rfl) (fun σ20 hq21 => ?_)
    subst hq21
    refine Ev.gen (fun z => PX5 z w F T (upA (upA A 4 (upd (A 4) j (A 4 r))) 4 (upd (upd (A 4) j (A 4 r)) r (nI b)))) (hP17.wa4 (g := (upd (upd (A 4) j (A 4 r)) r (nI b)))) Off.set (fun σ22 hP23 ho24 => ?_)
    have hP23 : PX5 σ22 w F T (upA A 4 (upd (upd (A 4) j (A 4 r)) r (nI b))) := by rw [upA_2] at hP23; exact hP23
    refine e_vret (pc := 37) Xc hQ (dT hX5_trade 20 rfl) (Nat.le_refl _) (Nat.le_refl _) ?_
    refine ⟨⟨F, T, _, ⟨hP23, ?_, hTw.off (ho18.tr ho24) (Ne.symm hne), hne, hG.swap hr hb, hT.swap hG hr⟩, htw⟩, (ho18.tr ho24)⟩
    rw [swapF, if_neg hnh, hje, nI_clamp (by omega)]
    have k1 := hW.set_has (r := j) (v := X (1 + r)) (by omega)
    have k2 := k1.set_has (r := r) (v := nI b) (by omega)
    rw [orN_nI (by omega), upA_2, ← hW.2.2.2.1 r hr] at k2
    exact k2
set_option maxRecDepth 100000 in
set_option maxHeartbeats 4000000 in
theorem c5_wouldChange {G : xG} {σ : xS} {w : Nat} {X : Nat → Int32} {nr nb : Nat} {t : xT} {F : Nat → Int32} {T : Nat → Nat} {A : Nat → Nat → Int32} {ln : Nat} (hB : WB σ w X nr nb t F T A ln) (hL : LB X ln) (r o : Nat) (hr : r < nr) (ho : o < nr) : CI G yX5_wouldChange cX5_wouldChange 5 (some .boolean) 2 0 0 [.ref w, .int (nI r), .int (nI o)] σ (fun z σ1 => z = bI (wchF X t r o) ∧ σ1 = σ) := by
  refine Met.ofX (by decide +kernel) (Nat.le_of_ble_eq_true rfl) (fun μ Xc hQ hnm => ?_)
  have Xc : xC G μ cX5_wouldChange 5 RX5 (some .boolean) 2 0 0 := Xc
  obtain ⟨hP, hW, hTw, hne, hG, hT⟩ := id hB
  have hr4 := hG.r4
  have hb7 := hG.b7
  show Ev G μ 5 0 0 0 [(0, .ref w), (1, .int (nI r)), (2, .int (nI o))] [] σ
  refine e_aload_n (pc := 0) Xc (dT hX5_wouldChange 0 rfl) 0 rfl ?_
  refine gf_X5_21 (pc := 1) Xc (dT hX5_wouldChange 1 rfl) hP.o rfl ?_
  refine e_iload_n (pc := 4) Xc (dT hX5_wouldChange 2 rfl) 1 rfl ?_
  refine cl_X5_68 (pc := 5) (k := 0) (n := 0) (S := []) Xc (c_get hP.a4 (by decide) (by decide) r (by omega)) (dT hX5_wouldChange 3 rfl) rfl (Nat.le_of_ble_eq_true rfl) (Nat.le_of_ble_eq_true rfl) (Nat.le_of_ble_eq_true rfl) rfl (Nat.le_of_ble_eq_true rfl) (fun r1 σ2 hq3 => ?_)
  obtain ⟨r1e, r1s⟩ := hq3
  have r1e := r1e.symm; subst r1e; have r1s := r1s.symm; subst r1s
  refine e_istore_n (L' := [(3, .int (A 4 r)), (0, .ref w), (1, .int (nI r)), (2, .int (nI o))]) (pc := 8) Xc (dT hX5_wouldChange 4 rfl) (by decide) rfl ?_
  refine e_aload_n (pc := 9) Xc (dT hX5_wouldChange 5 rfl) 1 rfl ?_
  refine gf_X5_21 (pc := 10) Xc (dT hX5_wouldChange 6 rfl) hP.o rfl ?_
  refine e_iload_n (pc := 13) Xc (dT hX5_wouldChange 7 rfl) 3 rfl ?_
  refine cl_X5_68 (pc := 14) (k := 0) (n := 0) (S := []) Xc (c_get hP.a4 (by decide) (by decide) o (by omega)) (dT hX5_wouldChange 8 rfl) rfl (Nat.le_of_ble_eq_true rfl) (Nat.le_of_ble_eq_true rfl) (Nat.le_of_ble_eq_true rfl) rfl (Nat.le_of_ble_eq_true rfl) (fun r4 σ5 hq6 => ?_)
  obtain ⟨r4e, r4s⟩ := hq6
  have r4e := r4e.symm; subst r4e; have r4s := r4s.symm; subst r4s
  refine e_istore (L' := [(4, .int (A 4 o)), (3, .int (A 4 r)), (0, .ref w), (1, .int (nI r)), (2, .int (nI o))]) (pc := 17) Xc (dT hX5_wouldChange 9 rfl) (by decide) rfl ?_
  refine e_iload_n (pc := 19) Xc (dT hX5_wouldChange 10 rfl) 1 rfl ?_
  refine e_bipush (v := -5) (pc := 20) Xc (dT hX5_wouldChange 11 rfl) rfl ?_
  refine e_icmp_eq (tgt := 32) (pc := 22) Xc (dT hX5_wouldChange 12 rfl) rfl (fun c22 => ?_) (fun c22 => ?_)
  · skip
    have hn : X (1 + r) = -1 := WB.has5 hG (by omega) (by rw [← hW.2.2.2.1 r (by omega)]; exact c22)
    refine e_iconst (v := 0) (pc := 32) Xc (dT hX5_wouldChange 16 rfl) rfl ?_
    refine e_zret (pc := 33) Xc hQ (dT hX5_wouldChange 17 rfl) (Nat.le_refl _) (Nat.le_refl _) (Or.inl rfl) ?_
    refine ⟨?_, rfl⟩
    symm
    show bI _ = 0
    rw [bI_0, wchF, hn]
    rfl
  · skip
    obtain ⟨h, hl, he⟩ := hG.has (r := r) (by omega) (orN_ne (by rw [← hW.2.2.2.1 r (by omega)]; exact c22))
    have ha : A 4 r = nI h := by rw [hW.2.2.2.1 r (by omega), he, orN_nI (by omega)]
    refine e_iload (pc := 25) Xc (dT hX5_wouldChange 13 rfl) 0 rfl ?_
    refine e_bipush (v := -5) (pc := 27) Xc (dT hX5_wouldChange 14 rfl) rfl ?_
    refine e_icmp_ne (tgt := 34) (pc := 29) Xc (dT hX5_wouldChange 15 rfl) rfl (fun c29 => ?_) (fun c29 => ?_)
    · skip
      obtain ⟨g, gl, ge⟩ := hG.has (r := o) (by omega) (orN_ne (by rw [← hW.2.2.2.1 o (by omega)]; exact c29))
      have ga : A 4 o = nI g := by rw [hW.2.2.2.1 o (by omega), ge, orN_nI (by omega)]
      refine e_aload_n (pc := 34) Xc (dT hX5_wouldChange 18 rfl) 2 rfl ?_
      refine e_iload_n (pc := 35) Xc (dT hX5_wouldChange 19 rfl) 3 rfl ?_
      refine e_iload (pc := 36) Xc (dT hX5_wouldChange 20 rfl) 0 rfl ?_
      refine e_val (y := nI g) ga ?_
      refine cl_X5_83 (pc := 38) (k := 0) (n := 0) (S := []) Xc hP.o (c5_liking hB hL r g (by omega) (by omega)) (dT hX5_wouldChange 21 rfl) rfl (Nat.le_of_ble_eq_true rfl) (Nat.le_of_ble_eq_true rfl) (Nat.le_of_ble_eq_true rfl) rfl (Nat.le_of_ble_eq_true rfl) (fun r7 σ8 hq9 => ?_)
      obtain ⟨r7e, r7s⟩ := hq9
      have r7e := r7e.symm; subst r7e; have r7s := r7s.symm; subst r7s
      refine e_aload_n (pc := 41) Xc (dT hX5_wouldChange 22 rfl) 2 rfl ?_
      refine e_iload_n (pc := 42) Xc (dT hX5_wouldChange 23 rfl) 3 rfl ?_
      refine e_iload_n (pc := 43) Xc (dT hX5_wouldChange 24 rfl) 1 rfl ?_
      refine e_val (y := nI h) ha ?_
      refine cl_X5_83 (pc := 44) (k := 0) (n := 0) (S := [.int (likF X t r g)]) Xc hP.o (c5_liking hB hL r h (by omega) (by omega)) (dT hX5_wouldChange 25 rfl) rfl (Nat.le_of_ble_eq_true rfl) (Nat.le_of_ble_eq_true rfl) (Nat.le_of_ble_eq_true rfl) rfl (Nat.le_of_ble_eq_true rfl) (fun r10 σ11 hq12 => ?_)
      obtain ⟨r10e, r10s⟩ := hq12
      have r10e := r10e.symm; subst r10e; have r10s := r10s.symm; subst r10s
      refine e_icmp_le (tgt := 70) (pc := 47) Xc (dT hX5_wouldChange 26 rfl) rfl (fun c47 => ?_) (fun c47 => ?_)
      · skip
        refine e_iconst (v := 0) (pc := 70) Xc (dT hX5_wouldChange 38 rfl) rfl ?_
        refine e_zret (pc := 71) Xc hQ (dT hX5_wouldChange 39 rfl) (Nat.le_refl _) (Nat.le_refl _) (Or.inl rfl) ?_
        refine ⟨?_, rfl⟩
        rw [wchF, he, ge, nI_clamp (by omega), nI_clamp (by omega), decide_eq_true (nI_nm1 (by omega)), decide_eq_true (nI_nm1 (by omega))]
        simp only [← Int32.not_le, Bool.true_and] at *
        simp_all [bI]
      · skip
        refine e_aload_n (pc := 50) Xc (dT hX5_wouldChange 27 rfl) 2 rfl ?_
        refine e_iload_n (pc := 51) Xc (dT hX5_wouldChange 28 rfl) 4 rfl ?_
        refine e_iload_n (pc := 52) Xc (dT hX5_wouldChange 29 rfl) 1 rfl ?_
        refine e_val (y := nI h) ha ?_
        refine cl_X5_83 (pc := 53) (k := 0) (n := 0) (S := []) Xc hP.o (c5_liking hB hL o h (by omega) (by omega)) (dT hX5_wouldChange 30 rfl) rfl (Nat.le_of_ble_eq_true rfl) (Nat.le_of_ble_eq_true rfl) (Nat.le_of_ble_eq_true rfl) rfl (Nat.le_of_ble_eq_true rfl) (fun r13 σ14 hq15 => ?_)
        obtain ⟨r13e, r13s⟩ := hq15
        have r13e := r13e.symm; subst r13e; have r13s := r13s.symm; subst r13s
        refine e_aload_n (pc := 56) Xc (dT hX5_wouldChange 31 rfl) 2 rfl ?_
        refine e_iload_n (pc := 57) Xc (dT hX5_wouldChange 32 rfl) 4 rfl ?_
        refine e_iload (pc := 58) Xc (dT hX5_wouldChange 33 rfl) 0 rfl ?_
        refine e_val (y := nI g) ga ?_
        refine cl_X5_83 (pc := 60) (k := 0) (n := 0) (S := [.int (likF X t o h)]) Xc hP.o (c5_liking hB hL o g (by omega) (by omega)) (dT hX5_wouldChange 34 rfl) rfl (Nat.le_of_ble_eq_true rfl) (Nat.le_of_ble_eq_true rfl) (Nat.le_of_ble_eq_true rfl) rfl (Nat.le_of_ble_eq_true rfl) (fun r16 σ17 hq18 => ?_)
        obtain ⟨r16e, r16s⟩ := hq18
        have r16e := r16e.symm; subst r16e; have r16s := r16s.symm; subst r16s
        refine e_icmp_le (tgt := 70) (pc := 63) Xc (dT hX5_wouldChange 35 rfl) rfl (fun c63 => ?_) (fun c63 => ?_)
        · skip
          refine e_iconst (v := 0) (pc := 70) Xc (dT hX5_wouldChange 38 rfl) rfl ?_
          refine e_zret (pc := 71) Xc hQ (dT hX5_wouldChange 39 rfl) (Nat.le_refl _) (Nat.le_refl _) (Or.inl rfl) ?_
          refine ⟨?_, rfl⟩
          rw [wchF, he, ge, nI_clamp (by omega), nI_clamp (by omega), decide_eq_true (nI_nm1 (by omega)), decide_eq_true (nI_nm1 (by omega))]
          simp only [← Int32.not_le, Bool.true_and] at *
          simp_all [bI]
        · skip
          refine e_iconst (v := 1) (pc := 66) Xc (dT hX5_wouldChange 36 rfl) rfl ?_
          refine e_goto (tgt := 71) (pc := 67) Xc (dT hX5_wouldChange 37 rfl) rfl ?_
          refine e_zret (pc := 71) Xc hQ (dT hX5_wouldChange 39 rfl) (Nat.le_refl _) (Nat.le_refl _) (Or.inr rfl) ?_
          refine ⟨?_, rfl⟩
          rw [wchF, he, ge, nI_clamp (by omega), nI_clamp (by omega), decide_eq_true (nI_nm1 (by omega)), decide_eq_true (nI_nm1 (by omega))]
          simp only [← Int32.not_le, Bool.true_and] at *
          simp_all [bI]
    · skip
      have gn : X (1 + o) = -1 := WB.has5 hG (by omega) (by rw [← hW.2.2.2.1 o (by omega)]; exact c29)
      refine e_iconst (v := 0) (pc := 32) Xc (dT hX5_wouldChange 16 rfl) rfl ?_
      refine e_zret (pc := 33) Xc hQ (dT hX5_wouldChange 17 rfl) (Nat.le_refl _) (Nat.le_refl _) (Or.inl rfl) ?_
      refine ⟨?_, rfl⟩
      symm
      show bI _ = 0
      rw [bI_0, wchF, gn]
      simp
set_option maxRecDepth 100000 in
set_option maxHeartbeats 4000000 in
theorem c5_likesMost {G : xG} {σ : xS} {w : Nat} {X : Nat → Int32} {nr nb : Nat} {t : xT} {F : Nat → Int32} {T : Nat → Nat} {A : Nat → Nat → Int32} {ln : Nat} (hB : WB σ w X nr nb t F T A ln) (hL : LB X ln) (r b : Nat) (hr : r < nr) (hb : b < nb) : CI G yX5_likesMost cX5_likesMost 4 (some .boolean) 2 0 0 [.ref w, .int (nI r), .int (nI b)] σ (fun z σ1 => z = bI (mostLF X t nb r b) ∧ σ1 = σ) := by
  refine Met.ofX (by decide +kernel) (Nat.le_of_ble_eq_true rfl) (fun μ Xc hQ hnm => ?_)
  have Xc : xC G μ cX5_likesMost 4 RX5 (some .boolean) 2 0 0 := Xc
  obtain ⟨hP, hW, hTw, hne, hG, hT⟩ := id hB
  have hr4 := hG.r4
  have hb7 := hG.b7
  have lp2 : ∀ (n2 : Nat) (c : Nat), nb - c < n2 → (c ≤ nb) → (∀ j, j < c → (fun c => decide (likF X t r c ≤ likF X t r b)) j = true) → Ev G μ 4 0 0 2 [(0, .ref w), (1, .int (nI r)), (2, .int (nI b)), (3, .int (nI c))] [] σ := by
    intro n2
    induction n2 with
    | zero => intro c hn; exact absurd hn (Nat.not_lt_zero _)
    | succ n2 ih2 =>
      intro c hn2 hc hs
      refine e_iload_n (pc := 2) Xc (dT hX5_likesMost 2 rfl) 3 rfl ?_
      refine e_aload_n (pc := 3) Xc (dT hX5_likesMost 3 rfl) 0 rfl ?_
      refine gf_X5_37 (pc := 4) Xc (dT hX5_likesMost 4 rfl) hP.o rfl ?_
      refine e_val (y := nI nb) hW.2.2.2.2.2.1 ?_
      refine e_icmp_geN (x := c) (y := nb) (tgt := 33) (pc := 7) Xc (dT hX5_likesMost 5 rfl) rfl (by omega) (by omega) (fun c7 => ?_) (fun c7 => ?_)
      · skip
        refine e_iconst (v := 1) (pc := 33) Xc (dT hX5_likesMost 19 rfl) rfl ?_
        refine e_zret (pc := 34) Xc hQ (dT hX5_likesMost 20 rfl) (Nat.le_refl _) (Nat.le_refl _) (Or.inr rfl) ?_
        refine ⟨?_, rfl⟩
        have hce : c = nb := by omega
        subst hce
        symm
        show bI _ = 1
        rw [bI_1]
        exact allTo_iff.mpr hs
      · skip
        refine e_aload_n (pc := 10) Xc (dT hX5_likesMost 6 rfl) 0 rfl ?_
        refine e_iload_n (pc := 11) Xc (dT hX5_likesMost 7 rfl) 1 rfl ?_
        refine e_iload_n (pc := 12) Xc (dT hX5_likesMost 8 rfl) 3 rfl ?_
        refine cl_X5_83 (pc := 13) (k := 0) (n := 0) (S := []) Xc hP.o (c5_liking hB hL r c (by omega) (by omega)) (dT hX5_likesMost 9 rfl) rfl (Nat.le_of_ble_eq_true rfl) (Nat.le_of_ble_eq_true rfl) (Nat.le_of_ble_eq_true rfl) rfl (Nat.le_of_ble_eq_true rfl) (fun r1 σ2 hq3 => ?_)
        obtain ⟨r1e, r1s⟩ := hq3
        have r1e := r1e.symm; subst r1e; have r1s := r1s.symm; subst r1s
        refine e_aload_n (pc := 16) Xc (dT hX5_likesMost 10 rfl) 0 rfl ?_
        refine e_iload_n (pc := 17) Xc (dT hX5_likesMost 11 rfl) 1 rfl ?_
        refine e_iload_n (pc := 18) Xc (dT hX5_likesMost 12 rfl) 2 rfl ?_
        refine cl_X5_83 (pc := 19) (k := 0) (n := 0) (S := [.int (likF X t r c)]) Xc hP.o (c5_liking hB hL r b (by omega) (by omega)) (dT hX5_likesMost 13 rfl) rfl (Nat.le_of_ble_eq_true rfl) (Nat.le_of_ble_eq_true rfl) (Nat.le_of_ble_eq_true rfl) rfl (Nat.le_of_ble_eq_true rfl) (fun r4 σ5 hq6 => ?_)
        obtain ⟨r4e, r4s⟩ := hq6
        have r4e := r4e.symm; subst r4e; have r4s := r4s.symm; subst r4s
        refine e_icmp_le (tgt := 27) (pc := 22) Xc (dT hX5_likesMost 14 rfl) rfl (fun c22 => ?_) (fun c22 => ?_)
        · skip
          refine e_iincN (a := c) (b := 1) (L' := [(3, .int (nI (c + 1))), (0, .ref w), (1, .int (nI r)), (2, .int (nI b))]) (pc := 27) Xc (dT hX5_likesMost 17 rfl) 3 rfl rfl (by decide) rfl ?_
          refine e_goto (tgt := 2) (pc := 30) Xc (dT hX5_likesMost 18 rfl) rfl ?_
          refine Ev.pick (L' := [(0, .ref w), (1, .int (nI r)), (2, .int (nI b)), (3, .int (nI (c + 1)))]) [1, 2, 3, 0] rfl ?_
          exact ih2 (c + 1) (by omega) (by omega) (fun j hj => by by_cases e : j = c; (· subst e; simpa using c22); (· exact hs j (by omega)))
        · skip
          refine e_iconst (v := 0) (pc := 25) Xc (dT hX5_likesMost 15 rfl) rfl ?_
          refine e_zret (pc := 26) Xc hQ (dT hX5_likesMost 16 rfl) (Nat.le_refl _) (Nat.le_refl _) (Or.inl rfl) ?_
          refine ⟨?_, rfl⟩
          symm
          show bI _ = 0
          rw [bI_0]
          cases hq : mostLF X t nb r b with
          | false => rfl
          | true =>
            have := allTo_iff.mp hq c (by omega)
            simp only [decide_eq_true_eq] at this
            exact absurd this c22
  show Ev G μ 4 0 0 0 [(0, .ref w), (1, .int (nI r)), (2, .int (nI b))] [] σ
  refine e_iconst (v := 0) (pc := 0) Xc (dT hX5_likesMost 0 rfl) rfl ?_
  refine e_istore_n (L' := [(3, .int 0), (0, .ref w), (1, .int (nI r)), (2, .int (nI b))]) (pc := 1) Xc (dT hX5_likesMost 1 rfl) (by decide) rfl ?_
  refine Ev.pick (L' := [(0, .ref w), (1, .int (nI r)), (2, .int (nI b)), (3, .int 0)]) [1, 2, 3, 0] rfl ?_
  exact lp2 ((nb - 0) + 1) 0 (Nat.lt_succ_self _) (Nat.zero_le _) (fun j hj => absurd hj (Nat.not_lt_zero j))
set_option maxRecDepth 100000 in
set_option maxHeartbeats 4000000 in
theorem c5_shelfThick {G : xG} {σ : xS} {w : Nat} {X : Nat → Int32} {nr nb : Nat} {t : xT} {F : Nat → Int32} {T : Nat → Nat} {A : Nat → Nat → Int32} {ln : Nat} (hB : WB σ w X nr nb t F T A ln) : CI G yX5_shelfThick cX5_shelfThick 3 (some .int) 1 0 0 [.ref w] σ (fun z σ1 => z = shThF X nr nb ∧ σ1 = σ) := by
  refine Met.ofX (by decide +kernel) (Nat.le_of_ble_eq_true rfl) (fun μ Xc hQ hnm => ?_)
  have Xc : xC G μ cX5_shelfThick 3 RX5 (some .int) 1 0 0 := Xc
  obtain ⟨hP, hW, hTw, hne, hG, hT⟩ := id hB
  have hr4 := hG.r4
  have hb7 := hG.b7
  have lp4 : ∀ (n4 : Nat) (b : Nat) (ac : Int32), nb - b < n4 → (b ≤ nb) → (ac = itr (fun b a => a + (if onF X nr (nI b) then X (5 + b) else 0)) 0 b) → Ev G μ 3 0 0 4 [(0, .ref w), (1, .int ac), (2, .int (nI b))] [] σ := by
    intro n4
    induction n4 with
    | zero => intro b ac hn; exact absurd hn (Nat.not_lt_zero _)
    | succ n4 ih4 =>
      intro b ac hn4 hb ha
      refine e_iload_n (pc := 4) Xc (dT hX5_shelfThick 4 rfl) 2 rfl ?_
      refine e_aload_n (pc := 5) Xc (dT hX5_shelfThick 5 rfl) 0 rfl ?_
      refine gf_X5_37 (pc := 6) Xc (dT hX5_shelfThick 6 rfl) hP.o rfl ?_
      refine e_val (y := nI nb) hW.2.2.2.2.2.1 ?_
      refine e_icmp_geN (x := b) (y := nb) (tgt := 39) (pc := 9) Xc (dT hX5_shelfThick 7 rfl) rfl (by omega) (by omega) (fun c9 => ?_) (fun c9 => ?_)
      · skip
        refine e_iload_n (pc := 39) Xc (dT hX5_shelfThick 22 rfl) 1 rfl ?_
        refine e_iret (pc := 40) Xc hQ (dT hX5_shelfThick 23 rfl) (Nat.le_refl _) (Nat.le_refl _) ?_
        refine ⟨?_, rfl⟩
        have hbe : b = nb := by omega
        subst hbe
        exact ha
      · skip
        refine e_aload_n (pc := 12) Xc (dT hX5_shelfThick 8 rfl) 0 rfl ?_
        refine e_iload_n (pc := 13) Xc (dT hX5_shelfThick 9 rfl) 2 rfl ?_
        refine cl_X5_72 (pc := 14) (k := 0) (n := 0) (S := []) Xc hP.o (c5_holder hB b (by omega)) (dT hX5_shelfThick 10 rfl) rfl (Nat.le_of_ble_eq_true rfl) (Nat.le_of_ble_eq_true rfl) (Nat.le_of_ble_eq_true rfl) rfl (Nat.le_of_ble_eq_true rfl) (fun r1 σ2 hq3 => ?_)
        obtain ⟨r1e, r1s⟩ := hq3
        have r1e := r1e.symm; subst r1e; have r1s := r1s.symm; subst r1s
        refine e_bipush (v := -5) (pc := 17) Xc (dT hX5_shelfThick 11 rfl) rfl ?_
        refine e_icmp_ne (tgt := 33) (pc := 19) Xc (dT hX5_shelfThick 12 rfl) rfl (fun c19 => ?_) (fun c19 => ?_)
        · skip
          refine e_iincN (a := b) (b := 1) (L' := [(2, .int (nI (b + 1))), (0, .ref w), (1, .int ac)]) (pc := 33) Xc (dT hX5_shelfThick 20 rfl) 2 rfl rfl (by decide) rfl ?_
          refine e_goto (tgt := 4) (pc := 36) Xc (dT hX5_shelfThick 21 rfl) rfl ?_
          refine Ev.pick (L' := [(0, .ref w), (1, .int ac), (2, .int (nI (b + 1)))]) [1, 2, 0] rfl ?_
          exact ih4 (b + 1) ac (by omega) (by omega) (by rw [itr, ← ha, if_neg (fun q => c19 ((hold5 hr4).mpr q))]; exact (Int32.add_zero _).symm)
        · skip
          refine e_iload_n (pc := 22) Xc (dT hX5_shelfThick 13 rfl) 1 rfl ?_
          refine e_aload_n (pc := 23) Xc (dT hX5_shelfThick 14 rfl) 0 rfl ?_
          refine gf_X5_9 (pc := 24) Xc (dT hX5_shelfThick 15 rfl) hP.o rfl ?_
          refine e_iload_n (pc := 27) Xc (dT hX5_shelfThick 16 rfl) 2 rfl ?_
          refine cl_X5_68 (pc := 28) (k := 0) (n := 0) (S := [.int ac]) Xc (c_get hP.a1 (by decide) (by decide) b (by omega)) (dT hX5_shelfThick 17 rfl) rfl (Nat.le_of_ble_eq_true rfl) (Nat.le_of_ble_eq_true rfl) (Nat.le_of_ble_eq_true rfl) rfl (Nat.le_of_ble_eq_true rfl) (fun r4 σ5 hq6 => ?_)
          obtain ⟨r4e, r4s⟩ := hq6
          have r4e := r4e.symm; subst r4e; have r4s := r4s.symm; subst r4s
          refine e_val (y := X (5 + b)) (hW.1 b (by omega)) ?_
          refine e_iadd (pc := 31) Xc (dT hX5_shelfThick 18 rfl) ?_
          refine e_istore_n (L' := [(1, .int (ac + (X (5 + b)))), (0, .ref w), (2, .int (nI b))]) (pc := 32) Xc (dT hX5_shelfThick 19 rfl) (by decide) rfl ?_
          refine e_iincN (a := b) (b := 1) (L' := [(2, .int (nI (b + 1))), (1, .int (ac + (X (5 + b)))), (0, .ref w)]) (pc := 33) Xc (dT hX5_shelfThick 20 rfl) 2 rfl rfl (by decide) rfl ?_
          refine e_goto (tgt := 4) (pc := 36) Xc (dT hX5_shelfThick 21 rfl) rfl ?_
          refine Ev.pick (L' := [(0, .ref w), (1, .int (ac + (X (5 + b)))), (2, .int (nI (b + 1)))]) [2, 1, 0] rfl ?_
          exact ih4 (b + 1) (ac + (X (5 + b))) (by omega) (by omega) (by rw [itr, ← ha, if_pos ((hold5 hr4).mp c19)])
  show Ev G μ 3 0 0 0 [(0, .ref w)] [] σ
  refine e_iconst (v := 0) (pc := 0) Xc (dT hX5_shelfThick 0 rfl) rfl ?_
  refine e_istore_n (L' := [(1, .int 0), (0, .ref w)]) (pc := 1) Xc (dT hX5_shelfThick 1 rfl) (by decide) rfl ?_
  refine e_iconst (v := 0) (pc := 2) Xc (dT hX5_shelfThick 2 rfl) rfl ?_
  refine e_istore_n (L' := [(2, .int 0), (1, .int 0), (0, .ref w)]) (pc := 3) Xc (dT hX5_shelfThick 3 rfl) (by decide) rfl ?_
  refine Ev.pick (L' := [(0, .ref w), (1, .int 0), (2, .int 0)]) [2, 1, 0] rfl ?_
  exact lp4 ((nb - 0) + 1) 0 0 (Nat.lt_succ_self _) (Nat.zero_le _) rfl
set_option maxRecDepth 100000 in
set_option maxHeartbeats 4000000 in
theorem c5_copy {G : xG} {σ : xS} {w o tw : Nat} {F5 : Nat → Int32} {T5 : Nat → Nat} {A5 : Nat → Nat → Int32} (hP5 : PX5 σ w F5 T5 A5) {X : Nat → Int32} {nr nb : Nat} {t : xT} {ln : Nat} (hX : WX σ o tw X nr nb t ln) (hwo : w ≠ o) (hwt : w ≠ tw) : CV G yX5_copy cX5_copy 2 none 2 0 0 [.ref w, .ref o] σ (fun σ1 => WX σ1 w tw X nr nb t 0 ∧ Off w σ σ1) := by
  refine Met.ofX (by decide +kernel) (Nat.le_of_ble_eq_true rfl) (fun μ Xc hQ hnm => ?_)
  have Xc : xC G μ cX5_copy 2 RX5 none 2 0 0 := Xc
  obtain ⟨F, T, A, hB, htw⟩ := id hX
  obtain ⟨hP, hW, hTw, hne, hG, hT⟩ := id hB
  have hr4 := hG.r4
  show Ev G μ 2 0 0 0 [(0, .ref w), (1, .ref o)] [] σ
  refine e_aload_n (pc := 0) Xc (dT hX5_copy 0 rfl) 1 rfl ?_
  refine gf_X5_9 (pc := 1) Xc (dT hX5_copy 1 rfl) hP.o rfl ?_
  refine e_aload_n (pc := 4) Xc (dT hX5_copy 2 rfl) 0 rfl ?_
  refine gf_X5_9 (pc := 5) Xc (dT hX5_copy 3 rfl) hP5.o rfl ?_
  refine cl_X5_56 (pc := 8) (k := 0) (n := 0) (S := []) Xc (c_copyRow hP.a1 hP5.a1 (fun q => absurd (congrArg Prod.fst q) (Ne.symm hwo)) (by decide)) (dT hX5_copy 4 rfl) rfl (Nat.le_of_ble_eq_true rfl) (Nat.le_of_ble_eq_true rfl) (Nat.le_of_ble_eq_true rfl) rfl (Nat.le_of_ble_eq_true rfl) (fun σ2 hq3 => ?_)
  obtain ⟨g4, hg5, r1s⟩ := hq3
  subst r1s
  refine Ev.gen (fun z => PX5 z w F5 T5 (upA A5 1 g4)) (hP5.wa1 (g := g4)) Off.set (fun σ6 hP7 ho8 => ?_)
  have hP9 := hP.off ho8 (Ne.symm hwo)
  refine e_aload_n (pc := 11) Xc (dT hX5_copy 5 rfl) 1 rfl ?_
  refine gf_X5_15 (pc := 12) Xc (dT hX5_copy 6 rfl) hP9.o rfl ?_
  refine e_aload_n (pc := 15) Xc (dT hX5_copy 7 rfl) 0 rfl ?_
  refine gf_X5_15 (pc := 16) Xc (dT hX5_copy 8 rfl) hP7.o rfl ?_
  refine cl_X5_56 (pc := 19) (k := 0) (n := 0) (S := []) Xc (c_copyRow hP9.a2 hP7.a2 (fun q => absurd (congrArg Prod.fst q) (Ne.symm hwo)) (by decide)) (dT hX5_copy 9 rfl) rfl (Nat.le_of_ble_eq_true rfl) (Nat.le_of_ble_eq_true rfl) (Nat.le_of_ble_eq_true rfl) rfl (Nat.le_of_ble_eq_true rfl) (fun σ11 hq12 => ?_)
  obtain ⟨g13, hg14, r10s⟩ := hq12
  subst r10s
  refine Ev.gen (fun z => PX5 z w F5 T5 (upA (upA A5 1 g4) 2 g13)) (hP7.wa2 (g := g13)) Off.set (fun σ15 hP16 ho17 => ?_)
  have hP18 := hP9.off ho17 (Ne.symm hwo)
  refine e_aload_n (pc := 22) Xc (dT hX5_copy 10 rfl) 1 rfl ?_
  refine gf_X5_18 (pc := 23) Xc (dT hX5_copy 11 rfl) hP18.o rfl ?_
  refine e_aload_n (pc := 26) Xc (dT hX5_copy 12 rfl) 0 rfl ?_
  refine gf_X5_18 (pc := 27) Xc (dT hX5_copy 13 rfl) hP16.o rfl ?_
  refine cl_X5_56 (pc := 30) (k := 0) (n := 0) (S := []) Xc (c_copyRow hP18.a3 hP16.a3 (fun q => absurd (congrArg Prod.fst q) (Ne.symm hwo)) (by decide)) (dT hX5_copy 14 rfl) rfl (Nat.le_of_ble_eq_true rfl) (Nat.le_of_ble_eq_true rfl) (Nat.le_of_ble_eq_true rfl) rfl (Nat.le_of_ble_eq_true rfl) (fun σ20 hq21 => ?_)
  obtain ⟨g22, hg23, r19s⟩ := hq21
  subst r19s
  refine Ev.gen (fun z => PX5 z w F5 T5 (upA (upA (upA A5 1 g4) 2 g13) 3 g22)) (hP16.wa3 (g := g22)) Off.set (fun σ24 hP25 ho26 => ?_)
  have hP27 := hP18.off ho26 (Ne.symm hwo)
  refine e_aload_n (pc := 33) Xc (dT hX5_copy 15 rfl) 1 rfl ?_
  refine gf_X5_21 (pc := 34) Xc (dT hX5_copy 16 rfl) hP27.o rfl ?_
  refine e_aload_n (pc := 37) Xc (dT hX5_copy 17 rfl) 0 rfl ?_
  refine gf_X5_21 (pc := 38) Xc (dT hX5_copy 18 rfl) hP25.o rfl ?_
  refine cl_X5_56 (pc := 41) (k := 0) (n := 0) (S := []) Xc (c_copyRow hP27.a4 hP25.a4 (fun q => absurd (congrArg Prod.fst q) (Ne.symm hwo)) (by decide)) (dT hX5_copy 19 rfl) rfl (Nat.le_of_ble_eq_true rfl) (Nat.le_of_ble_eq_true rfl) (Nat.le_of_ble_eq_true rfl) rfl (Nat.le_of_ble_eq_true rfl) (fun σ29 hq30 => ?_)
  obtain ⟨g31, hg32, r28s⟩ := hq30
  subst r28s
  refine Ev.gen (fun z => PX5 z w F5 T5 (upA (upA (upA (upA A5 1 g4) 2 g13) 3 g22) 4 g31)) (hP25.wa4 (g := g31)) Off.set (fun σ33 hP34 ho35 => ?_)
  have hP36 := hP27.off ho35 (Ne.symm hwo)
  refine e_aload_n (pc := 44) Xc (dT hX5_copy 20 rfl) 1 rfl ?_
  refine gf_X5_24 (pc := 45) Xc (dT hX5_copy 21 rfl) hP36.o rfl ?_
  refine e_aload_n (pc := 48) Xc (dT hX5_copy 22 rfl) 0 rfl ?_
  refine gf_X5_24 (pc := 49) Xc (dT hX5_copy 23 rfl) hP34.o rfl ?_
  refine cl_X5_56 (pc := 52) (k := 0) (n := 0) (S := []) Xc (c_copyRow hP36.a5 hP34.a5 (fun q => absurd (congrArg Prod.fst q) (Ne.symm hwo)) (by decide)) (dT hX5_copy 24 rfl) rfl (Nat.le_of_ble_eq_true rfl) (Nat.le_of_ble_eq_true rfl) (Nat.le_of_ble_eq_true rfl) rfl (Nat.le_of_ble_eq_true rfl) (fun σ38 hq39 => ?_)
  obtain ⟨g40, hg41, r37s⟩ := hq39
  subst r37s
  refine Ev.gen (fun z => PX5 z w F5 T5 (upA (upA (upA (upA (upA A5 1 g4) 2 g13) 3 g22) 4 g31) 5 g40)) (hP34.wa5 (g := g40)) Off.set (fun σ42 hP43 ho44 => ?_)
  have hP45 := hP36.off ho44 (Ne.symm hwo)
  refine e_aload_n (pc := 55) Xc (dT hX5_copy 25 rfl) 0 rfl ?_
  refine e_aload_n (pc := 56) Xc (dT hX5_copy 26 rfl) 1 rfl ?_
  refine gf_X5_37 (pc := 57) Xc (dT hX5_copy 27 rfl) hP45.o rfl ?_
  refine pf_X5_37 (fs' := olX5 w (upd F5 8 (F 8)) T5) (pc := 60) Xc (dT hX5_copy 28 rfl) hP43.o (Nat.le_of_ble_eq_true rfl) rfl ?_
  refine Ev.gen (fun z => PX5 z w (upd F5 8 (F 8)) T5 (upA (upA (upA (upA (upA A5 1 g4) 2 g13) 3 g22) 4 g31) 5 g40)) (hP43.wf8 (x := F 8)) Off.set (fun σ46 hP47 ho48 => ?_)
  have hP49 := hP45.off ho48 (Ne.symm hwo)
  refine e_aload_n (pc := 63) Xc (dT hX5_copy 29 rfl) 0 rfl ?_
  refine e_aload_n (pc := 64) Xc (dT hX5_copy 30 rfl) 1 rfl ?_
  refine gf_X5_40 (pc := 65) Xc (dT hX5_copy 31 rfl) hP49.o rfl ?_
  refine pf_X5_40 (fs' := olX5 w (upd (upd F5 8 (F 8)) 9 (F 9)) T5) (pc := 68) Xc (dT hX5_copy 32 rfl) hP47.o (Nat.le_of_ble_eq_true rfl) rfl ?_
  refine Ev.gen (fun z => PX5 z w (upd (upd F5 8 (F 8)) 9 (F 9)) T5 (upA (upA (upA (upA (upA A5 1 g4) 2 g13) 3 g22) 4 g31) 5 g40)) (hP47.wf9 (x := F 9)) Off.set (fun σ50 hP51 ho52 => ?_)
  have hP53 := hP49.off ho52 (Ne.symm hwo)
  refine e_aload_n (pc := 71) Xc (dT hX5_copy 33 rfl) 0 rfl ?_
  refine e_aload_n (pc := 72) Xc (dT hX5_copy 34 rfl) 1 rfl ?_
  refine gf_X5_43 (pc := 73) Xc (dT hX5_copy 35 rfl) hP53.o rfl ?_
  refine pf_X5_43 (fs' := olX5 w (upd (upd (upd F5 8 (F 8)) 9 (F 9)) 10 (F 10)) T5) (pc := 76) Xc (dT hX5_copy 36 rfl) hP51.o (Nat.le_of_ble_eq_true rfl) rfl ?_
  refine Ev.gen (fun z => PX5 z w (upd (upd (upd F5 8 (F 8)) 9 (F 9)) 10 (F 10)) T5 (upA (upA (upA (upA (upA A5 1 g4) 2 g13) 3 g22) 4 g31) 5 g40)) (hP51.wf10 (x := F 10)) Off.set (fun σ54 hP55 ho56 => ?_)
  have hP57 := hP53.off ho56 (Ne.symm hwo)
  refine e_aload_n (pc := 79) Xc (dT hX5_copy 37 rfl) 0 rfl ?_
  refine e_aload_n (pc := 80) Xc (dT hX5_copy 38 rfl) 1 rfl ?_
  refine gf_X5_46 (pc := 81) Xc (dT hX5_copy 39 rfl) hP57.o rfl ?_
  refine pf_X5_46 (fs' := olX5 w (upd (upd (upd (upd F5 8 (F 8)) 9 (F 9)) 10 (F 10)) 11 (F 11)) T5) (pc := 84) Xc (dT hX5_copy 40 rfl) hP55.o (Nat.le_of_ble_eq_true rfl) rfl ?_
  refine Ev.gen (fun z => PX5 z w (upd (upd (upd (upd F5 8 (F 8)) 9 (F 9)) 10 (F 10)) 11 (F 11)) T5 (upA (upA (upA (upA (upA A5 1 g4) 2 g13) 3 g22) 4 g31) 5 g40)) (hP55.wf11 (x := F 11)) Off.set (fun σ58 hP59 ho60 => ?_)
  have hP61 := hP57.off ho60 (Ne.symm hwo)
  refine e_aload_n (pc := 87) Xc (dT hX5_copy 41 rfl) 0 rfl ?_
  refine e_aload_n (pc := 88) Xc (dT hX5_copy 42 rfl) 1 rfl ?_
  refine gf_X5_52 (pc := 89) Xc (dT hX5_copy 43 rfl) hP61.o rfl ?_
  refine pf_X5_52 (fs' := olX5 w (upd (upd (upd (upd F5 8 (F 8)) 9 (F 9)) 10 (F 10)) 11 (F 11)) (fun j => if j = 12 then (T 12) else T5 j)) (pc := 92) Xc (dT hX5_copy 44 rfl) hP59.o (Nat.le_of_ble_eq_true rfl) rfl ?_
  refine Ev.gen (fun z => PX5 z w (upd (upd (upd (upd F5 8 (F 8)) 9 (F 9)) 10 (F 10)) 11 (F 11)) (fun j => if j = 12 then (T 12) else T5 j) (upA (upA (upA (upA (upA A5 1 g4) 2 g13) 3 g22) 4 g31) 5 g40)) (hP59.wt12 (x := T 12)) Off.set (fun σ62 hP63 ho64 => ?_)
  have hP65 := hP61.off ho64 (Ne.symm hwo)
  refine e_aload_n (pc := 95) Xc (dT hX5_copy 45 rfl) 0 rfl ?_
  refine e_iconst (v := 0) (pc := 96) Xc (dT hX5_copy 46 rfl) rfl ?_
  refine pf_X5_33 (fs' := olX5 w (upd (upd (upd (upd (upd F5 8 (F 8)) 9 (F 9)) 10 (F 10)) 11 (F 11)) 7 0) (fun j => if j = 12 then (T 12) else T5 j)) (pc := 97) Xc (dT hX5_copy 47 rfl) hP63.o (Nat.le_of_ble_eq_true rfl) rfl ?_
  refine Ev.gen (fun z => PX5 z w (upd (upd (upd (upd (upd F5 8 (F 8)) 9 (F 9)) 10 (F 10)) 11 (F 11)) 7 0) (fun j => if j = 12 then (T 12) else T5 j) (upA (upA (upA (upA (upA A5 1 g4) 2 g13) 3 g22) 4 g31) 5 g40)) (hP63.wf7 (x := 0)) Off.set (fun σ66 hP67 ho68 => ?_)
  have hP69 := hP65.off ho68 (Ne.symm hwo)
  refine e_vret (pc := 100) Xc hQ (dT hX5_copy 48 rfl) (Nat.le_refl _) (Nat.le_refl _) ?_
  exact ⟨⟨_, _, _, ⟨hP67, hW.copy hr4 hg5 hg14 hg23 hg32 hg41 rfl rfl rfl rfl rfl, hTw.off ((((((((((ho8.tr ho17).tr ho26).tr ho35).tr ho44).tr ho48).tr ho52).tr ho56).tr ho60).tr ho64).tr ho68) (fun q => hwt (by rw [← q, ← htw])), fun q => hwt (by rw [q, ← htw]; rfl), hG, hT⟩, htw⟩, ((((((((((ho8.tr ho17).tr ho26).tr ho35).tr ho44).tr ho48).tr ho52).tr ho56).tr ho60).tr ho64).tr ho68)⟩
set_option maxRecDepth 100000 in
set_option maxHeartbeats 4000000 in
theorem c5_goBack {G : xG} {σ : xS} {w o tw tw2 : Nat} {X Y : Nat → Int32} {nr nb : Nat} {t : xT} {ln l2 : Nat} (hX5 : WX σ w tw X nr nb t ln) (hX : WX σ o tw2 Y nr nb t l2) (hwo : w ≠ o) (hXY : ∀ j, 5 ≤ j → X j = Y j) : CV G yX5_goBack cX5_goBack 2 none 2 0 0 [.ref w, .ref o] σ (fun σ1 => WX σ1 w tw Y nr nb t ln ∧ Off w σ σ1) := by
  refine Met.ofX (by decide +kernel) (Nat.le_of_ble_eq_true rfl) (fun μ Xc hQ hnm => ?_)
  have Xc : xC G μ cX5_goBack 2 RX5 none 2 0 0 := Xc
  obtain ⟨F5, T5, A5, hB5, htw5⟩ := id hX5
  obtain ⟨hP5, hW5, hTw5, hne5, hG5, hT5⟩ := id hB5
  obtain ⟨F, T, A, hB, htw⟩ := id hX
  obtain ⟨hP, hW, hTw, hne, hG, hT⟩ := id hB
  have hr4 := hG.r4
  show Ev G μ 2 0 0 0 [(0, .ref w), (1, .ref o)] [] σ
  refine e_aload_n (pc := 0) Xc (dT hX5_goBack 0 rfl) 1 rfl ?_
  refine gf_X5_21 (pc := 1) Xc (dT hX5_goBack 1 rfl) hP.o rfl ?_
  refine e_aload_n (pc := 4) Xc (dT hX5_goBack 2 rfl) 0 rfl ?_
  refine gf_X5_21 (pc := 5) Xc (dT hX5_goBack 3 rfl) hP5.o rfl ?_
  refine cl_X5_56 (pc := 8) (k := 0) (n := 0) (S := []) Xc (c_copyRow hP.a4 hP5.a4 (fun q => absurd (congrArg Prod.fst q) (Ne.symm hwo)) (by decide)) (dT hX5_goBack 4 rfl) rfl (Nat.le_of_ble_eq_true rfl) (Nat.le_of_ble_eq_true rfl) (Nat.le_of_ble_eq_true rfl) rfl (Nat.le_of_ble_eq_true rfl) (fun σ2 hq3 => ?_)
  obtain ⟨g4, hg5, r1s⟩ := hq3
  subst r1s
  refine Ev.gen (fun z => PX5 z w F5 T5 (upA A5 4 g4)) (hP5.wa4 (g := g4)) Off.set (fun σ6 hP7 ho8 => ?_)
  have hP9 := hP.off ho8 (Ne.symm hwo)
  refine e_aload_n (pc := 11) Xc (dT hX5_goBack 5 rfl) 0 rfl ?_
  refine e_aload_n (pc := 12) Xc (dT hX5_goBack 6 rfl) 1 rfl ?_
  refine gf_X5_43 (pc := 13) Xc (dT hX5_goBack 7 rfl) hP9.o rfl ?_
  refine pf_X5_43 (fs' := olX5 w (upd F5 10 (F 10)) T5) (pc := 16) Xc (dT hX5_goBack 8 rfl) hP7.o (Nat.le_of_ble_eq_true rfl) rfl ?_
  refine Ev.gen (fun z => PX5 z w (upd F5 10 (F 10)) T5 (upA A5 4 g4)) (hP7.wf10 (x := F 10)) Off.set (fun σ10 hP11 ho12 => ?_)
  have hP13 := hP9.off ho12 (Ne.symm hwo)
  refine e_vret (pc := 19) Xc hQ (dT hX5_goBack 9 rfl) (Nat.le_refl _) (Nat.le_refl _) ?_
  exact ⟨⟨_, T5, _, ⟨hP11, hW5.back hW hXY hg5 (fun i hi => upA_n hi) rfl (fun i hi => upd_n hi) hr4, hTw5.off (ho8.tr ho12) (Ne.symm hne5), hne5, hG, hT⟩, htw5⟩, (ho8.tr ho12)⟩
