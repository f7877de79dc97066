set_option maxRecDepth 100000 in
set_option maxHeartbeats 4000000 in
theorem b_town {G : xG} {σ : xS} {x m : Nat} {X Y bd : Nat → Int32} {hi : Int32} {rr : Nat} {nr nb ns np nn nt na dy : Nat} {t : xT} (hB : BK G σ x m X Y bd hi rr nr nb ns np nn nt t) (hK : OK X nr nb t ns np nn nt na dy) (hW : okW X) (hPa9 : okPt X) : CI G yX6_town cX6_town 4 (some .int) 24 5 132 [.ref x] σ (fun z σ1 => (na = 5 ∧ z = -4 ∧ ST G σ1 x m X Y bd hi rr ∧ OffB x σ σ1) ∨ (na < 5 ∧ (∀ X1 z', TWR X X1 nt na z' → z = z' ∧ ST G σ1 x m X1 Y bd hi rr ∧ hi9 X X1) ∧ OffB x σ σ1)) := by
  refine Met.ofX (by decide +kernel) (Nat.le_of_ble_eq_true rfl) (fun μ Xc hQ hnm => ?_)
  have Xc : xC G μ cX6_town 4 RX6 (some .int) 24 5 132 := Xc
  obtain ⟨hSA, ⟨hgA, hgO⟩, hxm, hms, ⟨Fx, Ax, hx, hF7⟩, ⟨tw, htw, hXn⟩, ⟨F5, T5, A5, hP5⟩, ⟨Fp, Tp, Ap, hPp, hRP⟩, ⟨Fg, Tg, Ag, hPg⟩, ⟨Fa, Ta, Aa, hPa, hFa1, hAa⟩, hBI⟩ := id hB
  obtain ⟨htw1, htw2, htw3⟩ := id htw
  obtain ⟨hG, hT, hS, hPl, hNo, hTa, hA, hJ, hR, hD⟩ := id hK
  have hr4 := hG.r4
  have hb7 := hG.b7
  have hs6 := hS.1
  have hp8 := hPl.1
  have hn8 := hNo.1
  have ht100 := hTa.1
  have ha5 := hA.1
  have hdy := hD.1
  have hd0 := hD.2
  have ht13 : tw ≠ x + 13 := by omega
  have hb8 : ns ≤ 6 ∧ np ≤ 8 ∧ nn ≤ 8 ∧ nt ≤ 100 := ⟨hs6, hp8, hn8, ht100⟩
  show Ev G μ 4 0 0 0 [(0, .ref x)] [] σ
  obtain ⟨Fw1, Tw1, Aw1, hBw1, htw1⟩ := id hXn
  have hWw1 := hBw1.2.1
  refine e_aload_n (pc := 0) Xc (dT hX6_town 0 rfl) 0 rfl ?_
  refine gf_X6_12 (pc := 1) Xc (dT hX6_town 1 rfl) hx.o rfl ?_
  refine e_refv (b := x + 1) rfl ?_
  refine gf_X6_64 (pc := 4) Xc (dT hX6_town 2 rfl) hBw1.1.o rfl ?_
  refine e_val (y := X 14) hWw1.2.2.2.2.2.2.2.2.1 ?_
  refine e_val (y := nI na) hA.2.1 ?_
  refine e_iconst (v := 5) (pc := 7) Xc (dT hX6_town 3 rfl) rfl ?_
  refine e_icmp_ltN (x := na) (y := 5) (tgt := 14) (pc := 8) Xc (dT hX6_town 4 rfl) rfl (by omega) (by omega) (fun c8 => ?_) (fun c8 => ?_)
  · skip
    refine e_new (o := σ.1) (pc := 14) Xc kX4 (dT hX6_town 7 rfl) w_cl_X6_67 w_new_X4 w_ini_X4 DX4_ok (Nat.le_of_ble_eq_true rfl) (Nat.le_of_ble_eq_true rfl) rfl ?_
    refine e_dup (pc := 17) Xc (dT hX6_town 8 rfl) rfl ?_
    refine cl_X6_69 (pc := 18) (S := [.ref σ.1]) Xc (kX4_init (o := σ.1) xpush_s rfl) (dT hX6_town 9 rfl) rfl (Nat.le_of_ble_eq_true rfl) (Nat.le_of_ble_eq_true rfl) (Nat.le_of_ble_eq_true rfl) rfl (Nat.le_of_ble_eq_true rfl) (fun σ5 hq5_ => ?_)
    obtain ⟨hPt_, hz5_, hfr5_⟩ := hq5_
    refine e_astore_n (L' := [(1, .ref σ.1), (0, .ref x)]) (pc := 21) Xc (dT hX6_town 10 rfl) (by decide) rfl ?_
    have hP2 := hx.cg (fun i => fr_nest hfr5_ (show x < σ.1 by omega) i)
    have hP3 := hP5.cg (fun i => fr_nest hfr5_ (show x + 13 < σ.1 by omega) i)
    have hP4 := hPp.cg (fun i => fr_nest hfr5_ (show x + 37 < σ.1 by omega) i)
    have hP5 := hPg.cg (fun i => fr_nest hfr5_ (show x + 55 < σ.1 by omega) i)
    have hP6 := hPa.cg (fun i => fr_nest hfr5_ (show x + 58 < σ.1 by omega) i)
    have hX7 := WX.cg ⟨Fw1, Tw1, Aw1, hBw1, htw1⟩ (fun i => fr_nest hfr5_ (show x + 1 < σ.1 by omega) i) (fun i => fr_nest hfr5_ (show tw < σ.1 by omega) i)
    obtain ⟨Fw8, Tw8, Aw8, hBw8, htw8⟩ := id hX7
    have hWw8 := hBw8.2.1
    refine e_new (o := σ.1 + 4) (pc := 22) Xc kX3 (dT hX6_town 11 rfl) w_cl_X6_70 w_new_X3 w_ini_X3 DX3_ok (Nat.le_of_ble_eq_true rfl) (Nat.le_of_ble_eq_true rfl) hz5_.symm ?_
    refine Ev.ab (fun z => z.2 (σ.1 + 4, 0) = some (.inr (3, DX3)) ∧ z.1 = σ.1 + 4 + 1 ∧ ∀ k, k < σ.1 + 4 → ∀ i, z.2 (k, i) = σ5.2 (k, i)) ⟨xpush_s, congrArg Nat.succ hz5_, fun k hk i => xpush_n (fun e => by have := congrArg Prod.fst e; have : k = σ.1 + 4 := this; omega)⟩ (fun σ6 hq6_ => ?_)
    obtain ⟨h06_, hz6_, hc6_⟩ := hq6_
    have hP9 := hP2.cg (fun i => hc6_ _ (show x < σ.1 + 4 by omega) i)
    have hP10 := hP3.cg (fun i => hc6_ _ (show x + 13 < σ.1 + 4 by omega) i)
    have hP11 := hP4.cg (fun i => hc6_ _ (show x + 37 < σ.1 + 4 by omega) i)
    have hP12 := hP5.cg (fun i => hc6_ _ (show x + 55 < σ.1 + 4 by omega) i)
    have hP13 := hP6.cg (fun i => hc6_ _ (show x + 58 < σ.1 + 4 by omega) i)
    have hP14 := hPt_.cg (fun i => hc6_ _ (show σ.1 < σ.1 + 4 by omega) i)
    have hX15 := WX.cg ⟨Fw8, Tw8, Aw8, hBw8, htw8⟩ (fun i => hc6_ _ (show x + 1 < σ.1 + 4 by omega) i) (fun i => hc6_ _ (show tw < σ.1 + 4 by omega) i)
    obtain ⟨Fw16, Tw16, Aw16, hBw16, htw16⟩ := id hX15
    have hWw16 := hBw16.2.1
    refine e_dup (pc := 25) Xc (dT hX6_town 12 rfl) rfl ?_
    refine e_aload_n (pc := 26) Xc (dT hX6_town 13 rfl) 1 rfl ?_
    refine gf_X6_27 (pc := 27) Xc (dT hX6_town 14 rfl) hP9.o rfl ?_
    refine e_refv (b := x + 37) rfl ?_
    refine gf_X6_56 (pc := 30) Xc (dT hX6_town 15 rfl) hP11.o rfl ?_
    refine e_aload_n (pc := 33) Xc (dT hX6_town 16 rfl) 1 rfl ?_
    refine gf_X6_27 (pc := 34) Xc (dT hX6_town 17 rfl) hP9.o rfl ?_
    refine e_refv (b := x + 37) rfl ?_
    refine gf_X6_52 (pc := 37) Xc (dT hX6_town 18 rfl) hP11.o rfl ?_
    refine e_val (y := nI nt) hRP.1 ?_
    refine e_aload_n (pc := 40) Xc (dT hX6_town 19 rfl) 0 rfl ?_
    refine cl_X6_72 (pc := 41) (S := [.ref (σ.1 + 4)]) Xc (kX3_init (o := σ.1 + 4) (pa := x + 37) (tw := σ.1) (nz := nI nt) h06_ hz6_) (dT hX6_town 20 rfl) rfl (Nat.le_of_ble_eq_true rfl) (Nat.le_of_ble_eq_true rfl) (Nat.le_of_ble_eq_true rfl) rfl (Nat.le_of_ble_eq_true rfl) (fun σ18 hq19 => ?_)
    obtain ⟨hP3_, hz7_, hfr7_⟩ := hq19
    have hP20 := hP9.cg (fun i => hfr7_ (x, i) (show x < σ.1 + 4 by omega))
    have hP21 := hP10.cg (fun i => hfr7_ (x + 13, i) (show x + 13 < σ.1 + 4 by omega))
    have hP22 := hP11.cg (fun i => hfr7_ (x + 37, i) (show x + 37 < σ.1 + 4 by omega))
    have hP23 := hP12.cg (fun i => hfr7_ (x + 55, i) (show x + 55 < σ.1 + 4 by omega))
    have hP24 := hP13.cg (fun i => hfr7_ (x + 58, i) (show x + 58 < σ.1 + 4 by omega))
    have hP25 := hP14.cg (fun i => hfr7_ (σ.1, i) (show σ.1 < σ.1 + 4 by omega))
    have hX26 := WX.cg ⟨Fw16, Tw16, Aw16, hBw16, htw16⟩ (fun i => hfr7_ (x + 1, i) (show x + 1 < σ.1 + 4 by omega)) (fun i => hfr7_ (tw, i) (show tw < σ.1 + 4 by omega))
    obtain ⟨Fw27, Tw27, Aw27, hBw27, htw27⟩ := id hX26
    have hWw27 := hBw27.2.1
    have hc7_ : ∀ k, k < σ.1 → ∀ i, σ18.2 (k, i) = σ.2 (k, i) := fun k hk i => (hfr7_ (k, i) (show k < σ.1 + 4 by omega)).trans ((hc6_ k (by omega) i).trans (fr_nest hfr5_ hk i))
    refine e_astore_n (L' := [(2, .ref (σ.1 + 4)), (1, .ref σ.1), (0, .ref x)]) (pc := 44) Xc (dT hX6_town 21 rfl) (by decide) rfl ?_
    refine e_aload_n (pc := 45) Xc (dT hX6_town 22 rfl) 0 rfl ?_
    refine cl_X6_75 (pc := 46) (S := []) Xc hP3_.o (c3_clauses hP3_ hP22 (H := tapeH X nt) (nt := nt) tape_end (fun q hq => (hRP.2.2.2.2.1 q hq).trans (tape_at hq).symm) ht100 rfl rfl (by omega) hP25 TWc_0 (tape_sg hTa) (by omega) (by omega)) (dT hX6_town 23 rfl) rfl (Nat.le_of_ble_eq_true rfl) (Nat.le_of_ble_eq_true rfl) (Nat.le_of_ble_eq_true rfl) rfl (Nat.le_of_ble_eq_true rfl) (fun r28 σ29 hq30 => ?_)
    obtain ⟨r28e, ⟨v_, hR32⟩, htw_, ho31⟩ := hq30
    have r28e := r28e.symm; subst r28e
    have hP33 := hP20.cg (fun i => ho31.cell (fun e => by omega) i)
    have hP34 := hP21.cg (fun i => ho31.cell (fun e => by omega) i)
    have hP35 := hP22.cg (fun i => ho31.cell (fun e => by omega) i)
    have hP36 := hP23.cg (fun i => ho31.cell (fun e => by omega) i)
    have hP37 := hP24.cg (fun i => ho31.cell (fun e => by omega) i)
    have hX38 := WX.cg ⟨Fw27, Tw27, Aw27, hBw27, htw27⟩ (fun i => ho31.cell (fun e => by omega) i) (fun i => ho31.cell (fun e => by omega) i)
    obtain ⟨Fw39, Tw39, Aw39, hBw39, htw39⟩ := id hX38
    have hWw39 := hBw39.2.1
    refine e_istore_n (L' := [(3, .int (bI (decide ((towP (tapeH X nt)).1 = true ∧ (towP (tapeH X nt)).2.1 = nt)))), (2, .ref (σ.1 + 4)), (1, .ref σ.1), (0, .ref x)]) (pc := 49) Xc (dT hX6_town 24 rfl) (by decide) rfl ?_
    refine e_aload_n (pc := 50) Xc (dT hX6_town 25 rfl) 3 rfl ?_
    refine gf_X6_27 (pc := 51) Xc (dT hX6_town 26 rfl) hP33.o rfl ?_
    refine e_refv (b := x + 37) rfl ?_
    refine e_iconst (v := 0) (pc := 54) Xc (dT hX6_town 27 rfl) rfl ?_
    refine pf_X6_52 (fs' := olX2 (x + 37) (upd Fp 8 0) Tp) (pc := 55) Xc (dT hX6_town 28 rfl) hP35.o (Nat.le_of_ble_eq_true rfl) rfl ?_
    refine Ev.gen (fun z => PX2 z (x + 37) (upd Fp 8 0) Tp Ap) (hP35.wf8 (x := 0)) Off.set (fun σ40 hP41 ho42 => ?_)
    have hP43 := hP33.off ho42 (by omega)
    have hP44 := hP34.off ho42 (by omega)
    have hP45 := hP36.off ho42 (by omega)
    have hP46 := hP37.off ho42 (by omega)
    have hB47 := hBw39.off ho42 (by omega) (by rw [htw39]; omega)
    have hP48 := hR32.off ho42 (by omega)
    refine e_iload_n (pc := 58) Xc (dT hX6_town 29 rfl) 0 rfl ?_
    refine e_if_ne (tgt := 70) (pc := 59) Xc (dT hX6_town 30 rfl) rfl (fun c59 => ?_) (fun c59 => ?_)
    · skip
      have hok_ : townOk X nt := by
        by_cases e_ : (towP (tapeH X nt)).1 = true ∧ (towP (tapeH X nt)).2.1 = nt
        · exact e_
        · exact absurd (by rw [decide_eq_false e_]; rfl) c59
      obtain ⟨Fz_, Az_, hPz_, hTz_⟩ := htw_ hok_
      have hP49 := hPz_.off ho42 (by omega)
      refine e_aload_n (pc := 70) Xc (dT hX6_town 36 rfl) 3 rfl ?_
      refine gf_X6_12 (pc := 71) Xc (dT hX6_town 37 rfl) hP43.o rfl ?_
      refine e_refv (b := x + 1) rfl ?_
      refine e_aload_n (pc := 74) Xc (dT hX6_town 38 rfl) 2 rfl ?_
      refine pf_X6_82 (fs' := olX5 (x + 1) Fw39 (fun j => if j = 12 then σ.1 else Tw39 j)) (pc := 75) Xc (dT hX6_town 39 rfl) hB47.1.o (Nat.le_of_ble_eq_true rfl) rfl ?_
      refine Ev.gen (fun z => PX5 z (x + 1) Fw39 (fun j => if j = 12 then σ.1 else Tw39 j) Aw39) (hB47.1.wt12 (x := σ.1)) Off.set (fun σ50 hP51 ho52 => ?_)
      have hP53 := hP43.off ho52 (by omega)
      have hP54 := hP44.off ho52 (by omega)
      have hP55 := hP41.off ho52 (by omega)
      have hP56 := hP45.off ho52 (by omega)
      have hP57 := hP46.off ho52 (by omega)
      have hP58 := hP48.off ho52 (by omega)
      have hP59 := hP49.off ho52 (by omega)
      refine e_aload_n (pc := 78) Xc (dT hX6_town 40 rfl) 3 rfl ?_
      refine gf_X6_12 (pc := 79) Xc (dT hX6_town 41 rfl) hP53.o rfl ?_
      refine e_refv (b := x + 1) rfl ?_
      refine e_dup (pc := 82) Xc (dT hX6_town 42 rfl) rfl ?_
      refine gf_X6_64 (pc := 83) Xc (dT hX6_town 43 rfl) hP51.o rfl ?_
      refine e_val (y := X 14) hWw39.2.2.2.2.2.2.2.2.1 ?_
      refine e_val (y := nI na) hA.2.1 ?_
      refine e_iconst (v := 1) (pc := 86) Xc (dT hX6_town 44 rfl) rfl ?_
      refine e_iaddN (a := na) (b := 1) (pc := 87) Xc (dT hX6_town 45 rfl) ?_
      refine pf_X6_64 (fs' := olX5 (x + 1) (upd Fw39 11 (nI (na + 1))) (fun j => if j = 12 then σ.1 else Tw39 j)) (pc := 88) Xc (dT hX6_town 46 rfl) hP51.o (Nat.le_of_ble_eq_true rfl) rfl ?_
      refine Ev.gen (fun z => PX5 z (x + 1) (upd Fw39 11 (nI (na + 1))) (fun j => if j = 12 then σ.1 else Tw39 j) Aw39) (hP51.wf11 (x := nI (na + 1))) Off.set (fun σ60 hP61 ho62 => ?_)
      have hP63 := hP53.off ho62 (by omega)
      have hP64 := hP54.off ho62 (by omega)
      have hP65 := hP55.off ho62 (by omega)
      have hP66 := hP56.off ho62 (by omega)
      have hP67 := hP57.off ho62 (by omega)
      have hP68 := hP58.off ho62 (by omega)
      have hP69 := hP59.off ho62 (by omega)
      refine e_aload_n (pc := 91) Xc (dT hX6_town 47 rfl) 3 rfl ?_
      refine gf_X6_12 (pc := 92) Xc (dT hX6_town 48 rfl) hP63.o rfl ?_
      refine e_refv (b := x + 1) rfl ?_
      refine gf_X6_64 (pc := 95) Xc (dT hX6_town 49 rfl) hP61.o rfl ?_
      refine e_val (y := nI (na + 1)) rfl ?_
      refine e_iconst (v := 1) (pc := 98) Xc (dT hX6_town 50 rfl) rfl ?_
      refine e_isubN (a := na + 1) (b := 1) (pc := 99) Xc (dT hX6_town 51 rfl) (by omega) ?_
      refine e_val (y := nI na) rfl ?_
      refine e_iret (pc := 100) Xc hQ (dT hX6_town 52 rfl) (Nat.le_of_ble_eq_true rfl) (Nat.le_of_ble_eq_true rfl) ?_
      have hsz_ : σ60.1 = σ.1 + 4 + 1 := (ho62.1.trans (ho52.1.trans (ho42.1.trans (ho31.1.trans hz7_))))
      have hob_ : OffB x σ σ60 := ⟨by omega, fun q hq_ hx_ => (ho62.2 q (fun e => hx_ (by rw [e]; exact ⟨by omega, by omega⟩))).trans ((ho52.2 q (fun e => hx_ (by rw [e]; exact ⟨by omega, by omega⟩))).trans ((ho42.2 q (fun e => hx_ (by rw [e]; exact ⟨by omega, by omega⟩))).trans ((ho31.2 q (fun e => by omega)).trans (hc7_ q.1 hq_ q.2))))⟩
      have hce_ : ∀ k, k < σ.1 → (k < x ∨ x + 60 ≤ k ∨ k = x + 25 ∨ k = x + 46 ∨ k = x + 9 ∨ k = x + 21 ∨ k = x + 33) → ∀ i, σ60.2 (k, i) = σ.2 (k, i) := fun k hk hk2 i => (ho62.2 (k, i) (show k ≠ _ by omega)).trans ((ho52.2 (k, i) (show k ≠ _ by omega)).trans ((ho42.2 (k, i) (show k ≠ _ by omega)).trans ((ho31.cell (fun e => by omega) i).trans (hc7_ k hk i))))
      have hct_ : ∀ tw, okTw x m tw σ.1 → ∀ i, σ60.2 (tw, i) = σ.2 (tw, i) := fun tw h => hce_ tw h.1 (by obtain ⟨-, -, h3⟩ := h; omega)
      have hBI1_ := hBI.cg hob_.1 (hce_ _ (by omega) (by omega)) (hce_ _ (by omega) (by omega)) hct_
      have hSA1_ : PSA G σ60 := hSA.cg (hce_ _ (by omega) (by omega) 0) (hce_ _ (by omega) (by omega) 0)
      refine Or.inr ⟨by omega, fun X1 z1 ht_ => ?_, hob_⟩
      obtain ⟨⟨hk1_, hk2_, hk3_⟩, h9_, ex_, e14_, hz1_⟩ := OK.town hK hW (by omega) ht_ hok_
      refine ⟨hz1_.symm, ⟨nr, nb, ns, np, nn, 0, na + 1, dy, _, ?_, hk1_, hk2_, hk3_⟩, h9_⟩
      exact ⟨hSA1_, ⟨hgA, hgO⟩, hxm, Nat.lt_of_lt_of_le hms hob_.1, ⟨_, _, hP63, hF7⟩, ⟨σ.1, ⟨by omega, by omega, fun h1 h2 => by omega⟩, _, _, _, ⟨hP61, RWc.town hWw39 hr4 hb7 (fun j hj => ex_ j (by omega) (by omega) (by omega) (by omega)) e14_, ⟨_, _, _, hP69, hTz_⟩, (show x + 1 ≠ σ.1 by omega), hk1_.1, hk1_.2.1⟩, rfl⟩, ⟨_, _, _, hP64⟩, ⟨_, _, _, hP65, hRP.tape0 hs6 hp8 hn8 (fun j _ _ => ex_ j (by omega) (by omega) (by omega) (by omega))⟩, ⟨_, _, _, hP66⟩, ⟨_, _, _, hP67, hFa1, hAa⟩, hBI1_⟩
    · skip
      have hok_ : ¬ townOk X nt := fun e_ => by
        have h_ := c59
        rw [decide_eq_true (show (towP (tapeH X nt)).1 = true ∧ (towP (tapeH X nt)).2.1 = nt from e_)] at h_
        exact absurd h_ (by decide)
      refine e_bipush (v := -10) (pc := 62) Xc (dT hX6_town 31 rfl) rfl ?_
      refine e_aload_n (pc := 64) Xc (dT hX6_town 32 rfl) 1 rfl ?_
      refine gf_X6_79 (pc := 65) Xc (dT hX6_town 33 rfl) hP48.o rfl ?_
      refine e_val (y := nI (towP (tapeH X nt)).2.1) rfl ?_
      refine e_isub (pc := 68) Xc (dT hX6_town 34 rfl) ?_
      refine e_iret (pc := 69) Xc hQ (dT hX6_town 35 rfl) (Nat.le_of_ble_eq_true rfl) (Nat.le_of_ble_eq_true rfl) ?_
      have hsz_ : σ40.1 = σ.1 + 4 + 1 := (ho42.1.trans (ho31.1.trans hz7_))
      have hob_ : OffB x σ σ40 := ⟨by omega, fun q hq_ hx_ => (ho42.2 q (fun e => hx_ (by rw [e]; exact ⟨by omega, by omega⟩))).trans ((ho31.2 q (fun e => by omega)).trans (hc7_ q.1 hq_ q.2))⟩
      have hce_ : ∀ k, k < σ.1 → (k < x ∨ x + 60 ≤ k ∨ k = x + 25 ∨ k = x + 46 ∨ k = x + 9 ∨ k = x + 21 ∨ k = x + 33) → ∀ i, σ40.2 (k, i) = σ.2 (k, i) := fun k hk hk2 i => (ho42.2 (k, i) (show k ≠ _ by omega)).trans ((ho31.cell (fun e => by omega) i).trans (hc7_ k hk i))
      have hct_ : ∀ tw, okTw x m tw σ.1 → ∀ i, σ40.2 (tw, i) = σ.2 (tw, i) := fun tw h => hce_ tw h.1 (by obtain ⟨-, -, h3⟩ := h; omega)
      have hBI1_ := hBI.cg hob_.1 (hce_ _ (by omega) (by omega)) (hce_ _ (by omega) (by omega)) hct_
      have hSA1_ : PSA G σ40 := hSA.cg (hce_ _ (by omega) (by omega) 0) (hce_ _ (by omega) (by omega) 0)
      refine Or.inr ⟨by omega, fun X1 z1 ht_ => ?_, hob_⟩
      obtain ⟨⟨hk1_, hk2_, hk3_⟩, h9_, ex_, hH1_, hz1_⟩ := OK.town0 hK hW hPa9 (by omega) ht_ hok_
      refine ⟨hz1_.symm, ⟨nr, nb, ns, np, nn, 0, na, dy, t, ?_, hk1_, hk2_, hk3_⟩, h9_⟩
      exact ⟨hSA1_, ⟨hgA, hgO⟩, hxm, Nat.lt_of_lt_of_le hms hob_.1, ⟨_, _, hP43, hF7⟩, ⟨tw, htw.sz hob_.1, WX.tw0 ⟨Fw39, Tw39, Aw39, hB47, htw39⟩ ex_ hk1_.1 hH1_⟩, ⟨_, _, _, hP44⟩, ⟨_, _, _, hP41, hRP.tape0 hs6 hp8 hn8 (fun j _ _ => ex_ j (by omega) (by omega))⟩, ⟨_, _, _, hP45⟩, ⟨_, _, _, hP46, hFa1, hAa⟩, hBI1_⟩
  · skip
    refine e_bipush (v := -4) (pc := 11) Xc (dT hX6_town 5 rfl) rfl ?_
    refine e_iret (pc := 13) Xc hQ (dT hX6_town 6 rfl) (Nat.le_of_ble_eq_true rfl) (Nat.le_of_ble_eq_true rfl) ?_
    exact Or.inl ⟨by omega, rfl, ⟨nr, nb, ns, np, nn, nt, na, dy, t, hB, hK, hW, hPa9⟩, OffB.rf⟩
