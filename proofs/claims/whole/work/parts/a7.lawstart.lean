def X0_ : Nat → Int32 := upd (fun _ => 0) 19 (-1)
theorem X0_n {j : Nat} (h : j ≠ 19) : X0_ j = 0 := upd_n h
theorem OK_0 : OK X0_ 0 0 tow0 0 0 0 0 0 0 := by
  have h19 : X0_ 19 = -1 := rfl
  refine ⟨⟨⟨by omega, by omega, rfl, rfl⟩, fun r h => absurd h (Nat.not_lt_zero r), fun r h => absurd h (Nat.not_lt_zero r), Or.inl h19, fun r h => absurd h (Nat.not_lt_zero r), fun r h => absurd h (Nat.not_lt_zero r)⟩, Or.inl ⟨h19, rfl⟩, ⟨by omega, rfl, fun r h => absurd h (Nat.not_lt_zero r)⟩, ⟨by omega, rfl, fun r h => absurd h (Nat.not_lt_zero r)⟩, ⟨by omega, rfl, fun r h => absurd h (Nat.not_lt_zero r)⟩, ⟨by omega, rfl, fun r h => absurd h (Nat.not_lt_zero r)⟩, ⟨by omega, rfl, Or.inl h19⟩, fun r r' h => absurd h (Nat.not_lt_zero r), fun k _ _ => X0_n (by omega), ⟨by omega, rfl⟩⟩
theorem okW_0 : okW X0_ := fun k _ => ⟨0, by omega, X0_n (by omega)⟩
theorem okPt_0 : okPt X0_ := ⟨5, by omega, by omega, by decide⟩
theorem RWc_0 : RWc Z0 Z1 X0_ 0 0 tow0 1024 :=
  ⟨fun b _ => (X0_n (by omega)).symm, fun b _ => (X0_n (by omega)).symm, fun b _ => (X0_n (by omega)).symm, fun r h => absurd h (Nat.not_lt_zero r), fun b _ => (X0_n (by omega)).symm, rfl, rfl, rfl, rfl, Nat.le_refl _, Or.inr rfl, fun dg _ _ r h => absurd h (Nat.not_lt_zero r)⟩
theorem RPc_0 : RPc Z0 Z1 X0_ 0 0 0 0 := ⟨rfl, rfl, rfl, rfl, fun r h => absurd h (Nat.not_lt_zero r), fun r h => absurd h (Nat.not_lt_zero r), fun r h => absurd h (Nat.not_lt_zero r), fun r h => absurd h (Nat.not_lt_zero r)⟩
theorem law_entry {G : xG} {μ : xM} {b L : Nat} {xs : Nat → Int32} (Xc : xC G μ code 4 RL (some .boolean) 30 600000 7302250) (hR : mR μ = room_1) (hA : mA μ = #[Value.ref b]) (hQ : mQ μ = lw_Z (mB μ) (mA μ) (mS μ)) (hgB : gB G = (mS μ).heap.size) (hl : L ≤ 2048) {σ : xS} (hSA : PSA G σ) (hgA : gA G < σ.1) (hgO : gO G < σ.1) (hb : b < σ.1) (hs : σ.2 (b, 0) = some (.inl (2, L, xs))) : Ev G μ 4 0 0 0 [(0, .ref b)] [] σ := by
  refine e_new (o := σ.1) (pc := 0) Xc kX6 (dT hL_law_0 0 rfl) w_cl_L_7 w_new_X6 w_ini_X6 DX6_ok (Nat.le_of_ble_eq_true rfl) (Nat.le_of_ble_eq_true rfl) rfl ?_
  refine e_dup (pc := 3) Xc (dT hL_law_0 1 rfl) rfl ?_
  refine cl_L_9 (pc := 4) (S := [.ref σ.1]) Xc (kX6_init (o := σ.1) xpush_s rfl) (dT hL_law_0 2 rfl) rfl (Nat.le_of_ble_eq_true rfl) (Nat.le_of_ble_eq_true rfl) (Nat.le_of_ble_eq_true rfl) rfl (Nat.le_of_ble_eq_true rfl) (fun σ1 hq1 => ?_)
  obtain ⟨h6, h51, h41, h52, h42, h53, h43, h2a, h2b, h1, h0, hz1, hf1⟩ := hq1
  refine e_astore_n (L' := [(1, .ref σ.1), (0, .ref b)]) (pc := 7) Xc (dT hL_law_0 3 rfl) (by decide) rfl ?_
  refine e_new (o := σ.1 + 60) (pc := 8) Xc kX7 (dT hL_law_0 4 rfl) w_cl_L_10 w_new_X7 w_ini_X7 DX7_ok (Nat.le_of_ble_eq_true rfl) (Nat.le_of_ble_eq_true rfl) hz1.symm ?_
  refine e_dup (pc := 11) Xc (dT hL_law_0 5 rfl) rfl ?_
  refine cl_L_12 (pc := 12) (S := [.ref (σ.1 + 60)]) Xc (kX7_init (o := σ.1 + 60) xpush_s (congrArg Nat.succ hz1)) (dT hL_law_0 6 rfl) rfl (Nat.le_of_ble_eq_true rfl) (Nat.le_of_ble_eq_true rfl) (Nat.le_of_ble_eq_true rfl) rfl (Nat.le_of_ble_eq_true rfl) (fun σ2 hq2 => ?_)
  obtain ⟨h7, hz2, hf2⟩ := hq2
  refine e_astore_n (L' := [(2, .ref (σ.1 + 60)), (1, .ref σ.1), (0, .ref b)]) (pc := 15) Xc (dT hL_law_0 7 rfl) (by decide) rfl ?_
  refine e_iconst (v := 0) (pc := 16) Xc (dT hL_law_0 8 rfl) rfl ?_
  refine e_istore_n (L' := [(3, .int (nI 0)), (2, .ref (σ.1 + 60)), (1, .ref σ.1), (0, .ref b)]) (pc := 17) Xc (dT hL_law_0 9 rfl) (by decide) rfl ?_
  refine Ev.pick [3, 2, 1, 0] rfl ?_
  have fr2 : ∀ k, k < σ.1 + 60 → ∀ i, σ2.2 (k, i) = σ1.2 (k, i) := fun k hk i => (hf2 (k, i) hk).trans (xpush_n (fun q => absurd (congrArg Prod.fst q) (Nat.ne_of_lt hk)))
  have fr1 : ∀ k, k < σ.1 → ∀ i, σ2.2 (k, i) = σ.2 (k, i) := fun k hk i => (fr2 k (by omega) i).trans ((hf1 (k, i) hk).trans (xpush_n (fun q => absurd (congrArg Prod.fst q) (Nat.ne_of_lt hk))))
  have hBK : BK G σ2 σ.1 (σ.1 + 60) X0_ (fun _ => 0) (fun _ => 0) 0 0 0 0 0 0 0 0 tow0 := by
    refine ⟨hSA.cg (fr1 _ hgA 0) (fr1 _ hgO 0), ⟨hgA, hgO⟩, Nat.le_refl _, by omega, ⟨Z0, Z1, h6.cg (fr2 _ (by omega)), rfl⟩, ⟨σ.1 + 9, ⟨by omega, by omega, fun _ _ => Or.inl rfl⟩, Z0, fun _ => σ.1 + 1 + 8, Z1, ⟨h51.cg (fr2 _ (by omega)), RWc_0, ⟨F4i, fun _ => 0, Z1, h41.cg (fr2 _ (by omega)), TWc_0⟩, (show σ.1 + 1 ≠ σ.1 + 9 by omega), OK_0.1, OK_0.2.1⟩, rfl⟩, ⟨_, _, _, h52.cg (fr2 _ (by omega))⟩, ⟨_, _, _, h2a.cg (fr2 _ (by omega)), RPc_0⟩, ⟨_, _, _, h1.cg (fr2 _ (by omega))⟩, ⟨_, _, _, h0.cg (fr2 _ (by omega)), rfl, fun _ _ => rfl⟩, Or.inl ⟨rfl, ⟨_, _, _, h53.cg (fr2 _ (by omega))⟩, ⟨_, _, _, h2b.cg (fr2 _ (by omega))⟩⟩⟩
  have hLI : LI G σ2 σ.1 (σ.1 + 60) b L xs := by
    refine ⟨X0_, fun _ => 0, fun _ => 0, 0, 0, ⟨0, 0, 0, 0, 0, 0, 0, 0, tow0, hBK, OK_0, okW_0, okPt_0⟩, ⟨_, _, _, h7, rfl, rfl, rfl, rfl, rfl⟩, fun j hj => X0_n (by omega), by omega, (fr1 b hb 0).trans hs, hb⟩
  exact law_loop Xc hR hA hQ hgB hl 512 0 _ _ σ2 hLI (by omega) (by omega) (by omega) (by omega)
