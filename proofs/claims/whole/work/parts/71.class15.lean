set_option maxRecDepth 100000 in
set_option maxHeartbeats 4000000 in
theorem c3_single0 {G : xG} {σ : xS} {rd pa tw : Nat} {F : Nat → Int32} {A : Nat → Nat → Int32} (hP : PX3 σ rd F (tR pa tw) A) {Fa : Nat → Int32} {Ta : Nat → Nat} {Aa : Nat → Nat → Int32} (hPa : PX2 σ pa Fa Ta Aa) {H : Nat → Int32} {nt : Nat} (hH : Hend H nt) (hTA : ∀ q, q < nt → Aa 1 q = H q) (hnt : nt ≤ 100) (hF1 : F 1 = nI nt) (p : Nat) (hF3 : F 3 = nI p) (hp : p ≤ nt) (hne : rd ≠ pa) {F4 : Nat → Int32} {T4 : Nat → Nat} {A4 : Nat → Nat → Int32} (hP4 : PX4 σ tw F4 T4 A4) (n0 : Nat) (hn0 : F4 3 = nI n0) (hn : n0 ≤ p) (hSg : ∀ q, isSg (H q)) (hrt : rd ≠ tw) (hpt : pa ≠ tw) : CI G yX3_single cX3_single 3 (some .boolean) 3 0 0 [.ref rd, .int 5] σ (fun z σ1 => z = bI (factP H 0 p).1 ∧ (∃ v, PX3 σ1 rd (upd (upd F 3 (nI (factP H 0 p).2.1)) 4 v) (tR pa tw) A) ∧ tP σ1 tw F4 T4 A4 n0 ((factP H 0 p).2.2.map encC) ∧ OffS (fun o => o = rd ∨ o = tw) σ σ1) := by
  refine Met.ofX (by decide +kernel) (Nat.le_of_ble_eq_true rfl) (fun μ Xc hQ hnm => ?_)
  have Xc : xC G μ cX3_single 3 RX3 (some .boolean) 3 0 0 := Xc
  show Ev G μ 3 0 0 0 [(0, .ref rd), (1, .int 5)] [] σ
  refine e_aload_n (pc := 0) Xc (dT hX3_single 0 rfl) 0 rfl ?_
  refine cl_X3_37 (pc := 1) (k := 0) (n := 0) (S := []) Xc hP.o (c3_sign hP hPa hH hTA hnt hF1 p hF3 hp hne) (dT hX3_single 1 rfl) rfl (Nat.le_of_ble_eq_true rfl) (Nat.le_of_ble_eq_true rfl) (Nat.le_of_ble_eq_true rfl) rfl (Nat.le_of_ble_eq_true rfl) (fun r1 σ2 hq3 => ?_)
  obtain ⟨r1e, r1s⟩ := hq3
  have r1e := r1e.symm; subst r1e; have r1s := r1s.symm; subst r1s
  refine e_istore_n (L' := [(2, .int (H p)), (0, .ref rd), (1, .int 5)]) (pc := 4) Xc (dT hX3_single 2 rfl) (by decide) rfl ?_
  refine e_iload_n (pc := 5) Xc (dT hX3_single 3 rfl) 0 rfl ?_
  refine e_bipush (v := 33) (pc := 6) Xc (dT hX3_single 4 rfl) rfl ?_
  refine e_icmp_eq (tgt := 22) (pc := 8) Xc (dT hX3_single 5 rfl) rfl (fun c8 => ?_) (fun c8 => ?_)
  · skip
    refine e_iload_n (pc := 22) Xc (dT hX3_single 12 rfl) 2 rfl ?_
    refine e_iconst (v := 5) (pc := 23) Xc (dT hX3_single 13 rfl) rfl ?_
    refine e_icmp_ltN (x := 5) (y := 5) (tgt := 29) (pc := 24) Xc (dT hX3_single 14 rfl) rfl (by omega) (by omega) (fun c24 => ?_) (fun c24 => ?_)
    · skip
      exact absurd c24 (by decide)
    · skip
      refine e_iconst (v := 0) (pc := 27) Xc (dT hX3_single 15 rfl) rfl ?_
      refine e_zret (pc := 28) Xc hQ (dT hX3_single 16 rfl) (Nat.le_refl _) (Nat.le_refl _) (Or.inl rfl) ?_
      rw [fa_end (Or.inl c8)]
      exact ⟨rfl, ⟨F 4, by show PX3 σ rd (upd (upd F 3 (nI p)) 4 (F 4)) (tR pa tw) A; rw [← hF3, upd_self, upd_self]; exact hP⟩, (by show PX4 σ tw (upd F4 3 (nI n0)) T4 (upA A4 1 (A4 1)); rw [upA_id, ← hn0, upd_self]; exact hP4), OffS.rf⟩
  · skip
    refine e_iload_n (pc := 11) Xc (dT hX3_single 6 rfl) 0 rfl ?_
    refine e_bipush (v := 40) (pc := 12) Xc (dT hX3_single 7 rfl) rfl ?_
    refine e_icmp_eq (tgt := 22) (pc := 14) Xc (dT hX3_single 8 rfl) rfl (fun c14 => ?_) (fun c14 => ?_)
    · skip
      refine e_iload_n (pc := 22) Xc (dT hX3_single 12 rfl) 2 rfl ?_
      refine e_iconst (v := 5) (pc := 23) Xc (dT hX3_single 13 rfl) rfl ?_
      refine e_icmp_ltN (x := 5) (y := 5) (tgt := 29) (pc := 24) Xc (dT hX3_single 14 rfl) rfl (by omega) (by omega) (fun c24 => ?_) (fun c24 => ?_)
      · skip
        exact absurd c24 (by decide)
      · skip
        refine e_iconst (v := 0) (pc := 27) Xc (dT hX3_single 15 rfl) rfl ?_
        refine e_zret (pc := 28) Xc hQ (dT hX3_single 16 rfl) (Nat.le_refl _) (Nat.le_refl _) (Or.inl rfl) ?_
        rw [fa_end (Or.inr c14)]
        exact ⟨rfl, ⟨F 4, by show PX3 σ rd (upd (upd F 3 (nI p)) 4 (F 4)) (tR pa tw) A; rw [← hF3, upd_self, upd_self]; exact hP⟩, (by show PX4 σ tw (upd F4 3 (nI n0)) T4 (upA A4 1 (A4 1)); rw [upA_id, ← hn0, upd_self]; exact hP4), OffS.rf⟩
    · skip
      refine e_aload_n (pc := 17) Xc (dT hX3_single 9 rfl) 1 rfl ?_
      refine cl_X3_84 (pc := 18) (k := 0) (n := 0) (S := []) Xc hP.o (c3_testing hP hPa hH hTA hnt hF1 p hF3 hp hne hP4 n0 hn0 hn hSg hrt hpt) (dT hX3_single 10 rfl) rfl (Nat.le_of_ble_eq_true rfl) (Nat.le_of_ble_eq_true rfl) (Nat.le_of_ble_eq_true rfl) rfl (Nat.le_of_ble_eq_true rfl) (fun r4 σ5 hq6 => ?_)
      obtain ⟨r4e, hx3_, hx4_, ho7⟩ := hq6
      have r4e := r4e.symm; subst r4e
      refine e_zret (pc := 21) Xc hQ (dT hX3_single 11 rfl) (Nat.le_refl _) (Nat.le_refl _) (bI_or _) ?_
      rw [fa_test c8 c14]
      exact ⟨rfl, hx3_, hx4_, ho7⟩
