set_option maxRecDepth 100000 in
set_option maxHeartbeats 4000000 in
theorem c0_b00 {G : xG} {σ : xS} (hSA : PSA G σ) : CI G yX0_bodyOf cX0_bodyOf 5 (some .int) 1 0 0 [.int 0, .int 0] σ (fun z σ1 => z = 1 ∧ σ1 = σ) := by
  refine Met.ofX (by decide +kernel) (Nat.le_of_ble_eq_true rfl) (fun μ Xc hQ hnm => ?_)
  have Xc : xC G μ cX0_bodyOf 5 RX0 (some .int) 1 0 0 := Xc
  show Ev G μ 5 0 0 0 [(0, .int 0), (1, .int 0)] [] σ
  refine e_iload_n (pc := 0) Xc (dT hX0_bodyOf 0 rfl) 1 rfl ?_
  refine e_istore_n (L' := [(2, .int 0), (0, .int 0), (1, .int 0)]) (pc := 1) Xc (dT hX0_bodyOf 1 rfl) (by decide) rfl ?_
  refine e_iconst (v := 0) (pc := 2) Xc (dT hX0_bodyOf 2 rfl) rfl ?_
  refine e_istore_n (L' := [(3, .int 0), (2, .int 0), (0, .int 0), (1, .int 0)]) (pc := 3) Xc (dT hX0_bodyOf 3 rfl) (by decide) rfl ?_
  refine e_iload_n (pc := 4) Xc (dT hX0_bodyOf 4 rfl) 0 rfl ?_
  refine e_bipush (v := 7) (pc := 5) Xc (dT hX0_bodyOf 5 rfl) rfl ?_
  refine e_icmp_geN (x := 0) (y := 7) (tgt := 50) (pc := 7) Xc (dT hX0_bodyOf 6 rfl) rfl (by omega) (by omega) (fun c7 => ?_) (fun c7 => ?_)
  · skip
    exact absurd c7 (by decide)
  · skip
    refine e_iload_n (pc := 10) Xc (dT hX0_bodyOf 7 rfl) 1 rfl ?_
    refine e_if_eq (tgt := 50) (pc := 11) Xc (dT hX0_bodyOf 8 rfl) rfl (fun c11 => ?_) (fun c11 => ?_)
    · skip
      refine e_gets_X0_40 (pc := 50) Xc (dT hX0_bodyOf 27 rfl) ?_
      refine e_iload_n (pc := 53) Xc (dT hX0_bodyOf 28 rfl) 2 rfl ?_
      refine e_bipush (v := 7) (pc := 54) Xc (dT hX0_bodyOf 29 rfl) rfl ?_
      refine e_imulN (a := 0) (b := 7) (pc := 56) Xc (dT hX0_bodyOf 30 rfl) ?_
      refine e_val (y := 0) rfl ?_
      refine cl_X0_43 (pc := 57) (k := 0) (n := 0) (S := []) Xc (c_get hSA.2 (by decide) (by decide) 0 (by decide)) (dT hX0_bodyOf 31 rfl) rfl (Nat.le_of_ble_eq_true rfl) (Nat.le_of_ble_eq_true rfl) (Nat.le_of_ble_eq_true rfl) rfl (Nat.le_of_ble_eq_true rfl) (fun r1 σ2 hq3 => ?_)
      obtain ⟨r1e, r1s⟩ := hq3
      have r1e := r1e.symm; subst r1e; have r1s := r1s.symm; subst r1s
      refine e_val (y := 1) (show bodF 0 = 1 from rfl) ?_
      refine e_iret (pc := 60) Xc hQ (dT hX0_bodyOf 32 rfl) (Nat.le_refl _) (Nat.le_refl _) ?_
      exact ⟨rfl, rfl⟩
    · skip
      exact absurd c11 (by decide)
set_option maxRecDepth 100000 in
set_option maxHeartbeats 4000000 in
theorem c0_b01 {G : xG} {σ : xS} (hSA : PSA G σ) : CI G yX0_bodyOf cX0_bodyOf 5 (some .int) 1 0 0 [.int 0, .int 1] σ (fun z σ1 => z = 11 ∧ σ1 = σ) := by
  refine Met.ofX (by decide +kernel) (Nat.le_of_ble_eq_true rfl) (fun μ Xc hQ hnm => ?_)
  have Xc : xC G μ cX0_bodyOf 5 RX0 (some .int) 1 0 0 := Xc
  show Ev G μ 5 0 0 0 [(0, .int 0), (1, .int 1)] [] σ
  refine e_iload_n (pc := 0) Xc (dT hX0_bodyOf 0 rfl) 1 rfl ?_
  refine e_istore_n (L' := [(2, .int 1), (0, .int 0), (1, .int 1)]) (pc := 1) Xc (dT hX0_bodyOf 1 rfl) (by decide) rfl ?_
  refine e_iconst (v := 0) (pc := 2) Xc (dT hX0_bodyOf 2 rfl) rfl ?_
  refine e_istore_n (L' := [(3, .int 0), (2, .int 1), (0, .int 0), (1, .int 1)]) (pc := 3) Xc (dT hX0_bodyOf 3 rfl) (by decide) rfl ?_
  refine e_iload_n (pc := 4) Xc (dT hX0_bodyOf 4 rfl) 0 rfl ?_
  refine e_bipush (v := 7) (pc := 5) Xc (dT hX0_bodyOf 5 rfl) rfl ?_
  refine e_icmp_geN (x := 0) (y := 7) (tgt := 50) (pc := 7) Xc (dT hX0_bodyOf 6 rfl) rfl (by omega) (by omega) (fun c7 => ?_) (fun c7 => ?_)
  · skip
    exact absurd c7 (by decide)
  · skip
    refine e_iload_n (pc := 10) Xc (dT hX0_bodyOf 7 rfl) 1 rfl ?_
    refine e_if_eq (tgt := 50) (pc := 11) Xc (dT hX0_bodyOf 8 rfl) rfl (fun c11 => ?_) (fun c11 => ?_)
    · skip
      exact absurd c11 (by decide)
    · skip
      refine e_gets_X0_40 (pc := 14) Xc (dT hX0_bodyOf 9 rfl) ?_
      refine e_iload_n (pc := 17) Xc (dT hX0_bodyOf 10 rfl) 2 rfl ?_
      refine e_bipush (v := 7) (pc := 18) Xc (dT hX0_bodyOf 11 rfl) rfl ?_
      refine e_imulN (a := 0) (b := 7) (pc := 20) Xc (dT hX0_bodyOf 12 rfl) ?_
      refine e_val (y := 0) rfl ?_
      refine e_iload_n (pc := 21) Xc (dT hX0_bodyOf 13 rfl) 1 rfl ?_
      refine e_iaddN (a := 0) (b := 1) (pc := 22) Xc (dT hX0_bodyOf 14 rfl) ?_
      refine e_val (y := 1) rfl ?_
      refine cl_X0_43 (pc := 23) (k := 0) (n := 0) (S := []) Xc (c_get hSA.2 (by decide) (by decide) 1 (by decide)) (dT hX0_bodyOf 15 rfl) rfl (Nat.le_of_ble_eq_true rfl) (Nat.le_of_ble_eq_true rfl) (Nat.le_of_ble_eq_true rfl) rfl (Nat.le_of_ble_eq_true rfl) (fun r1 σ2 hq3 => ?_)
      obtain ⟨r1e, r1s⟩ := hq3
      have r1e := r1e.symm; subst r1e; have r1s := r1s.symm; subst r1s
      refine e_val (y := 11) (show bodF 1 = 11 from rfl) ?_
      refine e_istore (L' := [(4, .int 11), (3, .int 0), (2, .int 1), (0, .int 0), (1, .int 1)]) (pc := 26) Xc (dT hX0_bodyOf 16 rfl) (by decide) rfl ?_
      refine e_iload (pc := 28) Xc (dT hX0_bodyOf 17 rfl) 0 rfl ?_
      refine e_if_eq (tgt := 36) (pc := 30) Xc (dT hX0_bodyOf 18 rfl) rfl (fun c30 => ?_) (fun c30 => ?_)
      · skip
        exact absurd c30 (by decide)
      · skip
        refine e_iload (pc := 33) Xc (dT hX0_bodyOf 19 rfl) 0 rfl ?_
        refine e_iret (pc := 35) Xc hQ (dT hX0_bodyOf 20 rfl) (Nat.le_refl _) (Nat.le_refl _) ?_
        exact ⟨rfl, rfl⟩
set_option maxRecDepth 100000 in
set_option maxHeartbeats 4000000 in
theorem c0_b02 {G : xG} {σ : xS} (hSA : PSA G σ) : CI G yX0_bodyOf cX0_bodyOf 5 (some .int) 1 0 0 [.int 0, .int 2] σ (fun z σ1 => z = 1 ∧ σ1 = σ) := by
  refine Met.ofX (by decide +kernel) (Nat.le_of_ble_eq_true rfl) (fun μ Xc hQ hnm => ?_)
  have Xc : xC G μ cX0_bodyOf 5 RX0 (some .int) 1 0 0 := Xc
  show Ev G μ 5 0 0 0 [(0, .int 0), (1, .int 2)] [] σ
  refine e_iload_n (pc := 0) Xc (dT hX0_bodyOf 0 rfl) 1 rfl ?_
  refine e_istore_n (L' := [(2, .int 2), (0, .int 0), (1, .int 2)]) (pc := 1) Xc (dT hX0_bodyOf 1 rfl) (by decide) rfl ?_
  refine e_iconst (v := 0) (pc := 2) Xc (dT hX0_bodyOf 2 rfl) rfl ?_
  refine e_istore_n (L' := [(3, .int 0), (2, .int 2), (0, .int 0), (1, .int 2)]) (pc := 3) Xc (dT hX0_bodyOf 3 rfl) (by decide) rfl ?_
  refine e_iload_n (pc := 4) Xc (dT hX0_bodyOf 4 rfl) 0 rfl ?_
  refine e_bipush (v := 7) (pc := 5) Xc (dT hX0_bodyOf 5 rfl) rfl ?_
  refine e_icmp_geN (x := 0) (y := 7) (tgt := 50) (pc := 7) Xc (dT hX0_bodyOf 6 rfl) rfl (by omega) (by omega) (fun c7 => ?_) (fun c7 => ?_)
  · skip
    exact absurd c7 (by decide)
  · skip
    refine e_iload_n (pc := 10) Xc (dT hX0_bodyOf 7 rfl) 1 rfl ?_
    refine e_if_eq (tgt := 50) (pc := 11) Xc (dT hX0_bodyOf 8 rfl) rfl (fun c11 => ?_) (fun c11 => ?_)
    · skip
      exact absurd c11 (by decide)
    · skip
      refine e_gets_X0_40 (pc := 14) Xc (dT hX0_bodyOf 9 rfl) ?_
      refine e_iload_n (pc := 17) Xc (dT hX0_bodyOf 10 rfl) 2 rfl ?_
      refine e_bipush (v := 7) (pc := 18) Xc (dT hX0_bodyOf 11 rfl) rfl ?_
      refine e_imulN (a := 0) (b := 7) (pc := 20) Xc (dT hX0_bodyOf 12 rfl) ?_
      refine e_val (y := 0) rfl ?_
      refine e_iload_n (pc := 21) Xc (dT hX0_bodyOf 13 rfl) 1 rfl ?_
      refine e_iaddN (a := 0) (b := 2) (pc := 22) Xc (dT hX0_bodyOf 14 rfl) ?_
      refine e_val (y := 2) rfl ?_
      refine cl_X0_43 (pc := 23) (k := 0) (n := 0) (S := []) Xc (c_get hSA.2 (by decide) (by decide) 2 (by decide)) (dT hX0_bodyOf 15 rfl) rfl (Nat.le_of_ble_eq_true rfl) (Nat.le_of_ble_eq_true rfl) (Nat.le_of_ble_eq_true rfl) rfl (Nat.le_of_ble_eq_true rfl) (fun r1 σ2 hq3 => ?_)
      obtain ⟨r1e, r1s⟩ := hq3
      have r1e := r1e.symm; subst r1e; have r1s := r1s.symm; subst r1s
      refine e_val (y := 0) (show bodF 2 = 0 from rfl) ?_
      refine e_istore (L' := [(4, .int 0), (3, .int 0), (2, .int 2), (0, .int 0), (1, .int 2)]) (pc := 26) Xc (dT hX0_bodyOf 16 rfl) (by decide) rfl ?_
      refine e_iload (pc := 28) Xc (dT hX0_bodyOf 17 rfl) 0 rfl ?_
      refine e_if_eq (tgt := 36) (pc := 30) Xc (dT hX0_bodyOf 18 rfl) rfl (fun c30 => ?_) (fun c30 => ?_)
      · skip
        refine e_gets_X0_47 (pc := 36) Xc (dT hX0_bodyOf 21 rfl) ?_
        refine e_iload_n (pc := 39) Xc (dT hX0_bodyOf 22 rfl) 2 rfl ?_
        refine cl_X0_43 (pc := 40) (k := 0) (n := 0) (S := []) Xc (c_get hSA.1 (by decide) (by decide) 2 (by decide)) (dT hX0_bodyOf 23 rfl) rfl (Nat.le_of_ble_eq_true rfl) (Nat.le_of_ble_eq_true rfl) (Nat.le_of_ble_eq_true rfl) rfl (Nat.le_of_ble_eq_true rfl) (fun r4 σ5 hq6 => ?_)
        obtain ⟨r4e, r4s⟩ := hq6
        have r4e := r4e.symm; subst r4e; have r4s := r4s.symm; subst r4s
        refine e_val (y := 0) (show aboF 2 = 0 from rfl) ?_
        refine e_istore_n (L' := [(2, .int 0), (4, .int 0), (3, .int 0), (0, .int 0), (1, .int 2)]) (pc := 43) Xc (dT hX0_bodyOf 24 rfl) (by decide) rfl ?_
        refine e_iincN (a := 0) (b := 1) (L' := [(3, .int 1), (2, .int 0), (4, .int 0), (0, .int 0), (1, .int 2)]) (pc := 44) Xc (dT hX0_bodyOf 25 rfl) 2 rfl rfl (by decide) rfl ?_
        refine e_goto (tgt := 4) (pc := 47) Xc (dT hX0_bodyOf 26 rfl) rfl ?_
        refine e_iload_n (pc := 4) Xc (dT hX0_bodyOf 4 rfl) 0 rfl ?_
        refine e_bipush (v := 7) (pc := 5) Xc (dT hX0_bodyOf 5 rfl) rfl ?_
        refine e_icmp_geN (x := 1) (y := 7) (tgt := 50) (pc := 7) Xc (dT hX0_bodyOf 6 rfl) rfl (by omega) (by omega) (fun c7 => ?_) (fun c7 => ?_)
        · skip
          exact absurd c7 (by decide)
        · skip
          refine e_iload_n (pc := 10) Xc (dT hX0_bodyOf 7 rfl) 1 rfl ?_
          refine e_if_eq (tgt := 50) (pc := 11) Xc (dT hX0_bodyOf 8 rfl) rfl (fun c11 => ?_) (fun c11 => ?_)
          · skip
            refine e_gets_X0_40 (pc := 50) Xc (dT hX0_bodyOf 27 rfl) ?_
            refine e_iload_n (pc := 53) Xc (dT hX0_bodyOf 28 rfl) 3 rfl ?_
            refine e_bipush (v := 7) (pc := 54) Xc (dT hX0_bodyOf 29 rfl) rfl ?_
            refine e_imulN (a := 0) (b := 7) (pc := 56) Xc (dT hX0_bodyOf 30 rfl) ?_
            refine e_val (y := 0) rfl ?_
            refine cl_X0_43 (pc := 57) (k := 0) (n := 0) (S := []) Xc (c_get hSA.2 (by decide) (by decide) 0 (by decide)) (dT hX0_bodyOf 31 rfl) rfl (Nat.le_of_ble_eq_true rfl) (Nat.le_of_ble_eq_true rfl) (Nat.le_of_ble_eq_true rfl) rfl (Nat.le_of_ble_eq_true rfl) (fun r7 σ8 hq9 => ?_)
            obtain ⟨r7e, r7s⟩ := hq9
            have r7e := r7e.symm; subst r7e; have r7s := r7s.symm; subst r7s
            refine e_val (y := 1) (show bodF 0 = 1 from rfl) ?_
            refine e_iret (pc := 60) Xc hQ (dT hX0_bodyOf 32 rfl) (Nat.le_refl _) (Nat.le_refl _) ?_
            exact ⟨rfl, rfl⟩
          · skip
            exact absurd c11 (by decide)
      · skip
        exact absurd c30 (by decide)
set_option maxRecDepth 100000 in
set_option maxHeartbeats 4000000 in
theorem c0_b03 {G : xG} {σ : xS} (hSA : PSA G σ) : CI G yX0_bodyOf cX0_bodyOf 5 (some .int) 1 0 0 [.int 0, .int 3] σ (fun z σ1 => z = 1 ∧ σ1 = σ) := by
  refine Met.ofX (by decide +kernel) (Nat.le_of_ble_eq_true rfl) (fun μ Xc hQ hnm => ?_)
  have Xc : xC G μ cX0_bodyOf 5 RX0 (some .int) 1 0 0 := Xc
  show Ev G μ 5 0 0 0 [(0, .int 0), (1, .int 3)] [] σ
  refine e_iload_n (pc := 0) Xc (dT hX0_bodyOf 0 rfl) 1 rfl ?_
  refine e_istore_n (L' := [(2, .int 3), (0, .int 0), (1, .int 3)]) (pc := 1) Xc (dT hX0_bodyOf 1 rfl) (by decide) rfl ?_
  refine e_iconst (v := 0) (pc := 2) Xc (dT hX0_bodyOf 2 rfl) rfl ?_
  refine e_istore_n (L' := [(3, .int 0), (2, .int 3), (0, .int 0), (1, .int 3)]) (pc := 3) Xc (dT hX0_bodyOf 3 rfl) (by decide) rfl ?_
  refine e_iload_n (pc := 4) Xc (dT hX0_bodyOf 4 rfl) 0 rfl ?_
  refine e_bipush (v := 7) (pc := 5) Xc (dT hX0_bodyOf 5 rfl) rfl ?_
  refine e_icmp_geN (x := 0) (y := 7) (tgt := 50) (pc := 7) Xc (dT hX0_bodyOf 6 rfl) rfl (by omega) (by omega) (fun c7 => ?_) (fun c7 => ?_)
  · skip
    exact absurd c7 (by decide)
  · skip
    refine e_iload_n (pc := 10) Xc (dT hX0_bodyOf 7 rfl) 1 rfl ?_
    refine e_if_eq (tgt := 50) (pc := 11) Xc (dT hX0_bodyOf 8 rfl) rfl (fun c11 => ?_) (fun c11 => ?_)
    · skip
      exact absurd c11 (by decide)
    · skip
      refine e_gets_X0_40 (pc := 14) Xc (dT hX0_bodyOf 9 rfl) ?_
      refine e_iload_n (pc := 17) Xc (dT hX0_bodyOf 10 rfl) 2 rfl ?_
      refine e_bipush (v := 7) (pc := 18) Xc (dT hX0_bodyOf 11 rfl) rfl ?_
      refine e_imulN (a := 0) (b := 7) (pc := 20) Xc (dT hX0_bodyOf 12 rfl) ?_
      refine e_val (y := 0) rfl ?_
      refine e_iload_n (pc := 21) Xc (dT hX0_bodyOf 13 rfl) 1 rfl ?_
      refine e_iaddN (a := 0) (b := 3) (pc := 22) Xc (dT hX0_bodyOf 14 rfl) ?_
      refine e_val (y := 3) rfl ?_
      refine cl_X0_43 (pc := 23) (k := 0) (n := 0) (S := []) Xc (c_get hSA.2 (by decide) (by decide) 3 (by decide)) (dT hX0_bodyOf 15 rfl) rfl (Nat.le_of_ble_eq_true rfl) (Nat.le_of_ble_eq_true rfl) (Nat.le_of_ble_eq_true rfl) rfl (Nat.le_of_ble_eq_true rfl) (fun r1 σ2 hq3 => ?_)
      obtain ⟨r1e, r1s⟩ := hq3
      have r1e := r1e.symm; subst r1e; have r1s := r1s.symm; subst r1s
      refine e_val (y := 0) (show bodF 3 = 0 from rfl) ?_
      refine e_istore (L' := [(4, .int 0), (3, .int 0), (2, .int 3), (0, .int 0), (1, .int 3)]) (pc := 26) Xc (dT hX0_bodyOf 16 rfl) (by decide) rfl ?_
      refine e_iload (pc := 28) Xc (dT hX0_bodyOf 17 rfl) 0 rfl ?_
      refine e_if_eq (tgt := 36) (pc := 30) Xc (dT hX0_bodyOf 18 rfl) rfl (fun c30 => ?_) (fun c30 => ?_)
      · skip
        refine e_gets_X0_47 (pc := 36) Xc (dT hX0_bodyOf 21 rfl) ?_
        refine e_iload_n (pc := 39) Xc (dT hX0_bodyOf 22 rfl) 2 rfl ?_
        refine cl_X0_43 (pc := 40) (k := 0) (n := 0) (S := []) Xc (c_get hSA.1 (by decide) (by decide) 3 (by decide)) (dT hX0_bodyOf 23 rfl) rfl (Nat.le_of_ble_eq_true rfl) (Nat.le_of_ble_eq_true rfl) (Nat.le_of_ble_eq_true rfl) rfl (Nat.le_of_ble_eq_true rfl) (fun r4 σ5 hq6 => ?_)
        obtain ⟨r4e, r4s⟩ := hq6
        have r4e := r4e.symm; subst r4e; have r4s := r4s.symm; subst r4s
        refine e_val (y := 0) (show aboF 3 = 0 from rfl) ?_
        refine e_istore_n (L' := [(2, .int 0), (4, .int 0), (3, .int 0), (0, .int 0), (1, .int 3)]) (pc := 43) Xc (dT hX0_bodyOf 24 rfl) (by decide) rfl ?_
        refine e_iincN (a := 0) (b := 1) (L' := [(3, .int 1), (2, .int 0), (4, .int 0), (0, .int 0), (1, .int 3)]) (pc := 44) Xc (dT hX0_bodyOf 25 rfl) 2 rfl rfl (by decide) rfl ?_
        refine e_goto (tgt := 4) (pc := 47) Xc (dT hX0_bodyOf 26 rfl) rfl ?_
        refine e_iload_n (pc := 4) Xc (dT hX0_bodyOf 4 rfl) 0 rfl ?_
        refine e_bipush (v := 7) (pc := 5) Xc (dT hX0_bodyOf 5 rfl) rfl ?_
        refine e_icmp_geN (x := 1) (y := 7) (tgt := 50) (pc := 7) Xc (dT hX0_bodyOf 6 rfl) rfl (by omega) (by omega) (fun c7 => ?_) (fun c7 => ?_)
        · skip
          exact absurd c7 (by decide)
        · skip
          refine e_iload_n (pc := 10) Xc (dT hX0_bodyOf 7 rfl) 1 rfl ?_
          refine e_if_eq (tgt := 50) (pc := 11) Xc (dT hX0_bodyOf 8 rfl) rfl (fun c11 => ?_) (fun c11 => ?_)
          · skip
            refine e_gets_X0_40 (pc := 50) Xc (dT hX0_bodyOf 27 rfl) ?_
            refine e_iload_n (pc := 53) Xc (dT hX0_bodyOf 28 rfl) 3 rfl ?_
            refine e_bipush (v := 7) (pc := 54) Xc (dT hX0_bodyOf 29 rfl) rfl ?_
            refine e_imulN (a := 0) (b := 7) (pc := 56) Xc (dT hX0_bodyOf 30 rfl) ?_
            refine e_val (y := 0) rfl ?_
            refine cl_X0_43 (pc := 57) (k := 0) (n := 0) (S := []) Xc (c_get hSA.2 (by decide) (by decide) 0 (by decide)) (dT hX0_bodyOf 31 rfl) rfl (Nat.le_of_ble_eq_true rfl) (Nat.le_of_ble_eq_true rfl) (Nat.le_of_ble_eq_true rfl) rfl (Nat.le_of_ble_eq_true rfl) (fun r7 σ8 hq9 => ?_)
            obtain ⟨r7e, r7s⟩ := hq9
            have r7e := r7e.symm; subst r7e; have r7s := r7s.symm; subst r7s
            refine e_val (y := 1) (show bodF 0 = 1 from rfl) ?_
            refine e_iret (pc := 60) Xc hQ (dT hX0_bodyOf 32 rfl) (Nat.le_refl _) (Nat.le_refl _) ?_
            exact ⟨rfl, rfl⟩
          · skip
            exact absurd c11 (by decide)
      · skip
        exact absurd c30 (by decide)
set_option maxRecDepth 100000 in
set_option maxHeartbeats 4000000 in
theorem c0_b04 {G : xG} {σ : xS} (hSA : PSA G σ) : CI G yX0_bodyOf cX0_bodyOf 5 (some .int) 1 0 0 [.int 0, .int 4] σ (fun z σ1 => z = 11 ∧ σ1 = σ) := by
  refine Met.ofX (by decide +kernel) (Nat.le_of_ble_eq_true rfl) (fun μ Xc hQ hnm => ?_)
  have Xc : xC G μ cX0_bodyOf 5 RX0 (some .int) 1 0 0 := Xc
  show Ev G μ 5 0 0 0 [(0, .int 0), (1, .int 4)] [] σ
  refine e_iload_n (pc := 0) Xc (dT hX0_bodyOf 0 rfl) 1 rfl ?_
  refine e_istore_n (L' := [(2, .int 4), (0, .int 0), (1, .int 4)]) (pc := 1) Xc (dT hX0_bodyOf 1 rfl) (by decide) rfl ?_
  refine e_iconst (v := 0) (pc := 2) Xc (dT hX0_bodyOf 2 rfl) rfl ?_
  refine e_istore_n (L' := [(3, .int 0), (2, .int 4), (0, .int 0), (1, .int 4)]) (pc := 3) Xc (dT hX0_bodyOf 3 rfl) (by decide) rfl ?_
  refine e_iload_n (pc := 4) Xc (dT hX0_bodyOf 4 rfl) 0 rfl ?_
  refine e_bipush (v := 7) (pc := 5) Xc (dT hX0_bodyOf 5 rfl) rfl ?_
  refine e_icmp_geN (x := 0) (y := 7) (tgt := 50) (pc := 7) Xc (dT hX0_bodyOf 6 rfl) rfl (by omega) (by omega) (fun c7 => ?_) (fun c7 => ?_)
  · skip
    exact absurd c7 (by decide)
  · skip
    refine e_iload_n (pc := 10) Xc (dT hX0_bodyOf 7 rfl) 1 rfl ?_
    refine e_if_eq (tgt := 50) (pc := 11) Xc (dT hX0_bodyOf 8 rfl) rfl (fun c11 => ?_) (fun c11 => ?_)
    · skip
      exact absurd c11 (by decide)
    · skip
      refine e_gets_X0_40 (pc := 14) Xc (dT hX0_bodyOf 9 rfl) ?_
      refine e_iload_n (pc := 17) Xc (dT hX0_bodyOf 10 rfl) 2 rfl ?_
      refine e_bipush (v := 7) (pc := 18) Xc (dT hX0_bodyOf 11 rfl) rfl ?_
      refine e_imulN (a := 0) (b := 7) (pc := 20) Xc (dT hX0_bodyOf 12 rfl) ?_
      refine e_val (y := 0) rfl ?_
      refine e_iload_n (pc := 21) Xc (dT hX0_bodyOf 13 rfl) 1 rfl ?_
      refine e_iaddN (a := 0) (b := 4) (pc := 22) Xc (dT hX0_bodyOf 14 rfl) ?_
      refine e_val (y := 4) rfl ?_
      refine cl_X0_43 (pc := 23) (k := 0) (n := 0) (S := []) Xc (c_get hSA.2 (by decide) (by decide) 4 (by decide)) (dT hX0_bodyOf 15 rfl) rfl (Nat.le_of_ble_eq_true rfl) (Nat.le_of_ble_eq_true rfl) (Nat.le_of_ble_eq_true rfl) rfl (Nat.le_of_ble_eq_true rfl) (fun r1 σ2 hq3 => ?_)
      obtain ⟨r1e, r1s⟩ := hq3
      have r1e := r1e.symm; subst r1e; have r1s := r1s.symm; subst r1s
      refine e_val (y := 0) (show bodF 4 = 0 from rfl) ?_
      refine e_istore (L' := [(4, .int 0), (3, .int 0), (2, .int 4), (0, .int 0), (1, .int 4)]) (pc := 26) Xc (dT hX0_bodyOf 16 rfl) (by decide) rfl ?_
      refine e_iload (pc := 28) Xc (dT hX0_bodyOf 17 rfl) 0 rfl ?_
      refine e_if_eq (tgt := 36) (pc := 30) Xc (dT hX0_bodyOf 18 rfl) rfl (fun c30 => ?_) (fun c30 => ?_)
      · skip
        refine e_gets_X0_47 (pc := 36) Xc (dT hX0_bodyOf 21 rfl) ?_
        refine e_iload_n (pc := 39) Xc (dT hX0_bodyOf 22 rfl) 2 rfl ?_
        refine cl_X0_43 (pc := 40) (k := 0) (n := 0) (S := []) Xc (c_get hSA.1 (by decide) (by decide) 4 (by decide)) (dT hX0_bodyOf 23 rfl) rfl (Nat.le_of_ble_eq_true rfl) (Nat.le_of_ble_eq_true rfl) (Nat.le_of_ble_eq_true rfl) rfl (Nat.le_of_ble_eq_true rfl) (fun r4 σ5 hq6 => ?_)
        obtain ⟨r4e, r4s⟩ := hq6
        have r4e := r4e.symm; subst r4e; have r4s := r4s.symm; subst r4s
        refine e_val (y := 1) (show aboF 4 = 1 from rfl) ?_
        refine e_istore_n (L' := [(2, .int 1), (4, .int 0), (3, .int 0), (0, .int 0), (1, .int 4)]) (pc := 43) Xc (dT hX0_bodyOf 24 rfl) (by decide) rfl ?_
        refine e_iincN (a := 0) (b := 1) (L' := [(3, .int 1), (2, .int 1), (4, .int 0), (0, .int 0), (1, .int 4)]) (pc := 44) Xc (dT hX0_bodyOf 25 rfl) 2 rfl rfl (by decide) rfl ?_
        refine e_goto (tgt := 4) (pc := 47) Xc (dT hX0_bodyOf 26 rfl) rfl ?_
        refine e_iload_n (pc := 4) Xc (dT hX0_bodyOf 4 rfl) 0 rfl ?_
        refine e_bipush (v := 7) (pc := 5) Xc (dT hX0_bodyOf 5 rfl) rfl ?_
        refine e_icmp_geN (x := 1) (y := 7) (tgt := 50) (pc := 7) Xc (dT hX0_bodyOf 6 rfl) rfl (by omega) (by omega) (fun c7 => ?_) (fun c7 => ?_)
        · skip
          exact absurd c7 (by decide)
        · skip
          refine e_iload_n (pc := 10) Xc (dT hX0_bodyOf 7 rfl) 1 rfl ?_
          refine e_if_eq (tgt := 50) (pc := 11) Xc (dT hX0_bodyOf 8 rfl) rfl (fun c11 => ?_) (fun c11 => ?_)
          · skip
            exact absurd c11 (by decide)
          · skip
            refine e_gets_X0_40 (pc := 14) Xc (dT hX0_bodyOf 9 rfl) ?_
            refine e_iload_n (pc := 17) Xc (dT hX0_bodyOf 10 rfl) 3 rfl ?_
            refine e_bipush (v := 7) (pc := 18) Xc (dT hX0_bodyOf 11 rfl) rfl ?_
            refine e_imulN (a := 0) (b := 7) (pc := 20) Xc (dT hX0_bodyOf 12 rfl) ?_
            refine e_val (y := 0) rfl ?_
            refine e_iload_n (pc := 21) Xc (dT hX0_bodyOf 13 rfl) 1 rfl ?_
            refine e_iaddN (a := 0) (b := 1) (pc := 22) Xc (dT hX0_bodyOf 14 rfl) ?_
            refine e_val (y := 1) rfl ?_
            refine cl_X0_43 (pc := 23) (k := 0) (n := 0) (S := []) Xc (c_get hSA.2 (by decide) (by decide) 1 (by decide)) (dT hX0_bodyOf 15 rfl) rfl (Nat.le_of_ble_eq_true rfl) (Nat.le_of_ble_eq_true rfl) (Nat.le_of_ble_eq_true rfl) rfl (Nat.le_of_ble_eq_true rfl) (fun r7 σ8 hq9 => ?_)
            obtain ⟨r7e, r7s⟩ := hq9
            have r7e := r7e.symm; subst r7e; have r7s := r7s.symm; subst r7s
            refine e_val (y := 11) (show bodF 1 = 11 from rfl) ?_
            refine e_istore (L' := [(4, .int 11), (3, .int 1), (2, .int 1), (0, .int 0), (1, .int 4)]) (pc := 26) Xc (dT hX0_bodyOf 16 rfl) (by decide) rfl ?_
            refine e_iload (pc := 28) Xc (dT hX0_bodyOf 17 rfl) 0 rfl ?_
            refine e_if_eq (tgt := 36) (pc := 30) Xc (dT hX0_bodyOf 18 rfl) rfl (fun c30 => ?_) (fun c30 => ?_)
            · skip
              exact absurd c30 (by decide)
            · skip
              refine e_iload (pc := 33) Xc (dT hX0_bodyOf 19 rfl) 0 rfl ?_
              refine e_iret (pc := 35) Xc hQ (dT hX0_bodyOf 20 rfl) (Nat.le_refl _) (Nat.le_refl _) ?_
              exact ⟨rfl, rfl⟩
      · skip
        exact absurd c30 (by decide)
set_option maxRecDepth 100000 in
set_option maxHeartbeats 4000000 in
theorem c0_b05 {G : xG} {σ : xS} (hSA : PSA G σ) : CI G yX0_bodyOf cX0_bodyOf 5 (some .int) 1 0 0 [.int 0, .int 5] σ (fun z σ1 => z = 51 ∧ σ1 = σ) := by
  refine Met.ofX (by decide +kernel) (Nat.le_of_ble_eq_true rfl) (fun μ Xc hQ hnm => ?_)
  have Xc : xC G μ cX0_bodyOf 5 RX0 (some .int) 1 0 0 := Xc
  show Ev G μ 5 0 0 0 [(0, .int 0), (1, .int 5)] [] σ
  refine e_iload_n (pc := 0) Xc (dT hX0_bodyOf 0 rfl) 1 rfl ?_
  refine e_istore_n (L' := [(2, .int 5), (0, .int 0), (1, .int 5)]) (pc := 1) Xc (dT hX0_bodyOf 1 rfl) (by decide) rfl ?_
  refine e_iconst (v := 0) (pc := 2) Xc (dT hX0_bodyOf 2 rfl) rfl ?_
  refine e_istore_n (L' := [(3, .int 0), (2, .int 5), (0, .int 0), (1, .int 5)]) (pc := 3) Xc (dT hX0_bodyOf 3 rfl) (by decide) rfl ?_
  refine e_iload_n (pc := 4) Xc (dT hX0_bodyOf 4 rfl) 0 rfl ?_
  refine e_bipush (v := 7) (pc := 5) Xc (dT hX0_bodyOf 5 rfl) rfl ?_
  refine e_icmp_geN (x := 0) (y := 7) (tgt := 50) (pc := 7) Xc (dT hX0_bodyOf 6 rfl) rfl (by omega) (by omega) (fun c7 => ?_) (fun c7 => ?_)
  · skip
    exact absurd c7 (by decide)
  · skip
    refine e_iload_n (pc := 10) Xc (dT hX0_bodyOf 7 rfl) 1 rfl ?_
    refine e_if_eq (tgt := 50) (pc := 11) Xc (dT hX0_bodyOf 8 rfl) rfl (fun c11 => ?_) (fun c11 => ?_)
    · skip
      exact absurd c11 (by decide)
    · skip
      refine e_gets_X0_40 (pc := 14) Xc (dT hX0_bodyOf 9 rfl) ?_
      refine e_iload_n (pc := 17) Xc (dT hX0_bodyOf 10 rfl) 2 rfl ?_
      refine e_bipush (v := 7) (pc := 18) Xc (dT hX0_bodyOf 11 rfl) rfl ?_
      refine e_imulN (a := 0) (b := 7) (pc := 20) Xc (dT hX0_bodyOf 12 rfl) ?_
      refine e_val (y := 0) rfl ?_
      refine e_iload_n (pc := 21) Xc (dT hX0_bodyOf 13 rfl) 1 rfl ?_
      refine e_iaddN (a := 0) (b := 5) (pc := 22) Xc (dT hX0_bodyOf 14 rfl) ?_
      refine e_val (y := 5) rfl ?_
      refine cl_X0_43 (pc := 23) (k := 0) (n := 0) (S := []) Xc (c_get hSA.2 (by decide) (by decide) 5 (by decide)) (dT hX0_bodyOf 15 rfl) rfl (Nat.le_of_ble_eq_true rfl) (Nat.le_of_ble_eq_true rfl) (Nat.le_of_ble_eq_true rfl) rfl (Nat.le_of_ble_eq_true rfl) (fun r1 σ2 hq3 => ?_)
      obtain ⟨r1e, r1s⟩ := hq3
      have r1e := r1e.symm; subst r1e; have r1s := r1s.symm; subst r1s
      refine e_val (y := 51) (show bodF 5 = 51 from rfl) ?_
      refine e_istore (L' := [(4, .int 51), (3, .int 0), (2, .int 5), (0, .int 0), (1, .int 5)]) (pc := 26) Xc (dT hX0_bodyOf 16 rfl) (by decide) rfl ?_
      refine e_iload (pc := 28) Xc (dT hX0_bodyOf 17 rfl) 0 rfl ?_
      refine e_if_eq (tgt := 36) (pc := 30) Xc (dT hX0_bodyOf 18 rfl) rfl (fun c30 => ?_) (fun c30 => ?_)
      · skip
        exact absurd c30 (by decide)
      · skip
        refine e_iload (pc := 33) Xc (dT hX0_bodyOf 19 rfl) 0 rfl ?_
        refine e_iret (pc := 35) Xc hQ (dT hX0_bodyOf 20 rfl) (Nat.le_refl _) (Nat.le_refl _) ?_
        exact ⟨rfl, rfl⟩
set_option maxRecDepth 100000 in
set_option maxHeartbeats 4000000 in
theorem c0_b06 {G : xG} {σ : xS} (hSA : PSA G σ) : CI G yX0_bodyOf cX0_bodyOf 5 (some .int) 1 0 0 [.int 0, .int 6] σ (fun z σ1 => z = 1 ∧ σ1 = σ) := by
  refine Met.ofX (by decide +kernel) (Nat.le_of_ble_eq_true rfl) (fun μ Xc hQ hnm => ?_)
  have Xc : xC G μ cX0_bodyOf 5 RX0 (some .int) 1 0 0 := Xc
  show Ev G μ 5 0 0 0 [(0, .int 0), (1, .int 6)] [] σ
  refine e_iload_n (pc := 0) Xc (dT hX0_bodyOf 0 rfl) 1 rfl ?_
  refine e_istore_n (L' := [(2, .int 6), (0, .int 0), (1, .int 6)]) (pc := 1) Xc (dT hX0_bodyOf 1 rfl) (by decide) rfl ?_
  refine e_iconst (v := 0) (pc := 2) Xc (dT hX0_bodyOf 2 rfl) rfl ?_
  refine e_istore_n (L' := [(3, .int 0), (2, .int 6), (0, .int 0), (1, .int 6)]) (pc := 3) Xc (dT hX0_bodyOf 3 rfl) (by decide) rfl ?_
  refine e_iload_n (pc := 4) Xc (dT hX0_bodyOf 4 rfl) 0 rfl ?_
  refine e_bipush (v := 7) (pc := 5) Xc (dT hX0_bodyOf 5 rfl) rfl ?_
  refine e_icmp_geN (x := 0) (y := 7) (tgt := 50) (pc := 7) Xc (dT hX0_bodyOf 6 rfl) rfl (by omega) (by omega) (fun c7 => ?_) (fun c7 => ?_)
  · skip
    exact absurd c7 (by decide)
  · skip
    refine e_iload_n (pc := 10) Xc (dT hX0_bodyOf 7 rfl) 1 rfl ?_
    refine e_if_eq (tgt := 50) (pc := 11) Xc (dT hX0_bodyOf 8 rfl) rfl (fun c11 => ?_) (fun c11 => ?_)
    · skip
      exact absurd c11 (by decide)
    · skip
      refine e_gets_X0_40 (pc := 14) Xc (dT hX0_bodyOf 9 rfl) ?_
      refine e_iload_n (pc := 17) Xc (dT hX0_bodyOf 10 rfl) 2 rfl ?_
      refine e_bipush (v := 7) (pc := 18) Xc (dT hX0_bodyOf 11 rfl) rfl ?_
      refine e_imulN (a := 0) (b := 7) (pc := 20) Xc (dT hX0_bodyOf 12 rfl) ?_
      refine e_val (y := 0) rfl ?_
      refine e_iload_n (pc := 21) Xc (dT hX0_bodyOf 13 rfl) 1 rfl ?_
      refine e_iaddN (a := 0) (b := 6) (pc := 22) Xc (dT hX0_bodyOf 14 rfl) ?_
      refine e_val (y := 6) rfl ?_
      refine cl_X0_43 (pc := 23) (k := 0) (n := 0) (S := []) Xc (c_get hSA.2 (by decide) (by decide) 6 (by decide)) (dT hX0_bodyOf 15 rfl) rfl (Nat.le_of_ble_eq_true rfl) (Nat.le_of_ble_eq_true rfl) (Nat.le_of_ble_eq_true rfl) rfl (Nat.le_of_ble_eq_true rfl) (fun r1 σ2 hq3 => ?_)
      obtain ⟨r1e, r1s⟩ := hq3
      have r1e := r1e.symm; subst r1e; have r1s := r1s.symm; subst r1s
      refine e_val (y := 0) (show bodF 6 = 0 from rfl) ?_
      refine e_istore (L' := [(4, .int 0), (3, .int 0), (2, .int 6), (0, .int 0), (1, .int 6)]) (pc := 26) Xc (dT hX0_bodyOf 16 rfl) (by decide) rfl ?_
      refine e_iload (pc := 28) Xc (dT hX0_bodyOf 17 rfl) 0 rfl ?_
      refine e_if_eq (tgt := 36) (pc := 30) Xc (dT hX0_bodyOf 18 rfl) rfl (fun c30 => ?_) (fun c30 => ?_)
      · skip
        refine e_gets_X0_47 (pc := 36) Xc (dT hX0_bodyOf 21 rfl) ?_
        refine e_iload_n (pc := 39) Xc (dT hX0_bodyOf 22 rfl) 2 rfl ?_
        refine cl_X0_43 (pc := 40) (k := 0) (n := 0) (S := []) Xc (c_get hSA.1 (by decide) (by decide) 6 (by decide)) (dT hX0_bodyOf 23 rfl) rfl (Nat.le_of_ble_eq_true rfl) (Nat.le_of_ble_eq_true rfl) (Nat.le_of_ble_eq_true rfl) rfl (Nat.le_of_ble_eq_true rfl) (fun r4 σ5 hq6 => ?_)
        obtain ⟨r4e, r4s⟩ := hq6
        have r4e := r4e.symm; subst r4e; have r4s := r4s.symm; subst r4s
        refine e_val (y := 3) (show aboF 6 = 3 from rfl) ?_
        refine e_istore_n (L' := [(2, .int 3), (4, .int 0), (3, .int 0), (0, .int 0), (1, .int 6)]) (pc := 43) Xc (dT hX0_bodyOf 24 rfl) (by decide) rfl ?_
        refine e_iincN (a := 0) (b := 1) (L' := [(3, .int 1), (2, .int 3), (4, .int 0), (0, .int 0), (1, .int 6)]) (pc := 44) Xc (dT hX0_bodyOf 25 rfl) 2 rfl rfl (by decide) rfl ?_
        refine e_goto (tgt := 4) (pc := 47) Xc (dT hX0_bodyOf 26 rfl) rfl ?_
        refine e_iload_n (pc := 4) Xc (dT hX0_bodyOf 4 rfl) 0 rfl ?_
        refine e_bipush (v := 7) (pc := 5) Xc (dT hX0_bodyOf 5 rfl) rfl ?_
        refine e_icmp_geN (x := 1) (y := 7) (tgt := 50) (pc := 7) Xc (dT hX0_bodyOf 6 rfl) rfl (by omega) (by omega) (fun c7 => ?_) (fun c7 => ?_)
        · skip
          exact absurd c7 (by decide)
        · skip
          refine e_iload_n (pc := 10) Xc (dT hX0_bodyOf 7 rfl) 1 rfl ?_
          refine e_if_eq (tgt := 50) (pc := 11) Xc (dT hX0_bodyOf 8 rfl) rfl (fun c11 => ?_) (fun c11 => ?_)
          · skip
            exact absurd c11 (by decide)
          · skip
            refine e_gets_X0_40 (pc := 14) Xc (dT hX0_bodyOf 9 rfl) ?_
            refine e_iload_n (pc := 17) Xc (dT hX0_bodyOf 10 rfl) 3 rfl ?_
            refine e_bipush (v := 7) (pc := 18) Xc (dT hX0_bodyOf 11 rfl) rfl ?_
            refine e_imulN (a := 0) (b := 7) (pc := 20) Xc (dT hX0_bodyOf 12 rfl) ?_
            refine e_val (y := 0) rfl ?_
            refine e_iload_n (pc := 21) Xc (dT hX0_bodyOf 13 rfl) 1 rfl ?_
            refine e_iaddN (a := 0) (b := 3) (pc := 22) Xc (dT hX0_bodyOf 14 rfl) ?_
            refine e_val (y := 3) rfl ?_
            refine cl_X0_43 (pc := 23) (k := 0) (n := 0) (S := []) Xc (c_get hSA.2 (by decide) (by decide) 3 (by decide)) (dT hX0_bodyOf 15 rfl) rfl (Nat.le_of_ble_eq_true rfl) (Nat.le_of_ble_eq_true rfl) (Nat.le_of_ble_eq_true rfl) rfl (Nat.le_of_ble_eq_true rfl) (fun r7 σ8 hq9 => ?_)
            obtain ⟨r7e, r7s⟩ := hq9
            have r7e := r7e.symm; subst r7e; have r7s := r7s.symm; subst r7s
            refine e_val (y := 0) (show bodF 3 = 0 from rfl) ?_
            refine e_istore (L' := [(4, .int 0), (3, .int 1), (2, .int 3), (0, .int 0), (1, .int 6)]) (pc := 26) Xc (dT hX0_bodyOf 16 rfl) (by decide) rfl ?_
            refine e_iload (pc := 28) Xc (dT hX0_bodyOf 17 rfl) 0 rfl ?_
            refine e_if_eq (tgt := 36) (pc := 30) Xc (dT hX0_bodyOf 18 rfl) rfl (fun c30 => ?_) (fun c30 => ?_)
            · skip
              refine e_gets_X0_47 (pc := 36) Xc (dT hX0_bodyOf 21 rfl) ?_
              refine e_iload_n (pc := 39) Xc (dT hX0_bodyOf 22 rfl) 2 rfl ?_
              refine cl_X0_43 (pc := 40) (k := 0) (n := 0) (S := []) Xc (c_get hSA.1 (by decide) (by decide) 3 (by decide)) (dT hX0_bodyOf 23 rfl) rfl (Nat.le_of_ble_eq_true rfl) (Nat.le_of_ble_eq_true rfl) (Nat.le_of_ble_eq_true rfl) rfl (Nat.le_of_ble_eq_true rfl) (fun r10 σ11 hq12 => ?_)
              obtain ⟨r10e, r10s⟩ := hq12
              have r10e := r10e.symm; subst r10e; have r10s := r10s.symm; subst r10s
              refine e_val (y := 0) (show aboF 3 = 0 from rfl) ?_
              refine e_istore_n (L' := [(2, .int 0), (4, .int 0), (3, .int 1), (0, .int 0), (1, .int 6)]) (pc := 43) Xc (dT hX0_bodyOf 24 rfl) (by decide) rfl ?_
              refine e_iincN (a := 1) (b := 1) (L' := [(3, .int 2), (2, .int 0), (4, .int 0), (0, .int 0), (1, .int 6)]) (pc := 44) Xc (dT hX0_bodyOf 25 rfl) 2 rfl rfl (by decide) rfl ?_
              refine e_goto (tgt := 4) (pc := 47) Xc (dT hX0_bodyOf 26 rfl) rfl ?_
              refine e_iload_n (pc := 4) Xc (dT hX0_bodyOf 4 rfl) 0 rfl ?_
              refine e_bipush (v := 7) (pc := 5) Xc (dT hX0_bodyOf 5 rfl) rfl ?_
              refine e_icmp_geN (x := 2) (y := 7) (tgt := 50) (pc := 7) Xc (dT hX0_bodyOf 6 rfl) rfl (by omega) (by omega) (fun c7 => ?_) (fun c7 => ?_)
              · skip
                exact absurd c7 (by decide)
              · skip
                refine e_iload_n (pc := 10) Xc (dT hX0_bodyOf 7 rfl) 1 rfl ?_
                refine e_if_eq (tgt := 50) (pc := 11) Xc (dT hX0_bodyOf 8 rfl) rfl (fun c11 => ?_) (fun c11 => ?_)
                · skip
                  refine e_gets_X0_40 (pc := 50) Xc (dT hX0_bodyOf 27 rfl) ?_
                  refine e_iload_n (pc := 53) Xc (dT hX0_bodyOf 28 rfl) 3 rfl ?_
                  refine e_bipush (v := 7) (pc := 54) Xc (dT hX0_bodyOf 29 rfl) rfl ?_
                  refine e_imulN (a := 0) (b := 7) (pc := 56) Xc (dT hX0_bodyOf 30 rfl) ?_
                  refine e_val (y := 0) rfl ?_
                  refine cl_X0_43 (pc := 57) (k := 0) (n := 0) (S := []) Xc (c_get hSA.2 (by decide) (by decide) 0 (by decide)) (dT hX0_bodyOf 31 rfl) rfl (Nat.le_of_ble_eq_true rfl) (Nat.le_of_ble_eq_true rfl) (Nat.le_of_ble_eq_true rfl) rfl (Nat.le_of_ble_eq_true rfl) (fun r13 σ14 hq15 => ?_)
                  obtain ⟨r13e, r13s⟩ := hq15
                  have r13e := r13e.symm; subst r13e; have r13s := r13s.symm; subst r13s
                  refine e_val (y := 1) (show bodF 0 = 1 from rfl) ?_
                  refine e_iret (pc := 60) Xc hQ (dT hX0_bodyOf 32 rfl) (Nat.le_refl _) (Nat.le_refl _) ?_
                  exact ⟨rfl, rfl⟩
                · skip
                  exact absurd c11 (by decide)
            · skip
              exact absurd c30 (by decide)
      · skip
        exact absurd c30 (by decide)
set_option maxRecDepth 100000 in
set_option maxHeartbeats 4000000 in
theorem c0_b10 {G : xG} {σ : xS} (hSA : PSA G σ) : CI G yX0_bodyOf cX0_bodyOf 5 (some .int) 1 0 0 [.int 1, .int 0] σ (fun z σ1 => z = 2 ∧ σ1 = σ) := by
  refine Met.ofX (by decide +kernel) (Nat.le_of_ble_eq_true rfl) (fun μ Xc hQ hnm => ?_)
  have Xc : xC G μ cX0_bodyOf 5 RX0 (some .int) 1 0 0 := Xc
  show Ev G μ 5 0 0 0 [(0, .int 1), (1, .int 0)] [] σ
  refine e_iload_n (pc := 0) Xc (dT hX0_bodyOf 0 rfl) 1 rfl ?_
  refine e_istore_n (L' := [(2, .int 0), (0, .int 1), (1, .int 0)]) (pc := 1) Xc (dT hX0_bodyOf 1 rfl) (by decide) rfl ?_
  refine e_iconst (v := 0) (pc := 2) Xc (dT hX0_bodyOf 2 rfl) rfl ?_
  refine e_istore_n (L' := [(3, .int 0), (2, .int 0), (0, .int 1), (1, .int 0)]) (pc := 3) Xc (dT hX0_bodyOf 3 rfl) (by decide) rfl ?_
  refine e_iload_n (pc := 4) Xc (dT hX0_bodyOf 4 rfl) 0 rfl ?_
  refine e_bipush (v := 7) (pc := 5) Xc (dT hX0_bodyOf 5 rfl) rfl ?_
  refine e_icmp_geN (x := 0) (y := 7) (tgt := 50) (pc := 7) Xc (dT hX0_bodyOf 6 rfl) rfl (by omega) (by omega) (fun c7 => ?_) (fun c7 => ?_)
  · skip
    exact absurd c7 (by decide)
  · skip
    refine e_iload_n (pc := 10) Xc (dT hX0_bodyOf 7 rfl) 1 rfl ?_
    refine e_if_eq (tgt := 50) (pc := 11) Xc (dT hX0_bodyOf 8 rfl) rfl (fun c11 => ?_) (fun c11 => ?_)
    · skip
      refine e_gets_X0_40 (pc := 50) Xc (dT hX0_bodyOf 27 rfl) ?_
      refine e_iload_n (pc := 53) Xc (dT hX0_bodyOf 28 rfl) 2 rfl ?_
      refine e_bipush (v := 7) (pc := 54) Xc (dT hX0_bodyOf 29 rfl) rfl ?_
      refine e_imulN (a := 1) (b := 7) (pc := 56) Xc (dT hX0_bodyOf 30 rfl) ?_
      refine e_val (y := 7) rfl ?_
      refine cl_X0_43 (pc := 57) (k := 0) (n := 0) (S := []) Xc (c_get hSA.2 (by decide) (by decide) 7 (by decide)) (dT hX0_bodyOf 31 rfl) rfl (Nat.le_of_ble_eq_true rfl) (Nat.le_of_ble_eq_true rfl) (Nat.le_of_ble_eq_true rfl) rfl (Nat.le_of_ble_eq_true rfl) (fun r1 σ2 hq3 => ?_)
      obtain ⟨r1e, r1s⟩ := hq3
      have r1e := r1e.symm; subst r1e; have r1s := r1s.symm; subst r1s
      refine e_val (y := 2) (show bodF 7 = 2 from rfl) ?_
      refine e_iret (pc := 60) Xc hQ (dT hX0_bodyOf 32 rfl) (Nat.le_refl _) (Nat.le_refl _) ?_
      exact ⟨rfl, rfl⟩
    · skip
      exact absurd c11 (by decide)
set_option maxRecDepth 100000 in
set_option maxHeartbeats 4000000 in
theorem c0_b11 {G : xG} {σ : xS} (hSA : PSA G σ) : CI G yX0_bodyOf cX0_bodyOf 5 (some .int) 1 0 0 [.int 1, .int 1] σ (fun z σ1 => z = 2 ∧ σ1 = σ) := by
  refine Met.ofX (by decide +kernel) (Nat.le_of_ble_eq_true rfl) (fun μ Xc hQ hnm => ?_)
  have Xc : xC G μ cX0_bodyOf 5 RX0 (some .int) 1 0 0 := Xc
  show Ev G μ 5 0 0 0 [(0, .int 1), (1, .int 1)] [] σ
  refine e_iload_n (pc := 0) Xc (dT hX0_bodyOf 0 rfl) 1 rfl ?_
  refine e_istore_n (L' := [(2, .int 1), (0, .int 1), (1, .int 1)]) (pc := 1) Xc (dT hX0_bodyOf 1 rfl) (by decide) rfl ?_
  refine e_iconst (v := 0) (pc := 2) Xc (dT hX0_bodyOf 2 rfl) rfl ?_
  refine e_istore_n (L' := [(3, .int 0), (2, .int 1), (0, .int 1), (1, .int 1)]) (pc := 3) Xc (dT hX0_bodyOf 3 rfl) (by decide) rfl ?_
  refine e_iload_n (pc := 4) Xc (dT hX0_bodyOf 4 rfl) 0 rfl ?_
  refine e_bipush (v := 7) (pc := 5) Xc (dT hX0_bodyOf 5 rfl) rfl ?_
  refine e_icmp_geN (x := 0) (y := 7) (tgt := 50) (pc := 7) Xc (dT hX0_bodyOf 6 rfl) rfl (by omega) (by omega) (fun c7 => ?_) (fun c7 => ?_)
  · skip
    exact absurd c7 (by decide)
  · skip
    refine e_iload_n (pc := 10) Xc (dT hX0_bodyOf 7 rfl) 1 rfl ?_
    refine e_if_eq (tgt := 50) (pc := 11) Xc (dT hX0_bodyOf 8 rfl) rfl (fun c11 => ?_) (fun c11 => ?_)
    · skip
      exact absurd c11 (by decide)
    · skip
      refine e_gets_X0_40 (pc := 14) Xc (dT hX0_bodyOf 9 rfl) ?_
      refine e_iload_n (pc := 17) Xc (dT hX0_bodyOf 10 rfl) 2 rfl ?_
      refine e_bipush (v := 7) (pc := 18) Xc (dT hX0_bodyOf 11 rfl) rfl ?_
      refine e_imulN (a := 1) (b := 7) (pc := 20) Xc (dT hX0_bodyOf 12 rfl) ?_
      refine e_val (y := 7) rfl ?_
      refine e_iload_n (pc := 21) Xc (dT hX0_bodyOf 13 rfl) 1 rfl ?_
      refine e_iaddN (a := 7) (b := 1) (pc := 22) Xc (dT hX0_bodyOf 14 rfl) ?_
      refine e_val (y := 8) rfl ?_
      refine cl_X0_43 (pc := 23) (k := 0) (n := 0) (S := []) Xc (c_get hSA.2 (by decide) (by decide) 8 (by decide)) (dT hX0_bodyOf 15 rfl) rfl (Nat.le_of_ble_eq_true rfl) (Nat.le_of_ble_eq_true rfl) (Nat.le_of_ble_eq_true rfl) rfl (Nat.le_of_ble_eq_true rfl) (fun r1 σ2 hq3 => ?_)
      obtain ⟨r1e, r1s⟩ := hq3
      have r1e := r1e.symm; subst r1e; have r1s := r1s.symm; subst r1s
      refine e_val (y := 0) (show bodF 8 = 0 from rfl) ?_
      refine e_istore (L' := [(4, .int 0), (3, .int 0), (2, .int 1), (0, .int 1), (1, .int 1)]) (pc := 26) Xc (dT hX0_bodyOf 16 rfl) (by decide) rfl ?_
      refine e_iload (pc := 28) Xc (dT hX0_bodyOf 17 rfl) 0 rfl ?_
      refine e_if_eq (tgt := 36) (pc := 30) Xc (dT hX0_bodyOf 18 rfl) rfl (fun c30 => ?_) (fun c30 => ?_)
      · skip
        refine e_gets_X0_47 (pc := 36) Xc (dT hX0_bodyOf 21 rfl) ?_
        refine e_iload_n (pc := 39) Xc (dT hX0_bodyOf 22 rfl) 2 rfl ?_
        refine cl_X0_43 (pc := 40) (k := 0) (n := 0) (S := []) Xc (c_get hSA.1 (by decide) (by decide) 1 (by decide)) (dT hX0_bodyOf 23 rfl) rfl (Nat.le_of_ble_eq_true rfl) (Nat.le_of_ble_eq_true rfl) (Nat.le_of_ble_eq_true rfl) rfl (Nat.le_of_ble_eq_true rfl) (fun r4 σ5 hq6 => ?_)
        obtain ⟨r4e, r4s⟩ := hq6
        have r4e := r4e.symm; subst r4e; have r4s := r4s.symm; subst r4s
        refine e_val (y := 0) (show aboF 1 = 0 from rfl) ?_
        refine e_istore_n (L' := [(2, .int 0), (4, .int 0), (3, .int 0), (0, .int 1), (1, .int 1)]) (pc := 43) Xc (dT hX0_bodyOf 24 rfl) (by decide) rfl ?_
        refine e_iincN (a := 0) (b := 1) (L' := [(3, .int 1), (2, .int 0), (4, .int 0), (0, .int 1), (1, .int 1)]) (pc := 44) Xc (dT hX0_bodyOf 25 rfl) 2 rfl rfl (by decide) rfl ?_
        refine e_goto (tgt := 4) (pc := 47) Xc (dT hX0_bodyOf 26 rfl) rfl ?_
        refine e_iload_n (pc := 4) Xc (dT hX0_bodyOf 4 rfl) 0 rfl ?_
        refine e_bipush (v := 7) (pc := 5) Xc (dT hX0_bodyOf 5 rfl) rfl ?_
        refine e_icmp_geN (x := 1) (y := 7) (tgt := 50) (pc := 7) Xc (dT hX0_bodyOf 6 rfl) rfl (by omega) (by omega) (fun c7 => ?_) (fun c7 => ?_)
        · skip
          exact absurd c7 (by decide)
        · skip
          refine e_iload_n (pc := 10) Xc (dT hX0_bodyOf 7 rfl) 1 rfl ?_
          refine e_if_eq (tgt := 50) (pc := 11) Xc (dT hX0_bodyOf 8 rfl) rfl (fun c11 => ?_) (fun c11 => ?_)
          · skip
            refine e_gets_X0_40 (pc := 50) Xc (dT hX0_bodyOf 27 rfl) ?_
            refine e_iload_n (pc := 53) Xc (dT hX0_bodyOf 28 rfl) 3 rfl ?_
            refine e_bipush (v := 7) (pc := 54) Xc (dT hX0_bodyOf 29 rfl) rfl ?_
            refine e_imulN (a := 1) (b := 7) (pc := 56) Xc (dT hX0_bodyOf 30 rfl) ?_
            refine e_val (y := 7) rfl ?_
            refine cl_X0_43 (pc := 57) (k := 0) (n := 0) (S := []) Xc (c_get hSA.2 (by decide) (by decide) 7 (by decide)) (dT hX0_bodyOf 31 rfl) rfl (Nat.le_of_ble_eq_true rfl) (Nat.le_of_ble_eq_true rfl) (Nat.le_of_ble_eq_true rfl) rfl (Nat.le_of_ble_eq_true rfl) (fun r7 σ8 hq9 => ?_)
            obtain ⟨r7e, r7s⟩ := hq9
            have r7e := r7e.symm; subst r7e; have r7s := r7s.symm; subst r7s
            refine e_val (y := 2) (show bodF 7 = 2 from rfl) ?_
            refine e_iret (pc := 60) Xc hQ (dT hX0_bodyOf 32 rfl) (Nat.le_refl _) (Nat.le_refl _) ?_
            exact ⟨rfl, rfl⟩
          · skip
            exact absurd c11 (by decide)
      · skip
        exact absurd c30 (by decide)
set_option maxRecDepth 100000 in
set_option maxHeartbeats 4000000 in
theorem c0_b12 {G : xG} {σ : xS} (hSA : PSA G σ) : CI G yX0_bodyOf cX0_bodyOf 5 (some .int) 1 0 0 [.int 1, .int 2] σ (fun z σ1 => z = 21 ∧ σ1 = σ) := by
  refine Met.ofX (by decide +kernel) (Nat.le_of_ble_eq_true rfl) (fun μ Xc hQ hnm => ?_)
  have Xc : xC G μ cX0_bodyOf 5 RX0 (some .int) 1 0 0 := Xc
  show Ev G μ 5 0 0 0 [(0, .int 1), (1, .int 2)] [] σ
  refine e_iload_n (pc := 0) Xc (dT hX0_bodyOf 0 rfl) 1 rfl ?_
  refine e_istore_n (L' := [(2, .int 2), (0, .int 1), (1, .int 2)]) (pc := 1) Xc (dT hX0_bodyOf 1 rfl) (by decide) rfl ?_
  refine e_iconst (v := 0) (pc := 2) Xc (dT hX0_bodyOf 2 rfl) rfl ?_
  refine e_istore_n (L' := [(3, .int 0), (2, .int 2), (0, .int 1), (1, .int 2)]) (pc := 3) Xc (dT hX0_bodyOf 3 rfl) (by decide) rfl ?_
  refine e_iload_n (pc := 4) Xc (dT hX0_bodyOf 4 rfl) 0 rfl ?_
  refine e_bipush (v := 7) (pc := 5) Xc (dT hX0_bodyOf 5 rfl) rfl ?_
  refine e_icmp_geN (x := 0) (y := 7) (tgt := 50) (pc := 7) Xc (dT hX0_bodyOf 6 rfl) rfl (by omega) (by omega) (fun c7 => ?_) (fun c7 => ?_)
  · skip
    exact absurd c7 (by decide)
  · skip
    refine e_iload_n (pc := 10) Xc (dT hX0_bodyOf 7 rfl) 1 rfl ?_
    refine e_if_eq (tgt := 50) (pc := 11) Xc (dT hX0_bodyOf 8 rfl) rfl (fun c11 => ?_) (fun c11 => ?_)
    · skip
      exact absurd c11 (by decide)
    · skip
      refine e_gets_X0_40 (pc := 14) Xc (dT hX0_bodyOf 9 rfl) ?_
      refine e_iload_n (pc := 17) Xc (dT hX0_bodyOf 10 rfl) 2 rfl ?_
      refine e_bipush (v := 7) (pc := 18) Xc (dT hX0_bodyOf 11 rfl) rfl ?_
      refine e_imulN (a := 1) (b := 7) (pc := 20) Xc (dT hX0_bodyOf 12 rfl) ?_
      refine e_val (y := 7) rfl ?_
      refine e_iload_n (pc := 21) Xc (dT hX0_bodyOf 13 rfl) 1 rfl ?_
      refine e_iaddN (a := 7) (b := 2) (pc := 22) Xc (dT hX0_bodyOf 14 rfl) ?_
      refine e_val (y := 9) rfl ?_
      refine cl_X0_43 (pc := 23) (k := 0) (n := 0) (S := []) Xc (c_get hSA.2 (by decide) (by decide) 9 (by decide)) (dT hX0_bodyOf 15 rfl) rfl (Nat.le_of_ble_eq_true rfl) (Nat.le_of_ble_eq_true rfl) (Nat.le_of_ble_eq_true rfl) rfl (Nat.le_of_ble_eq_true rfl) (fun r1 σ2 hq3 => ?_)
      obtain ⟨r1e, r1s⟩ := hq3
      have r1e := r1e.symm; subst r1e; have r1s := r1s.symm; subst r1s
      refine e_val (y := 21) (show bodF 9 = 21 from rfl) ?_
      refine e_istore (L' := [(4, .int 21), (3, .int 0), (2, .int 2), (0, .int 1), (1, .int 2)]) (pc := 26) Xc (dT hX0_bodyOf 16 rfl) (by decide) rfl ?_
      refine e_iload (pc := 28) Xc (dT hX0_bodyOf 17 rfl) 0 rfl ?_
      refine e_if_eq (tgt := 36) (pc := 30) Xc (dT hX0_bodyOf 18 rfl) rfl (fun c30 => ?_) (fun c30 => ?_)
      · skip
        exact absurd c30 (by decide)
      · skip
        refine e_iload (pc := 33) Xc (dT hX0_bodyOf 19 rfl) 0 rfl ?_
        refine e_iret (pc := 35) Xc hQ (dT hX0_bodyOf 20 rfl) (Nat.le_refl _) (Nat.le_refl _) ?_
        exact ⟨rfl, rfl⟩
set_option maxRecDepth 100000 in
set_option maxHeartbeats 4000000 in
theorem c0_b13 {G : xG} {σ : xS} (hSA : PSA G σ) : CI G yX0_bodyOf cX0_bodyOf 5 (some .int) 1 0 0 [.int 1, .int 3] σ (fun z σ1 => z = 2 ∧ σ1 = σ) := by
  refine Met.ofX (by decide +kernel) (Nat.le_of_ble_eq_true rfl) (fun μ Xc hQ hnm => ?_)
  have Xc : xC G μ cX0_bodyOf 5 RX0 (some .int) 1 0 0 := Xc
  show Ev G μ 5 0 0 0 [(0, .int 1), (1, .int 3)] [] σ
  refine e_iload_n (pc := 0) Xc (dT hX0_bodyOf 0 rfl) 1 rfl ?_
  refine e_istore_n (L' := [(2, .int 3), (0, .int 1), (1, .int 3)]) (pc := 1) Xc (dT hX0_bodyOf 1 rfl) (by decide) rfl ?_
  refine e_iconst (v := 0) (pc := 2) Xc (dT hX0_bodyOf 2 rfl) rfl ?_
  refine e_istore_n (L' := [(3, .int 0), (2, .int 3), (0, .int 1), (1, .int 3)]) (pc := 3) Xc (dT hX0_bodyOf 3 rfl) (by decide) rfl ?_
  refine e_iload_n (pc := 4) Xc (dT hX0_bodyOf 4 rfl) 0 rfl ?_
  refine e_bipush (v := 7) (pc := 5) Xc (dT hX0_bodyOf 5 rfl) rfl ?_
  refine e_icmp_geN (x := 0) (y := 7) (tgt := 50) (pc := 7) Xc (dT hX0_bodyOf 6 rfl) rfl (by omega) (by omega) (fun c7 => ?_) (fun c7 => ?_)
  · skip
    exact absurd c7 (by decide)
  · skip
    refine e_iload_n (pc := 10) Xc (dT hX0_bodyOf 7 rfl) 1 rfl ?_
    refine e_if_eq (tgt := 50) (pc := 11) Xc (dT hX0_bodyOf 8 rfl) rfl (fun c11 => ?_) (fun c11 => ?_)
    · skip
      exact absurd c11 (by decide)
    · skip
      refine e_gets_X0_40 (pc := 14) Xc (dT hX0_bodyOf 9 rfl) ?_
      refine e_iload_n (pc := 17) Xc (dT hX0_bodyOf 10 rfl) 2 rfl ?_
      refine e_bipush (v := 7) (pc := 18) Xc (dT hX0_bodyOf 11 rfl) rfl ?_
      refine e_imulN (a := 1) (b := 7) (pc := 20) Xc (dT hX0_bodyOf 12 rfl) ?_
      refine e_val (y := 7) rfl ?_
      refine e_iload_n (pc := 21) Xc (dT hX0_bodyOf 13 rfl) 1 rfl ?_
      refine e_iaddN (a := 7) (b := 3) (pc := 22) Xc (dT hX0_bodyOf 14 rfl) ?_
      refine e_val (y := 10) rfl ?_
      refine cl_X0_43 (pc := 23) (k := 0) (n := 0) (S := []) Xc (c_get hSA.2 (by decide) (by decide) 10 (by decide)) (dT hX0_bodyOf 15 rfl) rfl (Nat.le_of_ble_eq_true rfl) (Nat.le_of_ble_eq_true rfl) (Nat.le_of_ble_eq_true rfl) rfl (Nat.le_of_ble_eq_true rfl) (fun r1 σ2 hq3 => ?_)
      obtain ⟨r1e, r1s⟩ := hq3
      have r1e := r1e.symm; subst r1e; have r1s := r1s.symm; subst r1s
      refine e_val (y := 0) (show bodF 10 = 0 from rfl) ?_
      refine e_istore (L' := [(4, .int 0), (3, .int 0), (2, .int 3), (0, .int 1), (1, .int 3)]) (pc := 26) Xc (dT hX0_bodyOf 16 rfl) (by decide) rfl ?_
      refine e_iload (pc := 28) Xc (dT hX0_bodyOf 17 rfl) 0 rfl ?_
      refine e_if_eq (tgt := 36) (pc := 30) Xc (dT hX0_bodyOf 18 rfl) rfl (fun c30 => ?_) (fun c30 => ?_)
      · skip
        refine e_gets_X0_47 (pc := 36) Xc (dT hX0_bodyOf 21 rfl) ?_
        refine e_iload_n (pc := 39) Xc (dT hX0_bodyOf 22 rfl) 2 rfl ?_
        refine cl_X0_43 (pc := 40) (k := 0) (n := 0) (S := []) Xc (c_get hSA.1 (by decide) (by decide) 3 (by decide)) (dT hX0_bodyOf 23 rfl) rfl (Nat.le_of_ble_eq_true rfl) (Nat.le_of_ble_eq_true rfl) (Nat.le_of_ble_eq_true rfl) rfl (Nat.le_of_ble_eq_true rfl) (fun r4 σ5 hq6 => ?_)
        obtain ⟨r4e, r4s⟩ := hq6
        have r4e := r4e.symm; subst r4e; have r4s := r4s.symm; subst r4s
        refine e_val (y := 0) (show aboF 3 = 0 from rfl) ?_
        refine e_istore_n (L' := [(2, .int 0), (4, .int 0), (3, .int 0), (0, .int 1), (1, .int 3)]) (pc := 43) Xc (dT hX0_bodyOf 24 rfl) (by decide) rfl ?_
        refine e_iincN (a := 0) (b := 1) (L' := [(3, .int 1), (2, .int 0), (4, .int 0), (0, .int 1), (1, .int 3)]) (pc := 44) Xc (dT hX0_bodyOf 25 rfl) 2 rfl rfl (by decide) rfl ?_
        refine e_goto (tgt := 4) (pc := 47) Xc (dT hX0_bodyOf 26 rfl) rfl ?_
        refine e_iload_n (pc := 4) Xc (dT hX0_bodyOf 4 rfl) 0 rfl ?_
        refine e_bipush (v := 7) (pc := 5) Xc (dT hX0_bodyOf 5 rfl) rfl ?_
        refine e_icmp_geN (x := 1) (y := 7) (tgt := 50) (pc := 7) Xc (dT hX0_bodyOf 6 rfl) rfl (by omega) (by omega) (fun c7 => ?_) (fun c7 => ?_)
        · skip
          exact absurd c7 (by decide)
        · skip
          refine e_iload_n (pc := 10) Xc (dT hX0_bodyOf 7 rfl) 1 rfl ?_
          refine e_if_eq (tgt := 50) (pc := 11) Xc (dT hX0_bodyOf 8 rfl) rfl (fun c11 => ?_) (fun c11 => ?_)
          · skip
            refine e_gets_X0_40 (pc := 50) Xc (dT hX0_bodyOf 27 rfl) ?_
            refine e_iload_n (pc := 53) Xc (dT hX0_bodyOf 28 rfl) 3 rfl ?_
            refine e_bipush (v := 7) (pc := 54) Xc (dT hX0_bodyOf 29 rfl) rfl ?_
            refine e_imulN (a := 1) (b := 7) (pc := 56) Xc (dT hX0_bodyOf 30 rfl) ?_
            refine e_val (y := 7) rfl ?_
            refine cl_X0_43 (pc := 57) (k := 0) (n := 0) (S := []) Xc (c_get hSA.2 (by decide) (by decide) 7 (by decide)) (dT hX0_bodyOf 31 rfl) rfl (Nat.le_of_ble_eq_true rfl) (Nat.le_of_ble_eq_true rfl) (Nat.le_of_ble_eq_true rfl) rfl (Nat.le_of_ble_eq_true rfl) (fun r7 σ8 hq9 => ?_)
            obtain ⟨r7e, r7s⟩ := hq9
            have r7e := r7e.symm; subst r7e; have r7s := r7s.symm; subst r7s
            refine e_val (y := 2) (show bodF 7 = 2 from rfl) ?_
            refine e_iret (pc := 60) Xc hQ (dT hX0_bodyOf 32 rfl) (Nat.le_refl _) (Nat.le_refl _) ?_
            exact ⟨rfl, rfl⟩
          · skip
            exact absurd c11 (by decide)
      · skip
        exact absurd c30 (by decide)
set_option maxRecDepth 100000 in
set_option maxHeartbeats 4000000 in
theorem c0_b14 {G : xG} {σ : xS} (hSA : PSA G σ) : CI G yX0_bodyOf cX0_bodyOf 5 (some .int) 1 0 0 [.int 1, .int 4] σ (fun z σ1 => z = 2 ∧ σ1 = σ) := by
  refine Met.ofX (by decide +kernel) (Nat.le_of_ble_eq_true rfl) (fun μ Xc hQ hnm => ?_)
  have Xc : xC G μ cX0_bodyOf 5 RX0 (some .int) 1 0 0 := Xc
  show Ev G μ 5 0 0 0 [(0, .int 1), (1, .int 4)] [] σ
  refine e_iload_n (pc := 0) Xc (dT hX0_bodyOf 0 rfl) 1 rfl ?_
  refine e_istore_n (L' := [(2, .int 4), (0, .int 1), (1, .int 4)]) (pc := 1) Xc (dT hX0_bodyOf 1 rfl) (by decide) rfl ?_
  refine e_iconst (v := 0) (pc := 2) Xc (dT hX0_bodyOf 2 rfl) rfl ?_
  refine e_istore_n (L' := [(3, .int 0), (2, .int 4), (0, .int 1), (1, .int 4)]) (pc := 3) Xc (dT hX0_bodyOf 3 rfl) (by decide) rfl ?_
  refine e_iload_n (pc := 4) Xc (dT hX0_bodyOf 4 rfl) 0 rfl ?_
  refine e_bipush (v := 7) (pc := 5) Xc (dT hX0_bodyOf 5 rfl) rfl ?_
  refine e_icmp_geN (x := 0) (y := 7) (tgt := 50) (pc := 7) Xc (dT hX0_bodyOf 6 rfl) rfl (by omega) (by omega) (fun c7 => ?_) (fun c7 => ?_)
  · skip
    exact absurd c7 (by decide)
  · skip
    refine e_iload_n (pc := 10) Xc (dT hX0_bodyOf 7 rfl) 1 rfl ?_
    refine e_if_eq (tgt := 50) (pc := 11) Xc (dT hX0_bodyOf 8 rfl) rfl (fun c11 => ?_) (fun c11 => ?_)
    · skip
      exact absurd c11 (by decide)
    · skip
      refine e_gets_X0_40 (pc := 14) Xc (dT hX0_bodyOf 9 rfl) ?_
      refine e_iload_n (pc := 17) Xc (dT hX0_bodyOf 10 rfl) 2 rfl ?_
      refine e_bipush (v := 7) (pc := 18) Xc (dT hX0_bodyOf 11 rfl) rfl ?_
      refine e_imulN (a := 1) (b := 7) (pc := 20) Xc (dT hX0_bodyOf 12 rfl) ?_
      refine e_val (y := 7) rfl ?_
      refine e_iload_n (pc := 21) Xc (dT hX0_bodyOf 13 rfl) 1 rfl ?_
      refine e_iaddN (a := 7) (b := 4) (pc := 22) Xc (dT hX0_bodyOf 14 rfl) ?_
      refine e_val (y := 11) rfl ?_
      refine cl_X0_43 (pc := 23) (k := 0) (n := 0) (S := []) Xc (c_get hSA.2 (by decide) (by decide) 11 (by decide)) (dT hX0_bodyOf 15 rfl) rfl (Nat.le_of_ble_eq_true rfl) (Nat.le_of_ble_eq_true rfl) (Nat.le_of_ble_eq_true rfl) rfl (Nat.le_of_ble_eq_true rfl) (fun r1 σ2 hq3 => ?_)
      obtain ⟨r1e, r1s⟩ := hq3
      have r1e := r1e.symm; subst r1e; have r1s := r1s.symm; subst r1s
      refine e_val (y := 0) (show bodF 11 = 0 from rfl) ?_
      refine e_istore (L' := [(4, .int 0), (3, .int 0), (2, .int 4), (0, .int 1), (1, .int 4)]) (pc := 26) Xc (dT hX0_bodyOf 16 rfl) (by decide) rfl ?_
      refine e_iload (pc := 28) Xc (dT hX0_bodyOf 17 rfl) 0 rfl ?_
      refine e_if_eq (tgt := 36) (pc := 30) Xc (dT hX0_bodyOf 18 rfl) rfl (fun c30 => ?_) (fun c30 => ?_)
      · skip
        refine e_gets_X0_47 (pc := 36) Xc (dT hX0_bodyOf 21 rfl) ?_
        refine e_iload_n (pc := 39) Xc (dT hX0_bodyOf 22 rfl) 2 rfl ?_
        refine cl_X0_43 (pc := 40) (k := 0) (n := 0) (S := []) Xc (c_get hSA.1 (by decide) (by decide) 4 (by decide)) (dT hX0_bodyOf 23 rfl) rfl (Nat.le_of_ble_eq_true rfl) (Nat.le_of_ble_eq_true rfl) (Nat.le_of_ble_eq_true rfl) rfl (Nat.le_of_ble_eq_true rfl) (fun r4 σ5 hq6 => ?_)
        obtain ⟨r4e, r4s⟩ := hq6
        have r4e := r4e.symm; subst r4e; have r4s := r4s.symm; subst r4s
        refine e_val (y := 1) (show aboF 4 = 1 from rfl) ?_
        refine e_istore_n (L' := [(2, .int 1), (4, .int 0), (3, .int 0), (0, .int 1), (1, .int 4)]) (pc := 43) Xc (dT hX0_bodyOf 24 rfl) (by decide) rfl ?_
        refine e_iincN (a := 0) (b := 1) (L' := [(3, .int 1), (2, .int 1), (4, .int 0), (0, .int 1), (1, .int 4)]) (pc := 44) Xc (dT hX0_bodyOf 25 rfl) 2 rfl rfl (by decide) rfl ?_
        refine e_goto (tgt := 4) (pc := 47) Xc (dT hX0_bodyOf 26 rfl) rfl ?_
        refine e_iload_n (pc := 4) Xc (dT hX0_bodyOf 4 rfl) 0 rfl ?_
        refine e_bipush (v := 7) (pc := 5) Xc (dT hX0_bodyOf 5 rfl) rfl ?_
        refine e_icmp_geN (x := 1) (y := 7) (tgt := 50) (pc := 7) Xc (dT hX0_bodyOf 6 rfl) rfl (by omega) (by omega) (fun c7 => ?_) (fun c7 => ?_)
        · skip
          exact absurd c7 (by decide)
        · skip
          refine e_iload_n (pc := 10) Xc (dT hX0_bodyOf 7 rfl) 1 rfl ?_
          refine e_if_eq (tgt := 50) (pc := 11) Xc (dT hX0_bodyOf 8 rfl) rfl (fun c11 => ?_) (fun c11 => ?_)
          · skip
            exact absurd c11 (by decide)
          · skip
            refine e_gets_X0_40 (pc := 14) Xc (dT hX0_bodyOf 9 rfl) ?_
            refine e_iload_n (pc := 17) Xc (dT hX0_bodyOf 10 rfl) 3 rfl ?_
            refine e_bipush (v := 7) (pc := 18) Xc (dT hX0_bodyOf 11 rfl) rfl ?_
            refine e_imulN (a := 1) (b := 7) (pc := 20) Xc (dT hX0_bodyOf 12 rfl) ?_
            refine e_val (y := 7) rfl ?_
            refine e_iload_n (pc := 21) Xc (dT hX0_bodyOf 13 rfl) 1 rfl ?_
            refine e_iaddN (a := 7) (b := 1) (pc := 22) Xc (dT hX0_bodyOf 14 rfl) ?_
            refine e_val (y := 8) rfl ?_
            refine cl_X0_43 (pc := 23) (k := 0) (n := 0) (S := []) Xc (c_get hSA.2 (by decide) (by decide) 8 (by decide)) (dT hX0_bodyOf 15 rfl) rfl (Nat.le_of_ble_eq_true rfl) (Nat.le_of_ble_eq_true rfl) (Nat.le_of_ble_eq_true rfl) rfl (Nat.le_of_ble_eq_true rfl) (fun r7 σ8 hq9 => ?_)
            obtain ⟨r7e, r7s⟩ := hq9
            have r7e := r7e.symm; subst r7e; have r7s := r7s.symm; subst r7s
            refine e_val (y := 0) (show bodF 8 = 0 from rfl) ?_
            refine e_istore (L' := [(4, .int 0), (3, .int 1), (2, .int 1), (0, .int 1), (1, .int 4)]) (pc := 26) Xc (dT hX0_bodyOf 16 rfl) (by decide) rfl ?_
            refine e_iload (pc := 28) Xc (dT hX0_bodyOf 17 rfl) 0 rfl ?_
            refine e_if_eq (tgt := 36) (pc := 30) Xc (dT hX0_bodyOf 18 rfl) rfl (fun c30 => ?_) (fun c30 => ?_)
            · skip
              refine e_gets_X0_47 (pc := 36) Xc (dT hX0_bodyOf 21 rfl) ?_
              refine e_iload_n (pc := 39) Xc (dT hX0_bodyOf 22 rfl) 2 rfl ?_
              refine cl_X0_43 (pc := 40) (k := 0) (n := 0) (S := []) Xc (c_get hSA.1 (by decide) (by decide) 1 (by decide)) (dT hX0_bodyOf 23 rfl) rfl (Nat.le_of_ble_eq_true rfl) (Nat.le_of_ble_eq_true rfl) (Nat.le_of_ble_eq_true rfl) rfl (Nat.le_of_ble_eq_true rfl) (fun r10 σ11 hq12 => ?_)
              obtain ⟨r10e, r10s⟩ := hq12
              have r10e := r10e.symm; subst r10e; have r10s := r10s.symm; subst r10s
              refine e_val (y := 0) (show aboF 1 = 0 from rfl) ?_
              refine e_istore_n (L' := [(2, .int 0), (4, .int 0), (3, .int 1), (0, .int 1), (1, .int 4)]) (pc := 43) Xc (dT hX0_bodyOf 24 rfl) (by decide) rfl ?_
              refine e_iincN (a := 1) (b := 1) (L' := [(3, .int 2), (2, .int 0), (4, .int 0), (0, .int 1), (1, .int 4)]) (pc := 44) Xc (dT hX0_bodyOf 25 rfl) 2 rfl rfl (by decide) rfl ?_
              refine e_goto (tgt := 4) (pc := 47) Xc (dT hX0_bodyOf 26 rfl) rfl ?_
              refine e_iload_n (pc := 4) Xc (dT hX0_bodyOf 4 rfl) 0 rfl ?_
              refine e_bipush (v := 7) (pc := 5) Xc (dT hX0_bodyOf 5 rfl) rfl ?_
              refine e_icmp_geN (x := 2) (y := 7) (tgt := 50) (pc := 7) Xc (dT hX0_bodyOf 6 rfl) rfl (by omega) (by omega) (fun c7 => ?_) (fun c7 => ?_)
              · skip
                exact absurd c7 (by decide)
              · skip
                refine e_iload_n (pc := 10) Xc (dT hX0_bodyOf 7 rfl) 1 rfl ?_
                refine e_if_eq (tgt := 50) (pc := 11) Xc (dT hX0_bodyOf 8 rfl) rfl (fun c11 => ?_) (fun c11 => ?_)
                · skip
                  refine e_gets_X0_40 (pc := 50) Xc (dT hX0_bodyOf 27 rfl) ?_
                  refine e_iload_n (pc := 53) Xc (dT hX0_bodyOf 28 rfl) 3 rfl ?_
                  refine e_bipush (v := 7) (pc := 54) Xc (dT hX0_bodyOf 29 rfl) rfl ?_
                  refine e_imulN (a := 1) (b := 7) (pc := 56) Xc (dT hX0_bodyOf 30 rfl) ?_
                  refine e_val (y := 7) rfl ?_
                  refine cl_X0_43 (pc := 57) (k := 0) (n := 0) (S := []) Xc (c_get hSA.2 (by decide) (by decide) 7 (by decide)) (dT hX0_bodyOf 31 rfl) rfl (Nat.le_of_ble_eq_true rfl) (Nat.le_of_ble_eq_true rfl) (Nat.le_of_ble_eq_true rfl) rfl (Nat.le_of_ble_eq_true rfl) (fun r13 σ14 hq15 => ?_)
                  obtain ⟨r13e, r13s⟩ := hq15
                  have r13e := r13e.symm; subst r13e; have r13s := r13s.symm; subst r13s
                  refine e_val (y := 2) (show bodF 7 = 2 from rfl) ?_
                  refine e_iret (pc := 60) Xc hQ (dT hX0_bodyOf 32 rfl) (Nat.le_refl _) (Nat.le_refl _) ?_
                  exact ⟨rfl, rfl⟩
                · skip
                  exact absurd c11 (by decide)
            · skip
              exact absurd c30 (by decide)
      · skip
        exact absurd c30 (by decide)
set_option maxRecDepth 100000 in
set_option maxHeartbeats 4000000 in
theorem c0_b15 {G : xG} {σ : xS} (hSA : PSA G σ) : CI G yX0_bodyOf cX0_bodyOf 5 (some .int) 1 0 0 [.int 1, .int 5] σ (fun z σ1 => z = 21 ∧ σ1 = σ) := by
  refine Met.ofX (by decide +kernel) (Nat.le_of_ble_eq_true rfl) (fun μ Xc hQ hnm => ?_)
  have Xc : xC G μ cX0_bodyOf 5 RX0 (some .int) 1 0 0 := Xc
  show Ev G μ 5 0 0 0 [(0, .int 1), (1, .int 5)] [] σ
  refine e_iload_n (pc := 0) Xc (dT hX0_bodyOf 0 rfl) 1 rfl ?_
  refine e_istore_n (L' := [(2, .int 5), (0, .int 1), (1, .int 5)]) (pc := 1) Xc (dT hX0_bodyOf 1 rfl) (by decide) rfl ?_
  refine e_iconst (v := 0) (pc := 2) Xc (dT hX0_bodyOf 2 rfl) rfl ?_
  refine e_istore_n (L' := [(3, .int 0), (2, .int 5), (0, .int 1), (1, .int 5)]) (pc := 3) Xc (dT hX0_bodyOf 3 rfl) (by decide) rfl ?_
  refine e_iload_n (pc := 4) Xc (dT hX0_bodyOf 4 rfl) 0 rfl ?_
  refine e_bipush (v := 7) (pc := 5) Xc (dT hX0_bodyOf 5 rfl) rfl ?_
  refine e_icmp_geN (x := 0) (y := 7) (tgt := 50) (pc := 7) Xc (dT hX0_bodyOf 6 rfl) rfl (by omega) (by omega) (fun c7 => ?_) (fun c7 => ?_)
  · skip
    exact absurd c7 (by decide)
  · skip
    refine e_iload_n (pc := 10) Xc (dT hX0_bodyOf 7 rfl) 1 rfl ?_
    refine e_if_eq (tgt := 50) (pc := 11) Xc (dT hX0_bodyOf 8 rfl) rfl (fun c11 => ?_) (fun c11 => ?_)
    · skip
      exact absurd c11 (by decide)
    · skip
      refine e_gets_X0_40 (pc := 14) Xc (dT hX0_bodyOf 9 rfl) ?_
      refine e_iload_n (pc := 17) Xc (dT hX0_bodyOf 10 rfl) 2 rfl ?_
      refine e_bipush (v := 7) (pc := 18) Xc (dT hX0_bodyOf 11 rfl) rfl ?_
      refine e_imulN (a := 1) (b := 7) (pc := 20) Xc (dT hX0_bodyOf 12 rfl) ?_
      refine e_val (y := 7) rfl ?_
      refine e_iload_n (pc := 21) Xc (dT hX0_bodyOf 13 rfl) 1 rfl ?_
      refine e_iaddN (a := 7) (b := 5) (pc := 22) Xc (dT hX0_bodyOf 14 rfl) ?_
      refine e_val (y := 12) rfl ?_
      refine cl_X0_43 (pc := 23) (k := 0) (n := 0) (S := []) Xc (c_get hSA.2 (by decide) (by decide) 12 (by decide)) (dT hX0_bodyOf 15 rfl) rfl (Nat.le_of_ble_eq_true rfl) (Nat.le_of_ble_eq_true rfl) (Nat.le_of_ble_eq_true rfl) rfl (Nat.le_of_ble_eq_true rfl) (fun r1 σ2 hq3 => ?_)
      obtain ⟨r1e, r1s⟩ := hq3
      have r1e := r1e.symm; subst r1e; have r1s := r1s.symm; subst r1s
      refine e_val (y := 0) (show bodF 12 = 0 from rfl) ?_
      refine e_istore (L' := [(4, .int 0), (3, .int 0), (2, .int 5), (0, .int 1), (1, .int 5)]) (pc := 26) Xc (dT hX0_bodyOf 16 rfl) (by decide) rfl ?_
      refine e_iload (pc := 28) Xc (dT hX0_bodyOf 17 rfl) 0 rfl ?_
      refine e_if_eq (tgt := 36) (pc := 30) Xc (dT hX0_bodyOf 18 rfl) rfl (fun c30 => ?_) (fun c30 => ?_)
      · skip
        refine e_gets_X0_47 (pc := 36) Xc (dT hX0_bodyOf 21 rfl) ?_
        refine e_iload_n (pc := 39) Xc (dT hX0_bodyOf 22 rfl) 2 rfl ?_
        refine cl_X0_43 (pc := 40) (k := 0) (n := 0) (S := []) Xc (c_get hSA.1 (by decide) (by decide) 5 (by decide)) (dT hX0_bodyOf 23 rfl) rfl (Nat.le_of_ble_eq_true rfl) (Nat.le_of_ble_eq_true rfl) (Nat.le_of_ble_eq_true rfl) rfl (Nat.le_of_ble_eq_true rfl) (fun r4 σ5 hq6 => ?_)
        obtain ⟨r4e, r4s⟩ := hq6
        have r4e := r4e.symm; subst r4e; have r4s := r4s.symm; subst r4s
        refine e_val (y := 2) (show aboF 5 = 2 from rfl) ?_
        refine e_istore_n (L' := [(2, .int 2), (4, .int 0), (3, .int 0), (0, .int 1), (1, .int 5)]) (pc := 43) Xc (dT hX0_bodyOf 24 rfl) (by decide) rfl ?_
        refine e_iincN (a := 0) (b := 1) (L' := [(3, .int 1), (2, .int 2), (4, .int 0), (0, .int 1), (1, .int 5)]) (pc := 44) Xc (dT hX0_bodyOf 25 rfl) 2 rfl rfl (by decide) rfl ?_
        refine e_goto (tgt := 4) (pc := 47) Xc (dT hX0_bodyOf 26 rfl) rfl ?_
        refine e_iload_n (pc := 4) Xc (dT hX0_bodyOf 4 rfl) 0 rfl ?_
        refine e_bipush (v := 7) (pc := 5) Xc (dT hX0_bodyOf 5 rfl) rfl ?_
        refine e_icmp_geN (x := 1) (y := 7) (tgt := 50) (pc := 7) Xc (dT hX0_bodyOf 6 rfl) rfl (by omega) (by omega) (fun c7 => ?_) (fun c7 => ?_)
        · skip
          exact absurd c7 (by decide)
        · skip
          refine e_iload_n (pc := 10) Xc (dT hX0_bodyOf 7 rfl) 1 rfl ?_
          refine e_if_eq (tgt := 50) (pc := 11) Xc (dT hX0_bodyOf 8 rfl) rfl (fun c11 => ?_) (fun c11 => ?_)
          · skip
            exact absurd c11 (by decide)
          · skip
            refine e_gets_X0_40 (pc := 14) Xc (dT hX0_bodyOf 9 rfl) ?_
            refine e_iload_n (pc := 17) Xc (dT hX0_bodyOf 10 rfl) 3 rfl ?_
            refine e_bipush (v := 7) (pc := 18) Xc (dT hX0_bodyOf 11 rfl) rfl ?_
            refine e_imulN (a := 1) (b := 7) (pc := 20) Xc (dT hX0_bodyOf 12 rfl) ?_
            refine e_val (y := 7) rfl ?_
            refine e_iload_n (pc := 21) Xc (dT hX0_bodyOf 13 rfl) 1 rfl ?_
            refine e_iaddN (a := 7) (b := 2) (pc := 22) Xc (dT hX0_bodyOf 14 rfl) ?_
            refine e_val (y := 9) rfl ?_
            refine cl_X0_43 (pc := 23) (k := 0) (n := 0) (S := []) Xc (c_get hSA.2 (by decide) (by decide) 9 (by decide)) (dT hX0_bodyOf 15 rfl) rfl (Nat.le_of_ble_eq_true rfl) (Nat.le_of_ble_eq_true rfl) (Nat.le_of_ble_eq_true rfl) rfl (Nat.le_of_ble_eq_true rfl) (fun r7 σ8 hq9 => ?_)
            obtain ⟨r7e, r7s⟩ := hq9
            have r7e := r7e.symm; subst r7e; have r7s := r7s.symm; subst r7s
            refine e_val (y := 21) (show bodF 9 = 21 from rfl) ?_
            refine e_istore (L' := [(4, .int 21), (3, .int 1), (2, .int 2), (0, .int 1), (1, .int 5)]) (pc := 26) Xc (dT hX0_bodyOf 16 rfl) (by decide) rfl ?_
            refine e_iload (pc := 28) Xc (dT hX0_bodyOf 17 rfl) 0 rfl ?_
            refine e_if_eq (tgt := 36) (pc := 30) Xc (dT hX0_bodyOf 18 rfl) rfl (fun c30 => ?_) (fun c30 => ?_)
            · skip
              exact absurd c30 (by decide)
            · skip
              refine e_iload (pc := 33) Xc (dT hX0_bodyOf 19 rfl) 0 rfl ?_
              refine e_iret (pc := 35) Xc hQ (dT hX0_bodyOf 20 rfl) (Nat.le_refl _) (Nat.le_refl _) ?_
              exact ⟨rfl, rfl⟩
      · skip
        exact absurd c30 (by decide)
set_option maxRecDepth 100000 in
set_option maxHeartbeats 4000000 in
theorem c0_b16 {G : xG} {σ : xS} (hSA : PSA G σ) : CI G yX0_bodyOf cX0_bodyOf 5 (some .int) 1 0 0 [.int 1, .int 6] σ (fun z σ1 => z = 61 ∧ σ1 = σ) := by
  refine Met.ofX (by decide +kernel) (Nat.le_of_ble_eq_true rfl) (fun μ Xc hQ hnm => ?_)
  have Xc : xC G μ cX0_bodyOf 5 RX0 (some .int) 1 0 0 := Xc
  show Ev G μ 5 0 0 0 [(0, .int 1), (1, .int 6)] [] σ
  refine e_iload_n (pc := 0) Xc (dT hX0_bodyOf 0 rfl) 1 rfl ?_
  refine e_istore_n (L' := [(2, .int 6), (0, .int 1), (1, .int 6)]) (pc := 1) Xc (dT hX0_bodyOf 1 rfl) (by decide) rfl ?_
  refine e_iconst (v := 0) (pc := 2) Xc (dT hX0_bodyOf 2 rfl) rfl ?_
  refine e_istore_n (L' := [(3, .int 0), (2, .int 6), (0, .int 1), (1, .int 6)]) (pc := 3) Xc (dT hX0_bodyOf 3 rfl) (by decide) rfl ?_
  refine e_iload_n (pc := 4) Xc (dT hX0_bodyOf 4 rfl) 0 rfl ?_
  refine e_bipush (v := 7) (pc := 5) Xc (dT hX0_bodyOf 5 rfl) rfl ?_
  refine e_icmp_geN (x := 0) (y := 7) (tgt := 50) (pc := 7) Xc (dT hX0_bodyOf 6 rfl) rfl (by omega) (by omega) (fun c7 => ?_) (fun c7 => ?_)
  · skip
    exact absurd c7 (by decide)
  · skip
    refine e_iload_n (pc := 10) Xc (dT hX0_bodyOf 7 rfl) 1 rfl ?_
    refine e_if_eq (tgt := 50) (pc := 11) Xc (dT hX0_bodyOf 8 rfl) rfl (fun c11 => ?_) (fun c11 => ?_)
    · skip
      exact absurd c11 (by decide)
    · skip
      refine e_gets_X0_40 (pc := 14) Xc (dT hX0_bodyOf 9 rfl) ?_
      refine e_iload_n (pc := 17) Xc (dT hX0_bodyOf 10 rfl) 2 rfl ?_
      refine e_bipush (v := 7) (pc := 18) Xc (dT hX0_bodyOf 11 rfl) rfl ?_
      refine e_imulN (a := 1) (b := 7) (pc := 20) Xc (dT hX0_bodyOf 12 rfl) ?_
      refine e_val (y := 7) rfl ?_
      refine e_iload_n (pc := 21) Xc (dT hX0_bodyOf 13 rfl) 1 rfl ?_
      refine e_iaddN (a := 7) (b := 6) (pc := 22) Xc (dT hX0_bodyOf 14 rfl) ?_
      refine e_val (y := 13) rfl ?_
      refine cl_X0_43 (pc := 23) (k := 0) (n := 0) (S := []) Xc (c_get hSA.2 (by decide) (by decide) 13 (by decide)) (dT hX0_bodyOf 15 rfl) rfl (Nat.le_of_ble_eq_true rfl) (Nat.le_of_ble_eq_true rfl) (Nat.le_of_ble_eq_true rfl) rfl (Nat.le_of_ble_eq_true rfl) (fun r1 σ2 hq3 => ?_)
      obtain ⟨r1e, r1s⟩ := hq3
      have r1e := r1e.symm; subst r1e; have r1s := r1s.symm; subst r1s
      refine e_val (y := 61) (show bodF 13 = 61 from rfl) ?_
      refine e_istore (L' := [(4, .int 61), (3, .int 0), (2, .int 6), (0, .int 1), (1, .int 6)]) (pc := 26) Xc (dT hX0_bodyOf 16 rfl) (by decide) rfl ?_
      refine e_iload (pc := 28) Xc (dT hX0_bodyOf 17 rfl) 0 rfl ?_
      refine e_if_eq (tgt := 36) (pc := 30) Xc (dT hX0_bodyOf 18 rfl) rfl (fun c30 => ?_) (fun c30 => ?_)
      · skip
        exact absurd c30 (by decide)
      · skip
        refine e_iload (pc := 33) Xc (dT hX0_bodyOf 19 rfl) 0 rfl ?_
        refine e_iret (pc := 35) Xc hQ (dT hX0_bodyOf 20 rfl) (Nat.le_refl _) (Nat.le_refl _) ?_
        exact ⟨rfl, rfl⟩
set_option maxRecDepth 100000 in
set_option maxHeartbeats 4000000 in
theorem c0_b20 {G : xG} {σ : xS} (hSA : PSA G σ) : CI G yX0_bodyOf cX0_bodyOf 5 (some .int) 1 0 0 [.int 2, .int 0] σ (fun z σ1 => z = 3 ∧ σ1 = σ) := by
  refine Met.ofX (by decide +kernel) (Nat.le_of_ble_eq_true rfl) (fun μ Xc hQ hnm => ?_)
  have Xc : xC G μ cX0_bodyOf 5 RX0 (some .int) 1 0 0 := Xc
  show Ev G μ 5 0 0 0 [(0, .int 2), (1, .int 0)] [] σ
  refine e_iload_n (pc := 0) Xc (dT hX0_bodyOf 0 rfl) 1 rfl ?_
  refine e_istore_n (L' := [(2, .int 0), (0, .int 2), (1, .int 0)]) (pc := 1) Xc (dT hX0_bodyOf 1 rfl) (by decide) rfl ?_
  refine e_iconst (v := 0) (pc := 2) Xc (dT hX0_bodyOf 2 rfl) rfl ?_
  refine e_istore_n (L' := [(3, .int 0), (2, .int 0), (0, .int 2), (1, .int 0)]) (pc := 3) Xc (dT hX0_bodyOf 3 rfl) (by decide) rfl ?_
  refine e_iload_n (pc := 4) Xc (dT hX0_bodyOf 4 rfl) 0 rfl ?_
  refine e_bipush (v := 7) (pc := 5) Xc (dT hX0_bodyOf 5 rfl) rfl ?_
  refine e_icmp_geN (x := 0) (y := 7) (tgt := 50) (pc := 7) Xc (dT hX0_bodyOf 6 rfl) rfl (by omega) (by omega) (fun c7 => ?_) (fun c7 => ?_)
  · skip
    exact absurd c7 (by decide)
  · skip
    refine e_iload_n (pc := 10) Xc (dT hX0_bodyOf 7 rfl) 1 rfl ?_
    refine e_if_eq (tgt := 50) (pc := 11) Xc (dT hX0_bodyOf 8 rfl) rfl (fun c11 => ?_) (fun c11 => ?_)
    · skip
      refine e_gets_X0_40 (pc := 50) Xc (dT hX0_bodyOf 27 rfl) ?_
      refine e_iload_n (pc := 53) Xc (dT hX0_bodyOf 28 rfl) 2 rfl ?_
      refine e_bipush (v := 7) (pc := 54) Xc (dT hX0_bodyOf 29 rfl) rfl ?_
      refine e_imulN (a := 2) (b := 7) (pc := 56) Xc (dT hX0_bodyOf 30 rfl) ?_
      refine e_val (y := 14) rfl ?_
      refine cl_X0_43 (pc := 57) (k := 0) (n := 0) (S := []) Xc (c_get hSA.2 (by decide) (by decide) 14 (by decide)) (dT hX0_bodyOf 31 rfl) rfl (Nat.le_of_ble_eq_true rfl) (Nat.le_of_ble_eq_true rfl) (Nat.le_of_ble_eq_true rfl) rfl (Nat.le_of_ble_eq_true rfl) (fun r1 σ2 hq3 => ?_)
      obtain ⟨r1e, r1s⟩ := hq3
      have r1e := r1e.symm; subst r1e; have r1s := r1s.symm; subst r1s
      refine e_val (y := 3) (show bodF 14 = 3 from rfl) ?_
      refine e_iret (pc := 60) Xc hQ (dT hX0_bodyOf 32 rfl) (Nat.le_refl _) (Nat.le_refl _) ?_
      exact ⟨rfl, rfl⟩
    · skip
      exact absurd c11 (by decide)
set_option maxRecDepth 100000 in
set_option maxHeartbeats 4000000 in
theorem c0_b21 {G : xG} {σ : xS} (hSA : PSA G σ) : CI G yX0_bodyOf cX0_bodyOf 5 (some .int) 1 0 0 [.int 2, .int 1] σ (fun z σ1 => z = 3 ∧ σ1 = σ) := by
  refine Met.ofX (by decide +kernel) (Nat.le_of_ble_eq_true rfl) (fun μ Xc hQ hnm => ?_)
  have Xc : xC G μ cX0_bodyOf 5 RX0 (some .int) 1 0 0 := Xc
  show Ev G μ 5 0 0 0 [(0, .int 2), (1, .int 1)] [] σ
  refine e_iload_n (pc := 0) Xc (dT hX0_bodyOf 0 rfl) 1 rfl ?_
  refine e_istore_n (L' := [(2, .int 1), (0, .int 2), (1, .int 1)]) (pc := 1) Xc (dT hX0_bodyOf 1 rfl) (by decide) rfl ?_
  refine e_iconst (v := 0) (pc := 2) Xc (dT hX0_bodyOf 2 rfl) rfl ?_
  refine e_istore_n (L' := [(3, .int 0), (2, .int 1), (0, .int 2), (1, .int 1)]) (pc := 3) Xc (dT hX0_bodyOf 3 rfl) (by decide) rfl ?_
  refine e_iload_n (pc := 4) Xc (dT hX0_bodyOf 4 rfl) 0 rfl ?_
  refine e_bipush (v := 7) (pc := 5) Xc (dT hX0_bodyOf 5 rfl) rfl ?_
  refine e_icmp_geN (x := 0) (y := 7) (tgt := 50) (pc := 7) Xc (dT hX0_bodyOf 6 rfl) rfl (by omega) (by omega) (fun c7 => ?_) (fun c7 => ?_)
  · skip
    exact absurd c7 (by decide)
  · skip
    refine e_iload_n (pc := 10) Xc (dT hX0_bodyOf 7 rfl) 1 rfl ?_
    refine e_if_eq (tgt := 50) (pc := 11) Xc (dT hX0_bodyOf 8 rfl) rfl (fun c11 => ?_) (fun c11 => ?_)
    · skip
      exact absurd c11 (by decide)
    · skip
      refine e_gets_X0_40 (pc := 14) Xc (dT hX0_bodyOf 9 rfl) ?_
      refine e_iload_n (pc := 17) Xc (dT hX0_bodyOf 10 rfl) 2 rfl ?_
      refine e_bipush (v := 7) (pc := 18) Xc (dT hX0_bodyOf 11 rfl) rfl ?_
      refine e_imulN (a := 2) (b := 7) (pc := 20) Xc (dT hX0_bodyOf 12 rfl) ?_
      refine e_val (y := 14) rfl ?_
      refine e_iload_n (pc := 21) Xc (dT hX0_bodyOf 13 rfl) 1 rfl ?_
      refine e_iaddN (a := 14) (b := 1) (pc := 22) Xc (dT hX0_bodyOf 14 rfl) ?_
      refine e_val (y := 15) rfl ?_
      refine cl_X0_43 (pc := 23) (k := 0) (n := 0) (S := []) Xc (c_get hSA.2 (by decide) (by decide) 15 (by decide)) (dT hX0_bodyOf 15 rfl) rfl (Nat.le_of_ble_eq_true rfl) (Nat.le_of_ble_eq_true rfl) (Nat.le_of_ble_eq_true rfl) rfl (Nat.le_of_ble_eq_true rfl) (fun r1 σ2 hq3 => ?_)
      obtain ⟨r1e, r1s⟩ := hq3
      have r1e := r1e.symm; subst r1e; have r1s := r1s.symm; subst r1s
      refine e_val (y := 0) (show bodF 15 = 0 from rfl) ?_
      refine e_istore (L' := [(4, .int 0), (3, .int 0), (2, .int 1), (0, .int 2), (1, .int 1)]) (pc := 26) Xc (dT hX0_bodyOf 16 rfl) (by decide) rfl ?_
      refine e_iload (pc := 28) Xc (dT hX0_bodyOf 17 rfl) 0 rfl ?_
      refine e_if_eq (tgt := 36) (pc := 30) Xc (dT hX0_bodyOf 18 rfl) rfl (fun c30 => ?_) (fun c30 => ?_)
      · skip
        refine e_gets_X0_47 (pc := 36) Xc (dT hX0_bodyOf 21 rfl) ?_
        refine e_iload_n (pc := 39) Xc (dT hX0_bodyOf 22 rfl) 2 rfl ?_
        refine cl_X0_43 (pc := 40) (k := 0) (n := 0) (S := []) Xc (c_get hSA.1 (by decide) (by decide) 1 (by decide)) (dT hX0_bodyOf 23 rfl) rfl (Nat.le_of_ble_eq_true rfl) (Nat.le_of_ble_eq_true rfl) (Nat.le_of_ble_eq_true rfl) rfl (Nat.le_of_ble_eq_true rfl) (fun r4 σ5 hq6 => ?_)
        obtain ⟨r4e, r4s⟩ := hq6
        have r4e := r4e.symm; subst r4e; have r4s := r4s.symm; subst r4s
        refine e_val (y := 0) (show aboF 1 = 0 from rfl) ?_
        refine e_istore_n (L' := [(2, .int 0), (4, .int 0), (3, .int 0), (0, .int 2), (1, .int 1)]) (pc := 43) Xc (dT hX0_bodyOf 24 rfl) (by decide) rfl ?_
        refine e_iincN (a := 0) (b := 1) (L' := [(3, .int 1), (2, .int 0), (4, .int 0), (0, .int 2), (1, .int 1)]) (pc := 44) Xc (dT hX0_bodyOf 25 rfl) 2 rfl rfl (by decide) rfl ?_
        refine e_goto (tgt := 4) (pc := 47) Xc (dT hX0_bodyOf 26 rfl) rfl ?_
        refine e_iload_n (pc := 4) Xc (dT hX0_bodyOf 4 rfl) 0 rfl ?_
        refine e_bipush (v := 7) (pc := 5) Xc (dT hX0_bodyOf 5 rfl) rfl ?_
        refine e_icmp_geN (x := 1) (y := 7) (tgt := 50) (pc := 7) Xc (dT hX0_bodyOf 6 rfl) rfl (by omega) (by omega) (fun c7 => ?_) (fun c7 => ?_)
        · skip
          exact absurd c7 (by decide)
        · skip
          refine e_iload_n (pc := 10) Xc (dT hX0_bodyOf 7 rfl) 1 rfl ?_
          refine e_if_eq (tgt := 50) (pc := 11) Xc (dT hX0_bodyOf 8 rfl) rfl (fun c11 => ?_) (fun c11 => ?_)
          · skip
            refine e_gets_X0_40 (pc := 50) Xc (dT hX0_bodyOf 27 rfl) ?_
            refine e_iload_n (pc := 53) Xc (dT hX0_bodyOf 28 rfl) 3 rfl ?_
            refine e_bipush (v := 7) (pc := 54) Xc (dT hX0_bodyOf 29 rfl) rfl ?_
            refine e_imulN (a := 2) (b := 7) (pc := 56) Xc (dT hX0_bodyOf 30 rfl) ?_
            refine e_val (y := 14) rfl ?_
            refine cl_X0_43 (pc := 57) (k := 0) (n := 0) (S := []) Xc (c_get hSA.2 (by decide) (by decide) 14 (by decide)) (dT hX0_bodyOf 31 rfl) rfl (Nat.le_of_ble_eq_true rfl) (Nat.le_of_ble_eq_true rfl) (Nat.le_of_ble_eq_true rfl) rfl (Nat.le_of_ble_eq_true rfl) (fun r7 σ8 hq9 => ?_)
            obtain ⟨r7e, r7s⟩ := hq9
            have r7e := r7e.symm; subst r7e; have r7s := r7s.symm; subst r7s
            refine e_val (y := 3) (show bodF 14 = 3 from rfl) ?_
            refine e_iret (pc := 60) Xc hQ (dT hX0_bodyOf 32 rfl) (Nat.le_refl _) (Nat.le_refl _) ?_
            exact ⟨rfl, rfl⟩
          · skip
            exact absurd c11 (by decide)
      · skip
        exact absurd c30 (by decide)
set_option maxRecDepth 100000 in
set_option maxHeartbeats 4000000 in
theorem c0_b22 {G : xG} {σ : xS} (hSA : PSA G σ) : CI G yX0_bodyOf cX0_bodyOf 5 (some .int) 1 0 0 [.int 2, .int 2] σ (fun z σ1 => z = 3 ∧ σ1 = σ) := by
  refine Met.ofX (by decide +kernel) (Nat.le_of_ble_eq_true rfl) (fun μ Xc hQ hnm => ?_)
  have Xc : xC G μ cX0_bodyOf 5 RX0 (some .int) 1 0 0 := Xc
  show Ev G μ 5 0 0 0 [(0, .int 2), (1, .int 2)] [] σ
  refine e_iload_n (pc := 0) Xc (dT hX0_bodyOf 0 rfl) 1 rfl ?_
  refine e_istore_n (L' := [(2, .int 2), (0, .int 2), (1, .int 2)]) (pc := 1) Xc (dT hX0_bodyOf 1 rfl) (by decide) rfl ?_
  refine e_iconst (v := 0) (pc := 2) Xc (dT hX0_bodyOf 2 rfl) rfl ?_
  refine e_istore_n (L' := [(3, .int 0), (2, .int 2), (0, .int 2), (1, .int 2)]) (pc := 3) Xc (dT hX0_bodyOf 3 rfl) (by decide) rfl ?_
  refine e_iload_n (pc := 4) Xc (dT hX0_bodyOf 4 rfl) 0 rfl ?_
  refine e_bipush (v := 7) (pc := 5) Xc (dT hX0_bodyOf 5 rfl) rfl ?_
  refine e_icmp_geN (x := 0) (y := 7) (tgt := 50) (pc := 7) Xc (dT hX0_bodyOf 6 rfl) rfl (by omega) (by omega) (fun c7 => ?_) (fun c7 => ?_)
  · skip
    exact absurd c7 (by decide)
  · skip
    refine e_iload_n (pc := 10) Xc (dT hX0_bodyOf 7 rfl) 1 rfl ?_
    refine e_if_eq (tgt := 50) (pc := 11) Xc (dT hX0_bodyOf 8 rfl) rfl (fun c11 => ?_) (fun c11 => ?_)
    · skip
      exact absurd c11 (by decide)
    · skip
      refine e_gets_X0_40 (pc := 14) Xc (dT hX0_bodyOf 9 rfl) ?_
      refine e_iload_n (pc := 17) Xc (dT hX0_bodyOf 10 rfl) 2 rfl ?_
      refine e_bipush (v := 7) (pc := 18) Xc (dT hX0_bodyOf 11 rfl) rfl ?_
      refine e_imulN (a := 2) (b := 7) (pc := 20) Xc (dT hX0_bodyOf 12 rfl) ?_
      refine e_val (y := 14) rfl ?_
      refine e_iload_n (pc := 21) Xc (dT hX0_bodyOf 13 rfl) 1 rfl ?_
      refine e_iaddN (a := 14) (b := 2) (pc := 22) Xc (dT hX0_bodyOf 14 rfl) ?_
      refine e_val (y := 16) rfl ?_
      refine cl_X0_43 (pc := 23) (k := 0) (n := 0) (S := []) Xc (c_get hSA.2 (by decide) (by decide) 16 (by decide)) (dT hX0_bodyOf 15 rfl) rfl (Nat.le_of_ble_eq_true rfl) (Nat.le_of_ble_eq_true rfl) (Nat.le_of_ble_eq_true rfl) rfl (Nat.le_of_ble_eq_true rfl) (fun r1 σ2 hq3 => ?_)
      obtain ⟨r1e, r1s⟩ := hq3
      have r1e := r1e.symm; subst r1e; have r1s := r1s.symm; subst r1s
      refine e_val (y := 0) (show bodF 16 = 0 from rfl) ?_
      refine e_istore (L' := [(4, .int 0), (3, .int 0), (2, .int 2), (0, .int 2), (1, .int 2)]) (pc := 26) Xc (dT hX0_bodyOf 16 rfl) (by decide) rfl ?_
      refine e_iload (pc := 28) Xc (dT hX0_bodyOf 17 rfl) 0 rfl ?_
      refine e_if_eq (tgt := 36) (pc := 30) Xc (dT hX0_bodyOf 18 rfl) rfl (fun c30 => ?_) (fun c30 => ?_)
      · skip
        refine e_gets_X0_47 (pc := 36) Xc (dT hX0_bodyOf 21 rfl) ?_
        refine e_iload_n (pc := 39) Xc (dT hX0_bodyOf 22 rfl) 2 rfl ?_
        refine cl_X0_43 (pc := 40) (k := 0) (n := 0) (S := []) Xc (c_get hSA.1 (by decide) (by decide) 2 (by decide)) (dT hX0_bodyOf 23 rfl) rfl (Nat.le_of_ble_eq_true rfl) (Nat.le_of_ble_eq_true rfl) (Nat.le_of_ble_eq_true rfl) rfl (Nat.le_of_ble_eq_true rfl) (fun r4 σ5 hq6 => ?_)
        obtain ⟨r4e, r4s⟩ := hq6
        have r4e := r4e.symm; subst r4e; have r4s := r4s.symm; subst r4s
        refine e_val (y := 0) (show aboF 2 = 0 from rfl) ?_
        refine e_istore_n (L' := [(2, .int 0), (4, .int 0), (3, .int 0), (0, .int 2), (1, .int 2)]) (pc := 43) Xc (dT hX0_bodyOf 24 rfl) (by decide) rfl ?_
        refine e_iincN (a := 0) (b := 1) (L' := [(3, .int 1), (2, .int 0), (4, .int 0), (0, .int 2), (1, .int 2)]) (pc := 44) Xc (dT hX0_bodyOf 25 rfl) 2 rfl rfl (by decide) rfl ?_
        refine e_goto (tgt := 4) (pc := 47) Xc (dT hX0_bodyOf 26 rfl) rfl ?_
        refine e_iload_n (pc := 4) Xc (dT hX0_bodyOf 4 rfl) 0 rfl ?_
        refine e_bipush (v := 7) (pc := 5) Xc (dT hX0_bodyOf 5 rfl) rfl ?_
        refine e_icmp_geN (x := 1) (y := 7) (tgt := 50) (pc := 7) Xc (dT hX0_bodyOf 6 rfl) rfl (by omega) (by omega) (fun c7 => ?_) (fun c7 => ?_)
        · skip
          exact absurd c7 (by decide)
        · skip
          refine e_iload_n (pc := 10) Xc (dT hX0_bodyOf 7 rfl) 1 rfl ?_
          refine e_if_eq (tgt := 50) (pc := 11) Xc (dT hX0_bodyOf 8 rfl) rfl (fun c11 => ?_) (fun c11 => ?_)
          · skip
            refine e_gets_X0_40 (pc := 50) Xc (dT hX0_bodyOf 27 rfl) ?_
            refine e_iload_n (pc := 53) Xc (dT hX0_bodyOf 28 rfl) 3 rfl ?_
            refine e_bipush (v := 7) (pc := 54) Xc (dT hX0_bodyOf 29 rfl) rfl ?_
            refine e_imulN (a := 2) (b := 7) (pc := 56) Xc (dT hX0_bodyOf 30 rfl) ?_
            refine e_val (y := 14) rfl ?_
            refine cl_X0_43 (pc := 57) (k := 0) (n := 0) (S := []) Xc (c_get hSA.2 (by decide) (by decide) 14 (by decide)) (dT hX0_bodyOf 31 rfl) rfl (Nat.le_of_ble_eq_true rfl) (Nat.le_of_ble_eq_true rfl) (Nat.le_of_ble_eq_true rfl) rfl (Nat.le_of_ble_eq_true rfl) (fun r7 σ8 hq9 => ?_)
            obtain ⟨r7e, r7s⟩ := hq9
            have r7e := r7e.symm; subst r7e; have r7s := r7s.symm; subst r7s
            refine e_val (y := 3) (show bodF 14 = 3 from rfl) ?_
            refine e_iret (pc := 60) Xc hQ (dT hX0_bodyOf 32 rfl) (Nat.le_refl _) (Nat.le_refl _) ?_
            exact ⟨rfl, rfl⟩
          · skip
            exact absurd c11 (by decide)
      · skip
        exact absurd c30 (by decide)
set_option maxRecDepth 100000 in
set_option maxHeartbeats 4000000 in
theorem c0_b23 {G : xG} {σ : xS} (hSA : PSA G σ) : CI G yX0_bodyOf cX0_bodyOf 5 (some .int) 1 0 0 [.int 2, .int 3] σ (fun z σ1 => z = 31 ∧ σ1 = σ) := by
  refine Met.ofX (by decide +kernel) (Nat.le_of_ble_eq_true rfl) (fun μ Xc hQ hnm => ?_)
  have Xc : xC G μ cX0_bodyOf 5 RX0 (some .int) 1 0 0 := Xc
  show Ev G μ 5 0 0 0 [(0, .int 2), (1, .int 3)] [] σ
  refine e_iload_n (pc := 0) Xc (dT hX0_bodyOf 0 rfl) 1 rfl ?_
  refine e_istore_n (L' := [(2, .int 3), (0, .int 2), (1, .int 3)]) (pc := 1) Xc (dT hX0_bodyOf 1 rfl) (by decide) rfl ?_
  refine e_iconst (v := 0) (pc := 2) Xc (dT hX0_bodyOf 2 rfl) rfl ?_
  refine e_istore_n (L' := [(3, .int 0), (2, .int 3), (0, .int 2), (1, .int 3)]) (pc := 3) Xc (dT hX0_bodyOf 3 rfl) (by decide) rfl ?_
  refine e_iload_n (pc := 4) Xc (dT hX0_bodyOf 4 rfl) 0 rfl ?_
  refine e_bipush (v := 7) (pc := 5) Xc (dT hX0_bodyOf 5 rfl) rfl ?_
  refine e_icmp_geN (x := 0) (y := 7) (tgt := 50) (pc := 7) Xc (dT hX0_bodyOf 6 rfl) rfl (by omega) (by omega) (fun c7 => ?_) (fun c7 => ?_)
  · skip
    exact absurd c7 (by decide)
  · skip
    refine e_iload_n (pc := 10) Xc (dT hX0_bodyOf 7 rfl) 1 rfl ?_
    refine e_if_eq (tgt := 50) (pc := 11) Xc (dT hX0_bodyOf 8 rfl) rfl (fun c11 => ?_) (fun c11 => ?_)
    · skip
      exact absurd c11 (by decide)
    · skip
      refine e_gets_X0_40 (pc := 14) Xc (dT hX0_bodyOf 9 rfl) ?_
      refine e_iload_n (pc := 17) Xc (dT hX0_bodyOf 10 rfl) 2 rfl ?_
      refine e_bipush (v := 7) (pc := 18) Xc (dT hX0_bodyOf 11 rfl) rfl ?_
      refine e_imulN (a := 2) (b := 7) (pc := 20) Xc (dT hX0_bodyOf 12 rfl) ?_
      refine e_val (y := 14) rfl ?_
      refine e_iload_n (pc := 21) Xc (dT hX0_bodyOf 13 rfl) 1 rfl ?_
      refine e_iaddN (a := 14) (b := 3) (pc := 22) Xc (dT hX0_bodyOf 14 rfl) ?_
      refine e_val (y := 17) rfl ?_
      refine cl_X0_43 (pc := 23) (k := 0) (n := 0) (S := []) Xc (c_get hSA.2 (by decide) (by decide) 17 (by decide)) (dT hX0_bodyOf 15 rfl) rfl (Nat.le_of_ble_eq_true rfl) (Nat.le_of_ble_eq_true rfl) (Nat.le_of_ble_eq_true rfl) rfl (Nat.le_of_ble_eq_true rfl) (fun r1 σ2 hq3 => ?_)
      obtain ⟨r1e, r1s⟩ := hq3
      have r1e := r1e.symm; subst r1e; have r1s := r1s.symm; subst r1s
      refine e_val (y := 31) (show bodF 17 = 31 from rfl) ?_
      refine e_istore (L' := [(4, .int 31), (3, .int 0), (2, .int 3), (0, .int 2), (1, .int 3)]) (pc := 26) Xc (dT hX0_bodyOf 16 rfl) (by decide) rfl ?_
      refine e_iload (pc := 28) Xc (dT hX0_bodyOf 17 rfl) 0 rfl ?_
      refine e_if_eq (tgt := 36) (pc := 30) Xc (dT hX0_bodyOf 18 rfl) rfl (fun c30 => ?_) (fun c30 => ?_)
      · skip
        exact absurd c30 (by decide)
      · skip
        refine e_iload (pc := 33) Xc (dT hX0_bodyOf 19 rfl) 0 rfl ?_
        refine e_iret (pc := 35) Xc hQ (dT hX0_bodyOf 20 rfl) (Nat.le_refl _) (Nat.le_refl _) ?_
        exact ⟨rfl, rfl⟩
set_option maxRecDepth 100000 in
set_option maxHeartbeats 4000000 in
theorem c0_b24 {G : xG} {σ : xS} (hSA : PSA G σ) : CI G yX0_bodyOf cX0_bodyOf 5 (some .int) 1 0 0 [.int 2, .int 4] σ (fun z σ1 => z = 41 ∧ σ1 = σ) := by
  refine Met.ofX (by decide +kernel) (Nat.le_of_ble_eq_true rfl) (fun μ Xc hQ hnm => ?_)
  have Xc : xC G μ cX0_bodyOf 5 RX0 (some .int) 1 0 0 := Xc
  show Ev G μ 5 0 0 0 [(0, .int 2), (1, .int 4)] [] σ
  refine e_iload_n (pc := 0) Xc (dT hX0_bodyOf 0 rfl) 1 rfl ?_
  refine e_istore_n (L' := [(2, .int 4), (0, .int 2), (1, .int 4)]) (pc := 1) Xc (dT hX0_bodyOf 1 rfl) (by decide) rfl ?_
  refine e_iconst (v := 0) (pc := 2) Xc (dT hX0_bodyOf 2 rfl) rfl ?_
  refine e_istore_n (L' := [(3, .int 0), (2, .int 4), (0, .int 2), (1, .int 4)]) (pc := 3) Xc (dT hX0_bodyOf 3 rfl) (by decide) rfl ?_
  refine e_iload_n (pc := 4) Xc (dT hX0_bodyOf 4 rfl) 0 rfl ?_
  refine e_bipush (v := 7) (pc := 5) Xc (dT hX0_bodyOf 5 rfl) rfl ?_
  refine e_icmp_geN (x := 0) (y := 7) (tgt := 50) (pc := 7) Xc (dT hX0_bodyOf 6 rfl) rfl (by omega) (by omega) (fun c7 => ?_) (fun c7 => ?_)
  · skip
    exact absurd c7 (by decide)
  · skip
    refine e_iload_n (pc := 10) Xc (dT hX0_bodyOf 7 rfl) 1 rfl ?_
    refine e_if_eq (tgt := 50) (pc := 11) Xc (dT hX0_bodyOf 8 rfl) rfl (fun c11 => ?_) (fun c11 => ?_)
    · skip
      exact absurd c11 (by decide)
    · skip
      refine e_gets_X0_40 (pc := 14) Xc (dT hX0_bodyOf 9 rfl) ?_
      refine e_iload_n (pc := 17) Xc (dT hX0_bodyOf 10 rfl) 2 rfl ?_
      refine e_bipush (v := 7) (pc := 18) Xc (dT hX0_bodyOf 11 rfl) rfl ?_
      refine e_imulN (a := 2) (b := 7) (pc := 20) Xc (dT hX0_bodyOf 12 rfl) ?_
      refine e_val (y := 14) rfl ?_
      refine e_iload_n (pc := 21) Xc (dT hX0_bodyOf 13 rfl) 1 rfl ?_
      refine e_iaddN (a := 14) (b := 4) (pc := 22) Xc (dT hX0_bodyOf 14 rfl) ?_
      refine e_val (y := 18) rfl ?_
      refine cl_X0_43 (pc := 23) (k := 0) (n := 0) (S := []) Xc (c_get hSA.2 (by decide) (by decide) 18 (by decide)) (dT hX0_bodyOf 15 rfl) rfl (Nat.le_of_ble_eq_true rfl) (Nat.le_of_ble_eq_true rfl) (Nat.le_of_ble_eq_true rfl) rfl (Nat.le_of_ble_eq_true rfl) (fun r1 σ2 hq3 => ?_)
      obtain ⟨r1e, r1s⟩ := hq3
      have r1e := r1e.symm; subst r1e; have r1s := r1s.symm; subst r1s
      refine e_val (y := 41) (show bodF 18 = 41 from rfl) ?_
      refine e_istore (L' := [(4, .int 41), (3, .int 0), (2, .int 4), (0, .int 2), (1, .int 4)]) (pc := 26) Xc (dT hX0_bodyOf 16 rfl) (by decide) rfl ?_
      refine e_iload (pc := 28) Xc (dT hX0_bodyOf 17 rfl) 0 rfl ?_
      refine e_if_eq (tgt := 36) (pc := 30) Xc (dT hX0_bodyOf 18 rfl) rfl (fun c30 => ?_) (fun c30 => ?_)
      · skip
        exact absurd c30 (by decide)
      · skip
        refine e_iload (pc := 33) Xc (dT hX0_bodyOf 19 rfl) 0 rfl ?_
        refine e_iret (pc := 35) Xc hQ (dT hX0_bodyOf 20 rfl) (Nat.le_refl _) (Nat.le_refl _) ?_
        exact ⟨rfl, rfl⟩
set_option maxRecDepth 100000 in
set_option maxHeartbeats 4000000 in
theorem c0_b25 {G : xG} {σ : xS} (hSA : PSA G σ) : CI G yX0_bodyOf cX0_bodyOf 5 (some .int) 1 0 0 [.int 2, .int 5] σ (fun z σ1 => z = 3 ∧ σ1 = σ) := by
  refine Met.ofX (by decide +kernel) (Nat.le_of_ble_eq_true rfl) (fun μ Xc hQ hnm => ?_)
  have Xc : xC G μ cX0_bodyOf 5 RX0 (some .int) 1 0 0 := Xc
  show Ev G μ 5 0 0 0 [(0, .int 2), (1, .int 5)] [] σ
  refine e_iload_n (pc := 0) Xc (dT hX0_bodyOf 0 rfl) 1 rfl ?_
  refine e_istore_n (L' := [(2, .int 5), (0, .int 2), (1, .int 5)]) (pc := 1) Xc (dT hX0_bodyOf 1 rfl) (by decide) rfl ?_
  refine e_iconst (v := 0) (pc := 2) Xc (dT hX0_bodyOf 2 rfl) rfl ?_
  refine e_istore_n (L' := [(3, .int 0), (2, .int 5), (0, .int 2), (1, .int 5)]) (pc := 3) Xc (dT hX0_bodyOf 3 rfl) (by decide) rfl ?_
  refine e_iload_n (pc := 4) Xc (dT hX0_bodyOf 4 rfl) 0 rfl ?_
  refine e_bipush (v := 7) (pc := 5) Xc (dT hX0_bodyOf 5 rfl) rfl ?_
  refine e_icmp_geN (x := 0) (y := 7) (tgt := 50) (pc := 7) Xc (dT hX0_bodyOf 6 rfl) rfl (by omega) (by omega) (fun c7 => ?_) (fun c7 => ?_)
  · skip
    exact absurd c7 (by decide)
  · skip
    refine e_iload_n (pc := 10) Xc (dT hX0_bodyOf 7 rfl) 1 rfl ?_
    refine e_if_eq (tgt := 50) (pc := 11) Xc (dT hX0_bodyOf 8 rfl) rfl (fun c11 => ?_) (fun c11 => ?_)
    · skip
      exact absurd c11 (by decide)
    · skip
      refine e_gets_X0_40 (pc := 14) Xc (dT hX0_bodyOf 9 rfl) ?_
      refine e_iload_n (pc := 17) Xc (dT hX0_bodyOf 10 rfl) 2 rfl ?_
      refine e_bipush (v := 7) (pc := 18) Xc (dT hX0_bodyOf 11 rfl) rfl ?_
      refine e_imulN (a := 2) (b := 7) (pc := 20) Xc (dT hX0_bodyOf 12 rfl) ?_
      refine e_val (y := 14) rfl ?_
      refine e_iload_n (pc := 21) Xc (dT hX0_bodyOf 13 rfl) 1 rfl ?_
      refine e_iaddN (a := 14) (b := 5) (pc := 22) Xc (dT hX0_bodyOf 14 rfl) ?_
      refine e_val (y := 19) rfl ?_
      refine cl_X0_43 (pc := 23) (k := 0) (n := 0) (S := []) Xc (c_get hSA.2 (by decide) (by decide) 19 (by decide)) (dT hX0_bodyOf 15 rfl) rfl (Nat.le_of_ble_eq_true rfl) (Nat.le_of_ble_eq_true rfl) (Nat.le_of_ble_eq_true rfl) rfl (Nat.le_of_ble_eq_true rfl) (fun r1 σ2 hq3 => ?_)
      obtain ⟨r1e, r1s⟩ := hq3
      have r1e := r1e.symm; subst r1e; have r1s := r1s.symm; subst r1s
      refine e_val (y := 0) (show bodF 19 = 0 from rfl) ?_
      refine e_istore (L' := [(4, .int 0), (3, .int 0), (2, .int 5), (0, .int 2), (1, .int 5)]) (pc := 26) Xc (dT hX0_bodyOf 16 rfl) (by decide) rfl ?_
      refine e_iload (pc := 28) Xc (dT hX0_bodyOf 17 rfl) 0 rfl ?_
      refine e_if_eq (tgt := 36) (pc := 30) Xc (dT hX0_bodyOf 18 rfl) rfl (fun c30 => ?_) (fun c30 => ?_)
      · skip
        refine e_gets_X0_47 (pc := 36) Xc (dT hX0_bodyOf 21 rfl) ?_
        refine e_iload_n (pc := 39) Xc (dT hX0_bodyOf 22 rfl) 2 rfl ?_
        refine cl_X0_43 (pc := 40) (k := 0) (n := 0) (S := []) Xc (c_get hSA.1 (by decide) (by decide) 5 (by decide)) (dT hX0_bodyOf 23 rfl) rfl (Nat.le_of_ble_eq_true rfl) (Nat.le_of_ble_eq_true rfl) (Nat.le_of_ble_eq_true rfl) rfl (Nat.le_of_ble_eq_true rfl) (fun r4 σ5 hq6 => ?_)
        obtain ⟨r4e, r4s⟩ := hq6
        have r4e := r4e.symm; subst r4e; have r4s := r4s.symm; subst r4s
        refine e_val (y := 2) (show aboF 5 = 2 from rfl) ?_
        refine e_istore_n (L' := [(2, .int 2), (4, .int 0), (3, .int 0), (0, .int 2), (1, .int 5)]) (pc := 43) Xc (dT hX0_bodyOf 24 rfl) (by decide) rfl ?_
        refine e_iincN (a := 0) (b := 1) (L' := [(3, .int 1), (2, .int 2), (4, .int 0), (0, .int 2), (1, .int 5)]) (pc := 44) Xc (dT hX0_bodyOf 25 rfl) 2 rfl rfl (by decide) rfl ?_
        refine e_goto (tgt := 4) (pc := 47) Xc (dT hX0_bodyOf 26 rfl) rfl ?_
        refine e_iload_n (pc := 4) Xc (dT hX0_bodyOf 4 rfl) 0 rfl ?_
        refine e_bipush (v := 7) (pc := 5) Xc (dT hX0_bodyOf 5 rfl) rfl ?_
        refine e_icmp_geN (x := 1) (y := 7) (tgt := 50) (pc := 7) Xc (dT hX0_bodyOf 6 rfl) rfl (by omega) (by omega) (fun c7 => ?_) (fun c7 => ?_)
        · skip
          exact absurd c7 (by decide)
        · skip
          refine e_iload_n (pc := 10) Xc (dT hX0_bodyOf 7 rfl) 1 rfl ?_
          refine e_if_eq (tgt := 50) (pc := 11) Xc (dT hX0_bodyOf 8 rfl) rfl (fun c11 => ?_) (fun c11 => ?_)
          · skip
            exact absurd c11 (by decide)
          · skip
            refine e_gets_X0_40 (pc := 14) Xc (dT hX0_bodyOf 9 rfl) ?_
            refine e_iload_n (pc := 17) Xc (dT hX0_bodyOf 10 rfl) 3 rfl ?_
            refine e_bipush (v := 7) (pc := 18) Xc (dT hX0_bodyOf 11 rfl) rfl ?_
            refine e_imulN (a := 2) (b := 7) (pc := 20) Xc (dT hX0_bodyOf 12 rfl) ?_
            refine e_val (y := 14) rfl ?_
            refine e_iload_n (pc := 21) Xc (dT hX0_bodyOf 13 rfl) 1 rfl ?_
            refine e_iaddN (a := 14) (b := 2) (pc := 22) Xc (dT hX0_bodyOf 14 rfl) ?_
            refine e_val (y := 16) rfl ?_
            refine cl_X0_43 (pc := 23) (k := 0) (n := 0) (S := []) Xc (c_get hSA.2 (by decide) (by decide) 16 (by decide)) (dT hX0_bodyOf 15 rfl) rfl (Nat.le_of_ble_eq_true rfl) (Nat.le_of_ble_eq_true rfl) (Nat.le_of_ble_eq_true rfl) rfl (Nat.le_of_ble_eq_true rfl) (fun r7 σ8 hq9 => ?_)
            obtain ⟨r7e, r7s⟩ := hq9
            have r7e := r7e.symm; subst r7e; have r7s := r7s.symm; subst r7s
            refine e_val (y := 0) (show bodF 16 = 0 from rfl) ?_
            refine e_istore (L' := [(4, .int 0), (3, .int 1), (2, .int 2), (0, .int 2), (1, .int 5)]) (pc := 26) Xc (dT hX0_bodyOf 16 rfl) (by decide) rfl ?_
            refine e_iload (pc := 28) Xc (dT hX0_bodyOf 17 rfl) 0 rfl ?_
            refine e_if_eq (tgt := 36) (pc := 30) Xc (dT hX0_bodyOf 18 rfl) rfl (fun c30 => ?_) (fun c30 => ?_)
            · skip
              refine e_gets_X0_47 (pc := 36) Xc (dT hX0_bodyOf 21 rfl) ?_
              refine e_iload_n (pc := 39) Xc (dT hX0_bodyOf 22 rfl) 2 rfl ?_
              refine cl_X0_43 (pc := 40) (k := 0) (n := 0) (S := []) Xc (c_get hSA.1 (by decide) (by decide) 2 (by decide)) (dT hX0_bodyOf 23 rfl) rfl (Nat.le_of_ble_eq_true rfl) (Nat.le_of_ble_eq_true rfl) (Nat.le_of_ble_eq_true rfl) rfl (Nat.le_of_ble_eq_true rfl) (fun r10 σ11 hq12 => ?_)
              obtain ⟨r10e, r10s⟩ := hq12
              have r10e := r10e.symm; subst r10e; have r10s := r10s.symm; subst r10s
              refine e_val (y := 0) (show aboF 2 = 0 from rfl) ?_
              refine e_istore_n (L' := [(2, .int 0), (4, .int 0), (3, .int 1), (0, .int 2), (1, .int 5)]) (pc := 43) Xc (dT hX0_bodyOf 24 rfl) (by decide) rfl ?_
              refine e_iincN (a := 1) (b := 1) (L' := [(3, .int 2), (2, .int 0), (4, .int 0), (0, .int 2), (1, .int 5)]) (pc := 44) Xc (dT hX0_bodyOf 25 rfl) 2 rfl rfl (by decide) rfl ?_
              refine e_goto (tgt := 4) (pc := 47) Xc (dT hX0_bodyOf 26 rfl) rfl ?_
              refine e_iload_n (pc := 4) Xc (dT hX0_bodyOf 4 rfl) 0 rfl ?_
              refine e_bipush (v := 7) (pc := 5) Xc (dT hX0_bodyOf 5 rfl) rfl ?_
              refine e_icmp_geN (x := 2) (y := 7) (tgt := 50) (pc := 7) Xc (dT hX0_bodyOf 6 rfl) rfl (by omega) (by omega) (fun c7 => ?_) (fun c7 => ?_)
              · skip
                exact absurd c7 (by decide)
              · skip
                refine e_iload_n (pc := 10) Xc (dT hX0_bodyOf 7 rfl) 1 rfl ?_
                refine e_if_eq (tgt := 50) (pc := 11) Xc (dT hX0_bodyOf 8 rfl) rfl (fun c11 => ?_) (fun c11 => ?_)
                · skip
                  refine e_gets_X0_40 (pc := 50) Xc (dT hX0_bodyOf 27 rfl) ?_
                  refine e_iload_n (pc := 53) Xc (dT hX0_bodyOf 28 rfl) 3 rfl ?_
                  refine e_bipush (v := 7) (pc := 54) Xc (dT hX0_bodyOf 29 rfl) rfl ?_
                  refine e_imulN (a := 2) (b := 7) (pc := 56) Xc (dT hX0_bodyOf 30 rfl) ?_
                  refine e_val (y := 14) rfl ?_
                  refine cl_X0_43 (pc := 57) (k := 0) (n := 0) (S := []) Xc (c_get hSA.2 (by decide) (by decide) 14 (by decide)) (dT hX0_bodyOf 31 rfl) rfl (Nat.le_of_ble_eq_true rfl) (Nat.le_of_ble_eq_true rfl) (Nat.le_of_ble_eq_true rfl) rfl (Nat.le_of_ble_eq_true rfl) (fun r13 σ14 hq15 => ?_)
                  obtain ⟨r13e, r13s⟩ := hq15
                  have r13e := r13e.symm; subst r13e; have r13s := r13s.symm; subst r13s
                  refine e_val (y := 3) (show bodF 14 = 3 from rfl) ?_
                  refine e_iret (pc := 60) Xc hQ (dT hX0_bodyOf 32 rfl) (Nat.le_refl _) (Nat.le_refl _) ?_
                  exact ⟨rfl, rfl⟩
                · skip
                  exact absurd c11 (by decide)
            · skip
              exact absurd c30 (by decide)
      · skip
        exact absurd c30 (by decide)
set_option maxRecDepth 100000 in
set_option maxHeartbeats 4000000 in
theorem c0_b26 {G : xG} {σ : xS} (hSA : PSA G σ) : CI G yX0_bodyOf cX0_bodyOf 5 (some .int) 1 0 0 [.int 2, .int 6] σ (fun z σ1 => z = 31 ∧ σ1 = σ) := by
  refine Met.ofX (by decide +kernel) (Nat.le_of_ble_eq_true rfl) (fun μ Xc hQ hnm => ?_)
  have Xc : xC G μ cX0_bodyOf 5 RX0 (some .int) 1 0 0 := Xc
  show Ev G μ 5 0 0 0 [(0, .int 2), (1, .int 6)] [] σ
  refine e_iload_n (pc := 0) Xc (dT hX0_bodyOf 0 rfl) 1 rfl ?_
  refine e_istore_n (L' := [(2, .int 6), (0, .int 2), (1, .int 6)]) (pc := 1) Xc (dT hX0_bodyOf 1 rfl) (by decide) rfl ?_
  refine e_iconst (v := 0) (pc := 2) Xc (dT hX0_bodyOf 2 rfl) rfl ?_
  refine e_istore_n (L' := [(3, .int 0), (2, .int 6), (0, .int 2), (1, .int 6)]) (pc := 3) Xc (dT hX0_bodyOf 3 rfl) (by decide) rfl ?_
  refine e_iload_n (pc := 4) Xc (dT hX0_bodyOf 4 rfl) 0 rfl ?_
  refine e_bipush (v := 7) (pc := 5) Xc (dT hX0_bodyOf 5 rfl) rfl ?_
  refine e_icmp_geN (x := 0) (y := 7) (tgt := 50) (pc := 7) Xc (dT hX0_bodyOf 6 rfl) rfl (by omega) (by omega) (fun c7 => ?_) (fun c7 => ?_)
  · skip
    exact absurd c7 (by decide)
  · skip
    refine e_iload_n (pc := 10) Xc (dT hX0_bodyOf 7 rfl) 1 rfl ?_
    refine e_if_eq (tgt := 50) (pc := 11) Xc (dT hX0_bodyOf 8 rfl) rfl (fun c11 => ?_) (fun c11 => ?_)
    · skip
      exact absurd c11 (by decide)
    · skip
      refine e_gets_X0_40 (pc := 14) Xc (dT hX0_bodyOf 9 rfl) ?_
      refine e_iload_n (pc := 17) Xc (dT hX0_bodyOf 10 rfl) 2 rfl ?_
      refine e_bipush (v := 7) (pc := 18) Xc (dT hX0_bodyOf 11 rfl) rfl ?_
      refine e_imulN (a := 2) (b := 7) (pc := 20) Xc (dT hX0_bodyOf 12 rfl) ?_
      refine e_val (y := 14) rfl ?_
      refine e_iload_n (pc := 21) Xc (dT hX0_bodyOf 13 rfl) 1 rfl ?_
      refine e_iaddN (a := 14) (b := 6) (pc := 22) Xc (dT hX0_bodyOf 14 rfl) ?_
      refine e_val (y := 20) rfl ?_
      refine cl_X0_43 (pc := 23) (k := 0) (n := 0) (S := []) Xc (c_get hSA.2 (by decide) (by decide) 20 (by decide)) (dT hX0_bodyOf 15 rfl) rfl (Nat.le_of_ble_eq_true rfl) (Nat.le_of_ble_eq_true rfl) (Nat.le_of_ble_eq_true rfl) rfl (Nat.le_of_ble_eq_true rfl) (fun r1 σ2 hq3 => ?_)
      obtain ⟨r1e, r1s⟩ := hq3
      have r1e := r1e.symm; subst r1e; have r1s := r1s.symm; subst r1s
      refine e_val (y := 0) (show bodF 20 = 0 from rfl) ?_
      refine e_istore (L' := [(4, .int 0), (3, .int 0), (2, .int 6), (0, .int 2), (1, .int 6)]) (pc := 26) Xc (dT hX0_bodyOf 16 rfl) (by decide) rfl ?_
      refine e_iload (pc := 28) Xc (dT hX0_bodyOf 17 rfl) 0 rfl ?_
      refine e_if_eq (tgt := 36) (pc := 30) Xc (dT hX0_bodyOf 18 rfl) rfl (fun c30 => ?_) (fun c30 => ?_)
      · skip
        refine e_gets_X0_47 (pc := 36) Xc (dT hX0_bodyOf 21 rfl) ?_
        refine e_iload_n (pc := 39) Xc (dT hX0_bodyOf 22 rfl) 2 rfl ?_
        refine cl_X0_43 (pc := 40) (k := 0) (n := 0) (S := []) Xc (c_get hSA.1 (by decide) (by decide) 6 (by decide)) (dT hX0_bodyOf 23 rfl) rfl (Nat.le_of_ble_eq_true rfl) (Nat.le_of_ble_eq_true rfl) (Nat.le_of_ble_eq_true rfl) rfl (Nat.le_of_ble_eq_true rfl) (fun r4 σ5 hq6 => ?_)
        obtain ⟨r4e, r4s⟩ := hq6
        have r4e := r4e.symm; subst r4e; have r4s := r4s.symm; subst r4s
        refine e_val (y := 3) (show aboF 6 = 3 from rfl) ?_
        refine e_istore_n (L' := [(2, .int 3), (4, .int 0), (3, .int 0), (0, .int 2), (1, .int 6)]) (pc := 43) Xc (dT hX0_bodyOf 24 rfl) (by decide) rfl ?_
        refine e_iincN (a := 0) (b := 1) (L' := [(3, .int 1), (2, .int 3), (4, .int 0), (0, .int 2), (1, .int 6)]) (pc := 44) Xc (dT hX0_bodyOf 25 rfl) 2 rfl rfl (by decide) rfl ?_
        refine e_goto (tgt := 4) (pc := 47) Xc (dT hX0_bodyOf 26 rfl) rfl ?_
        refine e_iload_n (pc := 4) Xc (dT hX0_bodyOf 4 rfl) 0 rfl ?_
        refine e_bipush (v := 7) (pc := 5) Xc (dT hX0_bodyOf 5 rfl) rfl ?_
        refine e_icmp_geN (x := 1) (y := 7) (tgt := 50) (pc := 7) Xc (dT hX0_bodyOf 6 rfl) rfl (by omega) (by omega) (fun c7 => ?_) (fun c7 => ?_)
        · skip
          exact absurd c7 (by decide)
        · skip
          refine e_iload_n (pc := 10) Xc (dT hX0_bodyOf 7 rfl) 1 rfl ?_
          refine e_if_eq (tgt := 50) (pc := 11) Xc (dT hX0_bodyOf 8 rfl) rfl (fun c11 => ?_) (fun c11 => ?_)
          · skip
            exact absurd c11 (by decide)
          · skip
            refine e_gets_X0_40 (pc := 14) Xc (dT hX0_bodyOf 9 rfl) ?_
            refine e_iload_n (pc := 17) Xc (dT hX0_bodyOf 10 rfl) 3 rfl ?_
            refine e_bipush (v := 7) (pc := 18) Xc (dT hX0_bodyOf 11 rfl) rfl ?_
            refine e_imulN (a := 2) (b := 7) (pc := 20) Xc (dT hX0_bodyOf 12 rfl) ?_
            refine e_val (y := 14) rfl ?_
            refine e_iload_n (pc := 21) Xc (dT hX0_bodyOf 13 rfl) 1 rfl ?_
            refine e_iaddN (a := 14) (b := 3) (pc := 22) Xc (dT hX0_bodyOf 14 rfl) ?_
            refine e_val (y := 17) rfl ?_
            refine cl_X0_43 (pc := 23) (k := 0) (n := 0) (S := []) Xc (c_get hSA.2 (by decide) (by decide) 17 (by decide)) (dT hX0_bodyOf 15 rfl) rfl (Nat.le_of_ble_eq_true rfl) (Nat.le_of_ble_eq_true rfl) (Nat.le_of_ble_eq_true rfl) rfl (Nat.le_of_ble_eq_true rfl) (fun r7 σ8 hq9 => ?_)
            obtain ⟨r7e, r7s⟩ := hq9
            have r7e := r7e.symm; subst r7e; have r7s := r7s.symm; subst r7s
            refine e_val (y := 31) (show bodF 17 = 31 from rfl) ?_
            refine e_istore (L' := [(4, .int 31), (3, .int 1), (2, .int 3), (0, .int 2), (1, .int 6)]) (pc := 26) Xc (dT hX0_bodyOf 16 rfl) (by decide) rfl ?_
            refine e_iload (pc := 28) Xc (dT hX0_bodyOf 17 rfl) 0 rfl ?_
            refine e_if_eq (tgt := 36) (pc := 30) Xc (dT hX0_bodyOf 18 rfl) rfl (fun c30 => ?_) (fun c30 => ?_)
            · skip
              exact absurd c30 (by decide)
            · skip
              refine e_iload (pc := 33) Xc (dT hX0_bodyOf 19 rfl) 0 rfl ?_
              refine e_iret (pc := 35) Xc hQ (dT hX0_bodyOf 20 rfl) (Nat.le_refl _) (Nat.le_refl _) ?_
              exact ⟨rfl, rfl⟩
      · skip
        exact absurd c30 (by decide)
