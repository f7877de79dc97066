set_option maxRecDepth 100000 in
set_option maxHeartbeats 4000000 in
theorem c6_under0 {G : xG} {σ : xS} (hSA : PSA G σ) (k : Nat) (hk : k ≤ 6) : CI G yX6_isUnder cX6_isUnder 4 (some .boolean) 1 0 0 [.int 0, .int (nI k)] σ (fun z σ1 => z = bI (undF (nI 0) (nI k)) ∧ σ1 = σ) := by
  refine Met.ofX (by decide +kernel) (Nat.le_of_ble_eq_true rfl) (fun μ Xc hQ hnm => ?_)
  have Xc : xC G μ cX6_isUnder 4 RX6 (some .boolean) 1 0 0 := Xc
  show Ev G μ 4 0 0 0 [(0, .int 0), (1, .int (nI k))] [] σ
  refine e_iload_n (pc := 0) Xc (dT hX6_isUnder 0 rfl) 0 rfl ?_
  refine e_istore_n (L' := [(2, .int 0), (0, .int 0), (1, .int (nI k))]) (pc := 1) Xc (dT hX6_isUnder 1 rfl) (by decide) rfl ?_
  refine e_iconst (v := 0) (pc := 2) Xc (dT hX6_isUnder 2 rfl) rfl ?_
  refine e_istore_n (L' := [(3, .int 0), (2, .int 0), (0, .int 0), (1, .int (nI k))]) (pc := 3) Xc (dT hX6_isUnder 3 rfl) (by decide) rfl ?_
  refine e_iload_n (pc := 4) Xc (dT hX6_isUnder 4 rfl) 0 rfl ?_
  refine e_bipush (v := 7) (pc := 5) Xc (dT hX6_isUnder 5 rfl) rfl ?_
  refine e_icmp_geN (x := 0) (y := 7) (tgt := 36) (pc := 7) Xc (dT hX6_isUnder 6 rfl) rfl (by omega) (by omega) (fun c7 => ?_) (fun c7 => ?_)
  · skip
    exact absurd c7 (by decide)
  · skip
    refine e_iload_n (pc := 10) Xc (dT hX6_isUnder 7 rfl) 1 rfl ?_
    refine e_iconst (v := -1) (pc := 11) Xc (dT hX6_isUnder 8 rfl) rfl ?_
    refine e_icmp_eq (tgt := 36) (pc := 12) Xc (dT hX6_isUnder 9 rfl) rfl (fun c12 => ?_) (fun c12 => ?_)
    · skip
      exact absurd c12 (by decide)
    · skip
      refine e_iload_n (pc := 15) Xc (dT hX6_isUnder 10 rfl) 1 rfl ?_
      refine e_iload_n (pc := 16) Xc (dT hX6_isUnder 11 rfl) 3 rfl ?_
      refine e_icmp_neN (x := 0) (y := k) (tgt := 22) (pc := 17) Xc (dT hX6_isUnder 12 rfl) rfl (by omega) (by omega) (fun c17 => ?_) (fun c17 => ?_)
      · skip
        refine e_gets_X6_303 (pc := 22) Xc (dT hX6_isUnder 15 rfl) ?_
        refine e_iload_n (pc := 25) Xc (dT hX6_isUnder 16 rfl) 1 rfl ?_
        refine cl_X6_106 (pc := 26) (k := 0) (n := 0) (S := []) Xc (c_get hSA.1 (by decide) (by decide) 0 (by decide)) (dT hX6_isUnder 17 rfl) rfl (Nat.le_of_ble_eq_true rfl) (Nat.le_of_ble_eq_true rfl) (Nat.le_of_ble_eq_true rfl) rfl (Nat.le_of_ble_eq_true rfl) (fun r1 σ2 hq3 => ?_)
        obtain ⟨r1e, r1s⟩ := hq3
        have r1e := r1e.symm; subst r1e; have r1s := r1s.symm; subst r1s
        refine e_val (y := (-1)) (show aboF 0 = (-1) from rfl) ?_
        refine e_istore_n (L' := [(2, .int (-1)), (3, .int 0), (0, .int 0), (1, .int (nI k))]) (pc := 29) Xc (dT hX6_isUnder 18 rfl) (by decide) rfl ?_
        refine e_iincN (a := 0) (b := 1) (L' := [(3, .int 1), (2, .int (-1)), (0, .int 0), (1, .int (nI k))]) (pc := 30) Xc (dT hX6_isUnder 19 rfl) 1 rfl rfl (by decide) rfl ?_
        refine e_goto (tgt := 4) (pc := 33) Xc (dT hX6_isUnder 20 rfl) rfl ?_
        refine e_iload_n (pc := 4) Xc (dT hX6_isUnder 4 rfl) 0 rfl ?_
        refine e_bipush (v := 7) (pc := 5) Xc (dT hX6_isUnder 5 rfl) rfl ?_
        refine e_icmp_geN (x := 1) (y := 7) (tgt := 36) (pc := 7) Xc (dT hX6_isUnder 6 rfl) rfl (by omega) (by omega) (fun c7 => ?_) (fun c7 => ?_)
        · skip
          exact absurd c7 (by decide)
        · skip
          refine e_iload_n (pc := 10) Xc (dT hX6_isUnder 7 rfl) 1 rfl ?_
          refine e_iconst (v := -1) (pc := 11) Xc (dT hX6_isUnder 8 rfl) rfl ?_
          refine e_icmp_eq (tgt := 36) (pc := 12) Xc (dT hX6_isUnder 9 rfl) rfl (fun c12 => ?_) (fun c12 => ?_)
          · skip
            refine e_iconst (v := 0) (pc := 36) Xc (dT hX6_isUnder 21 rfl) rfl ?_
            refine e_zret (pc := 37) Xc hQ (dT hX6_isUnder 22 rfl) (Nat.le_refl _) (Nat.le_refl _) (Or.inl rfl) ?_
            refine ⟨?_, rfl⟩
            have hk7_ : k = 0 ∨ k = 1 ∨ k = 2 ∨ k = 3 ∨ k = 4 ∨ k = 5 ∨ k = 6 := by omega
            rcases hk7_ with rfl | rfl | rfl | rfl | rfl | rfl | rfl <;> first | omega | decide
          · skip
            exact absurd c12 (by decide)
      · skip
        refine e_iconst (v := 1) (pc := 20) Xc (dT hX6_isUnder 13 rfl) rfl ?_
        refine e_zret (pc := 21) Xc hQ (dT hX6_isUnder 14 rfl) (Nat.le_refl _) (Nat.le_refl _) (Or.inr rfl) ?_
        refine ⟨?_, rfl⟩
        have hk7_ : k = 0 ∨ k = 1 ∨ k = 2 ∨ k = 3 ∨ k = 4 ∨ k = 5 ∨ k = 6 := by omega
        rcases hk7_ with rfl | rfl | rfl | rfl | rfl | rfl | rfl <;> first | omega | decide
set_option maxRecDepth 100000 in
set_option maxHeartbeats 4000000 in
theorem c6_under1 {G : xG} {σ : xS} (hSA : PSA G σ) (k : Nat) (hk : k ≤ 6) : CI G yX6_isUnder cX6_isUnder 4 (some .boolean) 1 0 0 [.int 1, .int (nI k)] σ (fun z σ1 => z = bI (undF (nI 1) (nI k)) ∧ σ1 = σ) := by
  refine Met.ofX (by decide +kernel) (Nat.le_of_ble_eq_true rfl) (fun μ Xc hQ hnm => ?_)
  have Xc : xC G μ cX6_isUnder 4 RX6 (some .boolean) 1 0 0 := Xc
  show Ev G μ 4 0 0 0 [(0, .int 1), (1, .int (nI k))] [] σ
  refine e_iload_n (pc := 0) Xc (dT hX6_isUnder 0 rfl) 0 rfl ?_
  refine e_istore_n (L' := [(2, .int 1), (0, .int 1), (1, .int (nI k))]) (pc := 1) Xc (dT hX6_isUnder 1 rfl) (by decide) rfl ?_
  refine e_iconst (v := 0) (pc := 2) Xc (dT hX6_isUnder 2 rfl) rfl ?_
  refine e_istore_n (L' := [(3, .int 0), (2, .int 1), (0, .int 1), (1, .int (nI k))]) (pc := 3) Xc (dT hX6_isUnder 3 rfl) (by decide) rfl ?_
  refine e_iload_n (pc := 4) Xc (dT hX6_isUnder 4 rfl) 0 rfl ?_
  refine e_bipush (v := 7) (pc := 5) Xc (dT hX6_isUnder 5 rfl) rfl ?_
  refine e_icmp_geN (x := 0) (y := 7) (tgt := 36) (pc := 7) Xc (dT hX6_isUnder 6 rfl) rfl (by omega) (by omega) (fun c7 => ?_) (fun c7 => ?_)
  · skip
    exact absurd c7 (by decide)
  · skip
    refine e_iload_n (pc := 10) Xc (dT hX6_isUnder 7 rfl) 1 rfl ?_
    refine e_iconst (v := -1) (pc := 11) Xc (dT hX6_isUnder 8 rfl) rfl ?_
    refine e_icmp_eq (tgt := 36) (pc := 12) Xc (dT hX6_isUnder 9 rfl) rfl (fun c12 => ?_) (fun c12 => ?_)
    · skip
      exact absurd c12 (by decide)
    · skip
      refine e_iload_n (pc := 15) Xc (dT hX6_isUnder 10 rfl) 1 rfl ?_
      refine e_iload_n (pc := 16) Xc (dT hX6_isUnder 11 rfl) 3 rfl ?_
      refine e_icmp_neN (x := 1) (y := k) (tgt := 22) (pc := 17) Xc (dT hX6_isUnder 12 rfl) rfl (by omega) (by omega) (fun c17 => ?_) (fun c17 => ?_)
      · skip
        refine e_gets_X6_303 (pc := 22) Xc (dT hX6_isUnder 15 rfl) ?_
        refine e_iload_n (pc := 25) Xc (dT hX6_isUnder 16 rfl) 1 rfl ?_
        refine cl_X6_106 (pc := 26) (k := 0) (n := 0) (S := []) Xc (c_get hSA.1 (by decide) (by decide) 1 (by decide)) (dT hX6_isUnder 17 rfl) rfl (Nat.le_of_ble_eq_true rfl) (Nat.le_of_ble_eq_true rfl) (Nat.le_of_ble_eq_true rfl) rfl (Nat.le_of_ble_eq_true rfl) (fun r1 σ2 hq3 => ?_)
        obtain ⟨r1e, r1s⟩ := hq3
        have r1e := r1e.symm; subst r1e; have r1s := r1s.symm; subst r1s
        refine e_val (y := 0) (show aboF 1 = 0 from rfl) ?_
        refine e_istore_n (L' := [(2, .int 0), (3, .int 0), (0, .int 1), (1, .int (nI k))]) (pc := 29) Xc (dT hX6_isUnder 18 rfl) (by decide) rfl ?_
        refine e_iincN (a := 0) (b := 1) (L' := [(3, .int 1), (2, .int 0), (0, .int 1), (1, .int (nI k))]) (pc := 30) Xc (dT hX6_isUnder 19 rfl) 1 rfl rfl (by decide) rfl ?_
        refine e_goto (tgt := 4) (pc := 33) Xc (dT hX6_isUnder 20 rfl) rfl ?_
        refine e_iload_n (pc := 4) Xc (dT hX6_isUnder 4 rfl) 0 rfl ?_
        refine e_bipush (v := 7) (pc := 5) Xc (dT hX6_isUnder 5 rfl) rfl ?_
        refine e_icmp_geN (x := 1) (y := 7) (tgt := 36) (pc := 7) Xc (dT hX6_isUnder 6 rfl) rfl (by omega) (by omega) (fun c7 => ?_) (fun c7 => ?_)
        · skip
          exact absurd c7 (by decide)
        · skip
          refine e_iload_n (pc := 10) Xc (dT hX6_isUnder 7 rfl) 1 rfl ?_
          refine e_iconst (v := -1) (pc := 11) Xc (dT hX6_isUnder 8 rfl) rfl ?_
          refine e_icmp_eq (tgt := 36) (pc := 12) Xc (dT hX6_isUnder 9 rfl) rfl (fun c12 => ?_) (fun c12 => ?_)
          · skip
            exact absurd c12 (by decide)
          · skip
            refine e_iload_n (pc := 15) Xc (dT hX6_isUnder 10 rfl) 1 rfl ?_
            refine e_iload_n (pc := 16) Xc (dT hX6_isUnder 11 rfl) 3 rfl ?_
            refine e_icmp_neN (x := 0) (y := k) (tgt := 22) (pc := 17) Xc (dT hX6_isUnder 12 rfl) rfl (by omega) (by omega) (fun c17 => ?_) (fun c17 => ?_)
            · skip
              refine e_gets_X6_303 (pc := 22) Xc (dT hX6_isUnder 15 rfl) ?_
              refine e_iload_n (pc := 25) Xc (dT hX6_isUnder 16 rfl) 1 rfl ?_
              refine cl_X6_106 (pc := 26) (k := 0) (n := 0) (S := []) Xc (c_get hSA.1 (by decide) (by decide) 0 (by decide)) (dT hX6_isUnder 17 rfl) rfl (Nat.le_of_ble_eq_true rfl) (Nat.le_of_ble_eq_true rfl) (Nat.le_of_ble_eq_true rfl) rfl (Nat.le_of_ble_eq_true rfl) (fun r4 σ5 hq6 => ?_)
              obtain ⟨r4e, r4s⟩ := hq6
              have r4e := r4e.symm; subst r4e; have r4s := r4s.symm; subst r4s
              refine e_val (y := (-1)) (show aboF 0 = (-1) from rfl) ?_
              refine e_istore_n (L' := [(2, .int (-1)), (3, .int 1), (0, .int 1), (1, .int (nI k))]) (pc := 29) Xc (dT hX6_isUnder 18 rfl) (by decide) rfl ?_
              refine e_iincN (a := 1) (b := 1) (L' := [(3, .int 2), (2, .int (-1)), (0, .int 1), (1, .int (nI k))]) (pc := 30) Xc (dT hX6_isUnder 19 rfl) 1 rfl rfl (by decide) rfl ?_
              refine e_goto (tgt := 4) (pc := 33) Xc (dT hX6_isUnder 20 rfl) rfl ?_
              refine e_iload_n (pc := 4) Xc (dT hX6_isUnder 4 rfl) 0 rfl ?_
              refine e_bipush (v := 7) (pc := 5) Xc (dT hX6_isUnder 5 rfl) rfl ?_
              refine e_icmp_geN (x := 2) (y := 7) (tgt := 36) (pc := 7) Xc (dT hX6_isUnder 6 rfl) rfl (by omega) (by omega) (fun c7 => ?_) (fun c7 => ?_)
              · skip
                exact absurd c7 (by decide)
              · skip
                refine e_iload_n (pc := 10) Xc (dT hX6_isUnder 7 rfl) 1 rfl ?_
                refine e_iconst (v := -1) (pc := 11) Xc (dT hX6_isUnder 8 rfl) rfl ?_
                refine e_icmp_eq (tgt := 36) (pc := 12) Xc (dT hX6_isUnder 9 rfl) rfl (fun c12 => ?_) (fun c12 => ?_)
                · skip
                  refine e_iconst (v := 0) (pc := 36) Xc (dT hX6_isUnder 21 rfl) rfl ?_
                  refine e_zret (pc := 37) Xc hQ (dT hX6_isUnder 22 rfl) (Nat.le_refl _) (Nat.le_refl _) (Or.inl rfl) ?_
                  refine ⟨?_, rfl⟩
                  have hk7_ : k = 0 ∨ k = 1 ∨ k = 2 ∨ k = 3 ∨ k = 4 ∨ k = 5 ∨ k = 6 := by omega
                  rcases hk7_ with rfl | rfl | rfl | rfl | rfl | rfl | rfl <;> first | omega | decide
                · skip
                  exact absurd c12 (by decide)
            · skip
              refine e_iconst (v := 1) (pc := 20) Xc (dT hX6_isUnder 13 rfl) rfl ?_
              refine e_zret (pc := 21) Xc hQ (dT hX6_isUnder 14 rfl) (Nat.le_refl _) (Nat.le_refl _) (Or.inr rfl) ?_
              refine ⟨?_, rfl⟩
              have hk7_ : k = 0 ∨ k = 1 ∨ k = 2 ∨ k = 3 ∨ k = 4 ∨ k = 5 ∨ k = 6 := by omega
              rcases hk7_ with rfl | rfl | rfl | rfl | rfl | rfl | rfl <;> first | omega | decide
      · skip
        refine e_iconst (v := 1) (pc := 20) Xc (dT hX6_isUnder 13 rfl) rfl ?_
        refine e_zret (pc := 21) Xc hQ (dT hX6_isUnder 14 rfl) (Nat.le_refl _) (Nat.le_refl _) (Or.inr rfl) ?_
        refine ⟨?_, rfl⟩
        have hk7_ : k = 0 ∨ k = 1 ∨ k = 2 ∨ k = 3 ∨ k = 4 ∨ k = 5 ∨ k = 6 := by omega
        rcases hk7_ with rfl | rfl | rfl | rfl | rfl | rfl | rfl <;> first | omega | decide
set_option maxRecDepth 100000 in
set_option maxHeartbeats 4000000 in
theorem c6_under2 {G : xG} {σ : xS} (hSA : PSA G σ) (k : Nat) (hk : k ≤ 6) : CI G yX6_isUnder cX6_isUnder 4 (some .boolean) 1 0 0 [.int 2, .int (nI k)] σ (fun z σ1 => z = bI (undF (nI 2) (nI k)) ∧ σ1 = σ) := by
  refine Met.ofX (by decide +kernel) (Nat.le_of_ble_eq_true rfl) (fun μ Xc hQ hnm => ?_)
  have Xc : xC G μ cX6_isUnder 4 RX6 (some .boolean) 1 0 0 := Xc
  show Ev G μ 4 0 0 0 [(0, .int 2), (1, .int (nI k))] [] σ
  refine e_iload_n (pc := 0) Xc (dT hX6_isUnder 0 rfl) 0 rfl ?_
  refine e_istore_n (L' := [(2, .int 2), (0, .int 2), (1, .int (nI k))]) (pc := 1) Xc (dT hX6_isUnder 1 rfl) (by decide) rfl ?_
  refine e_iconst (v := 0) (pc := 2) Xc (dT hX6_isUnder 2 rfl) rfl ?_
  refine e_istore_n (L' := [(3, .int 0), (2, .int 2), (0, .int 2), (1, .int (nI k))]) (pc := 3) Xc (dT hX6_isUnder 3 rfl) (by decide) rfl ?_
  refine e_iload_n (pc := 4) Xc (dT hX6_isUnder 4 rfl) 0 rfl ?_
  refine e_bipush (v := 7) (pc := 5) Xc (dT hX6_isUnder 5 rfl) rfl ?_
  refine e_icmp_geN (x := 0) (y := 7) (tgt := 36) (pc := 7) Xc (dT hX6_isUnder 6 rfl) rfl (by omega) (by omega) (fun c7 => ?_) (fun c7 => ?_)
  · skip
    exact absurd c7 (by decide)
  · skip
    refine e_iload_n (pc := 10) Xc (dT hX6_isUnder 7 rfl) 1 rfl ?_
    refine e_iconst (v := -1) (pc := 11) Xc (dT hX6_isUnder 8 rfl) rfl ?_
    refine e_icmp_eq (tgt := 36) (pc := 12) Xc (dT hX6_isUnder 9 rfl) rfl (fun c12 => ?_) (fun c12 => ?_)
    · skip
      exact absurd c12 (by decide)
    · skip
      refine e_iload_n (pc := 15) Xc (dT hX6_isUnder 10 rfl) 1 rfl ?_
      refine e_iload_n (pc := 16) Xc (dT hX6_isUnder 11 rfl) 3 rfl ?_
      refine e_icmp_neN (x := 2) (y := k) (tgt := 22) (pc := 17) Xc (dT hX6_isUnder 12 rfl) rfl (by omega) (by omega) (fun c17 => ?_) (fun c17 => ?_)
      · skip
        refine e_gets_X6_303 (pc := 22) Xc (dT hX6_isUnder 15 rfl) ?_
        refine e_iload_n (pc := 25) Xc (dT hX6_isUnder 16 rfl) 1 rfl ?_
        refine cl_X6_106 (pc := 26) (k := 0) (n := 0) (S := []) Xc (c_get hSA.1 (by decide) (by decide) 2 (by decide)) (dT hX6_isUnder 17 rfl) rfl (Nat.le_of_ble_eq_true rfl) (Nat.le_of_ble_eq_true rfl) (Nat.le_of_ble_eq_true rfl) rfl (Nat.le_of_ble_eq_true rfl) (fun r1 σ2 hq3 => ?_)
        obtain ⟨r1e, r1s⟩ := hq3
        have r1e := r1e.symm; subst r1e; have r1s := r1s.symm; subst r1s
        refine e_val (y := 0) (show aboF 2 = 0 from rfl) ?_
        refine e_istore_n (L' := [(2, .int 0), (3, .int 0), (0, .int 2), (1, .int (nI k))]) (pc := 29) Xc (dT hX6_isUnder 18 rfl) (by decide) rfl ?_
        refine e_iincN (a := 0) (b := 1) (L' := [(3, .int 1), (2, .int 0), (0, .int 2), (1, .int (nI k))]) (pc := 30) Xc (dT hX6_isUnder 19 rfl) 1 rfl rfl (by decide) rfl ?_
        refine e_goto (tgt := 4) (pc := 33) Xc (dT hX6_isUnder 20 rfl) rfl ?_
        refine e_iload_n (pc := 4) Xc (dT hX6_isUnder 4 rfl) 0 rfl ?_
        refine e_bipush (v := 7) (pc := 5) Xc (dT hX6_isUnder 5 rfl) rfl ?_
        refine e_icmp_geN (x := 1) (y := 7) (tgt := 36) (pc := 7) Xc (dT hX6_isUnder 6 rfl) rfl (by omega) (by omega) (fun c7 => ?_) (fun c7 => ?_)
        · skip
          exact absurd c7 (by decide)
        · skip
          refine e_iload_n (pc := 10) Xc (dT hX6_isUnder 7 rfl) 1 rfl ?_
          refine e_iconst (v := -1) (pc := 11) Xc (dT hX6_isUnder 8 rfl) rfl ?_
          refine e_icmp_eq (tgt := 36) (pc := 12) Xc (dT hX6_isUnder 9 rfl) rfl (fun c12 => ?_) (fun c12 => ?_)
          · skip
            exact absurd c12 (by decide)
          · skip
            refine e_iload_n (pc := 15) Xc (dT hX6_isUnder 10 rfl) 1 rfl ?_
            refine e_iload_n (pc := 16) Xc (dT hX6_isUnder 11 rfl) 3 rfl ?_
            refine e_icmp_neN (x := 0) (y := k) (tgt := 22) (pc := 17) Xc (dT hX6_isUnder 12 rfl) rfl (by omega) (by omega) (fun c17 => ?_) (fun c17 => ?_)
            · skip
              refine e_gets_X6_303 (pc := 22) Xc (dT hX6_isUnder 15 rfl) ?_
              refine e_iload_n (pc := 25) Xc (dT hX6_isUnder 16 rfl) 1 rfl ?_
              refine cl_X6_106 (pc := 26) (k := 0) (n := 0) (S := []) Xc (c_get hSA.1 (by decide) (by decide) 0 (by decide)) (dT hX6_isUnder 17 rfl) rfl (Nat.le_of_ble_eq_true rfl) (Nat.le_of_ble_eq_true rfl) (Nat.le_of_ble_eq_true rfl) rfl (Nat.le_of_ble_eq_true rfl) (fun r4 σ5 hq6 => ?_)
              obtain ⟨r4e, r4s⟩ := hq6
              have r4e := r4e.symm; subst r4e; have r4s := r4s.symm; subst r4s
              refine e_val (y := (-1)) (show aboF 0 = (-1) from rfl) ?_
              refine e_istore_n (L' := [(2, .int (-1)), (3, .int 1), (0, .int 2), (1, .int (nI k))]) (pc := 29) Xc (dT hX6_isUnder 18 rfl) (by decide) rfl ?_
              refine e_iincN (a := 1) (b := 1) (L' := [(3, .int 2), (2, .int (-1)), (0, .int 2), (1, .int (nI k))]) (pc := 30) Xc (dT hX6_isUnder 19 rfl) 1 rfl rfl (by decide) rfl ?_
              refine e_goto (tgt := 4) (pc := 33) Xc (dT hX6_isUnder 20 rfl) rfl ?_
              refine e_iload_n (pc := 4) Xc (dT hX6_isUnder 4 rfl) 0 rfl ?_
              refine e_bipush (v := 7) (pc := 5) Xc (dT hX6_isUnder 5 rfl) rfl ?_
              refine e_icmp_geN (x := 2) (y := 7) (tgt := 36) (pc := 7) Xc (dT hX6_isUnder 6 rfl) rfl (by omega) (by omega) (fun c7 => ?_) (fun c7 => ?_)
              · skip
                exact absurd c7 (by decide)
              · skip
                refine e_iload_n (pc := 10) Xc (dT hX6_isUnder 7 rfl) 1 rfl ?_
                refine e_iconst (v := -1) (pc := 11) Xc (dT hX6_isUnder 8 rfl) rfl ?_
                refine e_icmp_eq (tgt := 36) (pc := 12) Xc (dT hX6_isUnder 9 rfl) rfl (fun c12 => ?_) (fun c12 => ?_)
                · skip
                  refine e_iconst (v := 0) (pc := 36) Xc (dT hX6_isUnder 21 rfl) rfl ?_
                  refine e_zret (pc := 37) Xc hQ (dT hX6_isUnder 22 rfl) (Nat.le_refl _) (Nat.le_refl _) (Or.inl rfl) ?_
                  refine ⟨?_, rfl⟩
                  have hk7_ : k = 0 ∨ k = 1 ∨ k = 2 ∨ k = 3 ∨ k = 4 ∨ k = 5 ∨ k = 6 := by omega
                  rcases hk7_ with rfl | rfl | rfl | rfl | rfl | rfl | rfl <;> first | omega | decide
                · skip
                  exact absurd c12 (by decide)
            · skip
              refine e_iconst (v := 1) (pc := 20) Xc (dT hX6_isUnder 13 rfl) rfl ?_
              refine e_zret (pc := 21) Xc hQ (dT hX6_isUnder 14 rfl) (Nat.le_refl _) (Nat.le_refl _) (Or.inr rfl) ?_
              refine ⟨?_, rfl⟩
              have hk7_ : k = 0 ∨ k = 1 ∨ k = 2 ∨ k = 3 ∨ k = 4 ∨ k = 5 ∨ k = 6 := by omega
              rcases hk7_ with rfl | rfl | rfl | rfl | rfl | rfl | rfl <;> first | omega | decide
      · skip
        refine e_iconst (v := 1) (pc := 20) Xc (dT hX6_isUnder 13 rfl) rfl ?_
        refine e_zret (pc := 21) Xc hQ (dT hX6_isUnder 14 rfl) (Nat.le_refl _) (Nat.le_refl _) (Or.inr rfl) ?_
        refine ⟨?_, rfl⟩
        have hk7_ : k = 0 ∨ k = 1 ∨ k = 2 ∨ k = 3 ∨ k = 4 ∨ k = 5 ∨ k = 6 := by omega
        rcases hk7_ with rfl | rfl | rfl | rfl | rfl | rfl | rfl <;> first | omega | decide
set_option maxRecDepth 100000 in
set_option maxHeartbeats 4000000 in
theorem c6_under3 {G : xG} {σ : xS} (hSA : PSA G σ) (k : Nat) (hk : k ≤ 6) : CI G yX6_isUnder cX6_isUnder 4 (some .boolean) 1 0 0 [.int 3, .int (nI k)] σ (fun z σ1 => z = bI (undF (nI 3) (nI k)) ∧ σ1 = σ) := by
  refine Met.ofX (by decide +kernel) (Nat.le_of_ble_eq_true rfl) (fun μ Xc hQ hnm => ?_)
  have Xc : xC G μ cX6_isUnder 4 RX6 (some .boolean) 1 0 0 := Xc
  show Ev G μ 4 0 0 0 [(0, .int 3), (1, .int (nI k))] [] σ
  refine e_iload_n (pc := 0) Xc (dT hX6_isUnder 0 rfl) 0 rfl ?_
  refine e_istore_n (L' := [(2, .int 3), (0, .int 3), (1, .int (nI k))]) (pc := 1) Xc (dT hX6_isUnder 1 rfl) (by decide) rfl ?_
  refine e_iconst (v := 0) (pc := 2) Xc (dT hX6_isUnder 2 rfl) rfl ?_
  refine e_istore_n (L' := [(3, .int 0), (2, .int 3), (0, .int 3), (1, .int (nI k))]) (pc := 3) Xc (dT hX6_isUnder 3 rfl) (by decide) rfl ?_
  refine e_iload_n (pc := 4) Xc (dT hX6_isUnder 4 rfl) 0 rfl ?_
  refine e_bipush (v := 7) (pc := 5) Xc (dT hX6_isUnder 5 rfl) rfl ?_
  refine e_icmp_geN (x := 0) (y := 7) (tgt := 36) (pc := 7) Xc (dT hX6_isUnder 6 rfl) rfl (by omega) (by omega) (fun c7 => ?_) (fun c7 => ?_)
  · skip
    exact absurd c7 (by decide)
  · skip
    refine e_iload_n (pc := 10) Xc (dT hX6_isUnder 7 rfl) 1 rfl ?_
    refine e_iconst (v := -1) (pc := 11) Xc (dT hX6_isUnder 8 rfl) rfl ?_
    refine e_icmp_eq (tgt := 36) (pc := 12) Xc (dT hX6_isUnder 9 rfl) rfl (fun c12 => ?_) (fun c12 => ?_)
    · skip
      exact absurd c12 (by decide)
    · skip
      refine e_iload_n (pc := 15) Xc (dT hX6_isUnder 10 rfl) 1 rfl ?_
      refine e_iload_n (pc := 16) Xc (dT hX6_isUnder 11 rfl) 3 rfl ?_
      refine e_icmp_neN (x := 3) (y := k) (tgt := 22) (pc := 17) Xc (dT hX6_isUnder 12 rfl) rfl (by omega) (by omega) (fun c17 => ?_) (fun c17 => ?_)
      · skip
        refine e_gets_X6_303 (pc := 22) Xc (dT hX6_isUnder 15 rfl) ?_
        refine e_iload_n (pc := 25) Xc (dT hX6_isUnder 16 rfl) 1 rfl ?_
        refine cl_X6_106 (pc := 26) (k := 0) (n := 0) (S := []) Xc (c_get hSA.1 (by decide) (by decide) 3 (by decide)) (dT hX6_isUnder 17 rfl) rfl (Nat.le_of_ble_eq_true rfl) (Nat.le_of_ble_eq_true rfl) (Nat.le_of_ble_eq_true rfl) rfl (Nat.le_of_ble_eq_true rfl) (fun r1 σ2 hq3 => ?_)
        obtain ⟨r1e, r1s⟩ := hq3
        have r1e := r1e.symm; subst r1e; have r1s := r1s.symm; subst r1s
        refine e_val (y := 0) (show aboF 3 = 0 from rfl) ?_
        refine e_istore_n (L' := [(2, .int 0), (3, .int 0), (0, .int 3), (1, .int (nI k))]) (pc := 29) Xc (dT hX6_isUnder 18 rfl) (by decide) rfl ?_
        refine e_iincN (a := 0) (b := 1) (L' := [(3, .int 1), (2, .int 0), (0, .int 3), (1, .int (nI k))]) (pc := 30) Xc (dT hX6_isUnder 19 rfl) 1 rfl rfl (by decide) rfl ?_
        refine e_goto (tgt := 4) (pc := 33) Xc (dT hX6_isUnder 20 rfl) rfl ?_
        refine e_iload_n (pc := 4) Xc (dT hX6_isUnder 4 rfl) 0 rfl ?_
        refine e_bipush (v := 7) (pc := 5) Xc (dT hX6_isUnder 5 rfl) rfl ?_
        refine e_icmp_geN (x := 1) (y := 7) (tgt := 36) (pc := 7) Xc (dT hX6_isUnder 6 rfl) rfl (by omega) (by omega) (fun c7 => ?_) (fun c7 => ?_)
        · skip
          exact absurd c7 (by decide)
        · skip
          refine e_iload_n (pc := 10) Xc (dT hX6_isUnder 7 rfl) 1 rfl ?_
          refine e_iconst (v := -1) (pc := 11) Xc (dT hX6_isUnder 8 rfl) rfl ?_
          refine e_icmp_eq (tgt := 36) (pc := 12) Xc (dT hX6_isUnder 9 rfl) rfl (fun c12 => ?_) (fun c12 => ?_)
          · skip
            exact absurd c12 (by decide)
          · skip
            refine e_iload_n (pc := 15) Xc (dT hX6_isUnder 10 rfl) 1 rfl ?_
            refine e_iload_n (pc := 16) Xc (dT hX6_isUnder 11 rfl) 3 rfl ?_
            refine e_icmp_neN (x := 0) (y := k) (tgt := 22) (pc := 17) Xc (dT hX6_isUnder 12 rfl) rfl (by omega) (by omega) (fun c17 => ?_) (fun c17 => ?_)
            · skip
              refine e_gets_X6_303 (pc := 22) Xc (dT hX6_isUnder 15 rfl) ?_
              refine e_iload_n (pc := 25) Xc (dT hX6_isUnder 16 rfl) 1 rfl ?_
              refine cl_X6_106 (pc := 26) (k := 0) (n := 0) (S := []) Xc (c_get hSA.1 (by decide) (by decide) 0 (by decide)) (dT hX6_isUnder 17 rfl) rfl (Nat.le_of_ble_eq_true rfl) (Nat.le_of_ble_eq_true rfl) (Nat.le_of_ble_eq_true rfl) rfl (Nat.le_of_ble_eq_true rfl) (fun r4 σ5 hq6 => ?_)
              obtain ⟨r4e, r4s⟩ := hq6
              have r4e := r4e.symm; subst r4e; have r4s := r4s.symm; subst r4s
              refine e_val (y := (-1)) (show aboF 0 = (-1) from rfl) ?_
              refine e_istore_n (L' := [(2, .int (-1)), (3, .int 1), (0, .int 3), (1, .int (nI k))]) (pc := 29) Xc (dT hX6_isUnder 18 rfl) (by decide) rfl ?_
              refine e_iincN (a := 1) (b := 1) (L' := [(3, .int 2), (2, .int (-1)), (0, .int 3), (1, .int (nI k))]) (pc := 30) Xc (dT hX6_isUnder 19 rfl) 1 rfl rfl (by decide) rfl ?_
              refine e_goto (tgt := 4) (pc := 33) Xc (dT hX6_isUnder 20 rfl) rfl ?_
              refine e_iload_n (pc := 4) Xc (dT hX6_isUnder 4 rfl) 0 rfl ?_
              refine e_bipush (v := 7) (pc := 5) Xc (dT hX6_isUnder 5 rfl) rfl ?_
              refine e_icmp_geN (x := 2) (y := 7) (tgt := 36) (pc := 7) Xc (dT hX6_isUnder 6 rfl) rfl (by omega) (by omega) (fun c7 => ?_) (fun c7 => ?_)
              · skip
                exact absurd c7 (by decide)
              · skip
                refine e_iload_n (pc := 10) Xc (dT hX6_isUnder 7 rfl) 1 rfl ?_
                refine e_iconst (v := -1) (pc := 11) Xc (dT hX6_isUnder 8 rfl) rfl ?_
                refine e_icmp_eq (tgt := 36) (pc := 12) Xc (dT hX6_isUnder 9 rfl) rfl (fun c12 => ?_) (fun c12 => ?_)
                · skip
                  refine e_iconst (v := 0) (pc := 36) Xc (dT hX6_isUnder 21 rfl) rfl ?_
                  refine e_zret (pc := 37) Xc hQ (dT hX6_isUnder 22 rfl) (Nat.le_refl _) (Nat.le_refl _) (Or.inl rfl) ?_
                  refine ⟨?_, rfl⟩
                  have hk7_ : k = 0 ∨ k = 1 ∨ k = 2 ∨ k = 3 ∨ k = 4 ∨ k = 5 ∨ k = 6 := by omega
                  rcases hk7_ with rfl | rfl | rfl | rfl | rfl | rfl | rfl <;> first | omega | decide
                · skip
                  exact absurd c12 (by decide)
            · skip
              refine e_iconst (v := 1) (pc := 20) Xc (dT hX6_isUnder 13 rfl) rfl ?_
              refine e_zret (pc := 21) Xc hQ (dT hX6_isUnder 14 rfl) (Nat.le_refl _) (Nat.le_refl _) (Or.inr rfl) ?_
              refine ⟨?_, rfl⟩
              have hk7_ : k = 0 ∨ k = 1 ∨ k = 2 ∨ k = 3 ∨ k = 4 ∨ k = 5 ∨ k = 6 := by omega
              rcases hk7_ with rfl | rfl | rfl | rfl | rfl | rfl | rfl <;> first | omega | decide
      · skip
        refine e_iconst (v := 1) (pc := 20) Xc (dT hX6_isUnder 13 rfl) rfl ?_
        refine e_zret (pc := 21) Xc hQ (dT hX6_isUnder 14 rfl) (Nat.le_refl _) (Nat.le_refl _) (Or.inr rfl) ?_
        refine ⟨?_, rfl⟩
        have hk7_ : k = 0 ∨ k = 1 ∨ k = 2 ∨ k = 3 ∨ k = 4 ∨ k = 5 ∨ k = 6 := by omega
        rcases hk7_ with rfl | rfl | rfl | rfl | rfl | rfl | rfl <;> first | omega | decide
set_option maxRecDepth 100000 in
set_option maxHeartbeats 4000000 in
theorem c6_under4 {G : xG} {σ : xS} (hSA : PSA G σ) (k : Nat) (hk : k ≤ 6) : CI G yX6_isUnder cX6_isUnder 4 (some .boolean) 1 0 0 [.int 4, .int (nI k)] σ (fun z σ1 => z = bI (undF (nI 4) (nI k)) ∧ σ1 = σ) := by
  refine Met.ofX (by decide +kernel) (Nat.le_of_ble_eq_true rfl) (fun μ Xc hQ hnm => ?_)
  have Xc : xC G μ cX6_isUnder 4 RX6 (some .boolean) 1 0 0 := Xc
  show Ev G μ 4 0 0 0 [(0, .int 4), (1, .int (nI k))] [] σ
  refine e_iload_n (pc := 0) Xc (dT hX6_isUnder 0 rfl) 0 rfl ?_
  refine e_istore_n (L' := [(2, .int 4), (0, .int 4), (1, .int (nI k))]) (pc := 1) Xc (dT hX6_isUnder 1 rfl) (by decide) rfl ?_
  refine e_iconst (v := 0) (pc := 2) Xc (dT hX6_isUnder 2 rfl) rfl ?_
  refine e_istore_n (L' := [(3, .int 0), (2, .int 4), (0, .int 4), (1, .int (nI k))]) (pc := 3) Xc (dT hX6_isUnder 3 rfl) (by decide) rfl ?_
  refine e_iload_n (pc := 4) Xc (dT hX6_isUnder 4 rfl) 0 rfl ?_
  refine e_bipush (v := 7) (pc := 5) Xc (dT hX6_isUnder 5 rfl) rfl ?_
  refine e_icmp_geN (x := 0) (y := 7) (tgt := 36) (pc := 7) Xc (dT hX6_isUnder 6 rfl) rfl (by omega) (by omega) (fun c7 => ?_) (fun c7 => ?_)
  · skip
    exact absurd c7 (by decide)
  · skip
    refine e_iload_n (pc := 10) Xc (dT hX6_isUnder 7 rfl) 1 rfl ?_
    refine e_iconst (v := -1) (pc := 11) Xc (dT hX6_isUnder 8 rfl) rfl ?_
    refine e_icmp_eq (tgt := 36) (pc := 12) Xc (dT hX6_isUnder 9 rfl) rfl (fun c12 => ?_) (fun c12 => ?_)
    · skip
      exact absurd c12 (by decide)
    · skip
      refine e_iload_n (pc := 15) Xc (dT hX6_isUnder 10 rfl) 1 rfl ?_
      refine e_iload_n (pc := 16) Xc (dT hX6_isUnder 11 rfl) 3 rfl ?_
      refine e_icmp_neN (x := 4) (y := k) (tgt := 22) (pc := 17) Xc (dT hX6_isUnder 12 rfl) rfl (by omega) (by omega) (fun c17 => ?_) (fun c17 => ?_)
      · skip
        refine e_gets_X6_303 (pc := 22) Xc (dT hX6_isUnder 15 rfl) ?_
        refine e_iload_n (pc := 25) Xc (dT hX6_isUnder 16 rfl) 1 rfl ?_
        refine cl_X6_106 (pc := 26) (k := 0) (n := 0) (S := []) Xc (c_get hSA.1 (by decide) (by decide) 4 (by decide)) (dT hX6_isUnder 17 rfl) rfl (Nat.le_of_ble_eq_true rfl) (Nat.le_of_ble_eq_true rfl) (Nat.le_of_ble_eq_true rfl) rfl (Nat.le_of_ble_eq_true rfl) (fun r1 σ2 hq3 => ?_)
        obtain ⟨r1e, r1s⟩ := hq3
        have r1e := r1e.symm; subst r1e; have r1s := r1s.symm; subst r1s
        refine e_val (y := 1) (show aboF 4 = 1 from rfl) ?_
        refine e_istore_n (L' := [(2, .int 1), (3, .int 0), (0, .int 4), (1, .int (nI k))]) (pc := 29) Xc (dT hX6_isUnder 18 rfl) (by decide) rfl ?_
        refine e_iincN (a := 0) (b := 1) (L' := [(3, .int 1), (2, .int 1), (0, .int 4), (1, .int (nI k))]) (pc := 30) Xc (dT hX6_isUnder 19 rfl) 1 rfl rfl (by decide) rfl ?_
        refine e_goto (tgt := 4) (pc := 33) Xc (dT hX6_isUnder 20 rfl) rfl ?_
        refine e_iload_n (pc := 4) Xc (dT hX6_isUnder 4 rfl) 0 rfl ?_
        refine e_bipush (v := 7) (pc := 5) Xc (dT hX6_isUnder 5 rfl) rfl ?_
        refine e_icmp_geN (x := 1) (y := 7) (tgt := 36) (pc := 7) Xc (dT hX6_isUnder 6 rfl) rfl (by omega) (by omega) (fun c7 => ?_) (fun c7 => ?_)
        · skip
          exact absurd c7 (by decide)
        · skip
          refine e_iload_n (pc := 10) Xc (dT hX6_isUnder 7 rfl) 1 rfl ?_
          refine e_iconst (v := -1) (pc := 11) Xc (dT hX6_isUnder 8 rfl) rfl ?_
          refine e_icmp_eq (tgt := 36) (pc := 12) Xc (dT hX6_isUnder 9 rfl) rfl (fun c12 => ?_) (fun c12 => ?_)
          · skip
            exact absurd c12 (by decide)
          · skip
            refine e_iload_n (pc := 15) Xc (dT hX6_isUnder 10 rfl) 1 rfl ?_
            refine e_iload_n (pc := 16) Xc (dT hX6_isUnder 11 rfl) 3 rfl ?_
            refine e_icmp_neN (x := 1) (y := k) (tgt := 22) (pc := 17) Xc (dT hX6_isUnder 12 rfl) rfl (by omega) (by omega) (fun c17 => ?_) (fun c17 => ?_)
            · skip
              refine e_gets_X6_303 (pc := 22) Xc (dT hX6_isUnder 15 rfl) ?_
              refine e_iload_n (pc := 25) Xc (dT hX6_isUnder 16 rfl) 1 rfl ?_
              refine cl_X6_106 (pc := 26) (k := 0) (n := 0) (S := []) Xc (c_get hSA.1 (by decide) (by decide) 1 (by decide)) (dT hX6_isUnder 17 rfl) rfl (Nat.le_of_ble_eq_true rfl) (Nat.le_of_ble_eq_true rfl) (Nat.le_of_ble_eq_true rfl) rfl (Nat.le_of_ble_eq_true rfl) (fun r4 σ5 hq6 => ?_)
              obtain ⟨r4e, r4s⟩ := hq6
              have r4e := r4e.symm; subst r4e; have r4s := r4s.symm; subst r4s
              refine e_val (y := 0) (show aboF 1 = 0 from rfl) ?_
              refine e_istore_n (L' := [(2, .int 0), (3, .int 1), (0, .int 4), (1, .int (nI k))]) (pc := 29) Xc (dT hX6_isUnder 18 rfl) (by decide) rfl ?_
              refine e_iincN (a := 1) (b := 1) (L' := [(3, .int 2), (2, .int 0), (0, .int 4), (1, .int (nI k))]) (pc := 30) Xc (dT hX6_isUnder 19 rfl) 1 rfl rfl (by decide) rfl ?_
              refine e_goto (tgt := 4) (pc := 33) Xc (dT hX6_isUnder 20 rfl) rfl ?_
              refine e_iload_n (pc := 4) Xc (dT hX6_isUnder 4 rfl) 0 rfl ?_
              refine e_bipush (v := 7) (pc := 5) Xc (dT hX6_isUnder 5 rfl) rfl ?_
              refine e_icmp_geN (x := 2) (y := 7) (tgt := 36) (pc := 7) Xc (dT hX6_isUnder 6 rfl) rfl (by omega) (by omega) (fun c7 => ?_) (fun c7 => ?_)
              · skip
                exact absurd c7 (by decide)
              · skip
                refine e_iload_n (pc := 10) Xc (dT hX6_isUnder 7 rfl) 1 rfl ?_
                refine e_iconst (v := -1) (pc := 11) Xc (dT hX6_isUnder 8 rfl) rfl ?_
                refine e_icmp_eq (tgt := 36) (pc := 12) Xc (dT hX6_isUnder 9 rfl) rfl (fun c12 => ?_) (fun c12 => ?_)
                · skip
                  exact absurd c12 (by decide)
                · skip
                  refine e_iload_n (pc := 15) Xc (dT hX6_isUnder 10 rfl) 1 rfl ?_
                  refine e_iload_n (pc := 16) Xc (dT hX6_isUnder 11 rfl) 3 rfl ?_
                  refine e_icmp_neN (x := 0) (y := k) (tgt := 22) (pc := 17) Xc (dT hX6_isUnder 12 rfl) rfl (by omega) (by omega) (fun c17 => ?_) (fun c17 => ?_)
                  · skip
                    refine e_gets_X6_303 (pc := 22) Xc (dT hX6_isUnder 15 rfl) ?_
                    refine e_iload_n (pc := 25) Xc (dT hX6_isUnder 16 rfl) 1 rfl ?_
                    refine cl_X6_106 (pc := 26) (k := 0) (n := 0) (S := []) Xc (c_get hSA.1 (by decide) (by decide) 0 (by decide)) (dT hX6_isUnder 17 rfl) rfl (Nat.le_of_ble_eq_true rfl) (Nat.le_of_ble_eq_true rfl) (Nat.le_of_ble_eq_true rfl) rfl (Nat.le_of_ble_eq_true rfl) (fun r7 σ8 hq9 => ?_)
                    obtain ⟨r7e, r7s⟩ := hq9
                    have r7e := r7e.symm; subst r7e; have r7s := r7s.symm; subst r7s
                    refine e_val (y := (-1)) (show aboF 0 = (-1) from rfl) ?_
                    refine e_istore_n (L' := [(2, .int (-1)), (3, .int 2), (0, .int 4), (1, .int (nI k))]) (pc := 29) Xc (dT hX6_isUnder 18 rfl) (by decide) rfl ?_
                    refine e_iincN (a := 2) (b := 1) (L' := [(3, .int 3), (2, .int (-1)), (0, .int 4), (1, .int (nI k))]) (pc := 30) Xc (dT hX6_isUnder 19 rfl) 1 rfl rfl (by decide) rfl ?_
                    refine e_goto (tgt := 4) (pc := 33) Xc (dT hX6_isUnder 20 rfl) rfl ?_
                    refine e_iload_n (pc := 4) Xc (dT hX6_isUnder 4 rfl) 0 rfl ?_
                    refine e_bipush (v := 7) (pc := 5) Xc (dT hX6_isUnder 5 rfl) rfl ?_
                    refine e_icmp_geN (x := 3) (y := 7) (tgt := 36) (pc := 7) Xc (dT hX6_isUnder 6 rfl) rfl (by omega) (by omega) (fun c7 => ?_) (fun c7 => ?_)
                    · skip
                      exact absurd c7 (by decide)
                    · skip
                      refine e_iload_n (pc := 10) Xc (dT hX6_isUnder 7 rfl) 1 rfl ?_
                      refine e_iconst (v := -1) (pc := 11) Xc (dT hX6_isUnder 8 rfl) rfl ?_
                      refine e_icmp_eq (tgt := 36) (pc := 12) Xc (dT hX6_isUnder 9 rfl) rfl (fun c12 => ?_) (fun c12 => ?_)
                      · skip
                        refine e_iconst (v := 0) (pc := 36) Xc (dT hX6_isUnder 21 rfl) rfl ?_
                        refine e_zret (pc := 37) Xc hQ (dT hX6_isUnder 22 rfl) (Nat.le_refl _) (Nat.le_refl _) (Or.inl rfl) ?_
                        refine ⟨?_, rfl⟩
                        have hk7_ : k = 0 ∨ k = 1 ∨ k = 2 ∨ k = 3 ∨ k = 4 ∨ k = 5 ∨ k = 6 := by omega
                        rcases hk7_ with rfl | rfl | rfl | rfl | rfl | rfl | rfl <;> first | omega | decide
                      · skip
                        exact absurd c12 (by decide)
                  · skip
                    refine e_iconst (v := 1) (pc := 20) Xc (dT hX6_isUnder 13 rfl) rfl ?_
                    refine e_zret (pc := 21) Xc hQ (dT hX6_isUnder 14 rfl) (Nat.le_refl _) (Nat.le_refl _) (Or.inr rfl) ?_
                    refine ⟨?_, rfl⟩
                    have hk7_ : k = 0 ∨ k = 1 ∨ k = 2 ∨ k = 3 ∨ k = 4 ∨ k = 5 ∨ k = 6 := by omega
                    rcases hk7_ with rfl | rfl | rfl | rfl | rfl | rfl | rfl <;> first | omega | decide
            · skip
              refine e_iconst (v := 1) (pc := 20) Xc (dT hX6_isUnder 13 rfl) rfl ?_
              refine e_zret (pc := 21) Xc hQ (dT hX6_isUnder 14 rfl) (Nat.le_refl _) (Nat.le_refl _) (Or.inr rfl) ?_
              refine ⟨?_, rfl⟩
              have hk7_ : k = 0 ∨ k = 1 ∨ k = 2 ∨ k = 3 ∨ k = 4 ∨ k = 5 ∨ k = 6 := by omega
              rcases hk7_ with rfl | rfl | rfl | rfl | rfl | rfl | rfl <;> first | omega | decide
      · skip
        refine e_iconst (v := 1) (pc := 20) Xc (dT hX6_isUnder 13 rfl) rfl ?_
        refine e_zret (pc := 21) Xc hQ (dT hX6_isUnder 14 rfl) (Nat.le_refl _) (Nat.le_refl _) (Or.inr rfl) ?_
        refine ⟨?_, rfl⟩
        have hk7_ : k = 0 ∨ k = 1 ∨ k = 2 ∨ k = 3 ∨ k = 4 ∨ k = 5 ∨ k = 6 := by omega
        rcases hk7_ with rfl | rfl | rfl | rfl | rfl | rfl | rfl <;> first | omega | decide
set_option maxRecDepth 100000 in
set_option maxHeartbeats 4000000 in
theorem c6_under5 {G : xG} {σ : xS} (hSA : PSA G σ) (k : Nat) (hk : k ≤ 6) : CI G yX6_isUnder cX6_isUnder 4 (some .boolean) 1 0 0 [.int 5, .int (nI k)] σ (fun z σ1 => z = bI (undF (nI 5) (nI k)) ∧ σ1 = σ) := by
  refine Met.ofX (by decide +kernel) (Nat.le_of_ble_eq_true rfl) (fun μ Xc hQ hnm => ?_)
  have Xc : xC G μ cX6_isUnder 4 RX6 (some .boolean) 1 0 0 := Xc
  show Ev G μ 4 0 0 0 [(0, .int 5), (1, .int (nI k))] [] σ
  refine e_iload_n (pc := 0) Xc (dT hX6_isUnder 0 rfl) 0 rfl ?_
  refine e_istore_n (L' := [(2, .int 5), (0, .int 5), (1, .int (nI k))]) (pc := 1) Xc (dT hX6_isUnder 1 rfl) (by decide) rfl ?_
  refine e_iconst (v := 0) (pc := 2) Xc (dT hX6_isUnder 2 rfl) rfl ?_
  refine e_istore_n (L' := [(3, .int 0), (2, .int 5), (0, .int 5), (1, .int (nI k))]) (pc := 3) Xc (dT hX6_isUnder 3 rfl) (by decide) rfl ?_
  refine e_iload_n (pc := 4) Xc (dT hX6_isUnder 4 rfl) 0 rfl ?_
  refine e_bipush (v := 7) (pc := 5) Xc (dT hX6_isUnder 5 rfl) rfl ?_
  refine e_icmp_geN (x := 0) (y := 7) (tgt := 36) (pc := 7) Xc (dT hX6_isUnder 6 rfl) rfl (by omega) (by omega) (fun c7 => ?_) (fun c7 => ?_)
  · skip
    exact absurd c7 (by decide)
  · skip
    refine e_iload_n (pc := 10) Xc (dT hX6_isUnder 7 rfl) 1 rfl ?_
    refine e_iconst (v := -1) (pc := 11) Xc (dT hX6_isUnder 8 rfl) rfl ?_
    refine e_icmp_eq (tgt := 36) (pc := 12) Xc (dT hX6_isUnder 9 rfl) rfl (fun c12 => ?_) (fun c12 => ?_)
    · skip
      exact absurd c12 (by decide)
    · skip
      refine e_iload_n (pc := 15) Xc (dT hX6_isUnder 10 rfl) 1 rfl ?_
      refine e_iload_n (pc := 16) Xc (dT hX6_isUnder 11 rfl) 3 rfl ?_
      refine e_icmp_neN (x := 5) (y := k) (tgt := 22) (pc := 17) Xc (dT hX6_isUnder 12 rfl) rfl (by omega) (by omega) (fun c17 => ?_) (fun c17 => ?_)
      · skip
        refine e_gets_X6_303 (pc := 22) Xc (dT hX6_isUnder 15 rfl) ?_
        refine e_iload_n (pc := 25) Xc (dT hX6_isUnder 16 rfl) 1 rfl ?_
        refine cl_X6_106 (pc := 26) (k := 0) (n := 0) (S := []) Xc (c_get hSA.1 (by decide) (by decide) 5 (by decide)) (dT hX6_isUnder 17 rfl) rfl (Nat.le_of_ble_eq_true rfl) (Nat.le_of_ble_eq_true rfl) (Nat.le_of_ble_eq_true rfl) rfl (Nat.le_of_ble_eq_true rfl) (fun r1 σ2 hq3 => ?_)
        obtain ⟨r1e, r1s⟩ := hq3
        have r1e := r1e.symm; subst r1e; have r1s := r1s.symm; subst r1s
        refine e_val (y := 2) (show aboF 5 = 2 from rfl) ?_
        refine e_istore_n (L' := [(2, .int 2), (3, .int 0), (0, .int 5), (1, .int (nI k))]) (pc := 29) Xc (dT hX6_isUnder 18 rfl) (by decide) rfl ?_
        refine e_iincN (a := 0) (b := 1) (L' := [(3, .int 1), (2, .int 2), (0, .int 5), (1, .int (nI k))]) (pc := 30) Xc (dT hX6_isUnder 19 rfl) 1 rfl rfl (by decide) rfl ?_
        refine e_goto (tgt := 4) (pc := 33) Xc (dT hX6_isUnder 20 rfl) rfl ?_
        refine e_iload_n (pc := 4) Xc (dT hX6_isUnder 4 rfl) 0 rfl ?_
        refine e_bipush (v := 7) (pc := 5) Xc (dT hX6_isUnder 5 rfl) rfl ?_
        refine e_icmp_geN (x := 1) (y := 7) (tgt := 36) (pc := 7) Xc (dT hX6_isUnder 6 rfl) rfl (by omega) (by omega) (fun c7 => ?_) (fun c7 => ?_)
        · skip
          exact absurd c7 (by decide)
        · skip
          refine e_iload_n (pc := 10) Xc (dT hX6_isUnder 7 rfl) 1 rfl ?_
          refine e_iconst (v := -1) (pc := 11) Xc (dT hX6_isUnder 8 rfl) rfl ?_
          refine e_icmp_eq (tgt := 36) (pc := 12) Xc (dT hX6_isUnder 9 rfl) rfl (fun c12 => ?_) (fun c12 => ?_)
          · skip
            exact absurd c12 (by decide)
          · skip
            refine e_iload_n (pc := 15) Xc (dT hX6_isUnder 10 rfl) 1 rfl ?_
            refine e_iload_n (pc := 16) Xc (dT hX6_isUnder 11 rfl) 3 rfl ?_
            refine e_icmp_neN (x := 2) (y := k) (tgt := 22) (pc := 17) Xc (dT hX6_isUnder 12 rfl) rfl (by omega) (by omega) (fun c17 => ?_) (fun c17 => ?_)
            · skip
              refine e_gets_X6_303 (pc := 22) Xc (dT hX6_isUnder 15 rfl) ?_
              refine e_iload_n (pc := 25) Xc (dT hX6_isUnder 16 rfl) 1 rfl ?_
              refine cl_X6_106 (pc := 26) (k := 0) (n := 0) (S := []) Xc (c_get hSA.1 (by decide) (by decide) 2 (by decide)) (dT hX6_isUnder 17 rfl) rfl (Nat.le_of_ble_eq_true rfl) (Nat.le_of_ble_eq_true rfl) (Nat.le_of_ble_eq_true rfl) rfl (Nat.le_of_ble_eq_true rfl) (fun r4 σ5 hq6 => ?_)
              obtain ⟨r4e, r4s⟩ := hq6
              have r4e := r4e.symm; subst r4e; have r4s := r4s.symm; subst r4s
              refine e_val (y := 0) (show aboF 2 = 0 from rfl) ?_
              refine e_istore_n (L' := [(2, .int 0), (3, .int 1), (0, .int 5), (1, .int (nI k))]) (pc := 29) Xc (dT hX6_isUnder 18 rfl) (by decide) rfl ?_
              refine e_iincN (a := 1) (b := 1) (L' := [(3, .int 2), (2, .int 0), (0, .int 5), (1, .int (nI k))]) (pc := 30) Xc (dT hX6_isUnder 19 rfl) 1 rfl rfl (by decide) rfl ?_
              refine e_goto (tgt := 4) (pc := 33) Xc (dT hX6_isUnder 20 rfl) rfl ?_
              refine e_iload_n (pc := 4) Xc (dT hX6_isUnder 4 rfl) 0 rfl ?_
              refine e_bipush (v := 7) (pc := 5) Xc (dT hX6_isUnder 5 rfl) rfl ?_
              refine e_icmp_geN (x := 2) (y := 7) (tgt := 36) (pc := 7) Xc (dT hX6_isUnder 6 rfl) rfl (by omega) (by omega) (fun c7 => ?_) (fun c7 => ?_)
              · skip
                exact absurd c7 (by decide)
              · skip
                refine e_iload_n (pc := 10) Xc (dT hX6_isUnder 7 rfl) 1 rfl ?_
                refine e_iconst (v := -1) (pc := 11) Xc (dT hX6_isUnder 8 rfl) rfl ?_
                refine e_icmp_eq (tgt := 36) (pc := 12) Xc (dT hX6_isUnder 9 rfl) rfl (fun c12 => ?_) (fun c12 => ?_)
                · skip
                  exact absurd c12 (by decide)
                · skip
                  refine e_iload_n (pc := 15) Xc (dT hX6_isUnder 10 rfl) 1 rfl ?_
                  refine e_iload_n (pc := 16) Xc (dT hX6_isUnder 11 rfl) 3 rfl ?_
                  refine e_icmp_neN (x := 0) (y := k) (tgt := 22) (pc := 17) Xc (dT hX6_isUnder 12 rfl) rfl (by omega) (by omega) (fun c17 => ?_) (fun c17 => ?_)
                  · skip
                    refine e_gets_X6_303 (pc := 22) Xc (dT hX6_isUnder 15 rfl) ?_
                    refine e_iload_n (pc := 25) Xc (dT hX6_isUnder 16 rfl) 1 rfl ?_
                    refine cl_X6_106 (pc := 26) (k := 0) (n := 0) (S := []) Xc (c_get hSA.1 (by decide) (by decide) 0 (by decide)) (dT hX6_isUnder 17 rfl) rfl (Nat.le_of_ble_eq_true rfl) (Nat.le_of_ble_eq_true rfl) (Nat.le_of_ble_eq_true rfl) rfl (Nat.le_of_ble_eq_true rfl) (fun r7 σ8 hq9 => ?_)
                    obtain ⟨r7e, r7s⟩ := hq9
                    have r7e := r7e.symm; subst r7e; have r7s := r7s.symm; subst r7s
                    refine e_val (y := (-1)) (show aboF 0 = (-1) from rfl) ?_
                    refine e_istore_n (L' := [(2, .int (-1)), (3, .int 2), (0, .int 5), (1, .int (nI k))]) (pc := 29) Xc (dT hX6_isUnder 18 rfl) (by decide) rfl ?_
                    refine e_iincN (a := 2) (b := 1) (L' := [(3, .int 3), (2, .int (-1)), (0, .int 5), (1, .int (nI k))]) (pc := 30) Xc (dT hX6_isUnder 19 rfl) 1 rfl rfl (by decide) rfl ?_
                    refine e_goto (tgt := 4) (pc := 33) Xc (dT hX6_isUnder 20 rfl) rfl ?_
                    refine e_iload_n (pc := 4) Xc (dT hX6_isUnder 4 rfl) 0 rfl ?_
                    refine e_bipush (v := 7) (pc := 5) Xc (dT hX6_isUnder 5 rfl) rfl ?_
                    refine e_icmp_geN (x := 3) (y := 7) (tgt := 36) (pc := 7) Xc (dT hX6_isUnder 6 rfl) rfl (by omega) (by omega) (fun c7 => ?_) (fun c7 => ?_)
                    · skip
                      exact absurd c7 (by decide)
                    · skip
                      refine e_iload_n (pc := 10) Xc (dT hX6_isUnder 7 rfl) 1 rfl ?_
                      refine e_iconst (v := -1) (pc := 11) Xc (dT hX6_isUnder 8 rfl) rfl ?_
                      refine e_icmp_eq (tgt := 36) (pc := 12) Xc (dT hX6_isUnder 9 rfl) rfl (fun c12 => ?_) (fun c12 => ?_)
                      · skip
                        refine e_iconst (v := 0) (pc := 36) Xc (dT hX6_isUnder 21 rfl) rfl ?_
                        refine e_zret (pc := 37) Xc hQ (dT hX6_isUnder 22 rfl) (Nat.le_refl _) (Nat.le_refl _) (Or.inl rfl) ?_
                        refine ⟨?_, rfl⟩
                        have hk7_ : k = 0 ∨ k = 1 ∨ k = 2 ∨ k = 3 ∨ k = 4 ∨ k = 5 ∨ k = 6 := by omega
                        rcases hk7_ with rfl | rfl | rfl | rfl | rfl | rfl | rfl <;> first | omega | decide
                      · skip
                        exact absurd c12 (by decide)
                  · skip
                    refine e_iconst (v := 1) (pc := 20) Xc (dT hX6_isUnder 13 rfl) rfl ?_
                    refine e_zret (pc := 21) Xc hQ (dT hX6_isUnder 14 rfl) (Nat.le_refl _) (Nat.le_refl _) (Or.inr rfl) ?_
                    refine ⟨?_, rfl⟩
                    have hk7_ : k = 0 ∨ k = 1 ∨ k = 2 ∨ k = 3 ∨ k = 4 ∨ k = 5 ∨ k = 6 := by omega
                    rcases hk7_ with rfl | rfl | rfl | rfl | rfl | rfl | rfl <;> first | omega | decide
            · skip
              refine e_iconst (v := 1) (pc := 20) Xc (dT hX6_isUnder 13 rfl) rfl ?_
              refine e_zret (pc := 21) Xc hQ (dT hX6_isUnder 14 rfl) (Nat.le_refl _) (Nat.le_refl _) (Or.inr rfl) ?_
              refine ⟨?_, rfl⟩
              have hk7_ : k = 0 ∨ k = 1 ∨ k = 2 ∨ k = 3 ∨ k = 4 ∨ k = 5 ∨ k = 6 := by omega
              rcases hk7_ with rfl | rfl | rfl | rfl | rfl | rfl | rfl <;> first | omega | decide
      · skip
        refine e_iconst (v := 1) (pc := 20) Xc (dT hX6_isUnder 13 rfl) rfl ?_
        refine e_zret (pc := 21) Xc hQ (dT hX6_isUnder 14 rfl) (Nat.le_refl _) (Nat.le_refl _) (Or.inr rfl) ?_
        refine ⟨?_, rfl⟩
        have hk7_ : k = 0 ∨ k = 1 ∨ k = 2 ∨ k = 3 ∨ k = 4 ∨ k = 5 ∨ k = 6 := by omega
        rcases hk7_ with rfl | rfl | rfl | rfl | rfl | rfl | rfl <;> first | omega | decide
set_option maxRecDepth 100000 in
set_option maxHeartbeats 4000000 in
theorem c6_under6 {G : xG} {σ : xS} (hSA : PSA G σ) (k : Nat) (hk : k ≤ 6) : CI G yX6_isUnder cX6_isUnder 4 (some .boolean) 1 0 0 [.int 6, .int (nI k)] σ (fun z σ1 => z = bI (undF (nI 6) (nI k)) ∧ σ1 = σ) := by
  refine Met.ofX (by decide +kernel) (Nat.le_of_ble_eq_true rfl) (fun μ Xc hQ hnm => ?_)
  have Xc : xC G μ cX6_isUnder 4 RX6 (some .boolean) 1 0 0 := Xc
  show Ev G μ 4 0 0 0 [(0, .int 6), (1, .int (nI k))] [] σ
  refine e_iload_n (pc := 0) Xc (dT hX6_isUnder 0 rfl) 0 rfl ?_
  refine e_istore_n (L' := [(2, .int 6), (0, .int 6), (1, .int (nI k))]) (pc := 1) Xc (dT hX6_isUnder 1 rfl) (by decide) rfl ?_
  refine e_iconst (v := 0) (pc := 2) Xc (dT hX6_isUnder 2 rfl) rfl ?_
  refine e_istore_n (L' := [(3, .int 0), (2, .int 6), (0, .int 6), (1, .int (nI k))]) (pc := 3) Xc (dT hX6_isUnder 3 rfl) (by decide) rfl ?_
  refine e_iload_n (pc := 4) Xc (dT hX6_isUnder 4 rfl) 0 rfl ?_
  refine e_bipush (v := 7) (pc := 5) Xc (dT hX6_isUnder 5 rfl) rfl ?_
  refine e_icmp_geN (x := 0) (y := 7) (tgt := 36) (pc := 7) Xc (dT hX6_isUnder 6 rfl) rfl (by omega) (by omega) (fun c7 => ?_) (fun c7 => ?_)
  · skip
    exact absurd c7 (by decide)
  · skip
    refine e_iload_n (pc := 10) Xc (dT hX6_isUnder 7 rfl) 1 rfl ?_
    refine e_iconst (v := -1) (pc := 11) Xc (dT hX6_isUnder 8 rfl) rfl ?_
    refine e_icmp_eq (tgt := 36) (pc := 12) Xc (dT hX6_isUnder 9 rfl) rfl (fun c12 => ?_) (fun c12 => ?_)
    · skip
      exact absurd c12 (by decide)
    · skip
      refine e_iload_n (pc := 15) Xc (dT hX6_isUnder 10 rfl) 1 rfl ?_
      refine e_iload_n (pc := 16) Xc (dT hX6_isUnder 11 rfl) 3 rfl ?_
      refine e_icmp_neN (x := 6) (y := k) (tgt := 22) (pc := 17) Xc (dT hX6_isUnder 12 rfl) rfl (by omega) (by omega) (fun c17 => ?_) (fun c17 => ?_)
      · skip
        refine e_gets_X6_303 (pc := 22) Xc (dT hX6_isUnder 15 rfl) ?_
        refine e_iload_n (pc := 25) Xc (dT hX6_isUnder 16 rfl) 1 rfl ?_
        refine cl_X6_106 (pc := 26) (k := 0) (n := 0) (S := []) Xc (c_get hSA.1 (by decide) (by decide) 6 (by decide)) (dT hX6_isUnder 17 rfl) rfl (Nat.le_of_ble_eq_true rfl) (Nat.le_of_ble_eq_true rfl) (Nat.le_of_ble_eq_true rfl) rfl (Nat.le_of_ble_eq_true rfl) (fun r1 σ2 hq3 => ?_)
        obtain ⟨r1e, r1s⟩ := hq3
        have r1e := r1e.symm; subst r1e; have r1s := r1s.symm; subst r1s
        refine e_val (y := 3) (show aboF 6 = 3 from rfl) ?_
        refine e_istore_n (L' := [(2, .int 3), (3, .int 0), (0, .int 6), (1, .int (nI k))]) (pc := 29) Xc (dT hX6_isUnder 18 rfl) (by decide) rfl ?_
        refine e_iincN (a := 0) (b := 1) (L' := [(3, .int 1), (2, .int 3), (0, .int 6), (1, .int (nI k))]) (pc := 30) Xc (dT hX6_isUnder 19 rfl) 1 rfl rfl (by decide) rfl ?_
        refine e_goto (tgt := 4) (pc := 33) Xc (dT hX6_isUnder 20 rfl) rfl ?_
        refine e_iload_n (pc := 4) Xc (dT hX6_isUnder 4 rfl) 0 rfl ?_
        refine e_bipush (v := 7) (pc := 5) Xc (dT hX6_isUnder 5 rfl) rfl ?_
        refine e_icmp_geN (x := 1) (y := 7) (tgt := 36) (pc := 7) Xc (dT hX6_isUnder 6 rfl) rfl (by omega) (by omega) (fun c7 => ?_) (fun c7 => ?_)
        · skip
          exact absurd c7 (by decide)
        · skip
          refine e_iload_n (pc := 10) Xc (dT hX6_isUnder 7 rfl) 1 rfl ?_
          refine e_iconst (v := -1) (pc := 11) Xc (dT hX6_isUnder 8 rfl) rfl ?_
          refine e_icmp_eq (tgt := 36) (pc := 12) Xc (dT hX6_isUnder 9 rfl) rfl (fun c12 => ?_) (fun c12 => ?_)
          · skip
            exact absurd c12 (by decide)
          · skip
            refine e_iload_n (pc := 15) Xc (dT hX6_isUnder 10 rfl) 1 rfl ?_
            refine e_iload_n (pc := 16) Xc (dT hX6_isUnder 11 rfl) 3 rfl ?_
            refine e_icmp_neN (x := 3) (y := k) (tgt := 22) (pc := 17) Xc (dT hX6_isUnder 12 rfl) rfl (by omega) (by omega) (fun c17 => ?_) (fun c17 => ?_)
            · skip
              refine e_gets_X6_303 (pc := 22) Xc (dT hX6_isUnder 15 rfl) ?_
              refine e_iload_n (pc := 25) Xc (dT hX6_isUnder 16 rfl) 1 rfl ?_
              refine cl_X6_106 (pc := 26) (k := 0) (n := 0) (S := []) Xc (c_get hSA.1 (by decide) (by decide) 3 (by decide)) (dT hX6_isUnder 17 rfl) rfl (Nat.le_of_ble_eq_true rfl) (Nat.le_of_ble_eq_true rfl) (Nat.le_of_ble_eq_true rfl) rfl (Nat.le_of_ble_eq_true rfl) (fun r4 σ5 hq6 => ?_)
              obtain ⟨r4e, r4s⟩ := hq6
              have r4e := r4e.symm; subst r4e; have r4s := r4s.symm; subst r4s
              refine e_val (y := 0) (show aboF 3 = 0 from rfl) ?_
              refine e_istore_n (L' := [(2, .int 0), (3, .int 1), (0, .int 6), (1, .int (nI k))]) (pc := 29) Xc (dT hX6_isUnder 18 rfl) (by decide) rfl ?_
              refine e_iincN (a := 1) (b := 1) (L' := [(3, .int 2), (2, .int 0), (0, .int 6), (1, .int (nI k))]) (pc := 30) Xc (dT hX6_isUnder 19 rfl) 1 rfl rfl (by decide) rfl ?_
              refine e_goto (tgt := 4) (pc := 33) Xc (dT hX6_isUnder 20 rfl) rfl ?_
              refine e_iload_n (pc := 4) Xc (dT hX6_isUnder 4 rfl) 0 rfl ?_
              refine e_bipush (v := 7) (pc := 5) Xc (dT hX6_isUnder 5 rfl) rfl ?_
              refine e_icmp_geN (x := 2) (y := 7) (tgt := 36) (pc := 7) Xc (dT hX6_isUnder 6 rfl) rfl (by omega) (by omega) (fun c7 => ?_) (fun c7 => ?_)
              · skip
                exact absurd c7 (by decide)
              · skip
                refine e_iload_n (pc := 10) Xc (dT hX6_isUnder 7 rfl) 1 rfl ?_
                refine e_iconst (v := -1) (pc := 11) Xc (dT hX6_isUnder 8 rfl) rfl ?_
                refine e_icmp_eq (tgt := 36) (pc := 12) Xc (dT hX6_isUnder 9 rfl) rfl (fun c12 => ?_) (fun c12 => ?_)
                · skip
                  exact absurd c12 (by decide)
                · skip
                  refine e_iload_n (pc := 15) Xc (dT hX6_isUnder 10 rfl) 1 rfl ?_
                  refine e_iload_n (pc := 16) Xc (dT hX6_isUnder 11 rfl) 3 rfl ?_
                  refine e_icmp_neN (x := 0) (y := k) (tgt := 22) (pc := 17) Xc (dT hX6_isUnder 12 rfl) rfl (by omega) (by omega) (fun c17 => ?_) (fun c17 => ?_)
                  · skip
                    refine e_gets_X6_303 (pc := 22) Xc (dT hX6_isUnder 15 rfl) ?_
                    refine e_iload_n (pc := 25) Xc (dT hX6_isUnder 16 rfl) 1 rfl ?_
                    refine cl_X6_106 (pc := 26) (k := 0) (n := 0) (S := []) Xc (c_get hSA.1 (by decide) (by decide) 0 (by decide)) (dT hX6_isUnder 17 rfl) rfl (Nat.le_of_ble_eq_true rfl) (Nat.le_of_ble_eq_true rfl) (Nat.le_of_ble_eq_true rfl) rfl (Nat.le_of_ble_eq_true rfl) (fun r7 σ8 hq9 => ?_)
                    obtain ⟨r7e, r7s⟩ := hq9
                    have r7e := r7e.symm; subst r7e; have r7s := r7s.symm; subst r7s
                    refine e_val (y := (-1)) (show aboF 0 = (-1) from rfl) ?_
                    refine e_istore_n (L' := [(2, .int (-1)), (3, .int 2), (0, .int 6), (1, .int (nI k))]) (pc := 29) Xc (dT hX6_isUnder 18 rfl) (by decide) rfl ?_
                    refine e_iincN (a := 2) (b := 1) (L' := [(3, .int 3), (2, .int (-1)), (0, .int 6), (1, .int (nI k))]) (pc := 30) Xc (dT hX6_isUnder 19 rfl) 1 rfl rfl (by decide) rfl ?_
                    refine e_goto (tgt := 4) (pc := 33) Xc (dT hX6_isUnder 20 rfl) rfl ?_
                    refine e_iload_n (pc := 4) Xc (dT hX6_isUnder 4 rfl) 0 rfl ?_
                    refine e_bipush (v := 7) (pc := 5) Xc (dT hX6_isUnder 5 rfl) rfl ?_
                    refine e_icmp_geN (x := 3) (y := 7) (tgt := 36) (pc := 7) Xc (dT hX6_isUnder 6 rfl) rfl (by omega) (by omega) (fun c7 => ?_) (fun c7 => ?_)
                    · skip
                      exact absurd c7 (by decide)
                    · skip
                      refine e_iload_n (pc := 10) Xc (dT hX6_isUnder 7 rfl) 1 rfl ?_
                      refine e_iconst (v := -1) (pc := 11) Xc (dT hX6_isUnder 8 rfl) rfl ?_
                      refine e_icmp_eq (tgt := 36) (pc := 12) Xc (dT hX6_isUnder 9 rfl) rfl (fun c12 => ?_) (fun c12 => ?_)
                      · skip
                        refine e_iconst (v := 0) (pc := 36) Xc (dT hX6_isUnder 21 rfl) rfl ?_
                        refine e_zret (pc := 37) Xc hQ (dT hX6_isUnder 22 rfl) (Nat.le_refl _) (Nat.le_refl _) (Or.inl rfl) ?_
                        refine ⟨?_, rfl⟩
                        have hk7_ : k = 0 ∨ k = 1 ∨ k = 2 ∨ k = 3 ∨ k = 4 ∨ k = 5 ∨ k = 6 := by omega
                        rcases hk7_ with rfl | rfl | rfl | rfl | rfl | rfl | rfl <;> first | omega | decide
                      · skip
                        exact absurd c12 (by decide)
                  · skip
                    refine e_iconst (v := 1) (pc := 20) Xc (dT hX6_isUnder 13 rfl) rfl ?_
                    refine e_zret (pc := 21) Xc hQ (dT hX6_isUnder 14 rfl) (Nat.le_refl _) (Nat.le_refl _) (Or.inr rfl) ?_
                    refine ⟨?_, rfl⟩
                    have hk7_ : k = 0 ∨ k = 1 ∨ k = 2 ∨ k = 3 ∨ k = 4 ∨ k = 5 ∨ k = 6 := by omega
                    rcases hk7_ with rfl | rfl | rfl | rfl | rfl | rfl | rfl <;> first | omega | decide
            · skip
              refine e_iconst (v := 1) (pc := 20) Xc (dT hX6_isUnder 13 rfl) rfl ?_
              refine e_zret (pc := 21) Xc hQ (dT hX6_isUnder 14 rfl) (Nat.le_refl _) (Nat.le_refl _) (Or.inr rfl) ?_
              refine ⟨?_, rfl⟩
              have hk7_ : k = 0 ∨ k = 1 ∨ k = 2 ∨ k = 3 ∨ k = 4 ∨ k = 5 ∨ k = 6 := by omega
              rcases hk7_ with rfl | rfl | rfl | rfl | rfl | rfl | rfl <;> first | omega | decide
      · skip
        refine e_iconst (v := 1) (pc := 20) Xc (dT hX6_isUnder 13 rfl) rfl ?_
        refine e_zret (pc := 21) Xc hQ (dT hX6_isUnder 14 rfl) (Nat.le_refl _) (Nat.le_refl _) (Or.inr rfl) ?_
        refine ⟨?_, rfl⟩
        have hk7_ : k = 0 ∨ k = 1 ∨ k = 2 ∨ k = 3 ∨ k = 4 ∨ k = 5 ∨ k = 6 := by omega
        rcases hk7_ with rfl | rfl | rfl | rfl | rfl | rfl | rfl <;> first | omega | decide
theorem c6_isUnder {G : xG} {σ : xS} (hSA : PSA G σ) (kk k : Nat) (hkk : kk ≤ 6) (hk : k ≤ 6) : CI G yX6_isUnder cX6_isUnder 4 (some .boolean) 1 0 0 [.int (nI kk), .int (nI k)] σ (fun z σ1 => z = bI (undF (nI kk) (nI k)) ∧ σ1 = σ) := by
  have hc_ : kk = 0 ∨ kk = 1 ∨ kk = 2 ∨ kk = 3 ∨ kk = 4 ∨ kk = 5 ∨ kk = 6 := by omega
  rcases hc_ with rfl | rfl | rfl | rfl | rfl | rfl | rfl
  · exact c6_under0 hSA k hk
  · exact c6_under1 hSA k hk
  · exact c6_under2 hSA k hk
  · exact c6_under3 hSA k hk
  · exact c6_under4 hSA k hk
  · exact c6_under5 hSA k hk
  · exact c6_under6 hSA k hk
set_option maxRecDepth 100000 in
set_option maxHeartbeats 4000000 in
theorem c6_fraction {G : xG} {σ : xS} (a b : Nat) (ha : a ≤ 1000) (hb : b ≤ 7) (hb0 : 0 < b) (part : Int32) : CL G yX6_fraction cX6_fraction 7 (some .long) 0 0 0 [.int (nI a), .int (nI b), .int part] σ (fun z σ1 => z = loF a b part ∧ σ1 = σ) := by
  refine Met.ofX (by decide +kernel) (Nat.le_of_ble_eq_true rfl) (fun μ Xc hQ hnm => ?_)
  have Xc : xC G μ cX6_fraction 7 RX6 (some .long) 0 0 0 := Xc
  show Ev G μ 7 0 0 0 [(0, .int (nI a)), (1, .int (nI b)), (2, .int part)] [] σ
  refine e_iload_n (pc := 0) Xc (dT hX6_fraction 0 rfl) 0 rfl ?_
  refine e_istore_n (L' := [(3, .int (nI a)), (0, .int (nI a)), (1, .int (nI b)), (2, .int part)]) (pc := 1) Xc (dT hX6_fraction 1 rfl) (by decide) rfl ?_
  refine e_iload_n (pc := 2) Xc (dT hX6_fraction 2 rfl) 2 rfl ?_
  refine e_istore (L' := [(4, .int (nI b)), (3, .int (nI a)), (0, .int (nI a)), (1, .int (nI b)), (2, .int part)]) (pc := 3) Xc (dT hX6_fraction 3 rfl) (by decide) rfl ?_
  refine e_iconst (v := 0) (pc := 5) Xc (dT hX6_fraction 4 rfl) rfl ?_
  refine e_istore (L' := [(5, .int 0), (4, .int (nI b)), (3, .int (nI a)), (0, .int (nI a)), (1, .int (nI b)), (2, .int part)]) (pc := 6) Xc (dT hX6_fraction 5 rfl) (by decide) rfl ?_
  have lp8 : ∀ (n8 : Nat) (p_ q_ i_ : Nat), q_ < n8 → (i_ + q_ ≤ 7) → (Nat.gcd p_ q_ = Nat.gcd a b) → (p_ ≤ 1000) → (q_ ≤ 7) → Ev G μ 7 0 0 8 [(0, .int (nI a)), (1, .int (nI b)), (2, .int part), (3, .int (nI p_)), (4, .int (nI q_)), (5, .int (nI i_))] [] σ := by
    intro n8
    induction n8 with
    | zero => intro p_ q_ i_ hn; exact absurd hn (Nat.not_lt_zero _)
    | succ n8 ih8 =>
      intro p_ q_ i_ hn8 hi_ hg_ hp_ hq_
      refine e_iload (pc := 8) Xc (dT hX6_fraction 6 rfl) 5 rfl ?_
      refine e_bipush (v := 99) (pc := 10) Xc (dT hX6_fraction 7 rfl) rfl ?_
      refine e_icmp_geN (x := i_) (y := 99) (tgt := 39) (pc := 12) Xc (dT hX6_fraction 8 rfl) rfl (by omega) (by omega) (fun c12 => ?_) (fun c12 => ?_)
      · skip
        exact absurd c12 (by omega)
      · skip
        refine e_iload (pc := 15) Xc (dT hX6_fraction 9 rfl) 4 rfl ?_
        refine e_if_eq (tgt := 39) (pc := 17) Xc (dT hX6_fraction 10 rfl) rfl (fun c17 => ?_) (fun c17 => ?_)
        · skip
          have hq0_ : q_ = 0 := (nI_eq (by omega) (by decide)).mp c17
          have hpe_ : p_ = Nat.gcd a b := by rw [← hg_, hq0_, Nat.gcd_zero_right]
          refine e_iload_n (pc := 39) Xc (dT hX6_fraction 21 rfl) 3 rfl ?_
          refine e_if_ne (tgt := 47) (pc := 40) Xc (dT hX6_fraction 22 rfl) rfl (fun c40 => ?_) (fun c40 => ?_)
          · skip
            have hp0_ : 0 < p_ := by
              rcases Nat.eq_zero_or_pos p_ with q | q
              · subst q; exact absurd rfl c40
              · exact q
            refine e_iload_n (pc := 47) Xc (dT hX6_fraction 25 rfl) 2 rfl ?_
            refine e_if_ne (tgt := 58) (pc := 48) Xc (dT hX6_fraction 26 rfl) rfl (fun c48 => ?_) (fun c48 => ?_)
            · skip
              refine e_iload_n (pc := 58) Xc (dT hX6_fraction 32 rfl) 1 rfl ?_
              refine e_iload_n (pc := 59) Xc (dT hX6_fraction 33 rfl) 3 rfl ?_
              refine e_idivN (a := b) (b := p_) (pc := 60) Xc (dT hX6_fraction 34 rfl) (by omega) hp0_ (by omega) ?_
              refine e_i2l (v := lN (b / p_)) (pc := 61) Xc (dT hX6_fraction 35 rfl) (nI_l (Nat.lt_of_le_of_lt (Nat.div_le_self _ _) (by omega))) ?_
              refine e_lret (pc := 62) Xc hQ (dT hX6_fraction 36 rfl) (Nat.le_refl _) (Nat.le_refl _) ?_
              exact ⟨by rw [loF, if_neg c48, ← hpe_], rfl⟩
            · skip
              refine e_iload_n (pc := 51) Xc (dT hX6_fraction 27 rfl) 0 rfl ?_
              refine e_iload_n (pc := 52) Xc (dT hX6_fraction 28 rfl) 3 rfl ?_
              refine e_idivN (a := a) (b := p_) (pc := 53) Xc (dT hX6_fraction 29 rfl) (by omega) hp0_ (by omega) ?_
              refine e_i2l (v := lN (a / p_)) (pc := 54) Xc (dT hX6_fraction 30 rfl) (nI_l (Nat.lt_of_le_of_lt (Nat.div_le_self _ _) (by omega))) ?_
              refine e_goto (tgt := 62) (pc := 55) Xc (dT hX6_fraction 31 rfl) rfl ?_
              refine e_lret (pc := 62) Xc hQ (dT hX6_fraction 36 rfl) (Nat.le_refl _) (Nat.le_refl _) ?_
              exact ⟨by rw [loF, if_pos c48, ← hpe_], rfl⟩
          · skip
            have hgp_ := Nat.gcd_pos_of_pos_right a hb0
            exact absurd ((nI_eq (show p_ < 2 ^ 31 by omega) (show 0 < 2 ^ 31 by decide)).mp c40) (by omega)
        · skip
          have hq1_ : 0 < q_ := by
            rcases Nat.eq_zero_or_pos q_ with q | q
            · subst q; exact absurd rfl c17
            · exact q
          have hml_ := Nat.mod_lt p_ hq1_
          refine e_iload_n (pc := 20) Xc (dT hX6_fraction 11 rfl) 3 rfl ?_
          refine e_iload (pc := 21) Xc (dT hX6_fraction 12 rfl) 4 rfl ?_
          refine e_iremN (a := p_) (b := q_) (pc := 23) Xc (dT hX6_fraction 13 rfl) (by omega) (by omega) (by omega) ?_
          refine e_istore (L' := [(6, .int (nI (p_ % q_))), (0, .int (nI a)), (1, .int (nI b)), (2, .int part), (3, .int (nI p_)), (4, .int (nI q_)), (5, .int (nI i_))]) (pc := 24) Xc (dT hX6_fraction 14 rfl) (by decide) rfl ?_
          refine e_iload (pc := 26) Xc (dT hX6_fraction 15 rfl) 5 rfl ?_
          refine e_istore_n (L' := [(3, .int (nI q_)), (6, .int (nI (p_ % q_))), (0, .int (nI a)), (1, .int (nI b)), (2, .int part), (4, .int (nI q_)), (5, .int (nI i_))]) (pc := 28) Xc (dT hX6_fraction 16 rfl) (by decide) rfl ?_
          refine e_iload (pc := 29) Xc (dT hX6_fraction 17 rfl) 1 rfl ?_
          refine e_istore (L' := [(4, .int (nI (p_ % q_))), (3, .int (nI q_)), (6, .int (nI (p_ % q_))), (0, .int (nI a)), (1, .int (nI b)), (2, .int part), (5, .int (nI i_))]) (pc := 31) Xc (dT hX6_fraction 18 rfl) (by decide) rfl ?_
          refine e_iincN (a := i_) (b := 1) (L' := [(5, .int (nI (i_ + 1))), (4, .int (nI (p_ % q_))), (3, .int (nI q_)), (6, .int (nI (p_ % q_))), (0, .int (nI a)), (1, .int (nI b)), (2, .int part)]) (pc := 33) Xc (dT hX6_fraction 19 rfl) 6 rfl rfl (by decide) rfl ?_
          refine e_goto (tgt := 8) (pc := 36) Xc (dT hX6_fraction 20 rfl) rfl ?_
          refine Ev.pick (L' := [(0, .int (nI a)), (1, .int (nI b)), (2, .int part), (3, .int (nI q_)), (4, .int (nI (p_ % q_))), (5, .int (nI (i_ + 1)))]) [4, 5, 6, 2, 1, 0] rfl ?_
          exact ih8 q_ (p_ % q_) (i_ + 1) (by omega) (by have := Nat.mod_lt p_ hq1_; omega) (gcd_step hg_) (by omega) (by have := Nat.mod_lt p_ hq1_; omega)
  refine Ev.pick (L' := [(0, .int (nI a)), (1, .int (nI b)), (2, .int part), (3, .int (nI a)), (4, .int (nI b)), (5, .int 0)]) [3, 4, 5, 2, 1, 0] rfl ?_
  exact lp8 ((b) + 1) a b 0 (Nat.lt_succ_self _) (by omega) rfl ha hb
set_option maxRecDepth 100000 in
set_option maxHeartbeats 4000000 in
theorem c6_comer {G : xG} {σ : xS} {x : Nat} {Fx : Nat → Int32} {Ax : Nat → Nat → Int32} (hx : PX6 σ x Fx (t6 x) Ax) {tw nr nb : Nat} {X : Nat → Int32} {t : xT} {ln : Nat} (hXn : WX σ (x + 1) tw X nr nb t ln) (c k : Nat) (hc : c < 256) (hk : k < nr) : CI G yX6_comer cX6_comer 3 (some .int) 0 0 0 [.ref x, .int (nI c), .int (nI k)] σ (fun z σ1 => z = nI (odg c nr k) ∧ σ1 = σ) := by
  refine Met.ofX (by decide +kernel) (Nat.le_of_ble_eq_true rfl) (fun μ Xc hQ hnm => ?_)
  have Xc : xC G μ cX6_comer 3 RX6 (some .int) 0 0 0 := Xc
  have hr4 := hXn.gd.1.r4
  show Ev G μ 3 0 0 0 [(0, .ref x), (1, .int (nI c)), (2, .int (nI k))] [] σ
  obtain ⟨Fw1, Tw1, Aw1, hBw1, htw1⟩ := id hXn
  have hWw1 := hBw1.2.1
  refine e_iload_n (pc := 0) Xc (dT hX6_comer 0 rfl) 1 rfl ?_
  refine e_iconst (v := 2) (pc := 1) Xc (dT hX6_comer 1 rfl) rfl ?_
  refine e_aload_n (pc := 2) Xc (dT hX6_comer 2 rfl) 0 rfl ?_
  refine gf_X6_12 (pc := 3) Xc (dT hX6_comer 3 rfl) hx.o rfl ?_
  refine gf_X6_92 (pc := 6) Xc (dT hX6_comer 4 rfl) hBw1.1.o rfl ?_
  refine e_val (y := nI nr) hWw1.2.2.2.2.2.2.1 ?_
  refine e_iconst (v := 1) (pc := 9) Xc (dT hX6_comer 5 rfl) rfl ?_
  refine e_isubN (a := nr) (b := 1) (pc := 10) Xc (dT hX6_comer 6 rfl) (by omega) ?_
  refine e_iload_n (pc := 11) Xc (dT hX6_comer 7 rfl) 2 rfl ?_
  refine e_isubN (a := nr - 1) (b := k) (pc := 12) Xc (dT hX6_comer 8 rfl) (by omega) ?_
  refine e_imulN (a := 2) (b := (nr - 1) - k) (pc := 13) Xc (dT hX6_comer 9 rfl) ?_
  refine e_ishr (pc := 14) Xc (dT hX6_comer 10 rfl) ?_
  refine e_val (y := nI (c / 2 ^ (2 * (nr - 1 - k)))) (shrN (by omega) (by omega)) ?_
  refine e_iconst (v := 3) (pc := 15) Xc (dT hX6_comer 11 rfl) rfl ?_
  refine e_iand (pc := 16) Xc (dT hX6_comer 12 rfl) ?_
  refine e_val (y := nI (odg c nr k)) (pk_andN (Nat.lt_of_le_of_lt (Nat.div_le_self _ _) (by omega)) (m := 3) 2 (by decide)) ?_
  refine e_iret (pc := 17) Xc hQ (dT hX6_comer 13 rfl) (Nat.le_refl _) (Nat.le_refl _) ?_
  exact ⟨rfl, rfl⟩
set_option maxRecDepth 100000 in
set_option maxHeartbeats 4000000 in
theorem c6_isOrder {G : xG} {σ : xS} {x : Nat} {Fx : Nat → Int32} {Ax : Nat → Nat → Int32} (hx : PX6 σ x Fx (t6 x) Ax) {tw nr nb : Nat} {X : Nat → Int32} {t : xT} {ln : Nat} (hXn : WX σ (x + 1) tw X nr nb t ln) (c : Nat) (hc : c < 256) : CI G yX6_isOrder cX6_isOrder 4 (some .boolean) 1 0 0 [.ref x, .int (nI c)] σ (fun z σ1 => z = bI (isOd c nr) ∧ σ1 = σ) := by
  refine Met.ofX (by decide +kernel) (Nat.le_of_ble_eq_true rfl) (fun μ Xc hQ hnm => ?_)
  have Xc : xC G μ cX6_isOrder 4 RX6 (some .boolean) 1 0 0 := Xc
  have hr4 := hXn.gd.1.r4
  show Ev G μ 4 0 0 0 [(0, .ref x), (1, .int (nI c))] [] σ
  obtain ⟨Fw1, Tw1, Aw1, hBw1, htw1⟩ := id hXn
  have hWw1 := hBw1.2.1
  refine e_iconst (v := 0) (pc := 0) Xc (dT hX6_isOrder 0 rfl) rfl ?_
  refine e_istore_n (L' := [(2, .int 0), (0, .ref x), (1, .int (nI c))]) (pc := 1) Xc (dT hX6_isOrder 1 rfl) (by decide) rfl ?_
  refine e_iconst (v := 0) (pc := 2) Xc (dT hX6_isOrder 2 rfl) rfl ?_
  refine e_istore_n (L' := [(3, .int 0), (2, .int 0), (0, .ref x), (1, .int (nI c))]) (pc := 3) Xc (dT hX6_isOrder 3 rfl) (by decide) rfl ?_
  have lp4 : ∀ (n4 : Nat) (k_ : Nat), nr - k_ < n4 → (k_ ≤ nr) → Ev G μ 4 0 0 4 [(0, .ref x), (1, .int (nI c)), (2, .int (nI ((List.range k_).foldl (fun a k => a ||| 2 ^ odg c nr k) 0))), (3, .int (nI k_))] [] σ := by
    intro n4
    induction n4 with
    | zero => intro k_ hn; exact absurd hn (Nat.not_lt_zero _)
    | succ n4 ih4 =>
      intro k_ hn4 hk_
      refine e_iload_n (pc := 4) Xc (dT hX6_isOrder 4 rfl) 3 rfl ?_
      refine e_aload_n (pc := 5) Xc (dT hX6_isOrder 5 rfl) 0 rfl ?_
      refine gf_X6_12 (pc := 6) Xc (dT hX6_isOrder 6 rfl) hx.o rfl ?_
      refine gf_X6_92 (pc := 9) Xc (dT hX6_isOrder 7 rfl) hBw1.1.o rfl ?_
      refine e_val (y := nI nr) hWw1.2.2.2.2.2.2.1 ?_
      refine e_icmp_geN (x := k_) (y := nr) (tgt := 32) (pc := 12) Xc (dT hX6_isOrder 8 rfl) rfl (by omega) (by omega) (fun c12 => ?_) (fun c12 => ?_)
      · skip
        refine e_iload_n (pc := 32) Xc (dT hX6_isOrder 20 rfl) 2 rfl ?_
        refine e_iconst (v := 1) (pc := 33) Xc (dT hX6_isOrder 21 rfl) rfl ?_
        refine e_aload_n (pc := 34) Xc (dT hX6_isOrder 22 rfl) 0 rfl ?_
        refine gf_X6_12 (pc := 35) Xc (dT hX6_isOrder 23 rfl) hx.o rfl ?_
        refine gf_X6_92 (pc := 38) Xc (dT hX6_isOrder 24 rfl) hBw1.1.o rfl ?_
        refine e_val (y := nI nr) hWw1.2.2.2.2.2.2.1 ?_
        refine e_ishl (pc := 41) Xc (dT hX6_isOrder 25 rfl) ?_
        refine e_val (y := nI (2 ^ nr)) (sh1 (by omega)) ?_
        refine e_iconst (v := 1) (pc := 42) Xc (dT hX6_isOrder 26 rfl) rfl ?_
        refine e_isubN (a := 2 ^ nr) (b := 1) (pc := 43) Xc (dT hX6_isOrder 27 rfl) (by have := Nat.pow_le_pow_right (show 0 < 2 by decide) (show 0 ≤ nr by omega); omega) ?_
        have h16_ : 2 ^ nr ≤ 2 ^ 4 := Nat.pow_le_pow_right (by decide) hr4
        have hl16_ : (List.range k_).foldl (fun a k => a ||| 2 ^ odg c nr k) 0 < 16 := od_lt k_
        refine e_icmp_neN (x := (List.range k_).foldl (fun a k => a ||| 2 ^ odg c nr k) 0) (y := (2 ^ nr) - 1) (tgt := 51) (pc := 44) Xc (dT hX6_isOrder 28 rfl) rfl (by omega) (by omega) (fun c44 => ?_) (fun c44 => ?_)
        · skip
          refine e_iconst (v := 0) (pc := 51) Xc (dT hX6_isOrder 31 rfl) rfl ?_
          refine e_zret (pc := 52) Xc hQ (dT hX6_isOrder 32 rfl) (Nat.le_refl _) (Nat.le_refl _) (Or.inl rfl) ?_
          refine ⟨?_, rfl⟩
          have hke_ : k_ = nr := by omega
          subst hke_
          rw [isOd]
          symm
          show bI _ = 0
          rw [bI_0, beq_eq_false_iff_ne]
          exact c44
        · skip
          refine e_iconst (v := 1) (pc := 47) Xc (dT hX6_isOrder 29 rfl) rfl ?_
          refine e_goto (tgt := 52) (pc := 48) Xc (dT hX6_isOrder 30 rfl) rfl ?_
          refine e_zret (pc := 52) Xc hQ (dT hX6_isOrder 32 rfl) (Nat.le_refl _) (Nat.le_refl _) (Or.inr rfl) ?_
          refine ⟨?_, rfl⟩
          have hke_ : k_ = nr := by omega
          subst hke_
          rw [isOd]
          symm
          show bI _ = 1
          rw [bI_1, beq_iff_eq]
          exact c44
      · skip
        refine e_iload_n (pc := 15) Xc (dT hX6_isOrder 9 rfl) 2 rfl ?_
        refine e_iconst (v := 1) (pc := 16) Xc (dT hX6_isOrder 10 rfl) rfl ?_
        refine e_aload_n (pc := 17) Xc (dT hX6_isOrder 11 rfl) 0 rfl ?_
        refine e_iload_n (pc := 18) Xc (dT hX6_isOrder 12 rfl) 1 rfl ?_
        refine e_iload_n (pc := 19) Xc (dT hX6_isOrder 13 rfl) 3 rfl ?_
        refine cl_X6_210 (pc := 20) (k := 0) (n := 0) (S := [.int 1, .int (nI ((List.range k_).foldl (fun a k => a ||| 2 ^ odg c nr k) 0))]) Xc hx.o (c6_comer hx ⟨Fw1, Tw1, Aw1, hBw1, htw1⟩ c k_ (by omega) (by omega)) (dT hX6_isOrder 14 rfl) rfl (Nat.le_of_ble_eq_true rfl) (Nat.le_of_ble_eq_true rfl) (Nat.le_of_ble_eq_true rfl) rfl (Nat.le_of_ble_eq_true rfl) (fun r2 σ3 hq4 => ?_)
        obtain ⟨r2e, r2s⟩ := hq4
        have r2e := r2e.symm; subst r2e; have r2s := r2s.symm; subst r2s
        refine e_ishl (pc := 23) Xc (dT hX6_isOrder 15 rfl) ?_
        have hdo_ : odg c nr k_ < 4 := Nat.mod_lt _ (by decide)
        refine e_val (y := nI (2 ^ odg c nr k_)) (sh1 (by omega)) ?_
        refine e_ior (pc := 24) Xc (dT hX6_isOrder 16 rfl) ?_
        refine e_val (y := nI ((List.range (k_ + 1)).foldl (fun a k => a ||| 2 ^ odg c nr k) 0)) ((nI_or _ _).trans (congrArg nI od_s.symm)) ?_
        refine e_istore_n (L' := [(2, .int (nI ((List.range (k_ + 1)).foldl (fun a k => a ||| 2 ^ odg c nr k) 0))), (0, .ref x), (1, .int (nI c)), (3, .int (nI k_))]) (pc := 25) Xc (dT hX6_isOrder 17 rfl) (by decide) rfl ?_
        refine e_iincN (a := k_) (b := 1) (L' := [(3, .int (nI (k_ + 1))), (2, .int (nI ((List.range (k_ + 1)).foldl (fun a k => a ||| 2 ^ odg c nr k) 0))), (0, .ref x), (1, .int (nI c))]) (pc := 26) Xc (dT hX6_isOrder 18 rfl) 3 rfl rfl (by decide) rfl ?_
        refine e_goto (tgt := 4) (pc := 29) Xc (dT hX6_isOrder 19 rfl) rfl ?_
        refine Ev.pick (L' := [(0, .ref x), (1, .int (nI c)), (2, .int (nI ((List.range (k_ + 1)).foldl (fun a k => a ||| 2 ^ odg c nr k) 0))), (3, .int (nI (k_ + 1)))]) [2, 3, 1, 0] rfl ?_
        exact ih4 (k_ + 1) (by omega) (by omega)
  refine Ev.pick (L' := [(0, .ref x), (1, .int (nI c)), (2, .int 0), (3, .int 0)]) [2, 3, 1, 0] rfl ?_
  exact lp4 ((nr - 0) + 1) 0 (Nat.lt_succ_self _) (Nat.zero_le _)
