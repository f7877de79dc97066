set_option maxRecDepth 100000 in
set_option maxHeartbeats 4000000 in
theorem c5_allBooks {G : xG} {σ : xS} {w : Nat} {X : Nat → Int32} {nr nb : Nat} {t : xT} {F : Nat → Int32} {T : Nat → Nat} {A : Nat → Nat → Int32} {ln : Nat} (hB : WB σ w X nr nb t F T A ln) : CI G yX5_allBooks cX5_allBooks 1 (some .int) 0 0 0 [.ref w] σ (fun z σ1 => z = nI (bitN (fun _ => true) nb) ∧ σ1 = σ) := by
  refine Met.ofX (by decide +kernel) (Nat.le_of_ble_eq_true rfl) (fun μ Xc hQ hnm => ?_)
  have Xc : xC G μ cX5_allBooks 1 RX5 (some .int) 0 0 0 := Xc
  obtain ⟨hP, hW, hTw, hne, hG, hT⟩ := id hB
  have hr4 := hG.r4
  have hb7 := hG.b7
  show Ev G μ 1 0 0 0 [(0, .ref w)] [] σ
  refine e_iconst (v := 1) (pc := 0) Xc (dT hX5_allBooks 0 rfl) rfl ?_
  refine e_aload_n (pc := 1) Xc (dT hX5_allBooks 1 rfl) 0 rfl ?_
  refine gf_X5_37 (pc := 2) Xc (dT hX5_allBooks 2 rfl) hP.o rfl ?_
  refine e_val (y := nI nb) hW.2.2.2.2.2.1 ?_
  refine e_ishl (pc := 5) Xc (dT hX5_allBooks 3 rfl) ?_
  refine e_iconst (v := 1) (pc := 6) Xc (dT hX5_allBooks 4 rfl) rfl ?_
  refine e_isub (pc := 7) Xc (dT hX5_allBooks 5 rfl) ?_
  refine e_iret (pc := 8) Xc hQ (dT hX5_allBooks 6 rfl) (Nat.le_refl _) (Nat.le_refl _) ?_
  refine ⟨?_, rfl⟩
  rw [← all_bits hb7]
set_option maxRecDepth 100000 in
set_option maxHeartbeats 4000000 in
theorem c5_shelf {G : xG} {σ : xS} {w : Nat} {X : Nat → Int32} {nr nb : Nat} {t : xT} {F : Nat → Int32} {T : Nat → Nat} {A : Nat → Nat → Int32} {ln : Nat} (hB : WB σ w X nr nb t F T A ln) : CI G yX5_shelf cX5_shelf 4 (some .int) 1 0 0 [.ref w] σ (fun z σ1 => z = shelfF X nr nb ∧ σ1 = σ) := by
  refine Met.ofX (by decide +kernel) (Nat.le_of_ble_eq_true rfl) (fun μ Xc hQ hnm => ?_)
  have Xc : xC G μ cX5_shelf 4 RX5 (some .int) 1 0 0 := Xc
  obtain ⟨hP, hW, hTw, hne, hG, hT⟩ := id hB
  have hr4 := hG.r4
  have hb7 := hG.b7
  have lp7 : ∀ (n7 : Nat) (r_ : Nat) (ac_ : Int32), nr - r_ < n7 → (r_ ≤ nr) → (ac_ = nI (bitN (shlP X r_) nb)) → Ev G μ 4 0 0 7 [(0, .ref w), (1, .int ac_), (2, .int (nI r_))] [] σ := by
    intro n7
    induction n7 with
    | zero => intro r_ ac_ hn; exact absurd hn (Nat.not_lt_zero _)
    | succ n7 ih7 =>
      intro r_ ac_ hn7 hr_ ha_
      refine e_iload_n (pc := 7) Xc (dT hX5_shelf 5 rfl) 2 rfl ?_
      refine e_aload_n (pc := 8) Xc (dT hX5_shelf 6 rfl) 0 rfl ?_
      refine gf_X5_40 (pc := 9) Xc (dT hX5_shelf 7 rfl) hP.o rfl ?_
      refine e_val (y := nI nr) hW.2.2.2.2.2.2.1 ?_
      refine e_icmp_geN (x := r_) (y := nr) (tgt := 44) (pc := 12) Xc (dT hX5_shelf 8 rfl) rfl (by omega) (by omega) (fun c12 => ?_) (fun c12 => ?_)
      · skip
        refine e_iload_n (pc := 44) Xc (dT hX5_shelf 27 rfl) 1 rfl ?_
        refine e_iret (pc := 45) Xc hQ (dT hX5_shelf 28 rfl) (Nat.le_refl _) (Nat.le_refl _) ?_
        refine ⟨?_, rfl⟩
        have hre_ : r_ = nr := by omega
        subst hre_
        rw [ha_, shelf_bits hb7]
      · skip
        refine e_aload_n (pc := 15) Xc (dT hX5_shelf 9 rfl) 0 rfl ?_
        refine gf_X5_21 (pc := 16) Xc (dT hX5_shelf 10 rfl) hP.o rfl ?_
        refine e_iload_n (pc := 19) Xc (dT hX5_shelf 11 rfl) 2 rfl ?_
        refine cl_X5_68 (pc := 20) (k := 0) (n := 0) (S := []) Xc (c_get hP.a4 (by decide) (by decide) r_ (by omega)) (dT hX5_shelf 12 rfl) rfl (Nat.le_of_ble_eq_true rfl) (Nat.le_of_ble_eq_true rfl) (Nat.le_of_ble_eq_true rfl) rfl (Nat.le_of_ble_eq_true rfl) (fun r1 σ2 hq3 => ?_)
        obtain ⟨r1e, r1s⟩ := hq3
        have r1e := r1e.symm; subst r1e; have r1s := r1s.symm; subst r1s
        refine e_istore_n (L' := [(3, .int (A 4 r_)), (0, .ref w), (1, .int ac_), (2, .int (nI r_))]) (pc := 23) Xc (dT hX5_shelf 13 rfl) (by decide) rfl ?_
        refine e_iload_n (pc := 24) Xc (dT hX5_shelf 14 rfl) 0 rfl ?_
        refine e_bipush (v := -5) (pc := 25) Xc (dT hX5_shelf 15 rfl) rfl ?_
        refine e_icmp_eq (tgt := 38) (pc := 27) Xc (dT hX5_shelf 16 rfl) rfl (fun c27 => ?_) (fun c27 => ?_)
        · skip
          have hh_n : X (1 + r_) = -1 := WB.has5 hG (by omega) (by rw [← hW.2.2.2.1 r_ (by omega)]; exact c27)
          refine e_iincN (a := r_) (b := 1) (L' := [(2, .int (nI (r_ + 1))), (3, .int (A 4 r_)), (0, .ref w), (1, .int ac_)]) (pc := 38) Xc (dT hX5_shelf 25 rfl) 3 rfl rfl (by decide) rfl ?_
          refine e_goto (tgt := 7) (pc := 41) Xc (dT hX5_shelf 26 rfl) rfl ?_
          refine Ev.pick (L' := [(0, .ref w), (1, .int ac_), (2, .int (nI (r_ + 1)))]) [2, 3, 0] rfl ?_
          exact ih7 (r_ + 1) ac_ (by omega) (by omega) (by rw [shlP_none hb7 hh_n]; exact ha_)
        · skip
          obtain ⟨hh_, hh_l, hh_e⟩ := hG.has (r := r_) (by omega) (orN_ne (by rw [← hW.2.2.2.1 r_ (by omega)]; exact c27))
          have hh_a : A 4 r_ = nI hh_ := by rw [hW.2.2.2.1 r_ (by omega), hh_e, orN_nI (by omega)]
          refine e_iload_n (pc := 30) Xc (dT hX5_shelf 17 rfl) 2 rfl ?_
          refine e_iconst (v := 1) (pc := 31) Xc (dT hX5_shelf 18 rfl) rfl ?_
          refine e_iload_n (pc := 32) Xc (dT hX5_shelf 19 rfl) 0 rfl ?_
          refine e_val (y := nI hh_) hh_a ?_
          refine e_ishl (pc := 33) Xc (dT hX5_shelf 20 rfl) ?_
          refine e_iconst (v := -1) (pc := 34) Xc (dT hX5_shelf 21 rfl) rfl ?_
          refine e_ixor (pc := 35) Xc (dT hX5_shelf 22 rfl) ?_
          refine e_iand (pc := 36) Xc (dT hX5_shelf 23 rfl) ?_
          refine e_istore_n (L' := [(1, .int (ac_ &&& ((1 <<< ((nI hh_) &&& 31)) ^^^ (-1)))), (3, .int (A 4 r_)), (0, .ref w), (2, .int (nI r_))]) (pc := 37) Xc (dT hX5_shelf 24 rfl) (by decide) rfl ?_
          refine e_iincN (a := r_) (b := 1) (L' := [(2, .int (nI (r_ + 1))), (1, .int (ac_ &&& ((1 <<< ((nI hh_) &&& 31)) ^^^ (-1)))), (3, .int (A 4 r_)), (0, .ref w)]) (pc := 38) Xc (dT hX5_shelf 25 rfl) 3 rfl rfl (by decide) rfl ?_
          refine e_goto (tgt := 7) (pc := 41) Xc (dT hX5_shelf 26 rfl) rfl ?_
          refine Ev.pick (L' := [(0, .ref w), (1, .int (ac_ &&& ((1 <<< ((nI hh_) &&& 31)) ^^^ (-1)))), (2, .int (nI (r_ + 1)))]) [3, 1, 0] rfl ?_
          exact ih7 (r_ + 1) (ac_ &&& ((1 <<< ((nI hh_) &&& 31)) ^^^ (-1))) (by omega) (by omega) (by rw [shlP_has hb7 (by omega) hh_e, ha_]; exact bitN_clr hb7 (by omega))
  show Ev G μ 4 0 0 0 [(0, .ref w)] [] σ
  refine e_aload_n (pc := 0) Xc (dT hX5_shelf 0 rfl) 0 rfl ?_
  refine cl_X5_64 (pc := 1) (k := 0) (n := 0) (S := []) Xc hP.o (c5_allBooks hB) (dT hX5_shelf 1 rfl) rfl (Nat.le_of_ble_eq_true rfl) (Nat.le_of_ble_eq_true rfl) (Nat.le_of_ble_eq_true rfl) rfl (Nat.le_of_ble_eq_true rfl) (fun r4 σ5 hq6 => ?_)
  obtain ⟨r4e, r4s⟩ := hq6
  have r4e := r4e.symm; subst r4e; have r4s := r4s.symm; subst r4s
  refine e_istore_n (L' := [(1, .int (nI (bitN (fun _ => true) nb))), (0, .ref w)]) (pc := 4) Xc (dT hX5_shelf 2 rfl) (by decide) rfl ?_
  refine e_iconst (v := 0) (pc := 5) Xc (dT hX5_shelf 3 rfl) rfl ?_
  refine e_istore_n (L' := [(2, .int 0), (1, .int (nI (bitN (fun _ => true) nb))), (0, .ref w)]) (pc := 6) Xc (dT hX5_shelf 4 rfl) (by decide) rfl ?_
  refine Ev.pick (L' := [(0, .ref w), (1, .int (nI (bitN (fun _ => true) nb))), (2, .int 0)]) [2, 1, 0] rfl ?_
  exact lp7 ((nr - 0) + 1) 0 (nI (bitN (fun _ => true) nb)) (Nat.lt_succ_self _) (Nat.zero_le _) (congrArg nI (bitN_cg (fun c _ => rfl)))
set_option maxRecDepth 100000 in
set_option maxHeartbeats 4000000 in
theorem c6_heldIn {G : xG} {σ : xS} (c r n : Nat) (hc : c < 4096) (hr : r < n) (hn : n ≤ 4) : CI G yX6_heldIn cX6_heldIn 3 (some .int) 0 0 0 [.int (nI c), .int (nI r), .int (nI n)] σ (fun z σ1 => z = nI (c / 2 ^ (3 * (n - 1 - r)) % 8) ∧ σ1 = σ) := by
  refine Met.ofX (by decide +kernel) (Nat.le_of_ble_eq_true rfl) (fun μ Xc hQ hnm => ?_)
  have Xc : xC G μ cX6_heldIn 3 RX6 (some .int) 0 0 0 := Xc
  show Ev G μ 3 0 0 0 [(0, .int (nI c)), (1, .int (nI r)), (2, .int (nI n))] [] σ
  refine e_iload_n (pc := 0) Xc (dT hX6_heldIn 0 rfl) 0 rfl ?_
  refine e_iconst (v := 3) (pc := 1) Xc (dT hX6_heldIn 1 rfl) rfl ?_
  refine e_iload_n (pc := 2) Xc (dT hX6_heldIn 2 rfl) 2 rfl ?_
  refine e_iconst (v := 1) (pc := 3) Xc (dT hX6_heldIn 3 rfl) rfl ?_
  refine e_isubN (a := n) (b := 1) (pc := 4) Xc (dT hX6_heldIn 4 rfl) (by omega) ?_
  refine e_iload_n (pc := 5) Xc (dT hX6_heldIn 5 rfl) 1 rfl ?_
  refine e_isubN (a := n - 1) (b := r) (pc := 6) Xc (dT hX6_heldIn 6 rfl) (by omega) ?_
  refine e_imulN (a := 3) (b := (n - 1) - r) (pc := 7) Xc (dT hX6_heldIn 7 rfl) ?_
  refine e_ishr (pc := 8) Xc (dT hX6_heldIn 8 rfl) ?_
  refine e_val (y := nI (c / 2 ^ (3 * (n - 1 - r)))) (shrN (by omega) (by omega)) ?_
  refine e_bipush (v := 7) (pc := 9) Xc (dT hX6_heldIn 9 rfl) rfl ?_
  refine e_iand (pc := 11) Xc (dT hX6_heldIn 10 rfl) ?_
  refine e_val (y := nI (c / 2 ^ (3 * (n - 1 - r)) % 8)) (and7 _ (Nat.lt_of_le_of_lt (Nat.div_le_self _ _) (by omega))) ?_
  refine e_iret (pc := 12) Xc hQ (dT hX6_heldIn 11 rfl) (Nat.le_refl _) (Nat.le_refl _) ?_
  exact ⟨rfl, rfl⟩
set_option maxRecDepth 100000 in
set_option maxHeartbeats 4000000 in
theorem c5_holding {G : xG} {σ : xS} {w : Nat} {X : Nat → Int32} {nr nb : Nat} {t : xT} {F : Nat → Int32} {T : Nat → Nat} {A : Nat → Nat → Int32} {ln : Nat} (hB : WB σ w X nr nb t F T A ln) : CI G yX5_holding cX5_holding 4 (some .int) 1 0 0 [.ref w] σ (fun z σ1 => z = nI (cdW nr (wayX X nr)) ∧ σ1 = σ) := by
  refine Met.ofX (by decide +kernel) (Nat.le_of_ble_eq_true rfl) (fun μ Xc hQ hnm => ?_)
  have Xc : xC G μ cX5_holding 4 RX5 (some .int) 1 0 0 := Xc
  obtain ⟨hP, hW, hTw, hne, hG, hT⟩ := id hB
  have hr4 := hG.r4
  have hb7 := hG.b7
  have lp4 : ∀ (n4 : Nat) (r_ a_ : Nat), nr - r_ < n4 → (r_ ≤ nr) → (a_ = itr (fun r a => 8 * a + dgX X nr r) 0 r_) → Ev G μ 4 0 0 4 [(0, .ref w), (1, .int (nI a_)), (2, .int (nI r_))] [] σ := by
    intro n4
    induction n4 with
    | zero => intro r_ a_ hn; exact absurd hn (Nat.not_lt_zero _)
    | succ n4 ih4 =>
      intro r_ a_ hn4 hr_ ha_
      refine e_iload_n (pc := 4) Xc (dT hX5_holding 4 rfl) 2 rfl ?_
      refine e_aload_n (pc := 5) Xc (dT hX5_holding 5 rfl) 0 rfl ?_
      refine gf_X5_40 (pc := 6) Xc (dT hX5_holding 6 rfl) hP.o rfl ?_
      refine e_val (y := nI nr) hW.2.2.2.2.2.2.1 ?_
      refine e_icmp_geN (x := r_) (y := nr) (tgt := 45) (pc := 9) Xc (dT hX5_holding 7 rfl) rfl (by omega) (by omega) (fun c9 => ?_) (fun c9 => ?_)
      · skip
        refine e_iload_n (pc := 45) Xc (dT hX5_holding 26 rfl) 1 rfl ?_
        refine e_iret (pc := 46) Xc hQ (dT hX5_holding 27 rfl) (Nat.le_refl _) (Nat.le_refl _) ?_
        refine ⟨?_, rfl⟩
        have hre_ : r_ = nr := by omega
        subst hre_
        rw [ha_, cd_way hG]
      · skip
        refine e_aload_n (pc := 12) Xc (dT hX5_holding 8 rfl) 0 rfl ?_
        refine gf_X5_21 (pc := 13) Xc (dT hX5_holding 9 rfl) hP.o rfl ?_
        refine e_iload_n (pc := 16) Xc (dT hX5_holding 10 rfl) 2 rfl ?_
        refine cl_X5_68 (pc := 17) (k := 0) (n := 0) (S := []) Xc (c_get hP.a4 (by decide) (by decide) r_ (by omega)) (dT hX5_holding 11 rfl) rfl (Nat.le_of_ble_eq_true rfl) (Nat.le_of_ble_eq_true rfl) (Nat.le_of_ble_eq_true rfl) rfl (Nat.le_of_ble_eq_true rfl) (fun r1 σ2 hq3 => ?_)
        obtain ⟨r1e, r1s⟩ := hq3
        have r1e := r1e.symm; subst r1e; have r1s := r1s.symm; subst r1s
        refine e_istore_n (L' := [(3, .int (A 4 r_)), (0, .ref w), (1, .int (nI a_)), (2, .int (nI r_))]) (pc := 20) Xc (dT hX5_holding 12 rfl) (by decide) rfl ?_
        refine e_iload_n (pc := 21) Xc (dT hX5_holding 13 rfl) 2 rfl ?_
        refine e_bipush (v := 8) (pc := 22) Xc (dT hX5_holding 14 rfl) rfl ?_
        refine e_imulN (a := a_) (b := 8) (pc := 24) Xc (dT hX5_holding 15 rfl) ?_
        refine e_val (y := nI (8 * a_)) (congrArg nI (Nat.mul_comm _ _)) ?_
        refine e_iload_n (pc := 25) Xc (dT hX5_holding 16 rfl) 0 rfl ?_
        refine e_bipush (v := -5) (pc := 26) Xc (dT hX5_holding 17 rfl) rfl ?_
        refine e_icmp_ne (tgt := 36) (pc := 28) Xc (dT hX5_holding 18 rfl) rfl (fun c28 => ?_) (fun c28 => ?_)
        · skip
          obtain ⟨hh_, hh_l, hh_e⟩ := hG.has (r := r_) (by omega) (orN_ne (by rw [← hW.2.2.2.1 r_ (by omega)]; exact c28))
          have hh_a : A 4 r_ = nI hh_ := by rw [hW.2.2.2.1 r_ (by omega), hh_e, orN_nI (by omega)]
          refine e_iload_n (pc := 36) Xc (dT hX5_holding 21 rfl) 0 rfl ?_
          refine e_val (y := nI hh_) hh_a ?_
          refine e_val (y := nI (dgX X nr r_)) (congrArg nI (by rw [dgX, if_pos ⟨by omega, by rw [hh_e]; exact nI_nneg (by omega) (by decide)⟩, hh_e, nI_clamp (by omega)])) ?_
          refine e_iaddN (a := 8 * a_) (b := dgX X nr r_) (pc := 37) Xc (dT hX5_holding 22 rfl) ?_
          refine e_istore_n (L' := [(1, .int (nI ((8 * a_) + (dgX X nr r_)))), (3, .int (A 4 r_)), (0, .ref w), (2, .int (nI r_))]) (pc := 38) Xc (dT hX5_holding 23 rfl) (by decide) rfl ?_
          refine e_iincN (a := r_) (b := 1) (L' := [(2, .int (nI (r_ + 1))), (1, .int (nI ((8 * a_) + (dgX X nr r_)))), (3, .int (A 4 r_)), (0, .ref w)]) (pc := 39) Xc (dT hX5_holding 24 rfl) 3 rfl rfl (by decide) rfl ?_
          refine e_goto (tgt := 4) (pc := 42) Xc (dT hX5_holding 25 rfl) rfl ?_
          refine Ev.pick (L' := [(0, .ref w), (1, .int (nI ((8 * a_) + (dgX X nr r_)))), (2, .int (nI (r_ + 1)))]) [3, 1, 0] rfl ?_
          exact ih4 (r_ + 1) ((8 * a_) + (dgX X nr r_)) (by omega) (by omega) (by rw [itr, ← ha_])
        · skip
          have hh_n : X (1 + r_) = -1 := WB.has5 hG (by omega) (by rw [← hW.2.2.2.1 r_ (by omega)]; exact c28)
          refine e_bipush (v := 7) (pc := 31) Xc (dT hX5_holding 19 rfl) rfl ?_
          refine e_goto (tgt := 37) (pc := 33) Xc (dT hX5_holding 20 rfl) rfl ?_
          refine e_val (y := nI (dgX X nr r_)) (congrArg nI (show 7 = dgX X nr r_ from (if_neg (fun q => q.2 hh_n)).symm)) ?_
          refine e_iaddN (a := 8 * a_) (b := dgX X nr r_) (pc := 37) Xc (dT hX5_holding 22 rfl) ?_
          refine e_istore_n (L' := [(1, .int (nI ((8 * a_) + (dgX X nr r_)))), (3, .int (A 4 r_)), (0, .ref w), (2, .int (nI r_))]) (pc := 38) Xc (dT hX5_holding 23 rfl) (by decide) rfl ?_
          refine e_iincN (a := r_) (b := 1) (L' := [(2, .int (nI (r_ + 1))), (1, .int (nI ((8 * a_) + (dgX X nr r_)))), (3, .int (A 4 r_)), (0, .ref w)]) (pc := 39) Xc (dT hX5_holding 24 rfl) 3 rfl rfl (by decide) rfl ?_
          refine e_goto (tgt := 4) (pc := 42) Xc (dT hX5_holding 25 rfl) rfl ?_
          refine Ev.pick (L' := [(0, .ref w), (1, .int (nI ((8 * a_) + (dgX X nr r_)))), (2, .int (nI (r_ + 1)))]) [3, 1, 0] rfl ?_
          exact ih4 (r_ + 1) ((8 * a_) + (dgX X nr r_)) (by omega) (by omega) (by rw [itr, ← ha_])
  show Ev G μ 4 0 0 0 [(0, .ref w)] [] σ
  refine e_iconst (v := 0) (pc := 0) Xc (dT hX5_holding 0 rfl) rfl ?_
  refine e_istore_n (L' := [(1, .int 0), (0, .ref w)]) (pc := 1) Xc (dT hX5_holding 1 rfl) (by decide) rfl ?_
  refine e_iconst (v := 0) (pc := 2) Xc (dT hX5_holding 2 rfl) rfl ?_
  refine e_istore_n (L' := [(2, .int 0), (1, .int 0), (0, .ref w)]) (pc := 3) Xc (dT hX5_holding 3 rfl) (by decide) rfl ?_
  refine Ev.pick (L' := [(0, .ref w), (1, .int 0), (2, .int 0)]) [2, 1, 0] rfl ?_
  exact lp4 ((nr - 0) + 1) 0 0 (Nat.lt_succ_self _) (Nat.zero_le _) rfl
set_option maxRecDepth 100000 in
set_option maxHeartbeats 4000000 in
theorem c5_hold {G : xG} {σ : xS} {w tw : Nat} {X : Nat → Int32} {nr nb : Nat} {t : xT} {ln : Nat} (hX : WX σ w tw X nr nb t ln) (v : Nat) (hv : okV nr nb v) : CV G yX5_hold cX5_hold 4 none 1 0 0 [.ref w, .int (nI (cdW nr v))] σ (fun σ1 => WX σ1 w tw (setW X nr v) nr nb t ln ∧ Off w σ σ1) := by
  refine Met.ofX (by decide +kernel) (Nat.le_of_ble_eq_true rfl) (fun μ Xc hQ hnm => ?_)
  have Xc : xC G μ cX5_hold 4 RX5 none 1 0 0 := Xc
  obtain ⟨F, T, A, hB, htw⟩ := id hX
  obtain ⟨hP, hW, hTw, hne, hG, hT⟩ := id hB
  have hr4 := hG.r4
  have hb7 := hG.b7
  show Ev G μ 4 0 0 0 [(0, .ref w), (1, .int (nI (cdW nr v)))] [] σ
  refine e_iconst (v := 0) (pc := 0) Xc (dT hX5_hold 0 rfl) rfl ?_
  refine e_istore_n (L' := [(2, .int 0), (0, .ref w), (1, .int (nI (cdW nr v)))]) (pc := 1) Xc (dT hX5_hold 1 rfl) (by decide) rfl ?_
  have lp2 : ∀ (n2 : Nat) (r_ : Nat) (g_ : Nat → Int32) (σ2 : xS), nr - r_ < n2 → (r_ ≤ nr) → (∀ j, j < r_ → g_ j = orN (hsW v j)) → (PX5 σ2 w F T (upA A 4 g_)) → (Off w σ σ2) → Ev G μ 4 0 0 2 [(0, .ref w), (1, .int (nI (cdW nr v))), (2, .int (nI r_))] [] σ2 := by
    intro n2
    induction n2 with
    | zero => intro r_ g_ σ2 hn; exact absurd hn (Nat.not_lt_zero _)
    | succ n2 ih2 =>
      intro r_ g_ σ2 hn2 hr_ hg_ hp2 ho2
      have hd8_ : dgW v r_ < 8 := Nat.mod_lt _ (by decide)
      refine e_iload_n (pc := 2) Xc (dT hX5_hold 2 rfl) 2 rfl ?_
      refine e_aload_n (pc := 3) Xc (dT hX5_hold 3 rfl) 0 rfl ?_
      refine gf_X5_40 (pc := 4) Xc (dT hX5_hold 4 rfl) hp2.o rfl ?_
      refine e_val (y := nI nr) hW.2.2.2.2.2.2.1 ?_
      refine e_icmp_geN (x := r_) (y := nr) (tgt := 46) (pc := 7) Xc (dT hX5_hold 5 rfl) rfl (by omega) (by omega) (fun c7 => ?_) (fun c7 => ?_)
      · skip
        refine e_vret (pc := 46) Xc hQ (dT hX5_hold 24 rfl) (Nat.le_refl _) (Nat.le_refl _) ?_
        exact ⟨⟨F, T, _, ⟨hp2, hW.set_all hr4 (fun j hj => hg_ j (by omega)), hTw.off ho2 (Ne.symm hne), hne, Gd_setW hG hv, Hd_setW hT hr4⟩, htw⟩, ho2⟩
      · skip
        refine e_iload_n (pc := 10) Xc (dT hX5_hold 6 rfl) 1 rfl ?_
        refine e_iload_n (pc := 11) Xc (dT hX5_hold 7 rfl) 2 rfl ?_
        refine e_aload_n (pc := 12) Xc (dT hX5_hold 8 rfl) 0 rfl ?_
        refine gf_X5_40 (pc := 13) Xc (dT hX5_hold 9 rfl) hp2.o rfl ?_
        refine e_val (y := nI nr) hW.2.2.2.2.2.2.1 ?_
        refine cl_X5_118 (pc := 16) (k := 0) (n := 0) (S := []) Xc (c6_heldIn (cdW nr v) r_ nr (cd_lt hv.1) (by omega) hr4) (dT hX5_hold 10 rfl) rfl (Nat.le_of_ble_eq_true rfl) (Nat.le_of_ble_eq_true rfl) (Nat.le_of_ble_eq_true rfl) rfl (Nat.le_of_ble_eq_true rfl) (fun r1 σ2 hq3 => ?_)
        obtain ⟨r1e, r1s⟩ := hq3
        rw [cd_dg (by omega) hr4] at r1e
        have r1e := r1e.symm; subst r1e; have r1s := r1s.symm; subst r1s
        refine e_istore_n (L' := [(3, .int (nI (dgW v r_))), (0, .ref w), (1, .int (nI (cdW nr v))), (2, .int (nI r_))]) (pc := 19) Xc (dT hX5_hold 11 rfl) (by decide) rfl ?_
        refine e_aload_n (pc := 20) Xc (dT hX5_hold 12 rfl) 1 rfl ?_
        refine gf_X5_21 (pc := 21) Xc (dT hX5_hold 13 rfl) hp2.o rfl ?_
        refine e_iload_n (pc := 24) Xc (dT hX5_hold 14 rfl) 3 rfl ?_
        refine e_iload_n (pc := 25) Xc (dT hX5_hold 15 rfl) 0 rfl ?_
        refine e_bipush (v := 7) (pc := 26) Xc (dT hX5_hold 16 rfl) rfl ?_
        refine e_icmp_neN (x := dgW v r_) (y := 7) (tgt := 36) (pc := 28) Xc (dT hX5_hold 17 rfl) rfl (by omega) (by omega) (fun c28 => ?_) (fun c28 => ?_)
        · skip
          refine e_iload_n (pc := 36) Xc (dT hX5_hold 20 rfl) 0 rfl ?_
          refine e_val (y := orN (hsW v r_)) (hs_or.trans (if_neg c28)).symm ?_
          refine cl_X5_60 (pc := 37) (k := 0) (n := 0) (S := []) Xc (c_put hp2.a4 (by decide) r_ (by omega) (orN (hsW v r_))) (dT hX5_hold 21 rfl) rfl (Nat.le_of_ble_eq_true rfl) (Nat.le_of_ble_eq_true rfl) (Nat.le_of_ble_eq_true rfl) rfl (Nat.le_of_ble_eq_true rfl) (fun σ5 hq6 => ?_)
          subst hq6
          refine Ev.gen (fun z => PX5 z w F T (upA (upA A 4 g_) 4 (upd g_ r_ (orN (hsW v r_))))) (hp2.wa4 (g := (upd g_ r_ (orN (hsW v r_))))) Off.set (fun σ7 hP8 ho9 => ?_)
          have hP8 : PX5 σ7 w F T (upA A 4 (upd g_ r_ (orN (hsW v r_)))) := by rw [upA_2] at hP8; exact hP8
          refine e_iincN (a := r_) (b := 1) (L' := [(2, .int (nI (r_ + 1))), (3, .int (nI (dgW v r_))), (0, .ref w), (1, .int (nI (cdW nr v)))]) (pc := 40) Xc (dT hX5_hold 22 rfl) 3 rfl rfl (by decide) rfl ?_
          refine e_goto (tgt := 2) (pc := 43) Xc (dT hX5_hold 23 rfl) rfl ?_
          refine Ev.pick (L' := [(0, .ref w), (1, .int (nI (cdW nr v))), (2, .int (nI (r_ + 1)))]) [2, 3, 0] rfl ?_
          exact ih2 (r_ + 1) (upd g_ r_ (orN (hsW v r_))) σ7 (by omega) (by omega) (fun j h => by by_cases e_ : j = r_; (subst e_; rw [upd_s]); (rw [upd_n e_]; exact hg_ j (by omega))) hP8 (ho2.tr ho9)
        · skip
          refine e_bipush (v := -5) (pc := 31) Xc (dT hX5_hold 18 rfl) rfl ?_
          refine e_goto (tgt := 37) (pc := 33) Xc (dT hX5_hold 19 rfl) rfl ?_
          refine e_val (y := orN (hsW v r_)) (hs_or.trans (if_pos c28)).symm ?_
          refine cl_X5_60 (pc := 37) (k := 0) (n := 0) (S := []) Xc (c_put hp2.a4 (by decide) r_ (by omega) (orN (hsW v r_))) (dT hX5_hold 21 rfl) rfl (Nat.le_of_ble_eq_true rfl) (Nat.le_of_ble_eq_true rfl) (Nat.le_of_ble_eq_true rfl) rfl (Nat.le_of_ble_eq_true rfl) (fun σ11 hq12 => ?_)
          subst hq12
          refine Ev.gen (fun z => PX5 z w F T (upA (upA A 4 g_) 4 (upd g_ r_ (orN (hsW v r_))))) (hp2.wa4 (g := (upd g_ r_ (orN (hsW v r_))))) Off.set (fun σ13 hP14 ho15 => ?_)
          have hP14 : PX5 σ13 w F T (upA A 4 (upd g_ r_ (orN (hsW v r_)))) := by rw [upA_2] at hP14; exact hP14
          refine e_iincN (a := r_) (b := 1) (L' := [(2, .int (nI (r_ + 1))), (3, .int (nI (dgW v r_))), (0, .ref w), (1, .int (nI (cdW nr v)))]) (pc := 40) Xc (dT hX5_hold 22 rfl) 3 rfl rfl (by decide) rfl ?_
          refine e_goto (tgt := 2) (pc := 43) Xc (dT hX5_hold 23 rfl) rfl ?_
          refine Ev.pick (L' := [(0, .ref w), (1, .int (nI (cdW nr v))), (2, .int (nI (r_ + 1)))]) [2, 3, 0] rfl ?_
          exact ih2 (r_ + 1) (upd g_ r_ (orN (hsW v r_))) σ13 (by omega) (by omega) (fun j h => by by_cases e_ : j = r_; (subst e_; rw [upd_s]); (rw [upd_n e_]; exact hg_ j (by omega))) hP14 (ho2.tr ho15)
  refine Ev.pick (L' := [(0, .ref w), (1, .int (nI (cdW nr v))), (2, .int 0)]) [1, 2, 0] rfl ?_
  exact lp2 ((nr - 0) + 1) 0 (A 4) σ (Nat.lt_succ_self _) (Nat.zero_le _) (fun j h => absurd h (Nat.not_lt_zero _)) (by rw [upA_id]; exact hP) Off.rf
