set_option maxRecDepth 100000 in
set_option maxHeartbeats 4000000 in
theorem c_shelf {G : xG} {σ : xS} {m : Nat} {F : Nat → Int32} {T : Nat → Nat} {A : Nat → Nat → Int32} (hP : PX7 σ m F T A) {nr nb : Nat} (hG : Gd (A 1) nr nb) : CI G yX7_shelf cX7_shelf 3 (some .int) 2 0 0 [.ref m] σ (fun z σ1 => z = shelfF (A 1) nr nb ∧ σ1 = σ) := by
  refine Met.ofX (by decide +kernel) (Nat.le_of_ble_eq_true rfl) (fun μ Xc hQ hnm => ?_)
  have Xc : xC G μ cX7_shelf 3 RX7 (some .int) 2 0 0 := Xc
  have lp4 : ∀ (n4 : Nat) (b : Nat) (ac : Int32), nb - b < n4 → (b ≤ nb) → (ac = itr (fun b a => a ||| (if onF (A 1) nr (nI b) then 1 <<< (nI b &&& 31) else 0)) 0 b) → Ev G μ 3 0 0 4 [(0, .ref m), (2, .int (nI b)), (1, .int ac)] [] σ := by
    intro n4
    induction n4 with
    | zero => intro b ac hn; exact absurd hn (Nat.not_lt_zero _)
    | succ n4 ih4 =>
      intro b ac hn4 hb ha
      refine e_iload_n (pc := 4) Xc (dT hX7_shelf 4 rfl) 1 rfl ?_
      refine e_aload_n (pc := 5) Xc (dT hX7_shelf 5 rfl) 0 rfl ?_
      refine gf_X7_9 (pc := 6) Xc (dT hX7_shelf 6 rfl) hP.o rfl ?_
      refine e_bipush (v := 13) (pc := 9) Xc (dT hX7_shelf 7 rfl) rfl ?_
      refine e_ialdN (pc := 11) Xc (dT hX7_shelf 8 rfl) hP.a1 (by decide) rfl 13 rfl (by have := hG.1; omega) (by decide) ?_
      refine e_val (y := nI nb) hG.1.2.2.2 ?_
      refine e_icmp_geN (x := b) (y := nb) (tgt := 39) (pc := 12) Xc (dT hX7_shelf 9 rfl) rfl (by have := hG.1; omega) (by have := hG.1; omega) (fun c12 => ?_) (fun c12 => ?_)
      · skip
        refine e_iload_n (pc := 39) Xc (dT hX7_shelf 24 rfl) 2 rfl ?_
        refine e_iret (pc := 40) Xc hQ (dT hX7_shelf 25 rfl) (Nat.le_refl _) (Nat.le_refl _) ?_
        refine ⟨?_, rfl⟩
        have hbe : b = nb := by omega
        subst hbe
        exact ha
      · skip
        refine e_iload_n (pc := 15) Xc (dT hX7_shelf 10 rfl) 2 rfl ?_
        refine e_aload_n (pc := 16) Xc (dT hX7_shelf 11 rfl) 0 rfl ?_
        refine e_iload_n (pc := 17) Xc (dT hX7_shelf 12 rfl) 1 rfl ?_
        refine cl_X7_147 (pc := 18) (k := 0) (n := 0) (S := [.int ac]) Xc hP.o (c_isOn hP hG (nI b)) (dT hX7_shelf 13 rfl) rfl (Nat.le_of_ble_eq_true rfl) (Nat.le_of_ble_eq_true rfl) (Nat.le_of_ble_eq_true rfl) rfl (Nat.le_of_ble_eq_true rfl) (fun r1 σ2 hq3 => ?_)
        obtain ⟨r1e, r1s⟩ := hq3
        have r1e := r1e.symm; subst r1e; have r1s := r1s.symm; subst r1s
        refine e_if_eq (tgt := 30) (pc := 21) Xc (dT hX7_shelf 14 rfl) rfl (fun c21 => ?_) (fun c21 => ?_)
        · skip
          refine e_iconst (v := 0) (pc := 30) Xc (dT hX7_shelf 19 rfl) rfl ?_
          refine e_ior (pc := 31) Xc (dT hX7_shelf 20 rfl) ?_
          refine e_istore_n (L' := [(1, .int (ac ||| 0)), (0, .ref m), (2, .int (nI b))]) (pc := 32) Xc (dT hX7_shelf 21 rfl) (by decide) rfl ?_
          refine e_iincN (a := b) (b := 1) (L' := [(2, .int (nI (b + 1))), (1, .int (ac ||| 0)), (0, .ref m)]) (pc := 33) Xc (dT hX7_shelf 22 rfl) 2 rfl rfl (by decide) rfl ?_
          refine e_goto (tgt := 4) (pc := 36) Xc (dT hX7_shelf 23 rfl) rfl ?_
          refine Ev.pick (L' := [(0, .ref m), (2, .int (nI (b + 1))), (1, .int (ac ||| 0))]) [2, 0, 1] rfl ?_
          exact ih4 (b + 1) (ac ||| 0) (by omega) (by omega) (by rw [itr, ← ha]; simp only [bI_0] at c21; simp [c21])
        · skip
          refine e_iconst (v := 1) (pc := 24) Xc (dT hX7_shelf 15 rfl) rfl ?_
          refine e_iload_n (pc := 25) Xc (dT hX7_shelf 16 rfl) 1 rfl ?_
          refine e_ishl (pc := 26) Xc (dT hX7_shelf 17 rfl) ?_
          refine e_goto (tgt := 31) (pc := 27) Xc (dT hX7_shelf 18 rfl) rfl ?_
          refine e_ior (pc := 31) Xc (dT hX7_shelf 20 rfl) ?_
          refine e_istore_n (L' := [(1, .int (ac ||| (1 <<< ((nI b) &&& 31)))), (0, .ref m), (2, .int (nI b))]) (pc := 32) Xc (dT hX7_shelf 21 rfl) (by decide) rfl ?_
          refine e_iincN (a := b) (b := 1) (L' := [(2, .int (nI (b + 1))), (1, .int (ac ||| (1 <<< ((nI b) &&& 31)))), (0, .ref m)]) (pc := 33) Xc (dT hX7_shelf 22 rfl) 2 rfl rfl (by decide) rfl ?_
          refine e_goto (tgt := 4) (pc := 36) Xc (dT hX7_shelf 23 rfl) rfl ?_
          refine Ev.pick (L' := [(0, .ref m), (2, .int (nI (b + 1))), (1, .int (ac ||| (1 <<< ((nI b) &&& 31))))]) [2, 0, 1] rfl ?_
          exact ih4 (b + 1) (ac ||| (1 <<< ((nI b) &&& 31))) (by omega) (by omega) (by rw [itr, ← ha]; simp only [bI_0] at c21; simp [c21])
  show Ev G μ 3 0 0 0 [(0, .ref m)] [] σ
  refine e_iconst (v := 0) (pc := 0) Xc (dT hX7_shelf 0 rfl) rfl ?_
  refine e_istore_n (L' := [(1, .int 0), (0, .ref m)]) (pc := 1) Xc (dT hX7_shelf 1 rfl) (by decide) rfl ?_
  refine e_iconst (v := 0) (pc := 2) Xc (dT hX7_shelf 2 rfl) rfl ?_
  refine e_istore_n (L' := [(2, .int 0), (1, .int 0), (0, .ref m)]) (pc := 3) Xc (dT hX7_shelf 3 rfl) (by decide) rfl ?_
  refine Ev.pick (L' := [(0, .ref m), (2, .int 0), (1, .int 0)]) [2, 0, 1] rfl ?_
  exact lp4 ((nb - 0) + 1) 0 0 (Nat.lt_succ_self _) (Nat.zero_le _) rfl
set_option maxRecDepth 100000 in
set_option maxHeartbeats 4000000 in
theorem c_shelfThick {G : xG} {σ : xS} {m : Nat} {F : Nat → Int32} {T : Nat → Nat} {A : Nat → Nat → Int32} (hP : PX7 σ m F T A) {nr nb : Nat} (hG : Gd (A 1) nr nb) : CI G yX7_shelfThick cX7_shelfThick 3 (some .int) 2 0 0 [.ref m] σ (fun z σ1 => z = shThF (A 1) nr nb ∧ σ1 = σ) := by
  refine Met.ofX (by decide +kernel) (Nat.le_of_ble_eq_true rfl) (fun μ Xc hQ hnm => ?_)
  have Xc : xC G μ cX7_shelfThick 3 RX7 (some .int) 2 0 0 := Xc
  have lp4 : ∀ (n4 : Nat) (b : Nat) (ac : Int32), nb - b < n4 → (b ≤ nb) → (ac = itr (fun b a => a + (if onF (A 1) nr (nI b) then A 1 (5 + b) else 0)) 0 b) → Ev G μ 3 0 0 4 [(0, .ref m), (2, .int (nI b)), (1, .int ac)] [] σ := by
    intro n4
    induction n4 with
    | zero => intro b ac hn; exact absurd hn (Nat.not_lt_zero _)
    | succ n4 ih4 =>
      intro b ac hn4 hb ha
      refine e_iload_n (pc := 4) Xc (dT hX7_shelfThick 4 rfl) 1 rfl ?_
      refine e_aload_n (pc := 5) Xc (dT hX7_shelfThick 5 rfl) 0 rfl ?_
      refine gf_X7_9 (pc := 6) Xc (dT hX7_shelfThick 6 rfl) hP.o rfl ?_
      refine e_bipush (v := 13) (pc := 9) Xc (dT hX7_shelfThick 7 rfl) rfl ?_
      refine e_ialdN (pc := 11) Xc (dT hX7_shelfThick 8 rfl) hP.a1 (by decide) rfl 13 rfl (by have := hG.1; omega) (by decide) ?_
      refine e_val (y := nI nb) hG.1.2.2.2 ?_
      refine e_icmp_geN (x := b) (y := nb) (tgt := 44) (pc := 12) Xc (dT hX7_shelfThick 9 rfl) rfl (by have := hG.1; omega) (by have := hG.1; omega) (fun c12 => ?_) (fun c12 => ?_)
      · skip
        refine e_iload_n (pc := 44) Xc (dT hX7_shelfThick 27 rfl) 2 rfl ?_
        refine e_iret (pc := 45) Xc hQ (dT hX7_shelfThick 28 rfl) (Nat.le_refl _) (Nat.le_refl _) ?_
        refine ⟨?_, rfl⟩
        have hbe : b = nb := by omega
        subst hbe
        exact ha
      · skip
        refine e_iload_n (pc := 15) Xc (dT hX7_shelfThick 10 rfl) 2 rfl ?_
        refine e_aload_n (pc := 16) Xc (dT hX7_shelfThick 11 rfl) 0 rfl ?_
        refine e_iload_n (pc := 17) Xc (dT hX7_shelfThick 12 rfl) 1 rfl ?_
        refine cl_X7_147 (pc := 18) (k := 0) (n := 0) (S := [.int ac]) Xc hP.o (c_isOn hP hG (nI b)) (dT hX7_shelfThick 13 rfl) rfl (Nat.le_of_ble_eq_true rfl) (Nat.le_of_ble_eq_true rfl) (Nat.le_of_ble_eq_true rfl) rfl (Nat.le_of_ble_eq_true rfl) (fun r1 σ2 hq3 => ?_)
        obtain ⟨r1e, r1s⟩ := hq3
        have r1e := r1e.symm; subst r1e; have r1s := r1s.symm; subst r1s
        refine e_if_eq (tgt := 35) (pc := 21) Xc (dT hX7_shelfThick 14 rfl) rfl (fun c21 => ?_) (fun c21 => ?_)
        · skip
          refine e_iconst (v := 0) (pc := 35) Xc (dT hX7_shelfThick 22 rfl) rfl ?_
          refine e_iadd (pc := 36) Xc (dT hX7_shelfThick 23 rfl) ?_
          refine e_istore_n (L' := [(1, .int (ac + 0)), (0, .ref m), (2, .int (nI b))]) (pc := 37) Xc (dT hX7_shelfThick 24 rfl) (by decide) rfl ?_
          refine e_iincN (a := b) (b := 1) (L' := [(2, .int (nI (b + 1))), (1, .int (ac + 0)), (0, .ref m)]) (pc := 38) Xc (dT hX7_shelfThick 25 rfl) 2 rfl rfl (by decide) rfl ?_
          refine e_goto (tgt := 4) (pc := 41) Xc (dT hX7_shelfThick 26 rfl) rfl ?_
          refine Ev.pick (L' := [(0, .ref m), (2, .int (nI (b + 1))), (1, .int (ac + 0))]) [2, 0, 1] rfl ?_
          exact ih4 (b + 1) (ac + 0) (by omega) (by omega) (by rw [itr, ← ha]; simp only [bI_0] at c21; simp [c21])
        · skip
          refine e_aload_n (pc := 24) Xc (dT hX7_shelfThick 15 rfl) 0 rfl ?_
          refine gf_X7_9 (pc := 25) Xc (dT hX7_shelfThick 16 rfl) hP.o rfl ?_
          refine e_iconst (v := 5) (pc := 28) Xc (dT hX7_shelfThick 17 rfl) rfl ?_
          refine e_iload_n (pc := 29) Xc (dT hX7_shelfThick 18 rfl) 1 rfl ?_
          refine e_iaddN (a := 5) (b := b) (pc := 30) Xc (dT hX7_shelfThick 19 rfl) ?_
          refine e_ialdN (pc := 31) Xc (dT hX7_shelfThick 20 rfl) hP.a1 (by decide) rfl (5 + b) rfl (by have := hG.1; omega) (by decide) ?_
          refine e_goto (tgt := 36) (pc := 32) Xc (dT hX7_shelfThick 21 rfl) rfl ?_
          refine e_iadd (pc := 36) Xc (dT hX7_shelfThick 23 rfl) ?_
          refine e_istore_n (L' := [(1, .int (ac + (A 1 (5 + b)))), (0, .ref m), (2, .int (nI b))]) (pc := 37) Xc (dT hX7_shelfThick 24 rfl) (by decide) rfl ?_
          refine e_iincN (a := b) (b := 1) (L' := [(2, .int (nI (b + 1))), (1, .int (ac + (A 1 (5 + b)))), (0, .ref m)]) (pc := 38) Xc (dT hX7_shelfThick 25 rfl) 2 rfl rfl (by decide) rfl ?_
          refine e_goto (tgt := 4) (pc := 41) Xc (dT hX7_shelfThick 26 rfl) rfl ?_
          refine Ev.pick (L' := [(0, .ref m), (2, .int (nI (b + 1))), (1, .int (ac + (A 1 (5 + b))))]) [2, 0, 1] rfl ?_
          exact ih4 (b + 1) (ac + (A 1 (5 + b))) (by omega) (by omega) (by rw [itr, ← ha]; simp only [bI_0] at c21; simp [c21])
  show Ev G μ 3 0 0 0 [(0, .ref m)] [] σ
  refine e_iconst (v := 0) (pc := 0) Xc (dT hX7_shelfThick 0 rfl) rfl ?_
  refine e_istore_n (L' := [(1, .int 0), (0, .ref m)]) (pc := 1) Xc (dT hX7_shelfThick 1 rfl) (by decide) rfl ?_
  refine e_iconst (v := 0) (pc := 2) Xc (dT hX7_shelfThick 2 rfl) rfl ?_
  refine e_istore_n (L' := [(2, .int 0), (1, .int 0), (0, .ref m)]) (pc := 3) Xc (dT hX7_shelfThick 3 rfl) (by decide) rfl ?_
  refine Ev.pick (L' := [(0, .ref m), (2, .int 0), (1, .int 0)]) [2, 0, 1] rfl ?_
  exact lp4 ((nb - 0) + 1) 0 0 (Nat.lt_succ_self _) (Nat.zero_le _) rfl
set_option maxRecDepth 100000 in
set_option maxHeartbeats 4000000 in
theorem c_totalNow {G : xG} {σ : xS} {m : Nat} {F : Nat → Int32} {T : Nat → Nat} {A : Nat → Nat → Int32} (hP : PX7 σ m F T A) {nr nb : Nat} (hG : Gd (A 1) nr nb) {t : xT} (hT : Hd (A 1) t) : CI G yX7_totalNow cX7_totalNow 3 (some .int) 3 0 0 [.ref m] σ (fun z σ1 => z = totF (A 1) t nr ∧ PX7 σ1 m F T A ∧ Off m σ σ1) := by
  refine Met.ofX (by decide +kernel) (Nat.le_of_ble_eq_true rfl) (fun μ Xc hQ hnm => ?_)
  have Xc : xC G μ cX7_totalNow 3 RX7 (some .int) 3 0 0 := Xc
  have lp4 : ∀ (n4 : Nat) (r : Nat) (ac : Int32) (σ2 : xS), nr - r < n4 → (r ≤ nr) → (ac = itr (fun r a => a + (if A 1 (1 + r) = -1 then 0 else likF (A 1) t r (A 1 (1 + r)).toNatClampNeg)) 0 r) → (PX7 σ2 m F T A) → (Off m σ σ2) → Ev G μ 3 0 0 4 [(0, .ref m), (2, .int (nI r)), (1, .int ac)] [] σ2 := by
    intro n4
    induction n4 with
    | zero => intro r ac σ2 hn; exact absurd hn (Nat.not_lt_zero _)
    | succ n4 ih4 =>
      intro r ac σ2 hn4 hr ha hp ho
      refine e_iload_n (pc := 4) Xc (dT hX7_totalNow 4 rfl) 1 rfl ?_
      refine e_aload_n (pc := 5) Xc (dT hX7_totalNow 5 rfl) 0 rfl ?_
      refine gf_X7_9 (pc := 6) Xc (dT hX7_totalNow 6 rfl) hp.o rfl ?_
      refine e_bipush (v := 12) (pc := 9) Xc (dT hX7_totalNow 7 rfl) rfl ?_
      refine e_ialdN (pc := 11) Xc (dT hX7_totalNow 8 rfl) hp.a1 (by decide) rfl 12 rfl (by have := hG.1; omega) (by decide) ?_
      refine e_val (y := nI nr) hG.1.2.2.1 ?_
      refine e_icmp_geN (x := r) (y := nr) (tgt := 53) (pc := 12) Xc (dT hX7_totalNow 9 rfl) rfl (by have := hG.1; omega) (by have := hG.1; omega) (fun c12 => ?_) (fun c12 => ?_)
      · skip
        refine e_iload_n (pc := 53) Xc (dT hX7_totalNow 34 rfl) 2 rfl ?_
        refine e_iret (pc := 54) Xc hQ (dT hX7_totalNow 35 rfl) (Nat.le_refl _) (Nat.le_refl _) ?_
        have hbe : r = nr := by omega
        subst hbe
        exact ⟨ha, hp, ho⟩
      · skip
        refine e_iload_n (pc := 15) Xc (dT hX7_totalNow 10 rfl) 2 rfl ?_
        refine e_aload_n (pc := 16) Xc (dT hX7_totalNow 11 rfl) 0 rfl ?_
        refine gf_X7_9 (pc := 17) Xc (dT hX7_totalNow 12 rfl) hp.o rfl ?_
        refine e_iconst (v := 1) (pc := 20) Xc (dT hX7_totalNow 13 rfl) rfl ?_
        refine e_iload_n (pc := 21) Xc (dT hX7_totalNow 14 rfl) 1 rfl ?_
        refine e_iaddN (a := 1) (b := r) (pc := 22) Xc (dT hX7_totalNow 15 rfl) ?_
        refine e_ialdN (pc := 23) Xc (dT hX7_totalNow 16 rfl) hp.a1 (by decide) rfl (1 + r) rfl (by have := hG.1; omega) (by decide) ?_
        refine e_iconst (v := -1) (pc := 24) Xc (dT hX7_totalNow 17 rfl) rfl ?_
        refine e_icmp_ne (tgt := 32) (pc := 25) Xc (dT hX7_totalNow 18 rfl) rfl (fun c25 => ?_) (fun c25 => ?_)
        · skip
          obtain ⟨h, hl, he⟩ := hG.has (by omega) c25
          refine e_aload_n (pc := 32) Xc (dT hX7_totalNow 21 rfl) 0 rfl ?_
          refine e_iload_n (pc := 33) Xc (dT hX7_totalNow 22 rfl) 1 rfl ?_
          refine e_aload_n (pc := 34) Xc (dT hX7_totalNow 23 rfl) 0 rfl ?_
          refine gf_X7_9 (pc := 35) Xc (dT hX7_totalNow 24 rfl) hp.o rfl ?_
          refine e_iconst (v := 1) (pc := 38) Xc (dT hX7_totalNow 25 rfl) rfl ?_
          refine e_iload_n (pc := 39) Xc (dT hX7_totalNow 26 rfl) 1 rfl ?_
          refine e_iaddN (a := 1) (b := r) (pc := 40) Xc (dT hX7_totalNow 27 rfl) ?_
          refine e_ialdN (pc := 41) Xc (dT hX7_totalNow 28 rfl) hp.a1 (by decide) rfl (1 + r) rfl (by have := hG.1; omega) (by decide) ?_
          refine e_val (y := nI h) he ?_
          refine cl_X7_162 (pc := 42) (k := 0) (n := 0) (S := [.int ac]) Xc hp.o (c_likingOf hp hG hT r h (by omega) (by omega)) (dT hX7_totalNow 29 rfl) rfl (Nat.le_of_ble_eq_true rfl) (Nat.le_of_ble_eq_true rfl) (Nat.le_of_ble_eq_true rfl) rfl (Nat.le_of_ble_eq_true rfl) (fun r1 σ2 hq3 => ?_)
          obtain ⟨r1e, hP4, ho5⟩ := hq3
          have r1e := r1e.symm; subst r1e
          refine e_iadd (pc := 45) Xc (dT hX7_totalNow 30 rfl) ?_
          refine e_istore_n (L' := [(1, .int (ac + (likF (A 1) t r h))), (0, .ref m), (2, .int (nI r))]) (pc := 46) Xc (dT hX7_totalNow 31 rfl) (by decide) rfl ?_
          refine e_iincN (a := r) (b := 1) (L' := [(2, .int (nI (r + 1))), (1, .int (ac + (likF (A 1) t r h))), (0, .ref m)]) (pc := 47) Xc (dT hX7_totalNow 32 rfl) 2 rfl rfl (by decide) rfl ?_
          refine e_goto (tgt := 4) (pc := 50) Xc (dT hX7_totalNow 33 rfl) rfl ?_
          refine Ev.pick (L' := [(0, .ref m), (2, .int (nI (r + 1))), (1, .int (ac + (likF (A 1) t r h)))]) [2, 0, 1] rfl ?_
          exact ih4 (r + 1) (ac + (likF (A 1) t r h)) σ2 (by omega) (by omega) (by rw [itr, ← ha, if_neg c25, he, nI_clamp (by have := hG.1; omega)]) hP4 (ho.tr ho5)
        · skip
          refine e_iconst (v := 0) (pc := 28) Xc (dT hX7_totalNow 19 rfl) rfl ?_
          refine e_goto (tgt := 45) (pc := 29) Xc (dT hX7_totalNow 20 rfl) rfl ?_
          refine e_iadd (pc := 45) Xc (dT hX7_totalNow 30 rfl) ?_
          refine e_istore_n (L' := [(1, .int (ac + 0)), (0, .ref m), (2, .int (nI r))]) (pc := 46) Xc (dT hX7_totalNow 31 rfl) (by decide) rfl ?_
          refine e_iincN (a := r) (b := 1) (L' := [(2, .int (nI (r + 1))), (1, .int (ac + 0)), (0, .ref m)]) (pc := 47) Xc (dT hX7_totalNow 32 rfl) 2 rfl rfl (by decide) rfl ?_
          refine e_goto (tgt := 4) (pc := 50) Xc (dT hX7_totalNow 33 rfl) rfl ?_
          refine Ev.pick (L' := [(0, .ref m), (2, .int (nI (r + 1))), (1, .int (ac + 0))]) [2, 0, 1] rfl ?_
          exact ih4 (r + 1) (ac + 0) σ2 (by omega) (by omega) (by rw [itr, ← ha, if_pos c25]) hp ho
  show Ev G μ 3 0 0 0 [(0, .ref m)] [] σ
  refine e_iconst (v := 0) (pc := 0) Xc (dT hX7_totalNow 0 rfl) rfl ?_
  refine e_istore_n (L' := [(1, .int 0), (0, .ref m)]) (pc := 1) Xc (dT hX7_totalNow 1 rfl) (by decide) rfl ?_
  refine e_iconst (v := 0) (pc := 2) Xc (dT hX7_totalNow 2 rfl) rfl ?_
  refine e_istore_n (L' := [(2, .int 0), (1, .int 0), (0, .ref m)]) (pc := 3) Xc (dT hX7_totalNow 3 rfl) (by decide) rfl ?_
  refine Ev.pick (L' := [(0, .ref m), (2, .int 0), (1, .int 0)]) [2, 0, 1] rfl ?_
  exact lp4 ((nr - 0) + 1) 0 0 σ (Nat.lt_succ_self _) (Nat.zero_le _) rfl hP Off.rf
set_option maxRecDepth 100000 in
set_option maxHeartbeats 4000000 in
theorem c_comes {G : xG} {σ : xS} {m : Nat} {F : Nat → Int32} {T : Nat → Nat} {A : Nat → Nat → Int32} (hP : PX7 σ m F T A) {nr nb : Nat} (hG : Gd (A 1) nr nb) {t : xT} (hT : Hd (A 1) t) (r : Nat) (hr : r < nr) : CI G yX7_comes cX7_comes 3 (some .boolean) 4 0 0 [.ref m, .int (nI r)] σ (fun z σ1 => z = bI (decide (choF (A 1) t nr nb r ≠ -1)) ∧ PX7 σ1 m F T (upA A 1 (comeF (A 1) t nr nb r)) ∧ Off m σ σ1) := by
  refine Met.ofX (by decide +kernel) (Nat.le_of_ble_eq_true rfl) (fun μ Xc hQ hnm => ?_)
  have Xc : xC G μ cX7_comes 3 RX7 (some .boolean) 4 0 0 := Xc
  have jn30 : ∀ (σ2 : xS), (PX7 σ2 m F T A) → (Off m σ σ2) → Ev G μ 3 0 0 30 [(0, .ref m), (1, .int (nI r)), (2, .int (choF (A 1) t nr nb r))] [.int (if choF (A 1) t nr nb r = -1 then A 1 (1 + r) else choF (A 1) t nr nb r), .int (nI (1 + r)), .ref (m + 1)] σ2 := by
    intro σ2 hp ho
    refine e_iastN (pc := 30) Xc (dT hX7_comes 20 rfl) hp.a1 rfl (1 + r) rfl (by have := hG.1; omega) (by decide) ?_
    refine Ev.gen (fun z => PX7 z m F T (upA A 1 (upd (A 1) (1 + r) (if choF (A 1) t nr nb r = -1 then A 1 (1 + r) else choF (A 1) t nr nb r)))) (hp.wa1 (g := (upd (A 1) (1 + r) (if choF (A 1) t nr nb r = -1 then A 1 (1 + r) else choF (A 1) t nr nb r)))) Off.set (fun σ1 hP2 ho3 => ?_)
    refine e_iload_n (pc := 31) Xc (dT hX7_comes 21 rfl) 2 rfl ?_
    refine e_iconst (v := -1) (pc := 32) Xc (dT hX7_comes 22 rfl) rfl ?_
    refine e_icmp_eq (tgt := 40) (pc := 33) Xc (dT hX7_comes 23 rfl) rfl (fun c33 => ?_) (fun c33 => ?_)
    · skip
      refine e_iconst (v := 0) (pc := 40) Xc (dT hX7_comes 26 rfl) rfl ?_
      refine e_zret (pc := 41) Xc hQ (dT hX7_comes 27 rfl) (Nat.le_refl _) (Nat.le_refl _) (Or.inl rfl) ?_
      exact ⟨by simp [bI, c33], hP2, (ho.tr ho3)⟩
    · skip
      refine e_iconst (v := 1) (pc := 36) Xc (dT hX7_comes 24 rfl) rfl ?_
      refine e_goto (tgt := 41) (pc := 37) Xc (dT hX7_comes 25 rfl) rfl ?_
      refine e_zret (pc := 41) Xc hQ (dT hX7_comes 27 rfl) (Nat.le_refl _) (Nat.le_refl _) (Or.inr rfl) ?_
      exact ⟨by simp [bI, c33], hP2, (ho.tr ho3)⟩
  show Ev G μ 3 0 0 0 [(0, .ref m), (1, .int (nI r))] [] σ
  refine e_aload_n (pc := 0) Xc (dT hX7_comes 0 rfl) 0 rfl ?_
  refine e_iload_n (pc := 1) Xc (dT hX7_comes 1 rfl) 1 rfl ?_
  refine cl_X7_171 (pc := 2) (k := 0) (n := 0) (S := []) Xc hP.o (c_choiceOf hP hG hT r (by omega)) (dT hX7_comes 2 rfl) rfl (Nat.le_of_ble_eq_true rfl) (Nat.le_of_ble_eq_true rfl) (Nat.le_of_ble_eq_true rfl) rfl (Nat.le_of_ble_eq_true rfl) (fun r4 σ5 hq6 => ?_)
  obtain ⟨r4e, hP7, ho8⟩ := hq6
  have r4e := r4e.symm; subst r4e
  refine e_istore_n (L' := [(2, .int (choF (A 1) t nr nb r)), (0, .ref m), (1, .int (nI r))]) (pc := 5) Xc (dT hX7_comes 3 rfl) (by decide) rfl ?_
  refine e_aload_n (pc := 6) Xc (dT hX7_comes 4 rfl) 1 rfl ?_
  refine gf_X7_9 (pc := 7) Xc (dT hX7_comes 5 rfl) hP7.o rfl ?_
  refine e_iconst (v := 1) (pc := 10) Xc (dT hX7_comes 6 rfl) rfl ?_
  refine e_iload_n (pc := 11) Xc (dT hX7_comes 7 rfl) 2 rfl ?_
  refine e_iaddN (a := 1) (b := r) (pc := 12) Xc (dT hX7_comes 8 rfl) ?_
  refine e_iload_n (pc := 13) Xc (dT hX7_comes 9 rfl) 0 rfl ?_
  refine e_iconst (v := -1) (pc := 14) Xc (dT hX7_comes 10 rfl) rfl ?_
  refine e_icmp_ne (tgt := 29) (pc := 15) Xc (dT hX7_comes 11 rfl) rfl (fun c15 => ?_) (fun c15 => ?_)
  · skip
    refine e_iload_n (pc := 29) Xc (dT hX7_comes 19 rfl) 0 rfl ?_
    refine e_val (y := (if choF (A 1) t nr nb r = -1 then A 1 (1 + r) else choF (A 1) t nr nb r)) (by rw [if_neg c15]) ?_
    refine Ev.pick (L' := [(0, .ref m), (1, .int (nI r)), (2, .int (choF (A 1) t nr nb r))]) [1, 2, 0] rfl ?_
    exact jn30 σ5 hP7 ho8
  · skip
    refine e_aload_n (pc := 18) Xc (dT hX7_comes 12 rfl) 1 rfl ?_
    refine gf_X7_9 (pc := 19) Xc (dT hX7_comes 13 rfl) hP7.o rfl ?_
    refine e_iconst (v := 1) (pc := 22) Xc (dT hX7_comes 14 rfl) rfl ?_
    refine e_iload_n (pc := 23) Xc (dT hX7_comes 15 rfl) 2 rfl ?_
    refine e_iaddN (a := 1) (b := r) (pc := 24) Xc (dT hX7_comes 16 rfl) ?_
    refine e_ialdN (pc := 25) Xc (dT hX7_comes 17 rfl) hP7.a1 (by decide) rfl (1 + r) rfl (by have := hG.1; omega) (by decide) ?_
    refine e_goto (tgt := 30) (pc := 26) Xc (dT hX7_comes 18 rfl) rfl ?_
    refine e_val (y := (if choF (A 1) t nr nb r = -1 then A 1 (1 + r) else choF (A 1) t nr nb r)) (by rw [if_pos c15]) ?_
    refine Ev.pick (L' := [(0, .ref m), (1, .int (nI r)), (2, .int (choF (A 1) t nr nb r))]) [1, 2, 0] rfl ?_
    exact jn30 σ5 hP7 ho8
