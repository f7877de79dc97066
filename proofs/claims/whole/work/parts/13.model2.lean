set_option maxRecDepth 100000 in
set_option maxHeartbeats 4000000 in
theorem c_may {G : xG} {σ : xS} {m : Nat} {F : Nat → Int32} {T : Nat → Nat} {A : Nat → Nat → Int32} (hP : PX7 σ m F T A) {nr nb : Nat} (hG : Gd (A 1) nr nb) (r b : Nat) (hr : r < nr) (hb : b < nb) : CI G yX7_may cX7_may 5 (some .boolean) 2 0 0 [.ref m, .int (nI r), .int (nI b)] σ (fun z σ1 => z = bI (mayF (A 1) nr r b) ∧ σ1 = σ) := by
  refine Met.ofX (by decide +kernel) (Nat.le_of_ble_eq_true rfl) (fun μ Xc hQ hnm => ?_)
  have Xc : xC G μ cX7_may 5 RX7 (some .boolean) 2 0 0 := Xc
  have jn35 : Ev G μ 5 0 0 35 [(0, .ref m), (1, .int (nI r)), (2, .int (nI b)), (3, .int (A 1 (1 + r)))] [.int (thickerF (A 1) (A 1 (1 + r)) b)] σ := by
    refine e_istore (L' := [(4, .int (thickerF (A 1) (A 1 (1 + r)) b)), (0, .ref m), (1, .int (nI r)), (2, .int (nI b)), (3, .int (A 1 (1 + r)))]) (pc := 35) Xc (dT hX7_may 25 rfl) (by decide) rfl ?_
    refine e_aload_n (pc := 37) Xc (dT hX7_may 26 rfl) 1 rfl ?_
    refine e_iload_n (pc := 38) Xc (dT hX7_may 27 rfl) 3 rfl ?_
    refine cl_X7_147 (pc := 39) (k := 0) (n := 0) (S := []) Xc hP.o (c_isOn hP hG (nI b)) (dT hX7_may 28 rfl) rfl (Nat.le_of_ble_eq_true rfl) (Nat.le_of_ble_eq_true rfl) (Nat.le_of_ble_eq_true rfl) rfl (Nat.le_of_ble_eq_true rfl) (fun r1 σ2 hq3 => ?_)
    obtain ⟨r1e, r1s⟩ := hq3
    have r1e := r1e.symm; subst r1e; have r1s := r1s.symm; subst r1s
    refine e_if_eq (tgt := 64) (pc := 42) Xc (dT hX7_may 29 rfl) rfl (fun c42 => ?_) (fun c42 => ?_)
    · skip
      refine e_iconst (v := 0) (pc := 64) Xc (dT hX7_may 39 rfl) rfl ?_
      refine e_zret (pc := 65) Xc hQ (dT hX7_may 40 rfl) (Nat.le_refl _) (Nat.le_refl _) (Or.inl rfl) ?_
      refine ⟨?_, rfl⟩
      simp only [mayF, ← Int32.not_lt] at *
      simp_all [bI_0, bI]
    · skip
      refine e_iload (pc := 45) Xc (dT hX7_may 30 rfl) 0 rfl ?_
      refine e_iconst (v := 1) (pc := 47) Xc (dT hX7_may 31 rfl) rfl ?_
      refine e_icmp_lt (tgt := 64) (pc := 48) Xc (dT hX7_may 32 rfl) rfl (fun c48 => ?_) (fun c48 => ?_)
      · skip
        refine e_iconst (v := 0) (pc := 64) Xc (dT hX7_may 39 rfl) rfl ?_
        refine e_zret (pc := 65) Xc hQ (dT hX7_may 40 rfl) (Nat.le_refl _) (Nat.le_refl _) (Or.inl rfl) ?_
        refine ⟨?_, rfl⟩
        simp only [mayF, ← Int32.not_lt] at *
        simp_all [bI_0, bI]
      · skip
        refine e_iload (pc := 51) Xc (dT hX7_may 33 rfl) 0 rfl ?_
        refine e_aload_n (pc := 53) Xc (dT hX7_may 34 rfl) 1 rfl ?_
        refine cl_X7_151 (pc := 54) (k := 0) (n := 0) (S := [.int (thickerF (A 1) (A 1 (1 + r)) b)]) Xc hP.o (c_gapNow hP hG) (dT hX7_may 35 rfl) rfl (Nat.le_of_ble_eq_true rfl) (Nat.le_of_ble_eq_true rfl) (Nat.le_of_ble_eq_true rfl) rfl (Nat.le_of_ble_eq_true rfl) (fun r4 σ5 hq6 => ?_)
        obtain ⟨r4e, r4s⟩ := hq6
        have r4e := r4e.symm; subst r4e; have r4s := r4s.symm; subst r4s
        refine e_icmp_lt (tgt := 64) (pc := 57) Xc (dT hX7_may 36 rfl) rfl (fun c57 => ?_) (fun c57 => ?_)
        · skip
          refine e_iconst (v := 0) (pc := 64) Xc (dT hX7_may 39 rfl) rfl ?_
          refine e_zret (pc := 65) Xc hQ (dT hX7_may 40 rfl) (Nat.le_refl _) (Nat.le_refl _) (Or.inl rfl) ?_
          refine ⟨?_, rfl⟩
          simp only [mayF, ← Int32.not_lt] at *
          simp_all [bI_0, bI]
        · skip
          refine e_iconst (v := 1) (pc := 60) Xc (dT hX7_may 37 rfl) rfl ?_
          refine e_goto (tgt := 65) (pc := 61) Xc (dT hX7_may 38 rfl) rfl ?_
          refine e_zret (pc := 65) Xc hQ (dT hX7_may 40 rfl) (Nat.le_refl _) (Nat.le_refl _) (Or.inr rfl) ?_
          refine ⟨?_, rfl⟩
          simp only [mayF, ← Int32.not_lt] at *
          simp_all [bI_0, bI]
  show Ev G μ 5 0 0 0 [(0, .ref m), (1, .int (nI r)), (2, .int (nI b))] [] σ
  refine e_aload_n (pc := 0) Xc (dT hX7_may 0 rfl) 0 rfl ?_
  refine gf_X7_9 (pc := 1) Xc (dT hX7_may 1 rfl) hP.o rfl ?_
  refine e_iconst (v := 1) (pc := 4) Xc (dT hX7_may 2 rfl) rfl ?_
  refine e_iload_n (pc := 5) Xc (dT hX7_may 3 rfl) 1 rfl ?_
  refine e_iaddN (a := 1) (b := r) (pc := 6) Xc (dT hX7_may 4 rfl) ?_
  refine e_ialdN (pc := 7) Xc (dT hX7_may 5 rfl) hP.a1 (by decide) rfl (1 + r) rfl (by have := hG.1; omega) (by decide) ?_
  refine e_istore_n (L' := [(3, .int (A 1 (1 + r))), (0, .ref m), (1, .int (nI r)), (2, .int (nI b))]) (pc := 8) Xc (dT hX7_may 6 rfl) (by decide) rfl ?_
  refine e_iload_n (pc := 9) Xc (dT hX7_may 7 rfl) 0 rfl ?_
  refine e_iconst (v := -1) (pc := 10) Xc (dT hX7_may 8 rfl) rfl ?_
  refine e_icmp_ne (tgt := 18) (pc := 11) Xc (dT hX7_may 9 rfl) rfl (fun c11 => ?_) (fun c11 => ?_)
  · skip
    obtain ⟨h, hl, he⟩ := hG.has (by omega) c11
    refine e_aload_n (pc := 18) Xc (dT hX7_may 12 rfl) 1 rfl ?_
    refine gf_X7_9 (pc := 19) Xc (dT hX7_may 13 rfl) hP.o rfl ?_
    refine e_iconst (v := 5) (pc := 22) Xc (dT hX7_may 14 rfl) rfl ?_
    refine e_iload_n (pc := 23) Xc (dT hX7_may 15 rfl) 0 rfl ?_
    refine e_val (y := nI h) he ?_
    refine e_iaddN (a := 5) (b := h) (pc := 24) Xc (dT hX7_may 16 rfl) ?_
    refine e_ialdN (pc := 25) Xc (dT hX7_may 17 rfl) hP.a1 (by decide) rfl (5 + h) rfl (by have := hG.1; omega) (by decide) ?_
    refine e_aload_n (pc := 26) Xc (dT hX7_may 18 rfl) 1 rfl ?_
    refine gf_X7_9 (pc := 27) Xc (dT hX7_may 19 rfl) hP.o rfl ?_
    refine e_iconst (v := 5) (pc := 30) Xc (dT hX7_may 20 rfl) rfl ?_
    refine e_iload_n (pc := 31) Xc (dT hX7_may 21 rfl) 3 rfl ?_
    refine e_iaddN (a := 5) (b := b) (pc := 32) Xc (dT hX7_may 22 rfl) ?_
    refine e_ialdN (pc := 33) Xc (dT hX7_may 23 rfl) hP.a1 (by decide) rfl (5 + b) rfl (by have := hG.1; omega) (by decide) ?_
    refine e_isub (pc := 34) Xc (dT hX7_may 24 rfl) ?_
    refine e_val (y := thickerF (A 1) (A 1 (1 + r)) b) (by rw [thickerF, if_neg c11, he, nI_clamp (by have := hG.1; omega)]) ?_
    refine Ev.pick (L' := [(0, .ref m), (1, .int (nI r)), (2, .int (nI b)), (3, .int (A 1 (1 + r)))]) [1, 2, 3, 0] rfl ?_
    exact jn35  
  · skip
    refine e_iconst (v := 0) (pc := 14) Xc (dT hX7_may 10 rfl) rfl ?_
    refine e_goto (tgt := 35) (pc := 15) Xc (dT hX7_may 11 rfl) rfl ?_
    refine e_val (y := thickerF (A 1) (A 1 (1 + r)) b) (by rw [thickerF, if_pos c11]) ?_
    refine Ev.pick (L' := [(0, .ref m), (1, .int (nI r)), (2, .int (nI b)), (3, .int (A 1 (1 + r)))]) [1, 2, 3, 0] rfl ?_
    exact jn35  
set_option maxRecDepth 100000 in
set_option maxHeartbeats 4000000 in
theorem c_mayTake {G : xG} {σ : xS} {m : Nat} {F : Nat → Int32} {T : Nat → Nat} {A : Nat → Nat → Int32} (hP : PX7 σ m F T A) {nr nb : Nat} (hG : Gd (A 1) nr nb) (r : Nat) (hr : r < nr) : CI G yX7_mayTake cX7_mayTake 4 (some .int) 3 0 0 [.ref m, .int (nI r)] σ (fun z σ1 => z = mayTakeF (A 1) nr nb r ∧ σ1 = σ) := by
  refine Met.ofX (by decide +kernel) (Nat.le_of_ble_eq_true rfl) (fun μ Xc hQ hnm => ?_)
  have Xc : xC G μ cX7_mayTake 4 RX7 (some .int) 3 0 0 := Xc
  have lp4 : ∀ (n4 : Nat) (b : Nat) (ac : Int32), nb - b < n4 → (b ≤ nb) → (ac = itr (fun b a => a ||| (if mayF (A 1) nr r b then 1 <<< (nI b &&& 31) else 0)) 0 b) → Ev G μ 4 0 0 4 [(0, .ref m), (1, .int (nI r)), (3, .int (nI b)), (2, .int ac)] [] σ := by
    intro n4
    induction n4 with
    | zero => intro b ac hn; exact absurd hn (Nat.not_lt_zero _)
    | succ n4 ih4 =>
      intro b ac hn4 hb ha
      refine e_iload_n (pc := 4) Xc (dT hX7_mayTake 4 rfl) 2 rfl ?_
      refine e_aload_n (pc := 5) Xc (dT hX7_mayTake 5 rfl) 0 rfl ?_
      refine gf_X7_9 (pc := 6) Xc (dT hX7_mayTake 6 rfl) hP.o rfl ?_
      refine e_bipush (v := 13) (pc := 9) Xc (dT hX7_mayTake 7 rfl) rfl ?_
      refine e_ialdN (pc := 11) Xc (dT hX7_mayTake 8 rfl) hP.a1 (by decide) rfl 13 rfl (by have := hG.1; omega) (by decide) ?_
      refine e_val (y := nI nb) hG.1.2.2.2 ?_
      refine e_icmp_geN (x := b) (y := nb) (tgt := 40) (pc := 12) Xc (dT hX7_mayTake 9 rfl) rfl (by have := hG.1; omega) (by have := hG.1; omega) (fun c12 => ?_) (fun c12 => ?_)
      · skip
        refine e_iload_n (pc := 40) Xc (dT hX7_mayTake 25 rfl) 3 rfl ?_
        refine e_iret (pc := 41) Xc hQ (dT hX7_mayTake 26 rfl) (Nat.le_refl _) (Nat.le_refl _) ?_
        refine ⟨?_, rfl⟩
        have hbe : b = nb := by omega
        subst hbe
        exact ha
      · skip
        refine e_iload_n (pc := 15) Xc (dT hX7_mayTake 10 rfl) 3 rfl ?_
        refine e_aload_n (pc := 16) Xc (dT hX7_mayTake 11 rfl) 0 rfl ?_
        refine e_iload_n (pc := 17) Xc (dT hX7_mayTake 12 rfl) 1 rfl ?_
        refine e_iload_n (pc := 18) Xc (dT hX7_mayTake 13 rfl) 2 rfl ?_
        refine cl_X7_154 (pc := 19) (k := 0) (n := 0) (S := [.int ac]) Xc hP.o (c_may hP hG r b (by omega) (by omega)) (dT hX7_mayTake 14 rfl) rfl (Nat.le_of_ble_eq_true rfl) (Nat.le_of_ble_eq_true rfl) (Nat.le_of_ble_eq_true rfl) rfl (Nat.le_of_ble_eq_true rfl) (fun r1 σ2 hq3 => ?_)
        obtain ⟨r1e, r1s⟩ := hq3
        have r1e := r1e.symm; subst r1e; have r1s := r1s.symm; subst r1s
        refine e_if_eq (tgt := 31) (pc := 22) Xc (dT hX7_mayTake 15 rfl) rfl (fun c22 => ?_) (fun c22 => ?_)
        · skip
          refine e_iconst (v := 0) (pc := 31) Xc (dT hX7_mayTake 20 rfl) rfl ?_
          refine e_ior (pc := 32) Xc (dT hX7_mayTake 21 rfl) ?_
          refine e_istore_n (L' := [(2, .int (ac ||| 0)), (0, .ref m), (1, .int (nI r)), (3, .int (nI b))]) (pc := 33) Xc (dT hX7_mayTake 22 rfl) (by decide) rfl ?_
          refine e_iincN (a := b) (b := 1) (L' := [(3, .int (nI (b + 1))), (2, .int (ac ||| 0)), (0, .ref m), (1, .int (nI r))]) (pc := 34) Xc (dT hX7_mayTake 23 rfl) 3 rfl rfl (by decide) rfl ?_
          refine e_goto (tgt := 4) (pc := 37) Xc (dT hX7_mayTake 24 rfl) rfl ?_
          refine Ev.pick (L' := [(0, .ref m), (1, .int (nI r)), (3, .int (nI (b + 1))), (2, .int (ac ||| 0))]) [2, 3, 0, 1] rfl ?_
          exact ih4 (b + 1) (ac ||| 0) (by omega) (by omega) (by rw [itr, ← ha]; simp only [bI_0] at c22; simp [c22])
        · skip
          refine e_iconst (v := 1) (pc := 25) Xc (dT hX7_mayTake 16 rfl) rfl ?_
          refine e_iload_n (pc := 26) Xc (dT hX7_mayTake 17 rfl) 2 rfl ?_
          refine e_ishl (pc := 27) Xc (dT hX7_mayTake 18 rfl) ?_
          refine e_goto (tgt := 32) (pc := 28) Xc (dT hX7_mayTake 19 rfl) rfl ?_
          refine e_ior (pc := 32) Xc (dT hX7_mayTake 21 rfl) ?_
          refine e_istore_n (L' := [(2, .int (ac ||| (1 <<< ((nI b) &&& 31)))), (0, .ref m), (1, .int (nI r)), (3, .int (nI b))]) (pc := 33) Xc (dT hX7_mayTake 22 rfl) (by decide) rfl ?_
          refine e_iincN (a := b) (b := 1) (L' := [(3, .int (nI (b + 1))), (2, .int (ac ||| (1 <<< ((nI b) &&& 31)))), (0, .ref m), (1, .int (nI r))]) (pc := 34) Xc (dT hX7_mayTake 23 rfl) 3 rfl rfl (by decide) rfl ?_
          refine e_goto (tgt := 4) (pc := 37) Xc (dT hX7_mayTake 24 rfl) rfl ?_
          refine Ev.pick (L' := [(0, .ref m), (1, .int (nI r)), (3, .int (nI (b + 1))), (2, .int (ac ||| (1 <<< ((nI b) &&& 31))))]) [2, 3, 0, 1] rfl ?_
          exact ih4 (b + 1) (ac ||| (1 <<< ((nI b) &&& 31))) (by omega) (by omega) (by rw [itr, ← ha]; simp only [bI_0] at c22; simp [c22])
  show Ev G μ 4 0 0 0 [(0, .ref m), (1, .int (nI r))] [] σ
  refine e_iconst (v := 0) (pc := 0) Xc (dT hX7_mayTake 0 rfl) rfl ?_
  refine e_istore_n (L' := [(2, .int 0), (0, .ref m), (1, .int (nI r))]) (pc := 1) Xc (dT hX7_mayTake 1 rfl) (by decide) rfl ?_
  refine e_iconst (v := 0) (pc := 2) Xc (dT hX7_mayTake 2 rfl) rfl ?_
  refine e_istore_n (L' := [(3, .int 0), (2, .int 0), (0, .ref m), (1, .int (nI r))]) (pc := 3) Xc (dT hX7_mayTake 3 rfl) (by decide) rfl ?_
  refine Ev.pick (L' := [(0, .ref m), (1, .int (nI r)), (3, .int 0), (2, .int 0)]) [2, 3, 0, 1] rfl ?_
  exact lp4 ((nb - 0) + 1) 0 0 (Nat.lt_succ_self _) (Nat.zero_le _) rfl
set_option maxRecDepth 100000 in
set_option maxHeartbeats 4000000 in
theorem c_isThin {G : xG} {σ : xS} {m : Nat} {F : Nat → Int32} {T : Nat → Nat} {A : Nat → Nat → Int32} (hP : PX7 σ m F T A) {nr nb : Nat} (hG : Gd (A 1) nr nb) (r : Nat) (hr : r < nr) : CI G yX7_isThin cX7_isThin 2 (some .boolean) 0 0 0 [.ref m, .int (nI r)] σ (fun z σ1 => z = bI (thinF (A 1) r) ∧ σ1 = σ) := by
  refine Met.ofX (by decide +kernel) (Nat.le_of_ble_eq_true rfl) (fun μ Xc hQ hnm => ?_)
  have Xc : xC G μ cX7_isThin 2 RX7 (some .boolean) 0 0 0 := Xc
  show Ev G μ 2 0 0 0 [(0, .ref m), (1, .int (nI r))] [] σ
  refine e_aload_n (pc := 0) Xc (dT hX7_isThin 0 rfl) 0 rfl ?_
  refine gf_X7_9 (pc := 1) Xc (dT hX7_isThin 1 rfl) hP.o rfl ?_
  refine e_bipush (v := 20) (pc := 4) Xc (dT hX7_isThin 2 rfl) rfl ?_
  refine e_iload_n (pc := 6) Xc (dT hX7_isThin 3 rfl) 1 rfl ?_
  refine e_iaddN (a := 20) (b := r) (pc := 7) Xc (dT hX7_isThin 4 rfl) ?_
  refine e_ialdN (pc := 8) Xc (dT hX7_isThin 5 rfl) hP.a1 (by decide) rfl (20 + r) rfl (by have := hG.1; omega) (by decide) ?_
  refine e_iconst (v := 1) (pc := 9) Xc (dT hX7_isThin 6 rfl) rfl ?_
  refine e_icmp_eq (tgt := 26) (pc := 10) Xc (dT hX7_isThin 7 rfl) rfl (fun c10 => ?_) (fun c10 => ?_)
  · skip
    refine e_iconst (v := 1) (pc := 26) Xc (dT hX7_isThin 16 rfl) rfl ?_
    refine e_goto (tgt := 31) (pc := 27) Xc (dT hX7_isThin 17 rfl) rfl ?_
    refine e_zret (pc := 31) Xc hQ (dT hX7_isThin 19 rfl) (Nat.le_refl _) (Nat.le_refl _) (Or.inr rfl) ?_
    refine ⟨?_, rfl⟩
    simp_all [thinF, bI]
  · skip
    refine e_aload_n (pc := 13) Xc (dT hX7_isThin 8 rfl) 0 rfl ?_
    refine gf_X7_9 (pc := 14) Xc (dT hX7_isThin 9 rfl) hP.o rfl ?_
    refine e_bipush (v := 20) (pc := 17) Xc (dT hX7_isThin 10 rfl) rfl ?_
    refine e_iload_n (pc := 19) Xc (dT hX7_isThin 11 rfl) 1 rfl ?_
    refine e_iaddN (a := 20) (b := r) (pc := 20) Xc (dT hX7_isThin 12 rfl) ?_
    refine e_ialdN (pc := 21) Xc (dT hX7_isThin 13 rfl) hP.a1 (by decide) rfl (20 + r) rfl (by have := hG.1; omega) (by decide) ?_
    refine e_iconst (v := 4) (pc := 22) Xc (dT hX7_isThin 14 rfl) rfl ?_
    refine e_icmp_ne (tgt := 30) (pc := 23) Xc (dT hX7_isThin 15 rfl) rfl (fun c23 => ?_) (fun c23 => ?_)
    · skip
      refine e_iconst (v := 0) (pc := 30) Xc (dT hX7_isThin 18 rfl) rfl ?_
      refine e_zret (pc := 31) Xc hQ (dT hX7_isThin 19 rfl) (Nat.le_refl _) (Nat.le_refl _) (Or.inl rfl) ?_
      refine ⟨?_, rfl⟩
      simp_all [thinF, bI]
    · skip
      refine e_iconst (v := 1) (pc := 26) Xc (dT hX7_isThin 16 rfl) rfl ?_
      refine e_goto (tgt := 31) (pc := 27) Xc (dT hX7_isThin 17 rfl) rfl ?_
      refine e_zret (pc := 31) Xc hQ (dT hX7_isThin 19 rfl) (Nat.le_refl _) (Nat.le_refl _) (Or.inr rfl) ?_
      refine ⟨?_, rfl⟩
      simp_all [thinF, bI]
