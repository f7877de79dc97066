set_option maxRecDepth 100000 in
set_option maxHeartbeats 4000000 in
theorem p_wanted {G : xG} {σ : xS} {m : Nat} {X Y bd : Nat → Int32} {hi rn : Int32} (hM : MK σ m X Y bd hi rn) {nr nb ns np nn nt na dy : Nat} {t : xT} (hK : OK X nr nb t ns np nn nt na dy) (b : Int32) : CI G yX7_wanted cX7_wanted 7 (some .int) 4 0 0 [.ref m, .int b] σ (fun z σ1 => z = v_wanted X t nr nb b ∧ MK σ1 m X Y bd hi rn ∧ Off m σ σ1) := by
  refine Met.ofX (by decide +kernel) (Nat.le_of_ble_eq_true rfl) (fun μ Xc hQ hnm => ?_)
  have Xc : xC G μ cX7_wanted 7 RX7 (some .int) 4 0 0 := Xc
  obtain ⟨F, T, A, hP, e1, e2, e3, e4, e5⟩ := hM
  subst e1 e2 e3 e4 e5
  obtain ⟨hG, hT, hS, hPl, hNo, hTa, hA, hJ, hR, hD⟩ := id hK
  have hr4 := hG.r4
  have hb7 := hG.b7
  have hs6 := hS.1
  have hp8 := hPl.1
  have hn8 := hNo.1
  have ht100 := hTa.1
  have ha5 := hA.1
  have hd9 := hD.1
  show Ev G μ 7 0 0 0 [(0, .ref m), (1, .int b)] [] σ
  refine e_aload_n (pc := 0) Xc (dT hX7_wanted 0 rfl) 0 rfl ?_
  refine e_iload_n (pc := 1) Xc (dT hX7_wanted 1 rfl) 1 rfl ?_
  refine cl_X7_177 (pc := 2) (k := 0) (n := 0) (S := []) Xc hP.o (c_isBook hP hG b) (dT hX7_wanted 2 rfl) rfl (Nat.le_of_ble_eq_true rfl) (Nat.le_of_ble_eq_true rfl) (Nat.le_of_ble_eq_true rfl) rfl (Nat.le_of_ble_eq_true rfl) (fun r1 σ2 hq3 => ?_)
  obtain ⟨r1e, r1s⟩ := hq3
  have r1e := r1e.symm; subst r1e; have r1s := r1s.symm; subst r1s
  refine e_if_ne (tgt := 10) (pc := 5) Xc (dT hX7_wanted 3 rfl) rfl (fun c5 => ?_) (fun c5 => ?_)
  · skip
    obtain ⟨p, hp, rfl⟩ := inF_nat (v := b) (n := nb) (by omega) (by simpa [bI_0, bI_1] using c5)
    have hc_p : cl (nI p) = p := cl_nI (by omega)
    refine e_iconst (v := 0) (pc := 10) Xc (dT hX7_wanted 6 rfl) rfl ?_
    refine e_istore_n (L' := [(2, .int 0), (0, .ref m), (1, .int (nI p))]) (pc := 11) Xc (dT hX7_wanted 7 rfl) (by decide) rfl ?_
    refine e_iconst (v := 0) (pc := 12) Xc (dT hX7_wanted 8 rfl) rfl ?_
    refine e_istore_n (L' := [(3, .int 0), (2, .int 0), (0, .ref m), (1, .int (nI p))]) (pc := 13) Xc (dT hX7_wanted 9 rfl) (by decide) rfl ?_
    have lp14 : ∀ (n14 : Nat) (r_ : Nat) (ac_ : Int32) (σ2 : xS), nr - r_ < n14 → (r_ ≤ nr) → (ac_ = itr (fun r a => a ||| (if mostLF (A 1) t nb r p then 1 <<< (nI r &&& 31) else 0)) 0 r_) → (PX7 σ2 m F T A) → (Off m σ σ2) → Ev G μ 7 0 0 14 [(0, .ref m), (1, .int (nI p)), (2, .int ac_), (3, .int (nI r_))] [] σ2 := by
      intro n14
      induction n14 with
      | zero => intro r_ ac_ σ2 hn; exact absurd hn (Nat.not_lt_zero _)
      | succ n14 ih14 =>
        intro r_ ac_ σ2 hn14 hr_ ha_ hp ho
        refine e_iload_n (pc := 14) Xc (dT hX7_wanted 10 rfl) 3 rfl ?_
        refine e_aload_n (pc := 15) Xc (dT hX7_wanted 11 rfl) 0 rfl ?_
        refine gf_X7_9 (pc := 16) Xc (dT hX7_wanted 12 rfl) hp.o rfl ?_
        refine e_bipush (v := 12) (pc := 19) Xc (dT hX7_wanted 13 rfl) rfl ?_
        refine e_ialdN (pc := 21) Xc (dT hX7_wanted 14 rfl) hp.a1 (by decide) rfl 12 rfl (by omega) (by decide) ?_
        refine e_val (y := nI nr) hG.1.2.2.1 ?_
        refine e_icmp_geN (x := r_) (y := nr) (tgt := 102) (pc := 22) Xc (dT hX7_wanted 15 rfl) rfl (by omega) (by omega) (fun c22 => ?_) (fun c22 => ?_)
        · skip
          have hre_ : r_ = nr := by omega
          subst hre_
          have hfin_ : itr (fun r a => a ||| (if mostLF (A 1) t nb r p then 1 <<< (nI r &&& 31) else 0)) 0 r_ = ac_ := ha_.symm
          refine e_iload_n (pc := 102) Xc (dT hX7_wanted 57 rfl) 2 rfl ?_
          refine e_iret (pc := 103) Xc hQ (dT hX7_wanted 58 rfl) (Nat.le_refl _) (Nat.le_refl _) ?_
          have hz : v_wanted (A 1) t r_ nb (nI p) = ac_ := by
            try simp only [bI_0, bI_1, Bool.not_eq_true, Bool.not_eq_false] at c5 c22
            first | (simp [v_wanted, c5, c22, hc_p, hfin_]; done) | (clear hK hG hT hS hPl hNo hTa hA hJ hR hD hQ Xc; simp_all [v_wanted]; done)
          exact ⟨hz.symm, ⟨_, _, _, hp, rfl, rfl, rfl, rfl, rfl⟩, ho⟩
        · skip
          refine e_aload_n (pc := 25) Xc (dT hX7_wanted 16 rfl) 0 rfl ?_
          refine e_iload_n (pc := 26) Xc (dT hX7_wanted 17 rfl) 3 rfl ?_
          refine e_iload_n (pc := 27) Xc (dT hX7_wanted 18 rfl) 1 rfl ?_
          refine cl_X7_162 (pc := 28) (k := 0) (n := 0) (S := []) Xc hp.o (c_likingOf hp hG hT r_ p (by omega) (by omega)) (dT hX7_wanted 19 rfl) rfl (Nat.le_of_ble_eq_true rfl) (Nat.le_of_ble_eq_true rfl) (Nat.le_of_ble_eq_true rfl) rfl (Nat.le_of_ble_eq_true rfl) (fun r4 σ5 hq6 => ?_)
          obtain ⟨r4e, hP7, ho8⟩ := hq6
          have r4e := r4e.symm; subst r4e
          refine e_istore (L' := [(4, .int (likF (A 1) t r_ p)), (0, .ref m), (1, .int (nI p)), (2, .int ac_), (3, .int (nI r_))]) (pc := 31) Xc (dT hX7_wanted 20 rfl) (by decide) rfl ?_
          refine e_iconst (v := 1) (pc := 33) Xc (dT hX7_wanted 21 rfl) rfl ?_
          refine e_istore (L' := [(5, .int 1), (4, .int (likF (A 1) t r_ p)), (0, .ref m), (1, .int (nI p)), (2, .int ac_), (3, .int (nI r_))]) (pc := 34) Xc (dT hX7_wanted 22 rfl) (by decide) rfl ?_
          refine e_iconst (v := 0) (pc := 36) Xc (dT hX7_wanted 23 rfl) rfl ?_
          refine e_istore (L' := [(6, .int 0), (5, .int 1), (4, .int (likF (A 1) t r_ p)), (0, .ref m), (1, .int (nI p)), (2, .int ac_), (3, .int (nI r_))]) (pc := 37) Xc (dT hX7_wanted 24 rfl) (by decide) rfl ?_
          have lp39 : ∀ (n39 : Nat) (b_ : Nat) (mo_ : Bool) (σ3 : xS), nb - b_ < n39 → (b_ ≤ nb) → (mo_ = allTo (fun c => decide (likF (A 1) t r_ c ≤ likF (A 1) t r_ p)) b_) → (PX7 σ3 m F T A) → (Off m σ σ3) → Ev G μ 7 0 0 39 [(0, .ref m), (1, .int (nI p)), (2, .int ac_), (3, .int (nI r_)), (4, .int (likF (A 1) t r_ p)), (5, .int (bI mo_)), (6, .int (nI b_))] [] σ3 := by
            intro n39
            induction n39 with
            | zero => intro b_ mo_ σ3 hn; exact absurd hn (Nat.not_lt_zero _)
            | succ n39 ih39 =>
              intro b_ mo_ σ3 hn39 hb_ hmo_ hp3 ho3
              refine e_iload (pc := 39) Xc (dT hX7_wanted 25 rfl) 6 rfl ?_
              refine e_aload_n (pc := 41) Xc (dT hX7_wanted 26 rfl) 0 rfl ?_
              refine gf_X7_9 (pc := 42) Xc (dT hX7_wanted 27 rfl) hp3.o rfl ?_
              refine e_bipush (v := 13) (pc := 45) Xc (dT hX7_wanted 28 rfl) rfl ?_
              refine e_ialdN (pc := 47) Xc (dT hX7_wanted 29 rfl) hp3.a1 (by decide) rfl 13 rfl (by omega) (by decide) ?_
              refine e_val (y := nI nb) hG.1.2.2.2 ?_
              refine e_icmp_geN (x := b_) (y := nb) (tgt := 81) (pc := 48) Xc (dT hX7_wanted 30 rfl) rfl (by omega) (by omega) (fun c48 => ?_) (fun c48 => ?_)
              · skip
                refine e_iload_n (pc := 81) Xc (dT hX7_wanted 45 rfl) 2 rfl ?_
                refine e_iload (pc := 82) Xc (dT hX7_wanted 46 rfl) 5 rfl ?_
                refine e_if_eq (tgt := 93) (pc := 84) Xc (dT hX7_wanted 47 rfl) rfl (fun c84 => ?_) (fun c84 => ?_)
                · skip
                  refine e_iconst (v := 0) (pc := 93) Xc (dT hX7_wanted 52 rfl) rfl ?_
                  refine e_ior (pc := 94) Xc (dT hX7_wanted 53 rfl) ?_
                  refine e_istore_n (L' := [(2, .int (ac_ ||| 0)), (0, .ref m), (1, .int (nI p)), (3, .int (nI r_)), (4, .int (likF (A 1) t r_ p)), (5, .int (bI mo_)), (6, .int (nI b_))]) (pc := 95) Xc (dT hX7_wanted 54 rfl) (by decide) rfl ?_
                  refine e_iincN (a := r_) (b := 1) (L' := [(3, .int (nI (r_ + 1))), (2, .int (ac_ ||| 0)), (0, .ref m), (1, .int (nI p)), (4, .int (likF (A 1) t r_ p)), (5, .int (bI mo_)), (6, .int (nI b_))]) (pc := 96) Xc (dT hX7_wanted 55 rfl) 3 rfl rfl (by decide) rfl ?_
                  refine e_goto (tgt := 14) (pc := 99) Xc (dT hX7_wanted 56 rfl) rfl ?_
                  refine Ev.pick (L' := [(0, .ref m), (1, .int (nI p)), (2, .int (ac_ ||| 0)), (3, .int (nI (r_ + 1)))]) [2, 3, 1, 0] rfl ?_
                  exact ih14 (r_ + 1) (ac_ ||| 0) σ3 (by omega) (by omega) (by have hbe_ : b_ = nb := (by omega); subst hbe_; rw [itr, ← ha_, show mostLF (A 1) t b_ r_ p = mo_ from hmo_.symm]; simp only [bI_0, Bool.not_eq_false] at c84; rw [c84]; simp) hp3 ho3
                · skip
                  refine e_iconst (v := 1) (pc := 87) Xc (dT hX7_wanted 48 rfl) rfl ?_
                  refine e_iload_n (pc := 88) Xc (dT hX7_wanted 49 rfl) 3 rfl ?_
                  refine e_ishl (pc := 89) Xc (dT hX7_wanted 50 rfl) ?_
                  refine e_goto (tgt := 94) (pc := 90) Xc (dT hX7_wanted 51 rfl) rfl ?_
                  refine e_ior (pc := 94) Xc (dT hX7_wanted 53 rfl) ?_
                  refine e_istore_n (L' := [(2, .int (ac_ ||| (1 <<< ((nI r_) &&& 31)))), (0, .ref m), (1, .int (nI p)), (3, .int (nI r_)), (4, .int (likF (A 1) t r_ p)), (5, .int (bI mo_)), (6, .int (nI b_))]) (pc := 95) Xc (dT hX7_wanted 54 rfl) (by decide) rfl ?_
                  refine e_iincN (a := r_) (b := 1) (L' := [(3, .int (nI (r_ + 1))), (2, .int (ac_ ||| (1 <<< ((nI r_) &&& 31)))), (0, .ref m), (1, .int (nI p)), (4, .int (likF (A 1) t r_ p)), (5, .int (bI mo_)), (6, .int (nI b_))]) (pc := 96) Xc (dT hX7_wanted 55 rfl) 3 rfl rfl (by decide) rfl ?_
                  refine e_goto (tgt := 14) (pc := 99) Xc (dT hX7_wanted 56 rfl) rfl ?_
                  refine Ev.pick (L' := [(0, .ref m), (1, .int (nI p)), (2, .int (ac_ ||| (1 <<< ((nI r_) &&& 31)))), (3, .int (nI (r_ + 1)))]) [2, 3, 1, 0] rfl ?_
                  exact ih14 (r_ + 1) (ac_ ||| (1 <<< ((nI r_) &&& 31))) σ3 (by omega) (by omega) (by have hbe_ : b_ = nb := (by omega); subst hbe_; rw [itr, ← ha_, show mostLF (A 1) t b_ r_ p = mo_ from hmo_.symm]; simp only [bI_0, Bool.not_eq_false] at c84; rw [c84]; simp) hp3 ho3
              · skip
                refine e_iload (pc := 51) Xc (dT hX7_wanted 31 rfl) 5 rfl ?_
                refine e_if_eq (tgt := 72) (pc := 53) Xc (dT hX7_wanted 32 rfl) rfl (fun c53 => ?_) (fun c53 => ?_)
                · skip
                  refine e_iconst (v := 0) (pc := 72) Xc (dT hX7_wanted 41 rfl) rfl ?_
                  refine e_istore (L' := [(5, .int 0), (0, .ref m), (1, .int (nI p)), (2, .int ac_), (3, .int (nI r_)), (4, .int (likF (A 1) t r_ p)), (6, .int (nI b_))]) (pc := 73) Xc (dT hX7_wanted 42 rfl) (by decide) rfl ?_
                  refine e_iincN (a := b_) (b := 1) (L' := [(6, .int (nI (b_ + 1))), (5, .int 0), (0, .ref m), (1, .int (nI p)), (2, .int ac_), (3, .int (nI r_)), (4, .int (likF (A 1) t r_ p))]) (pc := 75) Xc (dT hX7_wanted 43 rfl) 6 rfl rfl (by decide) rfl ?_
                  refine e_goto (tgt := 39) (pc := 78) Xc (dT hX7_wanted 44 rfl) rfl ?_
                  refine Ev.pick (L' := [(0, .ref m), (1, .int (nI p)), (2, .int ac_), (3, .int (nI r_)), (4, .int (likF (A 1) t r_ p)), (5, .int 0), (6, .int (nI (b_ + 1)))]) [2, 3, 4, 5, 6, 1, 0] rfl ?_
                  exact ih39 (b_ + 1) false σ3 (by omega) (by omega) (by show false = (allTo _ b_ && _); rw [← hmo_]; simp only [bI_0] at c53; rw [c53]; rfl) hp3 ho3
                · skip
                  refine e_aload_n (pc := 56) Xc (dT hX7_wanted 33 rfl) 0 rfl ?_
                  refine e_iload_n (pc := 57) Xc (dT hX7_wanted 34 rfl) 3 rfl ?_
                  refine e_iload (pc := 58) Xc (dT hX7_wanted 35 rfl) 6 rfl ?_
                  refine cl_X7_162 (pc := 60) (k := 0) (n := 0) (S := []) Xc hp3.o (c_likingOf hp3 hG hT r_ b_ (by omega) (by omega)) (dT hX7_wanted 36 rfl) rfl (Nat.le_of_ble_eq_true rfl) (Nat.le_of_ble_eq_true rfl) (Nat.le_of_ble_eq_true rfl) rfl (Nat.le_of_ble_eq_true rfl) (fun r9 σ10 hq11 => ?_)
                  obtain ⟨r9e, hP12, ho13⟩ := hq11
                  have r9e := r9e.symm; subst r9e
                  refine e_iload (pc := 63) Xc (dT hX7_wanted 37 rfl) 4 rfl ?_
                  refine e_icmp_gt (tgt := 72) (pc := 65) Xc (dT hX7_wanted 38 rfl) rfl (fun c65 => ?_) (fun c65 => ?_)
                  · skip
                    refine e_iconst (v := 0) (pc := 72) Xc (dT hX7_wanted 41 rfl) rfl ?_
                    refine e_istore (L' := [(5, .int 0), (0, .ref m), (1, .int (nI p)), (2, .int ac_), (3, .int (nI r_)), (4, .int (likF (A 1) t r_ p)), (6, .int (nI b_))]) (pc := 73) Xc (dT hX7_wanted 42 rfl) (by decide) rfl ?_
                    refine e_iincN (a := b_) (b := 1) (L' := [(6, .int (nI (b_ + 1))), (5, .int 0), (0, .ref m), (1, .int (nI p)), (2, .int ac_), (3, .int (nI r_)), (4, .int (likF (A 1) t r_ p))]) (pc := 75) Xc (dT hX7_wanted 43 rfl) 6 rfl rfl (by decide) rfl ?_
                    refine e_goto (tgt := 39) (pc := 78) Xc (dT hX7_wanted 44 rfl) rfl ?_
                    refine Ev.pick (L' := [(0, .ref m), (1, .int (nI p)), (2, .int ac_), (3, .int (nI r_)), (4, .int (likF (A 1) t r_ p)), (5, .int 0), (6, .int (nI (b_ + 1)))]) [2, 3, 4, 5, 6, 1, 0] rfl ?_
                    exact ih39 (b_ + 1) false σ10 (by omega) (by omega) (by show false = (allTo _ b_ && _); rw [← hmo_]; simp only [bI_0, Bool.not_eq_false] at c53; rw [c53]; simp [← Int32.not_lt, c65]) hP12 (ho3.tr ho13)
                  · skip
                    refine e_iconst (v := 1) (pc := 68) Xc (dT hX7_wanted 39 rfl) rfl ?_
                    refine e_goto (tgt := 73) (pc := 69) Xc (dT hX7_wanted 40 rfl) rfl ?_
                    refine e_istore (L' := [(5, .int 1), (0, .ref m), (1, .int (nI p)), (2, .int ac_), (3, .int (nI r_)), (4, .int (likF (A 1) t r_ p)), (6, .int (nI b_))]) (pc := 73) Xc (dT hX7_wanted 42 rfl) (by decide) rfl ?_
                    refine e_iincN (a := b_) (b := 1) (L' := [(6, .int (nI (b_ + 1))), (5, .int 1), (0, .ref m), (1, .int (nI p)), (2, .int ac_), (3, .int (nI r_)), (4, .int (likF (A 1) t r_ p))]) (pc := 75) Xc (dT hX7_wanted 43 rfl) 6 rfl rfl (by decide) rfl ?_
                    refine e_goto (tgt := 39) (pc := 78) Xc (dT hX7_wanted 44 rfl) rfl ?_
                    refine Ev.pick (L' := [(0, .ref m), (1, .int (nI p)), (2, .int ac_), (3, .int (nI r_)), (4, .int (likF (A 1) t r_ p)), (5, .int 1), (6, .int (nI (b_ + 1)))]) [2, 3, 4, 5, 6, 1, 0] rfl ?_
                    exact ih39 (b_ + 1) true σ10 (by omega) (by omega) (by show true = (allTo _ b_ && _); rw [← hmo_]; simp only [bI_0, Bool.not_eq_false] at c53; rw [c53]; simp [← Int32.not_lt, c65]) hP12 (ho3.tr ho13)
          refine Ev.pick (L' := [(0, .ref m), (1, .int (nI p)), (2, .int ac_), (3, .int (nI r_)), (4, .int (likF (A 1) t r_ p)), (5, .int 1), (6, .int 0)]) [3, 4, 5, 6, 2, 1, 0] rfl ?_
          exact lp39 ((nb - 0) + 1) 0 true σ5 (Nat.lt_succ_self _) (Nat.zero_le _) rfl hP7 (ho.tr ho8)
    refine Ev.pick (L' := [(0, .ref m), (1, .int (nI p)), (2, .int 0), (3, .int 0)]) [2, 3, 1, 0] rfl ?_
    exact lp14 ((nr - 0) + 1) 0 0 σ (Nat.lt_succ_self _) (Nat.zero_le _) rfl hP Off.rf
  · skip
    refine e_iconst (v := -1) (pc := 8) Xc (dT hX7_wanted 4 rfl) rfl ?_
    refine e_iret (pc := 9) Xc hQ (dT hX7_wanted 5 rfl) (Nat.le_refl _) (Nat.le_refl _) ?_
    have hz : v_wanted (A 1) t nr nb b = (-1) := by
      try simp only [bI_0, bI_1, Bool.not_eq_true, Bool.not_eq_false] at c5
      first | (simp [v_wanted, c5]; done) | (clear hK hG hT hS hPl hNo hTa hA hJ hR hD hQ Xc; simp_all [v_wanted]; done)
    exact ⟨hz.symm, ⟨_, _, _, hP, rfl, rfl, rfl, rfl, rfl⟩, Off.rf⟩
set_option maxRecDepth 100000 in
set_option maxHeartbeats 4000000 in
theorem p_had {G : xG} {σ : xS} {m : Nat} {X Y bd : Nat → Int32} {hi rn : Int32} (hM : MK σ m X Y bd hi rn) {nr nb ns np nn nt na dy : Nat} {t : xT} (hK : OK X nr nb t ns np nn nt na dy) (v : Int32) : CI G yX7_had cX7_had 4 (some .int) 7 0 0 [.ref m, .int v] σ (fun z σ1 => z = v_had X t nr nb ns v ∧ MK σ1 m X Y bd hi rn ∧ Off m σ σ1) := by
  refine Met.ofX (by decide +kernel) (Nat.le_of_ble_eq_true rfl) (fun μ Xc hQ hnm => ?_)
  have Xc : xC G μ cX7_had 4 RX7 (some .int) 7 0 0 := Xc
  obtain ⟨F, T, A, hP, e1, e2, e3, e4, e5⟩ := hM
  subst e1 e2 e3 e4 e5
  obtain ⟨hG, hT, hS, hPl, hNo, hTa, hA, hJ, hR, hD⟩ := id hK
  have hr4 := hG.r4
  have hb7 := hG.b7
  have hs6 := hS.1
  have hp8 := hPl.1
  have hn8 := hNo.1
  have ht100 := hTa.1
  have ha5 := hA.1
  have hd9 := hD.1
  show Ev G μ 4 0 0 0 [(0, .ref m), (1, .int v)] [] σ
  refine e_aload_n (pc := 0) Xc (dT hX7_had 0 rfl) 0 rfl ?_
  refine e_iload_n (pc := 1) Xc (dT hX7_had 1 rfl) 1 rfl ?_
  refine cl_X7_165 (pc := 2) (k := 0) (n := 0) (S := []) Xc hP.o (c_isReader hP hG v) (dT hX7_had 2 rfl) rfl (Nat.le_of_ble_eq_true rfl) (Nat.le_of_ble_eq_true rfl) (Nat.le_of_ble_eq_true rfl) rfl (Nat.le_of_ble_eq_true rfl) (fun r1 σ2 hq3 => ?_)
  obtain ⟨r1e, r1s⟩ := hq3
  have r1e := r1e.symm; subst r1e; have r1s := r1s.symm; subst r1s
  refine e_if_ne (tgt := 10) (pc := 5) Xc (dT hX7_had 3 rfl) rfl (fun c5 => ?_) (fun c5 => ?_)
  · skip
    obtain ⟨q, hq, rfl⟩ := inF_nat (v := v) (n := nr) (by omega) (by simpa [bI_0, bI_1] using c5)
    have hc_q : cl (nI q) = q := cl_nI (by omega)
    refine e_aload_n (pc := 10) Xc (dT hX7_had 6 rfl) 0 rfl ?_
    refine cl_X7_202 (pc := 11) (k := 0) (n := 0) (S := []) Xc hP.o (c_keeps hP) (dT hX7_had 7 rfl) rfl (Nat.le_of_ble_eq_true rfl) (Nat.le_of_ble_eq_true rfl) (Nat.le_of_ble_eq_true rfl) rfl (Nat.le_of_ble_eq_true rfl) (fun σ5 hq6 => ?_)
    obtain ⟨fr, hP7, hf0, ho8⟩ := hq6
    obtain ⟨B, hP7, b1, b2, b11, hf⟩ : ∃ B, PX7 σ5 m F T B ∧ A 1 = B 1 ∧ A 2 = B 2 ∧ A 11 = B 11 ∧ ∀ j, j < 12 → B 3 j = B 1 j := ⟨_, hP7, rfl, rfl, rfl, hf0⟩
    rw [b1] at hK
    rw [b1, b2, b11] at hQ
    try simp only [b1] at *
    obtain ⟨hG, hT, hS, hPl, hNo, hTa, hA, hJ, hR, hD⟩ := id hK
    refine e_iconst (v := 0) (pc := 14) Xc (dT hX7_had 8 rfl) rfl ?_
    refine e_istore_n (L' := [(2, .int 0), (0, .ref m), (1, .int (nI q))]) (pc := 15) Xc (dT hX7_had 9 rfl) (by decide) rfl ?_
    refine e_iconst (v := 0) (pc := 16) Xc (dT hX7_had 10 rfl) rfl ?_
    refine e_istore_n (L' := [(3, .int 0), (2, .int 0), (0, .ref m), (1, .int (nI q))]) (pc := 17) Xc (dT hX7_had 11 rfl) (by decide) rfl ?_
    have lp18 : ∀ (n18 : Nat) (b_ : Nat) (ac_ : Int32) (σ2 : xS), nb - b_ < n18 → (b_ ≤ nb) → (ac_ = itr (fun b a => a ||| (if allSeen (swapF (B 1) nr q b) t nr nb ns then 1 <<< (nI b &&& 31) else 0)) 0 b_) → (PX7 σ2 m F T B) → (Off m σ σ2) → Ev G μ 4 0 0 18 [(0, .ref m), (1, .int (nI q)), (2, .int ac_), (3, .int (nI b_))] [] σ2 := by
      intro n18
      induction n18 with
      | zero => intro b_ ac_ σ2 hn; exact absurd hn (Nat.not_lt_zero _)
      | succ n18 ih18 =>
        intro b_ ac_ σ2 hn18 hb_ ha_ hp2 ho2
        refine e_iload_n (pc := 18) Xc (dT hX7_had 12 rfl) 3 rfl ?_
        refine e_aload_n (pc := 19) Xc (dT hX7_had 13 rfl) 0 rfl ?_
        refine gf_X7_9 (pc := 20) Xc (dT hX7_had 14 rfl) hp2.o rfl ?_
        refine e_bipush (v := 13) (pc := 23) Xc (dT hX7_had 15 rfl) rfl ?_
        refine e_ialdN (pc := 25) Xc (dT hX7_had 16 rfl) hp2.a1 (by decide) rfl 13 rfl (by omega) (by decide) ?_
        refine e_val (y := nI nb) hG.1.2.2.2 ?_
        refine e_icmp_geN (x := b_) (y := nb) (tgt := 58) (pc := 26) Xc (dT hX7_had 17 rfl) rfl (by omega) (by omega) (fun c26 => ?_) (fun c26 => ?_)
        · skip
          have hbe_ : b_ = nb := by omega
          have hfin_ : itr (fun b a => a ||| (if allSeen (swapF (B 1) nr q b) t nr nb ns then 1 <<< (nI b &&& 31) else 0)) 0 nb = ac_ := by rw [ha_, hbe_]
          refine e_iload_n (pc := 58) Xc (dT hX7_had 35 rfl) 2 rfl ?_
          refine e_iret (pc := 59) Xc hQ (dT hX7_had 36 rfl) (Nat.le_refl _) (Nat.le_refl _) ?_
          have hz : v_had (B 1) t nr nb ns (nI q) = ac_ := by
            try simp only [bI_0, bI_1, Bool.not_eq_true, Bool.not_eq_false] at c5 c26
            first | (simp [v_had, c5, c26, hc_q, hfin_]; done) | (clear hK hG hT hS hPl hNo hTa hA hJ hR hD hQ Xc; simp_all [v_had]; done)
          exact ⟨hz.symm, ⟨_, _, _, hp2, rfl, rfl, rfl, rfl, rfl⟩, ho2⟩
        · skip
          refine e_aload_n (pc := 29) Xc (dT hX7_had 18 rfl) 0 rfl ?_
          refine e_iload_n (pc := 30) Xc (dT hX7_had 19 rfl) 1 rfl ?_
          refine e_iload_n (pc := 31) Xc (dT hX7_had 20 rfl) 3 rfl ?_
          refine cl_X7_278 (pc := 32) (k := 0) (n := 0) (S := []) Xc hp2.o (c_swapsFor hp2 hG q b_ (by omega) (by omega)) (dT hX7_had 21 rfl) rfl (Nat.le_of_ble_eq_true rfl) (Nat.le_of_ble_eq_true rfl) (Nat.le_of_ble_eq_true rfl) rfl (Nat.le_of_ble_eq_true rfl) (fun σ10 hq11 => ?_)
          obtain ⟨hP12, ho13⟩ := hq11
          refine e_iload_n (pc := 35) Xc (dT hX7_had 22 rfl) 2 rfl ?_
          refine e_aload_n (pc := 36) Xc (dT hX7_had 23 rfl) 0 rfl ?_
          refine cl_X7_281 (pc := 37) (k := 0) (n := 0) (S := [.int ac_]) Xc hP12.o (c_areAsSeen hP12 (hG.swap hq (by omega)) (hT.swap hG hq) (hS.congr (fun j hj => swap_hi hG hq (by omega)))) (dT hX7_had 24 rfl) rfl (Nat.le_of_ble_eq_true rfl) (Nat.le_of_ble_eq_true rfl) (Nat.le_of_ble_eq_true rfl) rfl (Nat.le_of_ble_eq_true rfl) (fun r14 σ15 hq16 => ?_)
          obtain ⟨r14e, hP17, ho18⟩ := hq16
          have r14e := r14e.symm; subst r14e
          have hP17 : PX7 σ15 m F T (upA B 1 (backF (swapF (B 1) nr q b_) (B 3))) := by rw [upA_2] at hP17; exact hP17
          refine e_val (y := bI (allSeen (swapF (B 1) nr q b_) t nr nb ns)) rfl ?_
          refine e_if_eq (tgt := 49) (pc := 40) Xc (dT hX7_had 25 rfl) rfl (fun c40 => ?_) (fun c40 => ?_)
          · skip
            refine e_iconst (v := 0) (pc := 49) Xc (dT hX7_had 30 rfl) rfl ?_
            refine e_ior (pc := 50) Xc (dT hX7_had 31 rfl) ?_
            refine e_istore_n (L' := [(2, .int (ac_ ||| 0)), (0, .ref m), (1, .int (nI q)), (3, .int (nI b_))]) (pc := 51) Xc (dT hX7_had 32 rfl) (by decide) rfl ?_
            refine e_iincN (a := b_) (b := 1) (L' := [(3, .int (nI (b_ + 1))), (2, .int (ac_ ||| 0)), (0, .ref m), (1, .int (nI q))]) (pc := 52) Xc (dT hX7_had 33 rfl) 3 rfl rfl (by decide) rfl ?_
            refine e_goto (tgt := 18) (pc := 55) Xc (dT hX7_had 34 rfl) rfl ?_
            refine Ev.pick (L' := [(0, .ref m), (1, .int (nI q)), (2, .int (ac_ ||| 0)), (3, .int (nI (b_ + 1)))]) [2, 3, 1, 0] rfl ?_
            exact ih18 (b_ + 1) (ac_ ||| 0) σ15 (by omega) (by omega) (by rw [itr, ← ha_]; simp only [bI_0, Bool.not_eq_false] at c40; rw [c40]; simp) (by have e_ := back_hi (X := B 1) (Y := swapF (B 1) nr q b_) hf (fun j hj => swap_hi hG hq (by omega)); have h_ := hP17; rw [e_, upA_id] at h_; exact h_) ((ho2.tr ho13).tr ho18)
          · skip
            refine e_iconst (v := 1) (pc := 43) Xc (dT hX7_had 26 rfl) rfl ?_
            refine e_iload_n (pc := 44) Xc (dT hX7_had 27 rfl) 3 rfl ?_
            refine e_ishl (pc := 45) Xc (dT hX7_had 28 rfl) ?_
            refine e_goto (tgt := 50) (pc := 46) Xc (dT hX7_had 29 rfl) rfl ?_
            refine e_ior (pc := 50) Xc (dT hX7_had 31 rfl) ?_
            refine e_istore_n (L' := [(2, .int (ac_ ||| (1 <<< ((nI b_) &&& 31)))), (0, .ref m), (1, .int (nI q)), (3, .int (nI b_))]) (pc := 51) Xc (dT hX7_had 32 rfl) (by decide) rfl ?_
            refine e_iincN (a := b_) (b := 1) (L' := [(3, .int (nI (b_ + 1))), (2, .int (ac_ ||| (1 <<< ((nI b_) &&& 31)))), (0, .ref m), (1, .int (nI q))]) (pc := 52) Xc (dT hX7_had 33 rfl) 3 rfl rfl (by decide) rfl ?_
            refine e_goto (tgt := 18) (pc := 55) Xc (dT hX7_had 34 rfl) rfl ?_
            refine Ev.pick (L' := [(0, .ref m), (1, .int (nI q)), (2, .int (ac_ ||| (1 <<< ((nI b_) &&& 31)))), (3, .int (nI (b_ + 1)))]) [2, 3, 1, 0] rfl ?_
            exact ih18 (b_ + 1) (ac_ ||| (1 <<< ((nI b_) &&& 31))) σ15 (by omega) (by omega) (by rw [itr, ← ha_]; simp only [bI_0, Bool.not_eq_false] at c40; rw [c40]; simp) (by have e_ := back_hi (X := B 1) (Y := swapF (B 1) nr q b_) hf (fun j hj => swap_hi hG hq (by omega)); have h_ := hP17; rw [e_, upA_id] at h_; exact h_) ((ho2.tr ho13).tr ho18)
    refine Ev.pick (L' := [(0, .ref m), (1, .int (nI q)), (2, .int 0), (3, .int 0)]) [2, 3, 1, 0] rfl ?_
    exact lp18 ((nb - 0) + 1) 0 0 σ5 (Nat.lt_succ_self _) (Nat.zero_le _) rfl hP7 ho8
  · skip
    refine e_iconst (v := -1) (pc := 8) Xc (dT hX7_had 4 rfl) rfl ?_
    refine e_iret (pc := 9) Xc hQ (dT hX7_had 5 rfl) (Nat.le_refl _) (Nat.le_refl _) ?_
    have hz : v_had (A 1) t nr nb ns v = (-1) := by
      try simp only [bI_0, bI_1, Bool.not_eq_true, Bool.not_eq_false] at c5
      first | (simp [v_had, c5]; done) | (clear hK hG hT hS hPl hNo hTa hA hJ hR hD hQ Xc; simp_all [v_had]; done)
    exact ⟨hz.symm, ⟨_, _, _, hP, rfl, rfl, rfl, rfl, rfl⟩, Off.rf⟩
set_option maxRecDepth 100000 in
set_option maxHeartbeats 4000000 in
theorem p_firm {G : xG} {σ : xS} {m : Nat} {X Y bd : Nat → Int32} {hi rn : Int32} (hM : MK σ m X Y bd hi rn) {nr nb ns np nn nt na dy : Nat} {t : xT} (hK : OK X nr nb t ns np nn nt na dy) (v : Int32) (w : Int32) : CI G yX7_firm cX7_firm 8 (some .int) 7 0 0 [.ref m, .int v, .int w] σ (fun z σ1 => z = v_firm X t nr nb ns v w ∧ MK σ1 m X Y bd hi rn ∧ Off m σ σ1) := by
  refine Met.ofX (by decide +kernel) (Nat.le_of_ble_eq_true rfl) (fun μ Xc hQ hnm => ?_)
  have Xc : xC G μ cX7_firm 8 RX7 (some .int) 7 0 0 := Xc
  obtain ⟨F, T, A, hP, e1, e2, e3, e4, e5⟩ := hM
  subst e1 e2 e3 e4 e5
  obtain ⟨hG, hT, hS, hPl, hNo, hTa, hA, hJ, hR, hD⟩ := id hK
  have hr4 := hG.r4
  have hb7 := hG.b7
  have hs6 := hS.1
  have hp8 := hPl.1
  have hn8 := hNo.1
  have ht100 := hTa.1
  have ha5 := hA.1
  have hd9 := hD.1
  show Ev G μ 8 0 0 0 [(0, .ref m), (1, .int v), (2, .int w)] [] σ
  refine e_aload_n (pc := 0) Xc (dT hX7_firm 0 rfl) 0 rfl ?_
  refine e_iload_n (pc := 1) Xc (dT hX7_firm 1 rfl) 1 rfl ?_
  refine cl_X7_165 (pc := 2) (k := 0) (n := 0) (S := []) Xc hP.o (c_isReader hP hG v) (dT hX7_firm 2 rfl) rfl (Nat.le_of_ble_eq_true rfl) (Nat.le_of_ble_eq_true rfl) (Nat.le_of_ble_eq_true rfl) rfl (Nat.le_of_ble_eq_true rfl) (fun r1 σ2 hq3 => ?_)
  obtain ⟨r1e, r1s⟩ := hq3
  have r1e := r1e.symm; subst r1e; have r1s := r1s.symm; subst r1s
  refine e_if_eq (tgt := 17) (pc := 5) Xc (dT hX7_firm 3 rfl) rfl (fun c5 => ?_) (fun c5 => ?_)
  · skip
    refine e_iconst (v := -1) (pc := 17) Xc (dT hX7_firm 9 rfl) rfl ?_
    refine e_iret (pc := 18) Xc hQ (dT hX7_firm 10 rfl) (Nat.le_refl _) (Nat.le_refl _) ?_
    have hz : v_firm (A 1) t nr nb ns v w = (-1) := by
      try simp only [bI_0, bI_1, Bool.not_eq_true, Bool.not_eq_false] at c5
      first | (simp [v_firm, c5]; done) | (clear hK hG hT hS hPl hNo hTa hA hJ hR hD hQ Xc; simp_all [v_firm]; done)
    exact ⟨hz.symm, ⟨_, _, _, hP, rfl, rfl, rfl, rfl, rfl⟩, Off.rf⟩
  · skip
    obtain ⟨q, hq, rfl⟩ := inF_nat (v := v) (n := nr) (by omega) (by simpa [bI_0, bI_1] using c5)
    have hc_q : cl (nI q) = q := cl_nI (by omega)
    refine e_iload_n (pc := 8) Xc (dT hX7_firm 4 rfl) 2 rfl ?_
    refine e_iconst (v := 0) (pc := 9) Xc (dT hX7_firm 5 rfl) rfl ?_
    refine e_iconst (v := 1) (pc := 10) Xc (dT hX7_firm 6 rfl) rfl ?_
    refine cl_X7_50 (pc := 11) (k := 0) (n := 0) (S := []) Xc (c_in w 0 1) (dT hX7_firm 7 rfl) rfl (Nat.le_of_ble_eq_true rfl) (Nat.le_of_ble_eq_true rfl) (Nat.le_of_ble_eq_true rfl) rfl (Nat.le_of_ble_eq_true rfl) (fun r4 σ5 hq6 => ?_)
    obtain ⟨r4e, r4s⟩ := hq6
    have r4e := r4e.symm; subst r4e; have r4s := r4s.symm; subst r4s
    refine e_if_ne (tgt := 19) (pc := 14) Xc (dT hX7_firm 8 rfl) rfl (fun c14 => ?_) (fun c14 => ?_)
    · skip
      refine e_aload_n (pc := 19) Xc (dT hX7_firm 11 rfl) 0 rfl ?_
      refine gf_X7_9 (pc := 20) Xc (dT hX7_firm 12 rfl) hP.o rfl ?_
      refine e_bipush (v := 24) (pc := 23) Xc (dT hX7_firm 13 rfl) rfl ?_
      refine e_iload_n (pc := 25) Xc (dT hX7_firm 14 rfl) 1 rfl ?_
      refine e_iaddN (a := 24) (b := q) (pc := 26) Xc (dT hX7_firm 15 rfl) ?_
      refine e_ialdN (pc := 27) Xc (dT hX7_firm 16 rfl) hP.a1 (by decide) rfl (24 + q) rfl (by omega) (by decide) ?_
      refine e_istore_n (L' := [(3, .int (A 1 (24 + q))), (0, .ref m), (1, .int (nI q)), (2, .int w)]) (pc := 28) Xc (dT hX7_firm 17 rfl) (by decide) rfl ?_
      refine e_iconst (v := 0) (pc := 29) Xc (dT hX7_firm 18 rfl) rfl ?_
      refine e_istore (L' := [(4, .int 0), (3, .int (A 1 (24 + q))), (0, .ref m), (1, .int (nI q)), (2, .int w)]) (pc := 30) Xc (dT hX7_firm 19 rfl) (by decide) rfl ?_
      refine e_bipush (v := -5) (pc := 32) Xc (dT hX7_firm 20 rfl) rfl ?_
      refine e_istore (L' := [(5, .int (-5)), (4, .int 0), (3, .int (A 1 (24 + q))), (0, .ref m), (1, .int (nI q)), (2, .int w)]) (pc := 34) Xc (dT hX7_firm 21 rfl) (by decide) rfl ?_
      refine e_aload_n (pc := 36) Xc (dT hX7_firm 22 rfl) 3 rfl ?_
      refine cl_X7_202 (pc := 37) (k := 0) (n := 0) (S := []) Xc hP.o (c_keeps hP) (dT hX7_firm 23 rfl) rfl (Nat.le_of_ble_eq_true rfl) (Nat.le_of_ble_eq_true rfl) (Nat.le_of_ble_eq_true rfl) rfl (Nat.le_of_ble_eq_true rfl) (fun σ8 hq9 => ?_)
      obtain ⟨fr, hP10, hf0, ho11⟩ := hq9
      obtain ⟨B, hP10, b1, b2, b11, hf⟩ : ∃ B, PX7 σ8 m F T B ∧ A 1 = B 1 ∧ A 2 = B 2 ∧ A 11 = B 11 ∧ ∀ j, j < 12 → B 3 j = B 1 j := ⟨_, hP10, rfl, rfl, rfl, hf0⟩
      rw [b1] at hK
      rw [b1, b2, b11] at hQ
      try simp only [b1] at *
      obtain ⟨hG, hT, hS, hPl, hNo, hTa, hA, hJ, hR, hD⟩ := id hK
      refine e_bipush (v := 9) (pc := 40) Xc (dT hX7_firm 24 rfl) rfl ?_
      refine e_val (y := nI 10 + (-1)) (by decide) ?_
      refine e_istore (L' := [(6, .int (nI 10 + (-1))), (5, .int (-5)), (4, .int 0), (3, .int (B 1 (24 + q))), (0, .ref m), (1, .int (nI q)), (2, .int w)]) (pc := 42) Xc (dT hX7_firm 25 rfl) (by decide) rfl ?_
      have lp44 : ∀ (n44 : Nat) (k_ : Nat) (ac_ fi_ w_ : Int32) (σ2 : xS), k_ < n44 → (k_ ≤ 10) → ((ac_, fi_) = fiF (fiP (B 1) t nr nb ns q) (10 - k_)) → (PX7 σ2 m F T (upA B 1 (upd (B 1) (24 + q) w_))) → (Off m σ σ2) → Ev G μ 8 0 0 44 [(0, .ref m), (1, .int (nI q)), (2, .int w), (3, .int (B 1 (24 + q))), (4, .int ac_), (5, .int fi_), (6, .int (nI k_ + (-1)))] [] σ2 := by
        intro n44
        induction n44 with
        | zero => intro k_ ac_ fi_ w_ σ2 hn; exact absurd hn (Nat.not_lt_zero _)
        | succ n44 ih44 =>
          intro k_ ac_ fi_ w_ σ2 hn44 hk_ hq_ hp2 ho2
          refine e_iload (pc := 44) Xc (dT hX7_firm 26 rfl) 6 rfl ?_
          refine e_if_lt (tgt := 101) (pc := 46) Xc (dT hX7_firm 27 rfl) rfl (fun c46 => ?_) (fun c46 => ?_)
          · skip
            have hk0_ : k_ = 0 := (m1_neg (by omega)).mp c46
            subst hk0_
            have hf1_ : (fiF (fiP (B 1) t nr nb ns q) 10).1 = ac_ := (congrArg Prod.fst hq_).symm
            have hf2_ : (fiF (fiP (B 1) t nr nb ns q) 10).2 = fi_ := (congrArg Prod.snd hq_).symm
            refine e_aload_n (pc := 101) Xc (dT hX7_firm 54 rfl) 0 rfl ?_
            refine gf_X7_9 (pc := 102) Xc (dT hX7_firm 55 rfl) hp2.o rfl ?_
            refine e_bipush (v := 24) (pc := 105) Xc (dT hX7_firm 56 rfl) rfl ?_
            refine e_iload_n (pc := 107) Xc (dT hX7_firm 57 rfl) 1 rfl ?_
            refine e_iaddN (a := 24) (b := q) (pc := 108) Xc (dT hX7_firm 58 rfl) ?_
            refine e_iload_n (pc := 109) Xc (dT hX7_firm 59 rfl) 3 rfl ?_
            refine e_iastN (pc := 110) Xc (dT hX7_firm 60 rfl) hp2.a1 rfl (24 + q) rfl (by omega) (by decide) ?_
            refine Ev.gen (fun z => PX7 z m F T (upA (upA B 1 (upd (B 1) (24 + q) w_)) 1 (upd (upd (B 1) (24 + q) w_) (24 + q) (B 1 (24 + q))))) (hp2.wa1 (g := (upd (upd (B 1) (24 + q) w_) (24 + q) (B 1 (24 + q))))) Off.set (fun σ12 hP13 ho14 => ?_)
            have hP13 : PX7 σ12 m F T (upA B 1 (upd (upd (B 1) (24 + q) w_) (24 + q) (B 1 (24 + q)))) := by rw [upA_2] at hP13; exact hP13
            refine e_iload_n (pc := 111) Xc (dT hX7_firm 61 rfl) 2 rfl ?_
            refine e_if_ne (tgt := 120) (pc := 112) Xc (dT hX7_firm 62 rfl) rfl (fun c112 => ?_) (fun c112 => ?_)
            · skip
              refine e_iload (pc := 120) Xc (dT hX7_firm 65 rfl) 5 rfl ?_
              refine e_iret (pc := 122) Xc hQ (dT hX7_firm 66 rfl) (Nat.le_refl _) (Nat.le_refl _) ?_
              have hz : v_firm (B 1) t nr nb ns (nI q) w = fi_ := by
                try simp only [bI_0, bI_1, Bool.not_eq_true, Bool.not_eq_false] at c5 c14 c46 c112
                first | (simp [v_firm, c5, c14, c46, c112, hc_q, hf1_, hf2_]; done) | (clear hK hG hT hS hPl hNo hTa hA hJ hR hD hQ Xc; simp_all [v_firm]; done)
              exact ⟨hz.symm, ⟨_, _, _, hP13, (by show upd (upd (B 1) (24 + q) w_) (24 + q) (B 1 (24 + q)) = B 1; rw [upd_2, upd_self]), rfl, rfl, rfl, rfl⟩, (ho2.tr ho14)⟩
            · skip
              refine e_iload (pc := 115) Xc (dT hX7_firm 63 rfl) 4 rfl ?_
              refine e_goto (tgt := 122) (pc := 117) Xc (dT hX7_firm 64 rfl) rfl ?_
              refine e_iret (pc := 122) Xc hQ (dT hX7_firm 66 rfl) (Nat.le_refl _) (Nat.le_refl _) ?_
              have hz : v_firm (B 1) t nr nb ns (nI q) w = ac_ := by
                try simp only [bI_0, bI_1, Bool.not_eq_true, Bool.not_eq_false] at c5 c14 c46 c112
                first | (simp [v_firm, c5, c14, c46, c112, hc_q, hf1_, hf2_]; done) | (clear hK hG hT hS hPl hNo hTa hA hJ hR hD hQ Xc; simp_all [v_firm]; done)
              exact ⟨hz.symm, ⟨_, _, _, hP13, (by show upd (upd (B 1) (24 + q) w_) (24 + q) (B 1 (24 + q)) = B 1; rw [upd_2, upd_self]), rfl, rfl, rfl, rfl⟩, (ho2.tr ho14)⟩
          · skip
            obtain ⟨j_, rfl⟩ : ∃ j_, k_ = j_ + 1 := ⟨k_ - 1, by have := mt (m1_neg (by omega)).mpr c46; omega⟩
            rw [show nI (j_ + 1) + (-1) = nI j_ from pk_m1 j_]
            refine e_aload_n (pc := 49) Xc (dT hX7_firm 28 rfl) 0 rfl ?_
            refine gf_X7_9 (pc := 50) Xc (dT hX7_firm 29 rfl) hp2.o rfl ?_
            refine e_bipush (v := 24) (pc := 53) Xc (dT hX7_firm 30 rfl) rfl ?_
            refine e_iload_n (pc := 55) Xc (dT hX7_firm 31 rfl) 1 rfl ?_
            refine e_iaddN (a := 24) (b := q) (pc := 56) Xc (dT hX7_firm 32 rfl) ?_
            refine e_iload (pc := 57) Xc (dT hX7_firm 33 rfl) 6 rfl ?_
            refine e_iastN (pc := 59) Xc (dT hX7_firm 34 rfl) hp2.a1 rfl (24 + q) rfl (by omega) (by decide) ?_
            refine Ev.gen (fun z => PX7 z m F T (upA (upA B 1 (upd (B 1) (24 + q) w_)) 1 (upd (upd (B 1) (24 + q) w_) (24 + q) (nI j_)))) (hp2.wa1 (g := (upd (upd (B 1) (24 + q) w_) (24 + q) (nI j_)))) Off.set (fun σ15 hP16 ho17 => ?_)
            have hP16 : PX7 σ15 m F T (upA B 1 (upd (upd (B 1) (24 + q) w_) (24 + q) (nI j_))) := by rw [upA_2] at hP16; exact hP16
            have hP18 := hP16
            rw [upd_2] at hP18
            refine e_aload_n (pc := 60) Xc (dT hX7_firm 35 rfl) 0 rfl ?_
            refine cl_X7_281 (pc := 61) (k := 0) (n := 0) (S := []) Xc hP18.o (c_areAsSeen hP18 (Gdv hG hq (by omega)) (Hdv hT (by omega)) (Gsv hS (by omega))) (dT hX7_firm 36 rfl) rfl (Nat.le_of_ble_eq_true rfl) (Nat.le_of_ble_eq_true rfl) (Nat.le_of_ble_eq_true rfl) rfl (Nat.le_of_ble_eq_true rfl) (fun r19 σ20 hq21 => ?_)
            obtain ⟨r19e, hP22, ho23⟩ := hq21
            have r19e := r19e.symm; subst r19e
            have hP22 : PX7 σ20 m F T (upA B 1 (backF (upd (B 1) (24 + q) (nI j_)) (B 3))) := by rw [upA_2] at hP22; exact hP22
            refine e_val (y := bI (allSeen (upd (B 1) (24 + q) (nI j_)) t nr nb ns)) rfl ?_
            refine e_istore (L' := [(7, .int (bI (allSeen (upd (B 1) (24 + q) (nI j_)) t nr nb ns))), (0, .ref m), (1, .int (nI q)), (2, .int w), (3, .int (B 1 (24 + q))), (4, .int ac_), (5, .int fi_), (6, .int (nI j_))]) (pc := 64) Xc (dT hX7_firm 37 rfl) (by decide) rfl ?_
            refine e_iload (pc := 66) Xc (dT hX7_firm 38 rfl) 5 rfl ?_
            refine e_iload (pc := 68) Xc (dT hX7_firm 39 rfl) 0 rfl ?_
            refine e_if_eq (tgt := 77) (pc := 70) Xc (dT hX7_firm 40 rfl) rfl (fun c70 => ?_) (fun c70 => ?_)
            · skip
              refine e_iconst (v := 0) (pc := 77) Xc (dT hX7_firm 43 rfl) rfl ?_
              refine e_iadd (pc := 78) Xc (dT hX7_firm 44 rfl) ?_
              refine e_istore (L' := [(4, .int (ac_ + 0)), (7, .int (bI (allSeen (upd (B 1) (24 + q) (nI j_)) t nr nb ns))), (0, .ref m), (1, .int (nI q)), (2, .int w), (3, .int (B 1 (24 + q))), (5, .int fi_), (6, .int (nI j_))]) (pc := 79) Xc (dT hX7_firm 45 rfl) (by decide) rfl ?_
              refine e_iload (pc := 81) Xc (dT hX7_firm 46 rfl) 1 rfl ?_
              refine e_if_eq (tgt := 91) (pc := 83) Xc (dT hX7_firm 47 rfl) rfl (fun c83 => ?_) (fun c83 => ?_)
              · skip
                refine e_iload (pc := 91) Xc (dT hX7_firm 50 rfl) 6 rfl ?_
                refine e_istore (L' := [(5, .int fi_), (4, .int (ac_ + 0)), (7, .int (bI (allSeen (upd (B 1) (24 + q) (nI j_)) t nr nb ns))), (0, .ref m), (1, .int (nI q)), (2, .int w), (3, .int (B 1 (24 + q))), (6, .int (nI j_))]) (pc := 93) Xc (dT hX7_firm 51 rfl) (by decide) rfl ?_
                refine e_iinc (v := (nI j_) + (-1)) (L' := [(6, .int ((nI j_) + (-1))), (5, .int fi_), (4, .int (ac_ + 0)), (7, .int (bI (allSeen (upd (B 1) (24 + q) (nI j_)) t nr nb ns))), (0, .ref m), (1, .int (nI q)), (2, .int w), (3, .int (B 1 (24 + q)))]) (pc := 95) Xc (dT hX7_firm 52 rfl) 7 rfl rfl (by decide) rfl ?_
                refine e_goto (tgt := 44) (pc := 98) Xc (dT hX7_firm 53 rfl) rfl ?_
                refine Ev.pick (L' := [(0, .ref m), (1, .int (nI q)), (2, .int w), (3, .int (B 1 (24 + q))), (4, .int (ac_ + 0)), (5, .int fi_), (6, .int ((nI j_) + (-1)))]) [4, 5, 6, 7, 2, 1, 0] rfl ?_
                exact ih44 j_ (ac_ + 0) fi_ (nI j_) σ20 (by omega) (by omega) (by rw [fi_step (by omega), ← hq_]; simp only [bI_0, Bool.not_eq_false] at c70; rw [show fiP (B 1) t nr nb ns q j_ = false from c70]; rfl) (by have h_ := hP22; rw [back_v hf (by omega)] at h_; exact h_) ((ho2.tr ho17).tr ho23)
              · skip
                exact absurd c70 c83
            · skip
              refine e_iconst (v := 1) (pc := 73) Xc (dT hX7_firm 41 rfl) rfl ?_
              refine e_goto (tgt := 78) (pc := 74) Xc (dT hX7_firm 42 rfl) rfl ?_
              refine e_iadd (pc := 78) Xc (dT hX7_firm 44 rfl) ?_
              refine e_istore (L' := [(4, .int (ac_ + 1)), (7, .int (bI (allSeen (upd (B 1) (24 + q) (nI j_)) t nr nb ns))), (0, .ref m), (1, .int (nI q)), (2, .int w), (3, .int (B 1 (24 + q))), (5, .int fi_), (6, .int (nI j_))]) (pc := 79) Xc (dT hX7_firm 45 rfl) (by decide) rfl ?_
              refine e_iload (pc := 81) Xc (dT hX7_firm 46 rfl) 1 rfl ?_
              refine e_if_eq (tgt := 91) (pc := 83) Xc (dT hX7_firm 47 rfl) rfl (fun c83 => ?_) (fun c83 => ?_)
              · skip
                exact absurd c83 c70
              · skip
                refine e_iload (pc := 86) Xc (dT hX7_firm 48 rfl) 7 rfl ?_
                refine e_goto (tgt := 93) (pc := 88) Xc (dT hX7_firm 49 rfl) rfl ?_
                refine e_istore (L' := [(5, .int (nI j_)), (4, .int (ac_ + 1)), (7, .int (bI (allSeen (upd (B 1) (24 + q) (nI j_)) t nr nb ns))), (0, .ref m), (1, .int (nI q)), (2, .int w), (3, .int (B 1 (24 + q))), (6, .int (nI j_))]) (pc := 93) Xc (dT hX7_firm 51 rfl) (by decide) rfl ?_
                refine e_iinc (v := (nI j_) + (-1)) (L' := [(6, .int ((nI j_) + (-1))), (5, .int (nI j_)), (4, .int (ac_ + 1)), (7, .int (bI (allSeen (upd (B 1) (24 + q) (nI j_)) t nr nb ns))), (0, .ref m), (1, .int (nI q)), (2, .int w), (3, .int (B 1 (24 + q)))]) (pc := 95) Xc (dT hX7_firm 52 rfl) 7 rfl rfl (by decide) rfl ?_
                refine e_goto (tgt := 44) (pc := 98) Xc (dT hX7_firm 53 rfl) rfl ?_
                refine Ev.pick (L' := [(0, .ref m), (1, .int (nI q)), (2, .int w), (3, .int (B 1 (24 + q))), (4, .int (ac_ + 1)), (5, .int (nI j_)), (6, .int ((nI j_) + (-1)))]) [4, 5, 6, 7, 2, 1, 0] rfl ?_
                exact ih44 j_ (ac_ + 1) (nI j_) (nI j_) σ20 (by omega) (by omega) (by rw [fi_step (by omega), ← hq_]; simp only [bI_0, Bool.not_eq_false] at c70; rw [show fiP (B 1) t nr nb ns q j_ = true from c70]; rfl) (by have h_ := hP22; rw [back_v hf (by omega)] at h_; exact h_) ((ho2.tr ho17).tr ho23)
      refine Ev.pick (L' := [(0, .ref m), (1, .int (nI q)), (2, .int w), (3, .int (B 1 (24 + q))), (4, .int 0), (5, .int (-5)), (6, .int (nI 10 + (-1)))]) [4, 5, 6, 3, 2, 1, 0] rfl ?_
      exact lp44 ((10) + 1) 10 0 (-5) (B 1 (24 + q)) σ8 (Nat.lt_succ_self _) (Nat.le_refl _) rfl (by have h_ := hP10; rw [upd_self, upA_id]; exact h_) ho11
    · skip
      refine e_iconst (v := -1) (pc := 17) Xc (dT hX7_firm 9 rfl) rfl ?_
      refine e_iret (pc := 18) Xc hQ (dT hX7_firm 10 rfl) (Nat.le_refl _) (Nat.le_refl _) ?_
      have hz : v_firm (A 1) t nr nb ns (nI q) w = (-1) := by
        try simp only [bI_0, bI_1, Bool.not_eq_true, Bool.not_eq_false] at c5 c14
        first | (simp [v_firm, c5, c14, hc_q]; done) | (clear hK hG hT hS hPl hNo hTa hA hJ hR hD hQ Xc; simp_all [v_firm]; done)
      exact ⟨hz.symm, ⟨_, _, _, hP, rfl, rfl, rfl, rfl, rfl⟩, Off.rf⟩
