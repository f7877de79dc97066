set_option maxRecDepth 100000 in
set_option maxHeartbeats 4000000 in
theorem c6_isSeenBehind {G : xG} {σ : xS} {x : Nat} {Fx : Nat → Int32} {Ax : Nat → Nat → Int32} (hx : PX6 σ x Fx (t6 x) Ax) {tw nr nb : Nat} {X : Nat → Int32} {t : xT} {ln : Nat} (hXt : WX σ (x + 13) tw X nr nb t ln) {Fp : Nat → Int32} {Tp : Nat → Nat} {Ap : Nat → Nat → Int32} (hPp : PX2 σ (x + 37) Fp Tp Ap) {ns np nn nt : Nat} (hRP : RPc Fp Ap X ns np nn nt) (hS : Gs X nb ns) (d : Nat) (hd : d ≤ 20) : CI G yX6_isSeenBehind cX6_isSeenBehind 5 (some .boolean) 2 0 0 [.ref x, .int (nI d)] σ (fun z σ1 => z = bI (seenF X nr ns (nI d)) ∧ σ1 = σ) := by
  refine Met.ofX (by decide +kernel) (Nat.le_of_ble_eq_true rfl) (fun μ Xc hQ hnm => ?_)
  have Xc : xC G μ cX6_isSeenBehind 5 RX6 (some .boolean) 2 0 0 := Xc
  have hr4 := hXt.gd.1.r4
  have hb7 := hXt.gd.1.b7
  have hs6 := hS.1
  show Ev G μ 5 0 0 0 [(0, .ref x), (1, .int (nI d))] [] σ
  obtain ⟨Fw1, Tw1, Aw1, hBw1, htw1⟩ := id hXt
  have hWw1 := hBw1.2.1
  refine e_iconst (v := 0) (pc := 0) Xc (dT hX6_isSeenBehind 0 rfl) rfl ?_
  refine e_istore_n (L' := [(2, .int 0), (0, .ref x), (1, .int (nI d))]) (pc := 1) Xc (dT hX6_isSeenBehind 1 rfl) (by decide) rfl ?_
  have lp2 : ∀ (n2 : Nat) (k_ : Nat), ns - k_ < n2 → (k_ ≤ ns) → (∀ j, j < k_ → seen1 X nr (nI d) j = true) → Ev G μ 5 0 0 2 [(0, .ref x), (1, .int (nI d)), (2, .int (nI k_))] [] σ := by
    intro n2
    induction n2 with
    | zero => intro k_ hn; exact absurd hn (Nat.not_lt_zero _)
    | succ n2 ih2 =>
      intro k_ hn2 hk_ hs_
      refine e_iload_n (pc := 2) Xc (dT hX6_isSeenBehind 2 rfl) 2 rfl ?_
      refine e_aload_n (pc := 3) Xc (dT hX6_isSeenBehind 3 rfl) 0 rfl ?_
      refine gf_X6_27 (pc := 4) Xc (dT hX6_isSeenBehind 4 rfl) hx.o rfl ?_
      refine gf_X6_231 (pc := 7) Xc (dT hX6_isSeenBehind 5 rfl) hPp.o rfl ?_
      refine e_val (y := nI ns) hRP.2.1 ?_
      refine e_icmp_geN (x := k_) (y := ns) (tgt := 100) (pc := 10) Xc (dT hX6_isSeenBehind 6 rfl) rfl (by omega) (by omega) (fun c10 => ?_) (fun c10 => ?_)
      · skip
        refine e_iconst (v := 1) (pc := 100) Xc (dT hX6_isSeenBehind 49 rfl) rfl ?_
        refine e_zret (pc := 101) Xc hQ (dT hX6_isSeenBehind 50 rfl) (Nat.le_refl _) (Nat.le_refl _) (Or.inr rfl) ?_
        refine ⟨?_, rfl⟩
        have hke_ : k_ = ns := by omega
        subst hke_
        symm
        show bI _ = 1
        rw [bI_1]
        exact allTo_iff.mpr hs_
      · skip
        obtain ⟨⟨b_, hb_, hbe_⟩, ⟨e_, he_, hee_⟩, hon_⟩ := hS.2.2 k_ (by omega)
        obtain ⟨hr1_, hr2_, hr3_⟩ := hRP.2.2.2.2.2.1 k_ (by omega)
        refine e_aload_n (pc := 13) Xc (dT hX6_isSeenBehind 7 rfl) 0 rfl ?_
        refine gf_X6_18 (pc := 14) Xc (dT hX6_isSeenBehind 8 rfl) hx.o rfl ?_
        refine e_aload_n (pc := 17) Xc (dT hX6_isSeenBehind 9 rfl) 0 rfl ?_
        refine gf_X6_27 (pc := 18) Xc (dT hX6_isSeenBehind 10 rfl) hx.o rfl ?_
        refine gf_X6_234 (pc := 21) Xc (dT hX6_isSeenBehind 11 rfl) hPp.o rfl ?_
        refine e_iload_n (pc := 24) Xc (dT hX6_isSeenBehind 12 rfl) 2 rfl ?_
        refine cl_X6_106 (pc := 25) (k := 0) (n := 0) (S := [.ref (x + 13)]) Xc (c_get hPp.a2 (by decide) (by decide) k_ (by omega)) (dT hX6_isSeenBehind 13 rfl) rfl (Nat.le_of_ble_eq_true rfl) (Nat.le_of_ble_eq_true rfl) (Nat.le_of_ble_eq_true rfl) rfl (Nat.le_of_ble_eq_true rfl) (fun r2 σ3 hq4 => ?_)
        obtain ⟨r2e, r2s⟩ := hq4
        have r2e := r2e.symm; subst r2e; have r2s := r2s.symm; subst r2s
        refine e_val (y := nI b_) (hr1_.trans hbe_) ?_
        refine cl_X6_133 (pc := 28) (k := 0) (n := 0) (S := []) Xc hBw1.1.o (c5_holder hBw1 b_ (by omega)) (dT hX6_isSeenBehind 14 rfl) rfl (Nat.le_of_ble_eq_true rfl) (Nat.le_of_ble_eq_true rfl) (Nat.le_of_ble_eq_true rfl) rfl (Nat.le_of_ble_eq_true rfl) (fun r5 σ6 hq7 => ?_)
        obtain ⟨r5e, r5s⟩ := hq7
        have r5e := r5e.symm; subst r5e; have r5s := r5s.symm; subst r5s
        refine e_bipush (v := -5) (pc := 31) Xc (dT hX6_isSeenBehind 15 rfl) rfl ?_
        refine e_icmp_ne (tgt := 40) (pc := 33) Xc (dT hX6_isSeenBehind 16 rfl) rfl (fun c33 => ?_) (fun c33 => ?_)
        · skip
          have ho2_ : onF X nr (nI b_) = false := by cases q_ : onF X nr (nI b_); rfl; exact absurd ((hold5 hr4).mpr q_) c33
          refine e_iconst (v := 0) (pc := 40) Xc (dT hX6_isSeenBehind 19 rfl) rfl ?_
          refine e_istore_n (L' := [(3, .int 0), (0, .ref x), (1, .int (nI d)), (2, .int (nI k_))]) (pc := 41) Xc (dT hX6_isSeenBehind 20 rfl) (by decide) rfl ?_
          refine e_iload_n (pc := 42) Xc (dT hX6_isSeenBehind 21 rfl) 0 rfl ?_
          refine e_aload_n (pc := 43) Xc (dT hX6_isSeenBehind 22 rfl) 1 rfl ?_
          refine gf_X6_27 (pc := 44) Xc (dT hX6_isSeenBehind 23 rfl) hx.o rfl ?_
          refine gf_X6_240 (pc := 47) Xc (dT hX6_isSeenBehind 24 rfl) hPp.o rfl ?_
          refine e_iload_n (pc := 50) Xc (dT hX6_isSeenBehind 25 rfl) 3 rfl ?_
          refine cl_X6_106 (pc := 51) (k := 0) (n := 0) (S := [.int 0]) Xc (c_get hPp.a4 (by decide) (by decide) k_ (by omega)) (dT hX6_isSeenBehind 26 rfl) rfl (Nat.le_of_ble_eq_true rfl) (Nat.le_of_ble_eq_true rfl) (Nat.le_of_ble_eq_true rfl) rfl (Nat.le_of_ble_eq_true rfl) (fun r8 σ9 hq10 => ?_)
          obtain ⟨r8e, r8s⟩ := hq10
          have r8e := r8e.symm; subst r8e; have r8s := r8s.symm; subst r8s
          refine e_if_eq (tgt := 61) (pc := 54) Xc (dT hX6_isSeenBehind 27 rfl) rfl (fun c54 => ?_) (fun c54 => ?_)
          · skip
            have hsn_ : decide (X (56 + k_) = 1) = false := by rw [← hr3_, c54]; rfl
            refine e_iconst (v := 0) (pc := 61) Xc (dT hX6_isSeenBehind 30 rfl) rfl ?_
            refine e_icmp_neN (x := 0) (y := 0) (tgt := 69) (pc := 62) Xc (dT hX6_isSeenBehind 31 rfl) rfl (by omega) (by omega) (fun c62 => ?_) (fun c62 => ?_)
            · skip
              exact absurd c62 (by decide)
            · skip
              refine e_iconst (v := 1) (pc := 65) Xc (dT hX6_isSeenBehind 32 rfl) rfl ?_
              refine e_goto (tgt := 70) (pc := 66) Xc (dT hX6_isSeenBehind 33 rfl) rfl ?_
              refine e_istore (L' := [(4, .int 1), (3, .int 0), (0, .ref x), (1, .int (nI d)), (2, .int (nI k_))]) (pc := 70) Xc (dT hX6_isSeenBehind 35 rfl) (by decide) rfl ?_
              refine e_aload_n (pc := 72) Xc (dT hX6_isSeenBehind 36 rfl) 2 rfl ?_
              refine gf_X6_27 (pc := 73) Xc (dT hX6_isSeenBehind 37 rfl) hx.o rfl ?_
              refine gf_X6_237 (pc := 76) Xc (dT hX6_isSeenBehind 38 rfl) hPp.o rfl ?_
              refine e_iload_n (pc := 79) Xc (dT hX6_isSeenBehind 39 rfl) 4 rfl ?_
              refine cl_X6_106 (pc := 80) (k := 0) (n := 0) (S := []) Xc (c_get hPp.a3 (by decide) (by decide) k_ (by omega)) (dT hX6_isSeenBehind 40 rfl) rfl (Nat.le_of_ble_eq_true rfl) (Nat.le_of_ble_eq_true rfl) (Nat.le_of_ble_eq_true rfl) rfl (Nat.le_of_ble_eq_true rfl) (fun r11 σ12 hq13 => ?_)
              obtain ⟨r11e, r11s⟩ := hq13
              have r11e := r11e.symm; subst r11e; have r11s := r11s.symm; subst r11s
              refine e_val (y := nI e_) (hr2_.trans hee_) ?_
              refine e_iload_n (pc := 83) Xc (dT hX6_isSeenBehind 41 rfl) 3 rfl ?_
              refine e_icmp_neN (x := e_) (y := d) (tgt := 94) (pc := 84) Xc (dT hX6_isSeenBehind 42 rfl) rfl (by omega) (by omega) (fun c84 => ?_) (fun c84 => ?_)
              · skip
                refine e_iincN (a := k_) (b := 1) (L' := [(2, .int (nI (k_ + 1))), (4, .int 1), (3, .int 0), (0, .ref x), (1, .int (nI d))]) (pc := 94) Xc (dT hX6_isSeenBehind 47 rfl) 4 rfl rfl (by decide) rfl ?_
                refine e_goto (tgt := 2) (pc := 97) Xc (dT hX6_isSeenBehind 48 rfl) rfl ?_
                refine Ev.pick (L' := [(0, .ref x), (1, .int (nI d)), (2, .int (nI (k_ + 1)))]) [3, 4, 0] rfl ?_
                exact ih2 (k_ + 1) (by omega) (by omega) (fun j hj => by by_cases e : j = k_; (· subst e; exact (by rw [seen1, hee_, decide_eq_true (show nI e_ ≠ nI d from fun q => c84 ((nI_eq (by omega) (by omega)).mp q)), Bool.true_or])); (· exact hs_ j (by omega)))
              · skip
                refine e_iload (pc := 87) Xc (dT hX6_isSeenBehind 43 rfl) 0 rfl ?_
                refine e_if_ne (tgt := 94) (pc := 89) Xc (dT hX6_isSeenBehind 44 rfl) rfl (fun c89 => ?_) (fun c89 => ?_)
                · skip
                  refine e_iincN (a := k_) (b := 1) (L' := [(2, .int (nI (k_ + 1))), (4, .int 1), (3, .int 0), (0, .ref x), (1, .int (nI d))]) (pc := 94) Xc (dT hX6_isSeenBehind 47 rfl) 4 rfl rfl (by decide) rfl ?_
                  refine e_goto (tgt := 2) (pc := 97) Xc (dT hX6_isSeenBehind 48 rfl) rfl ?_
                  refine Ev.pick (L' := [(0, .ref x), (1, .int (nI d)), (2, .int (nI (k_ + 1)))]) [3, 4, 0] rfl ?_
                  exact ih2 (k_ + 1) (by omega) (by omega) (fun j hj => by by_cases e : j = k_; (· subst e; exact (by rw [seen1, hbe_, ho2_, hsn_]; simp)); (· exact hs_ j (by omega)))
                · skip
                  exact absurd c89 (by decide)
          · skip
            have hsn_ : decide (X (56 + k_) = 1) = true := by
              rcases hon_ with q | q
              · exact absurd (hr3_.trans q) c54
              · rw [q]; rfl
            refine e_iconst (v := 1) (pc := 57) Xc (dT hX6_isSeenBehind 28 rfl) rfl ?_
            refine e_goto (tgt := 62) (pc := 58) Xc (dT hX6_isSeenBehind 29 rfl) rfl ?_
            refine e_icmp_neN (x := 0) (y := 1) (tgt := 69) (pc := 62) Xc (dT hX6_isSeenBehind 31 rfl) rfl (by omega) (by omega) (fun c62 => ?_) (fun c62 => ?_)
            · skip
              refine e_iconst (v := 0) (pc := 69) Xc (dT hX6_isSeenBehind 34 rfl) rfl ?_
              refine e_istore (L' := [(4, .int 0), (3, .int 0), (0, .ref x), (1, .int (nI d)), (2, .int (nI k_))]) (pc := 70) Xc (dT hX6_isSeenBehind 35 rfl) (by decide) rfl ?_
              refine e_aload_n (pc := 72) Xc (dT hX6_isSeenBehind 36 rfl) 2 rfl ?_
              refine gf_X6_27 (pc := 73) Xc (dT hX6_isSeenBehind 37 rfl) hx.o rfl ?_
              refine gf_X6_237 (pc := 76) Xc (dT hX6_isSeenBehind 38 rfl) hPp.o rfl ?_
              refine e_iload_n (pc := 79) Xc (dT hX6_isSeenBehind 39 rfl) 4 rfl ?_
              refine cl_X6_106 (pc := 80) (k := 0) (n := 0) (S := []) Xc (c_get hPp.a3 (by decide) (by decide) k_ (by omega)) (dT hX6_isSeenBehind 40 rfl) rfl (Nat.le_of_ble_eq_true rfl) (Nat.le_of_ble_eq_true rfl) (Nat.le_of_ble_eq_true rfl) rfl (Nat.le_of_ble_eq_true rfl) (fun r14 σ15 hq16 => ?_)
              obtain ⟨r14e, r14s⟩ := hq16
              have r14e := r14e.symm; subst r14e; have r14s := r14s.symm; subst r14s
              refine e_val (y := nI e_) (hr2_.trans hee_) ?_
              refine e_iload_n (pc := 83) Xc (dT hX6_isSeenBehind 41 rfl) 3 rfl ?_
              refine e_icmp_neN (x := e_) (y := d) (tgt := 94) (pc := 84) Xc (dT hX6_isSeenBehind 42 rfl) rfl (by omega) (by omega) (fun c84 => ?_) (fun c84 => ?_)
              · skip
                refine e_iincN (a := k_) (b := 1) (L' := [(2, .int (nI (k_ + 1))), (4, .int 0), (3, .int 0), (0, .ref x), (1, .int (nI d))]) (pc := 94) Xc (dT hX6_isSeenBehind 47 rfl) 4 rfl rfl (by decide) rfl ?_
                refine e_goto (tgt := 2) (pc := 97) Xc (dT hX6_isSeenBehind 48 rfl) rfl ?_
                refine Ev.pick (L' := [(0, .ref x), (1, .int (nI d)), (2, .int (nI (k_ + 1)))]) [3, 4, 0] rfl ?_
                exact ih2 (k_ + 1) (by omega) (by omega) (fun j hj => by by_cases e : j = k_; (· subst e; exact (by rw [seen1, hee_, decide_eq_true (show nI e_ ≠ nI d from fun q => c84 ((nI_eq (by omega) (by omega)).mp q)), Bool.true_or])); (· exact hs_ j (by omega)))
              · skip
                refine e_iload (pc := 87) Xc (dT hX6_isSeenBehind 43 rfl) 0 rfl ?_
                refine e_if_ne (tgt := 94) (pc := 89) Xc (dT hX6_isSeenBehind 44 rfl) rfl (fun c89 => ?_) (fun c89 => ?_)
                · skip
                  exact absurd c89 (by decide)
                · skip
                  refine e_iconst (v := 0) (pc := 92) Xc (dT hX6_isSeenBehind 45 rfl) rfl ?_
                  refine e_zret (pc := 93) Xc hQ (dT hX6_isSeenBehind 46 rfl) (Nat.le_refl _) (Nat.le_refl _) (Or.inl rfl) ?_
                  refine ⟨?_, rfl⟩
                  have hf_ : seen1 X nr (nI d) k_ = false := by rw [seen1, hee_, c84, hbe_, ho2_, hsn_, decide_eq_false (show ¬ (nI d ≠ nI d) from fun q => q rfl)]; rfl
                  symm
                  show bI _ = 0
                  rw [bI_0]
                  cases hq : seenF X nr ns (nI d) with
                  | false => rfl
                  | true =>
                    have h_ := allTo_iff.mp hq k_ (by omega)
                    rw [hf_] at h_
                    exact Bool.noConfusion h_
            · skip
              exact absurd c62 (by decide)
        · skip
          have ho2_ : onF X nr (nI b_) = true := (hold5 hr4).mp c33
          refine e_iconst (v := 1) (pc := 36) Xc (dT hX6_isSeenBehind 17 rfl) rfl ?_
          refine e_goto (tgt := 41) (pc := 37) Xc (dT hX6_isSeenBehind 18 rfl) rfl ?_
          refine e_istore_n (L' := [(3, .int 1), (0, .ref x), (1, .int (nI d)), (2, .int (nI k_))]) (pc := 41) Xc (dT hX6_isSeenBehind 20 rfl) (by decide) rfl ?_
          refine e_iload_n (pc := 42) Xc (dT hX6_isSeenBehind 21 rfl) 0 rfl ?_
          refine e_aload_n (pc := 43) Xc (dT hX6_isSeenBehind 22 rfl) 1 rfl ?_
          refine gf_X6_27 (pc := 44) Xc (dT hX6_isSeenBehind 23 rfl) hx.o rfl ?_
          refine gf_X6_240 (pc := 47) Xc (dT hX6_isSeenBehind 24 rfl) hPp.o rfl ?_
          refine e_iload_n (pc := 50) Xc (dT hX6_isSeenBehind 25 rfl) 3 rfl ?_
          refine cl_X6_106 (pc := 51) (k := 0) (n := 0) (S := [.int 1]) Xc (c_get hPp.a4 (by decide) (by decide) k_ (by omega)) (dT hX6_isSeenBehind 26 rfl) rfl (Nat.le_of_ble_eq_true rfl) (Nat.le_of_ble_eq_true rfl) (Nat.le_of_ble_eq_true rfl) rfl (Nat.le_of_ble_eq_true rfl) (fun r17 σ18 hq19 => ?_)
          obtain ⟨r17e, r17s⟩ := hq19
          have r17e := r17e.symm; subst r17e; have r17s := r17s.symm; subst r17s
          refine e_if_eq (tgt := 61) (pc := 54) Xc (dT hX6_isSeenBehind 27 rfl) rfl (fun c54 => ?_) (fun c54 => ?_)
          · skip
            have hsn_ : decide (X (56 + k_) = 1) = false := by rw [← hr3_, c54]; rfl
            refine e_iconst (v := 0) (pc := 61) Xc (dT hX6_isSeenBehind 30 rfl) rfl ?_
            refine e_icmp_neN (x := 1) (y := 0) (tgt := 69) (pc := 62) Xc (dT hX6_isSeenBehind 31 rfl) rfl (by omega) (by omega) (fun c62 => ?_) (fun c62 => ?_)
            · skip
              refine e_iconst (v := 0) (pc := 69) Xc (dT hX6_isSeenBehind 34 rfl) rfl ?_
              refine e_istore (L' := [(4, .int 0), (3, .int 1), (0, .ref x), (1, .int (nI d)), (2, .int (nI k_))]) (pc := 70) Xc (dT hX6_isSeenBehind 35 rfl) (by decide) rfl ?_
              refine e_aload_n (pc := 72) Xc (dT hX6_isSeenBehind 36 rfl) 2 rfl ?_
              refine gf_X6_27 (pc := 73) Xc (dT hX6_isSeenBehind 37 rfl) hx.o rfl ?_
              refine gf_X6_237 (pc := 76) Xc (dT hX6_isSeenBehind 38 rfl) hPp.o rfl ?_
              refine e_iload_n (pc := 79) Xc (dT hX6_isSeenBehind 39 rfl) 4 rfl ?_
              refine cl_X6_106 (pc := 80) (k := 0) (n := 0) (S := []) Xc (c_get hPp.a3 (by decide) (by decide) k_ (by omega)) (dT hX6_isSeenBehind 40 rfl) rfl (Nat.le_of_ble_eq_true rfl) (Nat.le_of_ble_eq_true rfl) (Nat.le_of_ble_eq_true rfl) rfl (Nat.le_of_ble_eq_true rfl) (fun r20 σ21 hq22 => ?_)
              obtain ⟨r20e, r20s⟩ := hq22
              have r20e := r20e.symm; subst r20e; have r20s := r20s.symm; subst r20s
              refine e_val (y := nI e_) (hr2_.trans hee_) ?_
              refine e_iload_n (pc := 83) Xc (dT hX6_isSeenBehind 41 rfl) 3 rfl ?_
              refine e_icmp_neN (x := e_) (y := d) (tgt := 94) (pc := 84) Xc (dT hX6_isSeenBehind 42 rfl) rfl (by omega) (by omega) (fun c84 => ?_) (fun c84 => ?_)
              · skip
                refine e_iincN (a := k_) (b := 1) (L' := [(2, .int (nI (k_ + 1))), (4, .int 0), (3, .int 1), (0, .ref x), (1, .int (nI d))]) (pc := 94) Xc (dT hX6_isSeenBehind 47 rfl) 4 rfl rfl (by decide) rfl ?_
                refine e_goto (tgt := 2) (pc := 97) Xc (dT hX6_isSeenBehind 48 rfl) rfl ?_
                refine Ev.pick (L' := [(0, .ref x), (1, .int (nI d)), (2, .int (nI (k_ + 1)))]) [3, 4, 0] rfl ?_
                exact ih2 (k_ + 1) (by omega) (by omega) (fun j hj => by by_cases e : j = k_; (· subst e; exact (by rw [seen1, hee_, decide_eq_true (show nI e_ ≠ nI d from fun q => c84 ((nI_eq (by omega) (by omega)).mp q)), Bool.true_or])); (· exact hs_ j (by omega)))
              · skip
                refine e_iload (pc := 87) Xc (dT hX6_isSeenBehind 43 rfl) 0 rfl ?_
                refine e_if_ne (tgt := 94) (pc := 89) Xc (dT hX6_isSeenBehind 44 rfl) rfl (fun c89 => ?_) (fun c89 => ?_)
                · skip
                  exact absurd c89 (by decide)
                · skip
                  refine e_iconst (v := 0) (pc := 92) Xc (dT hX6_isSeenBehind 45 rfl) rfl ?_
                  refine e_zret (pc := 93) Xc hQ (dT hX6_isSeenBehind 46 rfl) (Nat.le_refl _) (Nat.le_refl _) (Or.inl rfl) ?_
                  refine ⟨?_, rfl⟩
                  have hf_ : seen1 X nr (nI d) k_ = false := by rw [seen1, hee_, c84, hbe_, ho2_, hsn_, decide_eq_false (show ¬ (nI d ≠ nI d) from fun q => q rfl)]; rfl
                  symm
                  show bI _ = 0
                  rw [bI_0]
                  cases hq : seenF X nr ns (nI d) with
                  | false => rfl
                  | true =>
                    have h_ := allTo_iff.mp hq k_ (by omega)
                    rw [hf_] at h_
                    exact Bool.noConfusion h_
            · skip
              exact absurd c62 (by decide)
          · skip
            have hsn_ : decide (X (56 + k_) = 1) = true := by
              rcases hon_ with q | q
              · exact absurd (hr3_.trans q) c54
              · rw [q]; rfl
            refine e_iconst (v := 1) (pc := 57) Xc (dT hX6_isSeenBehind 28 rfl) rfl ?_
            refine e_goto (tgt := 62) (pc := 58) Xc (dT hX6_isSeenBehind 29 rfl) rfl ?_
            refine e_icmp_neN (x := 1) (y := 1) (tgt := 69) (pc := 62) Xc (dT hX6_isSeenBehind 31 rfl) rfl (by omega) (by omega) (fun c62 => ?_) (fun c62 => ?_)
            · skip
              exact absurd c62 (by decide)
            · skip
              refine e_iconst (v := 1) (pc := 65) Xc (dT hX6_isSeenBehind 32 rfl) rfl ?_
              refine e_goto (tgt := 70) (pc := 66) Xc (dT hX6_isSeenBehind 33 rfl) rfl ?_
              refine e_istore (L' := [(4, .int 1), (3, .int 1), (0, .ref x), (1, .int (nI d)), (2, .int (nI k_))]) (pc := 70) Xc (dT hX6_isSeenBehind 35 rfl) (by decide) rfl ?_
              refine e_aload_n (pc := 72) Xc (dT hX6_isSeenBehind 36 rfl) 2 rfl ?_
              refine gf_X6_27 (pc := 73) Xc (dT hX6_isSeenBehind 37 rfl) hx.o rfl ?_
              refine gf_X6_237 (pc := 76) Xc (dT hX6_isSeenBehind 38 rfl) hPp.o rfl ?_
              refine e_iload_n (pc := 79) Xc (dT hX6_isSeenBehind 39 rfl) 4 rfl ?_
              refine cl_X6_106 (pc := 80) (k := 0) (n := 0) (S := []) Xc (c_get hPp.a3 (by decide) (by decide) k_ (by omega)) (dT hX6_isSeenBehind 40 rfl) rfl (Nat.le_of_ble_eq_true rfl) (Nat.le_of_ble_eq_true rfl) (Nat.le_of_ble_eq_true rfl) rfl (Nat.le_of_ble_eq_true rfl) (fun r23 σ24 hq25 => ?_)
              obtain ⟨r23e, r23s⟩ := hq25
              have r23e := r23e.symm; subst r23e; have r23s := r23s.symm; subst r23s
              refine e_val (y := nI e_) (hr2_.trans hee_) ?_
              refine e_iload_n (pc := 83) Xc (dT hX6_isSeenBehind 41 rfl) 3 rfl ?_
              refine e_icmp_neN (x := e_) (y := d) (tgt := 94) (pc := 84) Xc (dT hX6_isSeenBehind 42 rfl) rfl (by omega) (by omega) (fun c84 => ?_) (fun c84 => ?_)
              · skip
                refine e_iincN (a := k_) (b := 1) (L' := [(2, .int (nI (k_ + 1))), (4, .int 1), (3, .int 1), (0, .ref x), (1, .int (nI d))]) (pc := 94) Xc (dT hX6_isSeenBehind 47 rfl) 4 rfl rfl (by decide) rfl ?_
                refine e_goto (tgt := 2) (pc := 97) Xc (dT hX6_isSeenBehind 48 rfl) rfl ?_
                refine Ev.pick (L' := [(0, .ref x), (1, .int (nI d)), (2, .int (nI (k_ + 1)))]) [3, 4, 0] rfl ?_
                exact ih2 (k_ + 1) (by omega) (by omega) (fun j hj => by by_cases e : j = k_; (· subst e; exact (by rw [seen1, hee_, decide_eq_true (show nI e_ ≠ nI d from fun q => c84 ((nI_eq (by omega) (by omega)).mp q)), Bool.true_or])); (· exact hs_ j (by omega)))
              · skip
                refine e_iload (pc := 87) Xc (dT hX6_isSeenBehind 43 rfl) 0 rfl ?_
                refine e_if_ne (tgt := 94) (pc := 89) Xc (dT hX6_isSeenBehind 44 rfl) rfl (fun c89 => ?_) (fun c89 => ?_)
                · skip
                  refine e_iincN (a := k_) (b := 1) (L' := [(2, .int (nI (k_ + 1))), (4, .int 1), (3, .int 1), (0, .ref x), (1, .int (nI d))]) (pc := 94) Xc (dT hX6_isSeenBehind 47 rfl) 4 rfl rfl (by decide) rfl ?_
                  refine e_goto (tgt := 2) (pc := 97) Xc (dT hX6_isSeenBehind 48 rfl) rfl ?_
                  refine Ev.pick (L' := [(0, .ref x), (1, .int (nI d)), (2, .int (nI (k_ + 1)))]) [3, 4, 0] rfl ?_
                  exact ih2 (k_ + 1) (by omega) (by omega) (fun j hj => by by_cases e : j = k_; (· subst e; exact (by rw [seen1, hbe_, ho2_, hsn_]; simp)); (· exact hs_ j (by omega)))
                · skip
                  exact absurd c89 (by decide)
  refine Ev.pick (L' := [(0, .ref x), (1, .int (nI d)), (2, .int 0)]) [1, 2, 0] rfl ?_
  exact lp2 ((ns - 0) + 1) 0 (Nat.lt_succ_self _) (Nat.zero_le _) (fun j hj => absurd hj (Nat.not_lt_zero j))
set_option maxRecDepth 100000 in
set_option maxHeartbeats 4000000 in
theorem c6_isAllSeen {G : xG} {σ : xS} {x : Nat} {Fx : Nat → Int32} {Ax : Nat → Nat → Int32} (hx : PX6 σ x Fx (t6 x) Ax) {tw nr nb dk e0 : Nat} {X : Nat → Int32} {t : xT} (hWt : WLk σ (x + 13) tw X nr nb t dk e0) (hdk : dk ≤ 9999) (ht13 : tw ≠ x + 13) {Fp : Nat → Int32} {Tp : Nat → Nat} {Ap : Nat → Nat → Int32} (hPp : PX2 σ (x + 37) Fp Tp Ap) {ns np nn nt : Nat} (hRP : RPc Fp Ap X ns np nn nt) (hb8 : ns ≤ 6 ∧ np ≤ 8 ∧ nn ≤ 8 ∧ nt ≤ 100) (hS : Gs X nb ns) : CI G yX6_isAllSeen cX6_isAllSeen 2 (some .boolean) 7 0 0 [.ref x] σ (fun z σ1 => z = bI (allSeen X t nr nb ns) ∧ (∃ X1 dy1, WLk σ1 (x + 13) tw X1 nr nb t dy1 e0 ∧ ∀ j, 5 ≤ j → X1 j = X j) ∧ Off (x + 13) σ σ1) := by
  refine Met.ofX (by decide +kernel) (Nat.le_of_ble_eq_true rfl) (fun μ Xc hQ hnm => ?_)
  have Xc : xC G μ cX6_isAllSeen 2 RX6 (some .boolean) 7 0 0 := Xc
  have hr4 := (WX.gd hWt.choose_spec.1).1.r4
  show Ev G μ 2 0 0 0 [(0, .ref x)] [] σ
  obtain ⟨lnw1, hXw1, hdlw1, hd0w1, hbtw1, hbkw1⟩ := id hWt
  obtain ⟨Fw1, Tw1, Aw1, hBw1, htw1⟩ := id hXw1
  have hWw1 := hBw1.2.1
  refine e_iconst (v := 0) (pc := 0) Xc (dT hX6_isAllSeen 0 rfl) rfl ?_
  refine e_istore_n (L' := [(1, .int 0), (0, .ref x)]) (pc := 1) Xc (dT hX6_isAllSeen 1 rfl) (by decide) rfl ?_
  have lp2 : ∀ (n2 : Nat) (d_ : Nat) (σ2 : xS), 21 - d_ < n2 → (d_ ≤ 21) → (∀ j, j < d_ → (fun d => seenF (daysF X t nr nb d).2 nr ns (nI d)) j = true) → (WLk σ2 (x + 13) tw (daysF X t nr nb d_).2 nr nb t (dk + d_) e0) → (Off (x + 13) σ σ2) → Ev G μ 2 0 0 2 [(0, .ref x), (1, .int (nI d_))] [] σ2 := by
    intro n2
    induction n2 with
    | zero => intro d_ σ2 hn; exact absurd hn (Nat.not_lt_zero _)
    | succ n2 ih2 =>
      intro d_ σ2 hn2 hd_ hs_ hT2 hO2
      have hP2 := hx.off hO2 (by omega)
      have hP3 := hPp.off hO2 (by omega)
      obtain ⟨lnw4, hXw4, hdlw4, hd0w4, hbtw4, hbkw4⟩ := id hT2
      obtain ⟨Fw4, Tw4, Aw4, hBw4, htw4⟩ := id hXw4
      have hWw4 := hBw4.2.1
      refine e_iload_n (pc := 2) Xc (dT hX6_isAllSeen 2 rfl) 1 rfl ?_
      refine e_bipush (v := 20) (pc := 3) Xc (dT hX6_isAllSeen 3 rfl) rfl ?_
      refine e_icmp_gtN (x := d_) (y := 20) (tgt := 32) (pc := 5) Xc (dT hX6_isAllSeen 4 rfl) rfl (by omega) (by omega) (fun c5 => ?_) (fun c5 => ?_)
      · skip
        refine e_iconst (v := 1) (pc := 32) Xc (dT hX6_isAllSeen 17 rfl) rfl ?_
        refine e_zret (pc := 33) Xc hQ (dT hX6_isAllSeen 18 rfl) (Nat.le_refl _) (Nat.le_refl _) (Or.inr rfl) ?_
        have hde_ : d_ = 21 := by omega
        refine ⟨?_, ⟨_, _, ⟨lnw4, ⟨Fw4, Tw4, Aw4, hBw4, htw4⟩, hdlw4, hd0w4, hbtw4, hbkw4⟩, fun j hj => days_hi hr4 hj d_⟩, hO2⟩
        subst hde_
        symm
        show bI _ = 1
        rw [bI_1]
        exact allTo_iff.mpr hs_
      · skip
        refine e_aload_n (pc := 8) Xc (dT hX6_isAllSeen 5 rfl) 0 rfl ?_
        refine e_iload_n (pc := 9) Xc (dT hX6_isAllSeen 6 rfl) 1 rfl ?_
        refine cl_X6_309 (pc := 10) (k := 0) (n := 0) (S := []) Xc hP2.o (c6_isSeenBehind hP2 ⟨Fw4, Tw4, Aw4, hBw4, htw4⟩ hP3 (hRP.cg hb8.1 hb8.2.1 hb8.2.2.1 (fun j _ _ => days_hi hr4 (by omega) d_) hb8.2.2.2) (hS.congr (fun j hj => days_hi hr4 (by omega) d_)) d_ (by omega)) (dT hX6_isAllSeen 7 rfl) rfl (Nat.le_of_ble_eq_true rfl) (Nat.le_of_ble_eq_true rfl) (Nat.le_of_ble_eq_true rfl) rfl (Nat.le_of_ble_eq_true rfl) (fun r5 σ6 hq7 => ?_)
        obtain ⟨r5e, r5s⟩ := hq7
        have r5e := r5e.symm; subst r5e; have r5s := r5s.symm; subst r5s
        refine e_if_ne (tgt := 18) (pc := 13) Xc (dT hX6_isAllSeen 8 rfl) rfl (fun c13 => ?_) (fun c13 => ?_)
        · skip
          refine e_aload_n (pc := 18) Xc (dT hX6_isAllSeen 11 rfl) 0 rfl ?_
          refine gf_X6_18 (pc := 19) Xc (dT hX6_isAllSeen 12 rfl) hP2.o rfl ?_
          refine cl_X6_168 (pc := 22) (k := 0) (n := 0) (S := []) Xc hBw4.1.o (c5_goDayK ⟨lnw4, ⟨Fw4, Tw4, Aw4, hBw4, htw4⟩, hdlw4, hd0w4, hbtw4, hbkw4⟩ (by omega)) (dT hX6_isAllSeen 13 rfl) rfl (Nat.le_of_ble_eq_true rfl) (Nat.le_of_ble_eq_true rfl) (Nat.le_of_ble_eq_true rfl) rfl (Nat.le_of_ble_eq_true rfl) (fun r8 σ9 hq10 => ?_)
          obtain ⟨r8e, hT11, ho12⟩ := hq10
          have r8e := r8e.symm; subst r8e
          have hP13 := hP2.off ho12 (by omega)
          have hP14 := hP3.off ho12 (by omega)
          obtain ⟨lnw15, hXw15, hdlw15, hd0w15, hbtw15, hbkw15⟩ := id hT11
          obtain ⟨Fw15, Tw15, Aw15, hBw15, htw15⟩ := id hXw15
          have hWw15 := hBw15.2.1
          refine e_pop (pc := 25) Xc (dT hX6_isAllSeen 14 rfl) rfl ?_
          refine e_iincN (a := d_) (b := 1) (L' := [(1, .int (nI (d_ + 1))), (0, .ref x)]) (pc := 26) Xc (dT hX6_isAllSeen 15 rfl) 1 rfl rfl (by decide) rfl ?_
          refine e_goto (tgt := 2) (pc := 29) Xc (dT hX6_isAllSeen 16 rfl) rfl ?_
          refine Ev.pick (L' := [(0, .ref x), (1, .int (nI (d_ + 1)))]) [1, 0] rfl ?_
          exact ih2 (d_ + 1) σ9 (by omega) (by omega) (fun j hj => by by_cases e : j = d_; (· subst e; cases q_ : seenF (daysF X t nr nb j).2 nr ns (nI j); (· exact absurd (bI_0.mpr q_) c13); (· exact q_)); (· exact hs_ j (by omega))) (⟨lnw15, ⟨Fw15, Tw15, Aw15, hBw15, htw15⟩, hdlw15, hd0w15, hbtw15, hbkw15⟩) (hO2.tr ho12)
        · skip
          refine e_iconst (v := 0) (pc := 16) Xc (dT hX6_isAllSeen 9 rfl) rfl ?_
          refine e_zret (pc := 17) Xc hQ (dT hX6_isAllSeen 10 rfl) (Nat.le_refl _) (Nat.le_refl _) (Or.inl rfl) ?_
          refine ⟨?_, ⟨_, _, ⟨lnw4, ⟨Fw4, Tw4, Aw4, hBw4, htw4⟩, hdlw4, hd0w4, hbtw4, hbkw4⟩, fun j hj => days_hi hr4 hj d_⟩, hO2⟩
          symm
          show bI _ = 0
          rw [bI_0]
          cases hq : allSeen X t nr nb ns with
          | false => rfl
          | true =>
            have h_ := allTo_iff.mp hq d_ (by omega)
            rw [bI_0.mp c13] at h_
            exact Bool.noConfusion h_
  refine Ev.pick (L' := [(0, .ref x), (1, .int 0)]) [1, 0] rfl ?_
  exact lp2 ((21 - 0) + 1) 0 σ (Nat.lt_succ_self _) (by omega) (fun j hj => absurd hj (Nat.not_lt_zero j)) (⟨lnw1, ⟨Fw1, Tw1, Aw1, hBw1, htw1⟩, hdlw1, hd0w1, hbtw1, hbkw1⟩) Off.rf
