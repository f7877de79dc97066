set_option maxRecDepth 100000 in
set_option maxHeartbeats 4000000 in
theorem c_looksForPlains {G : xG} {σ : xS} {m : Nat} {F : Nat → Int32} {T : Nat → Nat} {A : Nat → Nat → Int32} (hP : PX7 σ m F T A) {nr nb : Nat} (hG : Gd (A 1) nr nb) {t : xT} (hT : Hd (A 1) t) : CV G yX7_looksForPlains cX7_looksForPlains 3 none 2 0 0 [.ref m] σ (fun σ1 => ∃ P, PX7 σ1 m F T (upA A 6 P) ∧ PLq P (A 1) t nr nb ∧ Off m σ σ1) := by
  refine Met.ofX (by decide +kernel) (Nat.le_of_ble_eq_true rfl) (fun μ Xc hQ hnm => ?_)
  have Xc : xC G μ cX7_looksForPlains 3 RX7 none 2 0 0 := Xc
  have hr4 := hG.r4
  have hb7 := hG.b7
  show Ev G μ 3 0 0 0 [(0, .ref m)] [] σ
  refine e_iconst (v := 0) (pc := 0) Xc (dT hX7_looksForPlains 0 rfl) rfl ?_
  refine e_istore_n (L' := [(1, .int 0), (0, .ref m)]) (pc := 1) Xc (dT hX7_looksForPlains 1 rfl) (by decide) rfl ?_
  have lp2 : ∀ (n2 : Nat) (r_ : Nat) (P_ : Nat → Int32) (σ2 : xS), nr - r_ < n2 → (r_ ≤ nr) → (∀ r b, r < r_ → b < nb → P_ (7 * r + b) = plainF (A 1) t r b) → (PX7 σ2 m F T (upA A 6 P_)) → (Off m σ σ2) → Ev G μ 3 0 0 2 [(0, .ref m), (1, .int (nI r_))] [] σ2 := by
    intro n2
    induction n2 with
    | zero => intro r_ P_ σ2 hn; exact absurd hn (Nat.not_lt_zero _)
    | succ n2 ih2 =>
      intro r_ P_ σ2 hn2 hr_ hi1 hp2 ho2
      refine e_iload_n (pc := 2) Xc (dT hX7_looksForPlains 2 rfl) 1 rfl ?_
      refine e_aload_n (pc := 3) Xc (dT hX7_looksForPlains 3 rfl) 0 rfl ?_
      refine gf_X7_9 (pc := 4) Xc (dT hX7_looksForPlains 4 rfl) hp2.o rfl ?_
      refine e_bipush (v := 12) (pc := 7) Xc (dT hX7_looksForPlains 5 rfl) rfl ?_
      refine e_ialdN (pc := 9) Xc (dT hX7_looksForPlains 6 rfl) hp2.a1 (by decide) rfl 12 rfl (by have := hG.1; omega) (by decide) ?_
      refine e_val (y := A 1 12) rfl ?_
      refine e_val (y := nI nr) hG.1.2.2.1 ?_
      refine e_icmp_geN (x := r_) (y := nr) (tgt := 55) (pc := 10) Xc (dT hX7_looksForPlains 7 rfl) rfl (by have := hG.1; omega) (by have := hG.1; omega) (fun c10 => ?_) (fun c10 => ?_)
      · skip
        refine e_vret (pc := 55) Xc hQ (dT hX7_looksForPlains 32 rfl) (Nat.le_refl _) (Nat.le_refl _) ?_
        exact ⟨P_, hp2, fun r b h1 h2 => hi1 r b (by omega) h2, ho2⟩
      · skip
        refine e_iconst (v := 0) (pc := 13) Xc (dT hX7_looksForPlains 8 rfl) rfl ?_
        refine e_istore_n (L' := [(2, .int 0), (0, .ref m), (1, .int (nI r_))]) (pc := 14) Xc (dT hX7_looksForPlains 9 rfl) (by decide) rfl ?_
        have lp15 : ∀ (n15 : Nat) (b_ : Nat) (P_ : Nat → Int32) (σ3 : xS), nb - b_ < n15 → (b_ ≤ nb) → (∀ r b, (r < r_ ∨ r = r_ ∧ b < b_) → b < nb → P_ (7 * r + b) = plainF (A 1) t r b) → (PX7 σ3 m F T (upA A 6 P_)) → (Off m σ σ3) → Ev G μ 3 0 0 15 [(0, .ref m), (1, .int (nI r_)), (2, .int (nI b_))] [] σ3 := by
          intro n15
          induction n15 with
          | zero => intro b_ P_ σ3 hn; exact absurd hn (Nat.not_lt_zero _)
          | succ n15 ih15 =>
            intro b_ P_ σ3 hn15 hb_ hi2 hp3 ho3
            refine e_iload_n (pc := 15) Xc (dT hX7_looksForPlains 10 rfl) 2 rfl ?_
            refine e_aload_n (pc := 16) Xc (dT hX7_looksForPlains 11 rfl) 0 rfl ?_
            refine gf_X7_9 (pc := 17) Xc (dT hX7_looksForPlains 12 rfl) hp3.o rfl ?_
            refine e_bipush (v := 13) (pc := 20) Xc (dT hX7_looksForPlains 13 rfl) rfl ?_
            refine e_ialdN (pc := 22) Xc (dT hX7_looksForPlains 14 rfl) hp3.a1 (by decide) rfl 13 rfl (by have := hG.1; omega) (by decide) ?_
            refine e_val (y := A 1 13) rfl ?_
            refine e_val (y := nI nb) hG.1.2.2.2 ?_
            refine e_icmp_geN (x := b_) (y := nb) (tgt := 49) (pc := 23) Xc (dT hX7_looksForPlains 15 rfl) rfl (by have := hG.1; omega) (by have := hG.1; omega) (fun c23 => ?_) (fun c23 => ?_)
            · skip
              refine e_iincN (a := r_) (b := 1) (L' := [(1, .int (nI (r_ + 1))), (0, .ref m), (2, .int (nI b_))]) (pc := 49) Xc (dT hX7_looksForPlains 30 rfl) 1 rfl rfl (by decide) rfl ?_
              refine e_goto (tgt := 2) (pc := 52) Xc (dT hX7_looksForPlains 31 rfl) rfl ?_
              refine Ev.pick (L' := [(0, .ref m), (1, .int (nI (r_ + 1)))]) [1, 0] rfl ?_
              exact ih2 (r_ + 1) P_ σ3 (by omega) (by omega) (fun r b h1 h2 => hi2 r b (by omega) h2) hp3 ho3
            · skip
              refine e_aload_n (pc := 26) Xc (dT hX7_looksForPlains 16 rfl) 0 rfl ?_
              refine gf_X7_28 (pc := 27) Xc (dT hX7_looksForPlains 17 rfl) hp3.o rfl ?_
              refine e_bipush (v := 7) (pc := 30) Xc (dT hX7_looksForPlains 18 rfl) rfl ?_
              refine e_iload_n (pc := 32) Xc (dT hX7_looksForPlains 19 rfl) 1 rfl ?_
              refine e_imulN (a := 7) (b := r_) (pc := 33) Xc (dT hX7_looksForPlains 20 rfl) ?_
              refine e_iload_n (pc := 34) Xc (dT hX7_looksForPlains 21 rfl) 2 rfl ?_
              refine e_iaddN (a := 7 * r_) (b := b_) (pc := 35) Xc (dT hX7_looksForPlains 22 rfl) ?_
              refine e_aload_n (pc := 36) Xc (dT hX7_looksForPlains 23 rfl) 0 rfl ?_
              refine e_iload_n (pc := 37) Xc (dT hX7_looksForPlains 24 rfl) 1 rfl ?_
              refine e_iload_n (pc := 38) Xc (dT hX7_looksForPlains 25 rfl) 2 rfl ?_
              refine cl_X7_136 (pc := 39) (k := 0) (n := 0) (S := [.int (nI ((7 * r_) + b_)), .ref (m + 6)]) Xc hp3.o (c_looks hp3 hG hT r_ b_ (by omega) (by omega)) (dT hX7_looksForPlains 26 rfl) rfl (Nat.le_of_ble_eq_true rfl) (Nat.le_of_ble_eq_true rfl) (Nat.le_of_ble_eq_true rfl) rfl (Nat.le_of_ble_eq_true rfl) (fun r1 σ2 hq3 => ?_)
              obtain ⟨r1e, hP4, ho5⟩ := hq3
              have r1e := r1e.symm; subst r1e
              refine e_val (y := plainF (A 1) t r_ b_) rfl ?_
              refine e_iastN (pc := 42) Xc (dT hX7_looksForPlains 27 rfl) hP4.a6 rfl ((7 * r_) + b_) rfl (by have := hG.1; omega) (by decide) ?_
              refine Ev.gen (fun z => PX7 z m F T (upA (upA A 6 P_) 6 (upd P_ ((7 * r_) + b_) (plainF (A 1) t r_ b_)))) (hP4.wa6 (g := (upd P_ ((7 * r_) + b_) (plainF (A 1) t r_ b_)))) Off.set (fun σ6 hP7 ho8 => ?_)
              have hP7 : PX7 σ6 m F T (upA A 6 (upd P_ ((7 * r_) + b_) (plainF (A 1) t r_ b_))) := by rw [upA_2] at hP7; exact hP7
              refine e_iincN (a := b_) (b := 1) (L' := [(2, .int (nI (b_ + 1))), (0, .ref m), (1, .int (nI r_))]) (pc := 43) Xc (dT hX7_looksForPlains 28 rfl) 2 rfl rfl (by decide) rfl ?_
              refine e_goto (tgt := 15) (pc := 46) Xc (dT hX7_looksForPlains 29 rfl) rfl ?_
              refine Ev.pick (L' := [(0, .ref m), (1, .int (nI r_)), (2, .int (nI (b_ + 1)))]) [1, 2, 0] rfl ?_
              exact ih15 (b_ + 1) (upd P_ ((7 * r_) + b_) (plainF (A 1) t r_ b_)) σ6 (by omega) (by omega) (fun r b h1 h2 => by by_cases e_ : r = r_ ∧ b = b_; (obtain ⟨rfl, rfl⟩ := e_; rw [upd_s]); (rw [upd_n (by omega)]; exact hi2 r b (by omega) h2)) hP7 ((ho3.tr ho5).tr ho8)
        refine Ev.pick (L' := [(0, .ref m), (1, .int (nI r_)), (2, .int 0)]) [1, 2, 0] rfl ?_
        exact lp15 ((nb - 0) + 1) 0 P_ σ2 (Nat.lt_succ_self _) (Nat.zero_le _) (fun r b h1 h2 => hi1 r b (by omega) h2) hp2 ho2
  refine Ev.pick (L' := [(0, .ref m), (1, .int 0)]) [1, 0] rfl ?_
  exact lp2 ((nr - 0) + 1) 0 (A 6) σ (Nat.lt_succ_self _) (Nat.zero_le _) (fun r b h => absurd h (Nat.not_lt_zero _)) (by rw [upA_id]; exact hP) Off.rf
set_option maxRecDepth 100000 in
set_option maxHeartbeats 4000000 in
theorem c_wayNow {G : xG} {σ : xS} {m : Nat} {F : Nat → Int32} {T : Nat → Nat} {A : Nat → Nat → Int32} (hP : PX7 σ m F T A) {nr nb : Nat} (hG : Gd (A 1) nr nb) : CI G yX7_wayNow cX7_wayNow 3 (some .int) 0 0 0 [.ref m] σ (fun z σ1 => z = nI (wayX (A 1) nr) ∧ σ1 = σ) := by
  refine Met.ofX (by decide +kernel) (Nat.le_of_ble_eq_true rfl) (fun μ Xc hQ hnm => ?_)
  have Xc : xC G μ cX7_wayNow 3 RX7 (some .int) 0 0 0 := Xc
  have hr4 := hG.r4
  have lp4 : ∀ (n4 : Nat) (r_ w_ : Nat), 4 - r_ < n4 → (r_ ≤ 4) → (w_ = itr (fun r a => 8 * a + dgX (A 1) nr r) 0 r_) → Ev G μ 3 0 0 4 [(0, .ref m), (1, .int (nI w_)), (2, .int (nI r_))] [] σ := by
    intro n4
    induction n4 with
    | zero => intro r_ w_ hn; exact absurd hn (Nat.not_lt_zero _)
    | succ n4 ih4 =>
      intro r_ w_ hn4 hr_ hw_
      refine e_iload_n (pc := 4) Xc (dT hX7_wayNow 4 rfl) 2 rfl ?_
      refine e_iconst (v := 4) (pc := 5) Xc (dT hX7_wayNow 5 rfl) rfl ?_
      refine e_icmp_geN (x := r_) (y := 4) (tgt := 57) (pc := 6) Xc (dT hX7_wayNow 6 rfl) rfl (by have := hG.1; omega) (by have := hG.1; omega) (fun c6 => ?_) (fun c6 => ?_)
      · skip
        refine e_iload_n (pc := 57) Xc (dT hX7_wayNow 36 rfl) 1 rfl ?_
        refine e_iret (pc := 58) Xc hQ (dT hX7_wayNow 37 rfl) (Nat.le_refl _) (Nat.le_refl _) ?_
        refine ⟨?_, rfl⟩
        have hre_ : r_ = 4 := by omega
        subst hre_
        rw [hw_]; rfl
      · skip
        refine e_bipush (v := 8) (pc := 9) Xc (dT hX7_wayNow 7 rfl) rfl ?_
        refine e_iload_n (pc := 11) Xc (dT hX7_wayNow 8 rfl) 1 rfl ?_
        refine e_imulN (a := 8) (b := w_) (pc := 12) Xc (dT hX7_wayNow 9 rfl) ?_
        refine e_iload_n (pc := 13) Xc (dT hX7_wayNow 10 rfl) 2 rfl ?_
        refine e_aload_n (pc := 14) Xc (dT hX7_wayNow 11 rfl) 0 rfl ?_
        refine gf_X7_9 (pc := 15) Xc (dT hX7_wayNow 12 rfl) hP.o rfl ?_
        refine e_bipush (v := 12) (pc := 18) Xc (dT hX7_wayNow 13 rfl) rfl ?_
        refine e_ialdN (pc := 20) Xc (dT hX7_wayNow 14 rfl) hP.a1 (by decide) rfl 12 rfl (by have := hG.1; omega) (by decide) ?_
        refine e_val (y := nI nr) hG.1.2.2.1 ?_
        refine e_icmp_geN (x := r_) (y := nr) (tgt := 47) (pc := 21) Xc (dT hX7_wayNow 15 rfl) rfl (by have := hG.1; omega) (by have := hG.1; omega) (fun c21 => ?_) (fun c21 => ?_)
        · skip
          refine e_bipush (v := 7) (pc := 47) Xc (dT hX7_wayNow 31 rfl) rfl ?_
          refine e_val (y := nI (dgX (A 1) nr r_)) (congrArg nI (show 7 = dgX (A 1) nr r_ from (if_neg (fun q => absurd q.1 (by omega))).symm)) ?_
          refine e_iaddN (a := 8 * w_) (b := dgX (A 1) nr r_) (pc := 49) Xc (dT hX7_wayNow 32 rfl) ?_
          refine e_istore_n (L' := [(1, .int (nI ((8 * w_) + (dgX (A 1) nr r_)))), (0, .ref m), (2, .int (nI r_))]) (pc := 50) Xc (dT hX7_wayNow 33 rfl) (by decide) rfl ?_
          refine e_iincN (a := r_) (b := 1) (L' := [(2, .int (nI (r_ + 1))), (1, .int (nI ((8 * w_) + (dgX (A 1) nr r_)))), (0, .ref m)]) (pc := 51) Xc (dT hX7_wayNow 34 rfl) 2 rfl rfl (by decide) rfl ?_
          refine e_goto (tgt := 4) (pc := 54) Xc (dT hX7_wayNow 35 rfl) rfl ?_
          refine Ev.pick (L' := [(0, .ref m), (1, .int (nI ((8 * w_) + (dgX (A 1) nr r_)))), (2, .int (nI (r_ + 1)))]) [2, 1, 0] rfl ?_
          exact ih4 (r_ + 1) ((8 * w_) + (dgX (A 1) nr r_)) (by omega) (by omega) (by rw [itr, ← hw_])
        · skip
          refine e_aload_n (pc := 24) Xc (dT hX7_wayNow 16 rfl) 0 rfl ?_
          refine gf_X7_9 (pc := 25) Xc (dT hX7_wayNow 17 rfl) hP.o rfl ?_
          refine e_iconst (v := 1) (pc := 28) Xc (dT hX7_wayNow 18 rfl) rfl ?_
          refine e_iload_n (pc := 29) Xc (dT hX7_wayNow 19 rfl) 2 rfl ?_
          refine e_iaddN (a := 1) (b := r_) (pc := 30) Xc (dT hX7_wayNow 20 rfl) ?_
          refine e_ialdN (pc := 31) Xc (dT hX7_wayNow 21 rfl) hP.a1 (by decide) rfl (1 + r_) rfl (by have := hG.1; omega) (by decide) ?_
          refine e_iconst (v := -1) (pc := 32) Xc (dT hX7_wayNow 22 rfl) rfl ?_
          refine e_icmp_eq (tgt := 47) (pc := 33) Xc (dT hX7_wayNow 23 rfl) rfl (fun c33 => ?_) (fun c33 => ?_)
          · skip
            refine e_bipush (v := 7) (pc := 47) Xc (dT hX7_wayNow 31 rfl) rfl ?_
            refine e_val (y := nI (dgX (A 1) nr r_)) (congrArg nI (show 7 = dgX (A 1) nr r_ from (if_neg (fun q => q.2 c33)).symm)) ?_
            refine e_iaddN (a := 8 * w_) (b := dgX (A 1) nr r_) (pc := 49) Xc (dT hX7_wayNow 32 rfl) ?_
            refine e_istore_n (L' := [(1, .int (nI ((8 * w_) + (dgX (A 1) nr r_)))), (0, .ref m), (2, .int (nI r_))]) (pc := 50) Xc (dT hX7_wayNow 33 rfl) (by decide) rfl ?_
            refine e_iincN (a := r_) (b := 1) (L' := [(2, .int (nI (r_ + 1))), (1, .int (nI ((8 * w_) + (dgX (A 1) nr r_)))), (0, .ref m)]) (pc := 51) Xc (dT hX7_wayNow 34 rfl) 2 rfl rfl (by decide) rfl ?_
            refine e_goto (tgt := 4) (pc := 54) Xc (dT hX7_wayNow 35 rfl) rfl ?_
            refine Ev.pick (L' := [(0, .ref m), (1, .int (nI ((8 * w_) + (dgX (A 1) nr r_)))), (2, .int (nI (r_ + 1)))]) [2, 1, 0] rfl ?_
            exact ih4 (r_ + 1) ((8 * w_) + (dgX (A 1) nr r_)) (by omega) (by omega) (by rw [itr, ← hw_])
          · skip
            refine e_aload_n (pc := 36) Xc (dT hX7_wayNow 24 rfl) 0 rfl ?_
            refine gf_X7_9 (pc := 37) Xc (dT hX7_wayNow 25 rfl) hP.o rfl ?_
            refine e_iconst (v := 1) (pc := 40) Xc (dT hX7_wayNow 26 rfl) rfl ?_
            refine e_iload_n (pc := 41) Xc (dT hX7_wayNow 27 rfl) 2 rfl ?_
            refine e_iaddN (a := 1) (b := r_) (pc := 42) Xc (dT hX7_wayNow 28 rfl) ?_
            refine e_ialdN (pc := 43) Xc (dT hX7_wayNow 29 rfl) hP.a1 (by decide) rfl (1 + r_) rfl (by have := hG.1; omega) (by decide) ?_
            refine e_goto (tgt := 49) (pc := 44) Xc (dT hX7_wayNow 30 rfl) rfl ?_
            refine e_val (y := nI (dgX (A 1) nr r_)) ((dgX_le hG).resolve_left (fun q => c33 (q.2 (by omega)))).2.2 ?_
            refine e_iaddN (a := 8 * w_) (b := dgX (A 1) nr r_) (pc := 49) Xc (dT hX7_wayNow 32 rfl) ?_
            refine e_istore_n (L' := [(1, .int (nI ((8 * w_) + (dgX (A 1) nr r_)))), (0, .ref m), (2, .int (nI r_))]) (pc := 50) Xc (dT hX7_wayNow 33 rfl) (by decide) rfl ?_
            refine e_iincN (a := r_) (b := 1) (L' := [(2, .int (nI (r_ + 1))), (1, .int (nI ((8 * w_) + (dgX (A 1) nr r_)))), (0, .ref m)]) (pc := 51) Xc (dT hX7_wayNow 34 rfl) 2 rfl rfl (by decide) rfl ?_
            refine e_goto (tgt := 4) (pc := 54) Xc (dT hX7_wayNow 35 rfl) rfl ?_
            refine Ev.pick (L' := [(0, .ref m), (1, .int (nI ((8 * w_) + (dgX (A 1) nr r_)))), (2, .int (nI (r_ + 1)))]) [2, 1, 0] rfl ?_
            exact ih4 (r_ + 1) ((8 * w_) + (dgX (A 1) nr r_)) (by omega) (by omega) (by rw [itr, ← hw_])
  show Ev G μ 3 0 0 0 [(0, .ref m)] [] σ
  refine e_iconst (v := 0) (pc := 0) Xc (dT hX7_wayNow 0 rfl) rfl ?_
  refine e_istore_n (L' := [(1, .int 0), (0, .ref m)]) (pc := 1) Xc (dT hX7_wayNow 1 rfl) (by decide) rfl ?_
  refine e_iconst (v := 0) (pc := 2) Xc (dT hX7_wayNow 2 rfl) rfl ?_
  refine e_istore_n (L' := [(2, .int 0), (1, .int 0), (0, .ref m)]) (pc := 3) Xc (dT hX7_wayNow 3 rfl) (by decide) rfl ?_
  refine Ev.pick (L' := [(0, .ref m), (1, .int 0), (2, .int 0)]) [2, 1, 0] rfl ?_
  exact lp4 ((4 - 0) + 1) 0 0 (Nat.lt_succ_self _) (Nat.zero_le _) rfl
set_option maxRecDepth 100000 in
set_option maxHeartbeats 4000000 in
theorem c_hasIn {G : xG} {σ : xS} (w r : Nat) (hw : w < 4096) (hr : r < 4) : CI G yX7_hasIn cX7_hasIn 3 (some .int) 0 0 0 [.int (nI w), .int (nI r)] σ (fun z σ1 => z = hsW w r ∧ σ1 = σ) := by
  refine Met.ofX (by decide +kernel) (Nat.le_of_ble_eq_true rfl) (fun μ Xc hQ hnm => ?_)
  have Xc : xC G μ cX7_hasIn 3 RX7 (some .int) 0 0 0 := Xc
  have hdg_ : dgW w r < 8 := Nat.mod_lt _ (by decide)
  show Ev G μ 3 0 0 0 [(0, .int (nI w)), (1, .int (nI r))] [] σ
  refine e_iload_n (pc := 0) Xc (dT hX7_hasIn 0 rfl) 0 rfl ?_
  refine e_iconst (v := 3) (pc := 1) Xc (dT hX7_hasIn 1 rfl) rfl ?_
  refine e_iconst (v := 3) (pc := 2) Xc (dT hX7_hasIn 2 rfl) rfl ?_
  refine e_iload_n (pc := 3) Xc (dT hX7_hasIn 3 rfl) 1 rfl ?_
  refine e_isubN (a := 3) (b := r) (pc := 4) Xc (dT hX7_hasIn 4 rfl) (by omega) ?_
  refine e_imulN (a := 3) (b := 3 - r) (pc := 5) Xc (dT hX7_hasIn 5 rfl) ?_
  refine e_ishr (pc := 6) Xc (dT hX7_hasIn 6 rfl) ?_
  refine e_val (y := nI (w / 2 ^ (3 * (3 - r)))) (shrN (by omega) (by omega)) ?_
  refine e_bipush (v := 7) (pc := 7) Xc (dT hX7_hasIn 7 rfl) rfl ?_
  refine e_iand (pc := 9) Xc (dT hX7_hasIn 8 rfl) ?_
  refine e_val (y := nI (dgW w r)) ((and7 _ (Nat.lt_of_le_of_lt (Nat.div_le_self _ _) (by omega))).trans (congrArg nI dgW_eq)) ?_
  refine e_istore_n (L' := [(2, .int (nI (dgW w r))), (0, .int (nI w)), (1, .int (nI r))]) (pc := 10) Xc (dT hX7_hasIn 9 rfl) (by decide) rfl ?_
  refine e_iload_n (pc := 11) Xc (dT hX7_hasIn 10 rfl) 0 rfl ?_
  refine e_bipush (v := 7) (pc := 12) Xc (dT hX7_hasIn 11 rfl) rfl ?_
  refine e_icmp_neN (x := dgW w r) (y := 7) (tgt := 21) (pc := 14) Xc (dT hX7_hasIn 12 rfl) rfl (by omega) (by omega) (fun c14 => ?_) (fun c14 => ?_)
  · skip
    refine e_iload_n (pc := 21) Xc (dT hX7_hasIn 15 rfl) 0 rfl ?_
    refine e_iret (pc := 22) Xc hQ (dT hX7_hasIn 16 rfl) (Nat.le_refl _) (Nat.le_refl _) ?_
    exact ⟨(if_neg c14).symm, rfl⟩
  · skip
    refine e_iconst (v := -1) (pc := 17) Xc (dT hX7_hasIn 13 rfl) rfl ?_
    refine e_goto (tgt := 22) (pc := 18) Xc (dT hX7_hasIn 14 rfl) rfl ?_
    refine e_iret (pc := 22) Xc hQ (dT hX7_hasIn 16 rfl) (Nat.le_refl _) (Nat.le_refl _) ?_
    exact ⟨(if_pos c14).symm, rfl⟩
set_option maxRecDepth 100000 in
set_option maxHeartbeats 4000000 in
theorem c_goesTo {G : xG} {σ : xS} {m : Nat} {F : Nat → Int32} {T : Nat → Nat} {A : Nat → Nat → Int32} (hP : PX7 σ m F T A) {nr nb : Nat} (hG : Gd (A 1) nr nb) (w : Nat) (hw : w < 4096) : CV G yX7_goesTo cX7_goesTo 3 none 1 0 0 [.ref m, .int (nI w)] σ (fun σ1 => PX7 σ1 m F T (upA A 1 (setW (A 1) nr w)) ∧ Off m σ σ1) := by
  refine Met.ofX (by decide +kernel) (Nat.le_of_ble_eq_true rfl) (fun μ Xc hQ hnm => ?_)
  have Xc : xC G μ cX7_goesTo 3 RX7 none 1 0 0 := Xc
  have hr4 := hG.r4
  show Ev G μ 3 0 0 0 [(0, .ref m), (1, .int (nI w))] [] σ
  refine e_iconst (v := 0) (pc := 0) Xc (dT hX7_goesTo 0 rfl) rfl ?_
  refine e_istore_n (L' := [(2, .int 0), (0, .ref m), (1, .int (nI w))]) (pc := 1) Xc (dT hX7_goesTo 1 rfl) (by decide) rfl ?_
  have lp2 : ∀ (n2 : Nat) (r_ : Nat) (σ2 : xS), nr - r_ < n2 → (r_ ≤ nr) → (PX7 σ2 m F T (upA A 1 (setW (A 1) r_ w))) → (Off m σ σ2) → Ev G μ 3 0 0 2 [(0, .ref m), (1, .int (nI w)), (2, .int (nI r_))] [] σ2 := by
    intro n2
    induction n2 with
    | zero => intro r_ σ2 hn; exact absurd hn (Nat.not_lt_zero _)
    | succ n2 ih2 =>
      intro r_ σ2 hn2 hr_ hp2 ho2
      refine e_iload_n (pc := 2) Xc (dT hX7_goesTo 2 rfl) 2 rfl ?_
      refine e_aload_n (pc := 3) Xc (dT hX7_goesTo 3 rfl) 0 rfl ?_
      refine gf_X7_9 (pc := 4) Xc (dT hX7_goesTo 4 rfl) hp2.o rfl ?_
      refine e_bipush (v := 12) (pc := 7) Xc (dT hX7_goesTo 5 rfl) rfl ?_
      refine e_ialdN (pc := 9) Xc (dT hX7_goesTo 6 rfl) hp2.a1 (by decide) rfl 12 rfl (by have := hG.1; omega) (by decide) ?_
      refine e_val (y := (setW (A 1) r_ w) 12) rfl ?_
      refine e_val (y := nI nr) ((setW_n (by omega)).trans hG.1.2.2.1) ?_
      refine e_icmp_geN (x := r_) (y := nr) (tgt := 32) (pc := 10) Xc (dT hX7_goesTo 7 rfl) rfl (by have := hG.1; omega) (by have := hG.1; omega) (fun c10 => ?_) (fun c10 => ?_)
      · skip
        refine e_vret (pc := 32) Xc hQ (dT hX7_goesTo 19 rfl) (Nat.le_refl _) (Nat.le_refl _) ?_
        have hre_ : r_ = nr := by omega
        subst hre_
        exact ⟨hp2, ho2⟩
      · skip
        refine e_aload_n (pc := 13) Xc (dT hX7_goesTo 8 rfl) 0 rfl ?_
        refine gf_X7_9 (pc := 14) Xc (dT hX7_goesTo 9 rfl) hp2.o rfl ?_
        refine e_iconst (v := 1) (pc := 17) Xc (dT hX7_goesTo 10 rfl) rfl ?_
        refine e_iload_n (pc := 18) Xc (dT hX7_goesTo 11 rfl) 2 rfl ?_
        refine e_iaddN (a := 1) (b := r_) (pc := 19) Xc (dT hX7_goesTo 12 rfl) ?_
        refine e_iload_n (pc := 20) Xc (dT hX7_goesTo 13 rfl) 1 rfl ?_
        refine e_iload_n (pc := 21) Xc (dT hX7_goesTo 14 rfl) 2 rfl ?_
        refine cl_X7_211 (pc := 22) (k := 0) (n := 0) (S := [.int (nI (1 + r_)), .ref (m + 1)]) Xc (c_hasIn w r_ (by omega) (by omega)) (dT hX7_goesTo 15 rfl) rfl (Nat.le_of_ble_eq_true rfl) (Nat.le_of_ble_eq_true rfl) (Nat.le_of_ble_eq_true rfl) rfl (Nat.le_of_ble_eq_true rfl) (fun r1 σ2 hq3 => ?_)
        obtain ⟨r1e, r1s⟩ := hq3
        have r1e := r1e.symm; subst r1e; have r1s := r1s.symm; subst r1s
        refine e_iastN (pc := 25) Xc (dT hX7_goesTo 16 rfl) hp2.a1 rfl (1 + r_) rfl (by have := hG.1; omega) (by decide) ?_
        refine Ev.gen (fun z => PX7 z m F T (upA (upA A 1 (setW (A 1) r_ w)) 1 (upd (setW (A 1) r_ w) (1 + r_) (hsW w r_)))) (hp2.wa1 (g := (upd (setW (A 1) r_ w) (1 + r_) (hsW w r_)))) Off.set (fun σ4 hP5 ho6 => ?_)
        have hP5 : PX7 σ4 m F T (upA A 1 (upd (setW (A 1) r_ w) (1 + r_) (hsW w r_))) := by rw [upA_2] at hP5; exact hP5
        refine e_iincN (a := r_) (b := 1) (L' := [(2, .int (nI (r_ + 1))), (0, .ref m), (1, .int (nI w))]) (pc := 26) Xc (dT hX7_goesTo 17 rfl) 2 rfl rfl (by decide) rfl ?_
        refine e_goto (tgt := 2) (pc := 29) Xc (dT hX7_goesTo 18 rfl) rfl ?_
        refine Ev.pick (L' := [(0, .ref m), (1, .int (nI w)), (2, .int (nI (r_ + 1)))]) [1, 2, 0] rfl ?_
        exact ih2 (r_ + 1) σ4 (by omega) (by omega) (by rw [setW_s]; exact hP5) (ho2.tr ho6)
  refine Ev.pick (L' := [(0, .ref m), (1, .int (nI w)), (2, .int 0)]) [1, 2, 0] rfl ?_
  exact lp2 ((nr - 0) + 1) 0 σ (Nat.lt_succ_self _) (Nat.zero_le _) (by rw [setW_0, upA_id]; exact hP) Off.rf
set_option maxRecDepth 100000 in
set_option maxHeartbeats 4000000 in
theorem c_comesTo {G : xG} {σ : xS} {m : Nat} {F : Nat → Int32} {T : Nat → Nat} {A : Nat → Nat → Int32} (hP : PX7 σ m F T A) {nr nb : Nat} (hG : Gd (A 1) nr nb) {ql : wQ} (hRQ : RQ (A 7) (A 8) ql) (hF : F 15 = nI ql.length) (hok : okQ nr nb ql) (n : Nat) : CV G yX7_comesTo cX7_comesTo 3 none 1 0 0 [.ref m, .int (nI n)] σ (fun σ1 => ∃ Q S, PX7 σ1 m (upd F 15 (nI (meetL n ql (wayX (A 1) nr)).length)) T (upA (upA A 7 Q) 8 S) ∧ RQ Q S (meetL n ql (wayX (A 1) nr)) ∧ Off m σ σ1) := by
  refine Met.ofX (by decide +kernel) (Nat.le_of_ble_eq_true rfl) (fun μ Xc hQ hnm => ?_)
  have Xc : xC G μ cX7_comesTo 3 RX7 none 1 0 0 := Xc
  have hr4 := hG.r4
  have hwl_ := way_lt hG
  show Ev G μ 3 0 0 0 [(0, .ref m), (1, .int (nI n))] [] σ
  refine e_aload_n (pc := 0) Xc (dT hX7_comesTo 0 rfl) 0 rfl ?_
  refine cl_X7_214 (pc := 1) (k := 0) (n := 0) (S := []) Xc hP.o (c_wayNow hP hG) (dT hX7_comesTo 1 rfl) rfl (Nat.le_of_ble_eq_true rfl) (Nat.le_of_ble_eq_true rfl) (Nat.le_of_ble_eq_true rfl) rfl (Nat.le_of_ble_eq_true rfl) (fun r1 σ2 hq3 => ?_)
  obtain ⟨r1e, r1s⟩ := hq3
  have r1e := r1e.symm; subst r1e; have r1s := r1s.symm; subst r1s
  refine e_istore_n (L' := [(2, .int (nI (wayX (A 1) nr))), (0, .ref m), (1, .int (nI n))]) (pc := 4) Xc (dT hX7_comesTo 2 rfl) (by decide) rfl ?_
  refine e_aload_n (pc := 5) Xc (dT hX7_comesTo 3 rfl) 1 rfl ?_
  refine gf_X7_34 (pc := 6) Xc (dT hX7_comesTo 4 rfl) hP.o rfl ?_
  refine e_iload_n (pc := 9) Xc (dT hX7_comesTo 5 rfl) 0 rfl ?_
  refine e_ialdN (pc := 10) Xc (dT hX7_comesTo 6 rfl) hP.a8 (by decide) rfl (wayX (A 1) nr) rfl (by have := hG.1; omega) (by decide) ?_
  refine e_iconst (v := -1) (pc := 11) Xc (dT hX7_comesTo 7 rfl) rfl ?_
  refine e_icmp_ne (tgt := 42) (pc := 12) Xc (dT hX7_comesTo 8 rfl) rfl (fun c12 => ?_) (fun c12 => ?_)
  · skip
    refine e_vret (pc := 42) Xc hQ (dT hX7_comesTo 26 rfl) (Nat.le_refl _) (Nat.le_refl _) ?_
    have hany_ : ql.any (fun q => q.1 == wayX (A 1) nr) = true := by
      by_cases e_ : ql.any (fun q => q.1 == wayX (A 1) nr) = true
      · exact e_
      · exact absurd ((hRQ.2 _ hwl_).trans ((lkQ_none hok).mpr e_)) c12
    rw [meet_y hany_]
    refine ⟨A 7, A 8, ?_, hRQ, Off.rf⟩
    rw [upA_id, upA_id, ← hF, upd_self]
    exact hP
  · skip
    have hany_ : ¬ ql.any (fun q => q.1 == wayX (A 1) nr) = true := (lkQ_none hok).mp ((hRQ.2 _ hwl_).symm.trans c12)
    have hql_ := okQ_lt hok (okV_way hG) hany_
    refine e_aload_n (pc := 15) Xc (dT hX7_comesTo 9 rfl) 1 rfl ?_
    refine gf_X7_34 (pc := 16) Xc (dT hX7_comesTo 10 rfl) hP.o rfl ?_
    refine e_iload_n (pc := 19) Xc (dT hX7_comesTo 11 rfl) 0 rfl ?_
    refine e_iload_n (pc := 20) Xc (dT hX7_comesTo 12 rfl) 2 rfl ?_
    refine e_iastN (pc := 21) Xc (dT hX7_comesTo 13 rfl) hP.a8 rfl (wayX (A 1) nr) rfl (by have := hG.1; omega) (by decide) ?_
    refine Ev.gen (fun z => PX7 z m F T (upA A 8 (upd (A 8) (wayX (A 1) nr) (nI n)))) (hP.wa8 (g := (upd (A 8) (wayX (A 1) nr) (nI n)))) Off.set (fun σ4 hP5 ho6 => ?_)
    refine e_aload_n (pc := 22) Xc (dT hX7_comesTo 14 rfl) 1 rfl ?_
    refine gf_X7_31 (pc := 23) Xc (dT hX7_comesTo 15 rfl) hP5.o rfl ?_
    refine e_aload_n (pc := 26) Xc (dT hX7_comesTo 16 rfl) 1 rfl ?_
    refine gf_X7_217 (pc := 27) Xc (dT hX7_comesTo 17 rfl) hP5.o rfl ?_
    refine e_val (y := nI ql.length) hF ?_
    refine e_iload_n (pc := 30) Xc (dT hX7_comesTo 18 rfl) 0 rfl ?_
    refine e_iastN (pc := 31) Xc (dT hX7_comesTo 19 rfl) hP5.a7 rfl ql.length rfl (by have := hG.1; omega) (by decide) ?_
    refine Ev.gen (fun z => PX7 z m F T (upA (upA A 8 (upd (A 8) (wayX (A 1) nr) (nI n))) 7 (upd (A 7) ql.length (nI (wayX (A 1) nr))))) (hP5.wa7 (g := (upd (A 7) ql.length (nI (wayX (A 1) nr))))) Off.set (fun σ7 hP8 ho9 => ?_)
    refine e_aload_n (pc := 32) Xc (dT hX7_comesTo 20 rfl) 1 rfl ?_
    refine e_dup (pc := 33) Xc (dT hX7_comesTo 21 rfl) rfl ?_
    refine gf_X7_217 (pc := 34) Xc (dT hX7_comesTo 22 rfl) hP8.o rfl ?_
    refine e_val (y := nI ql.length) hF ?_
    refine e_iconst (v := 1) (pc := 37) Xc (dT hX7_comesTo 23 rfl) rfl ?_
    refine e_iaddN (a := ql.length) (b := 1) (pc := 38) Xc (dT hX7_comesTo 24 rfl) ?_
    refine pf_X7_217 (fs' := olX7 m (upd F 15 (nI (ql.length + 1))) T) (pc := 39) Xc (dT hX7_comesTo 25 rfl) hP8.o (Nat.le_of_ble_eq_true rfl) rfl ?_
    refine Ev.gen (fun z => PX7 z m (upd F 15 (nI (ql.length + 1))) T (upA (upA A 8 (upd (A 8) (wayX (A 1) nr) (nI n))) 7 (upd (A 7) ql.length (nI (wayX (A 1) nr))))) (hP8.wf15 (x := nI (ql.length + 1))) Off.set (fun σ10 hP11 ho12 => ?_)
    refine e_vret (pc := 42) Xc hQ (dT hX7_comesTo 26 rfl) (Nat.le_refl _) (Nat.le_refl _) ?_
    rw [meet_n hany_]
    refine ⟨upd (A 7) ql.length (nI (wayX (A 1) nr)), upd (A 8) (wayX (A 1) nr) (nI n), ?_, RQ_new hRQ hany_, ((ho6.tr ho9).tr ho12)⟩
    rw [List.length_append, List.length_singleton]
    rw [show upA (upA A 7 (upd (A 7) ql.length (nI (wayX (A 1) nr)))) 8 (upd (A 8) (wayX (A 1) nr) (nI n)) = upA (upA A 8 (upd (A 8) (wayX (A 1) nr) (nI n))) 7 (upd (A 7) ql.length (nI (wayX (A 1) nr))) from (by funext j_; unfold upA; repeat' split <;> simp_all)]
    exact hP11
set_option maxRecDepth 100000 in
set_option maxHeartbeats 4000000 in
theorem c_plainLiking {G : xG} {σ : xS} {m : Nat} {F : Nat → Int32} {T : Nat → Nat} {A : Nat → Nat → Int32} (hP : PX7 σ m F T A) {nr nb : Nat} (hG : Gd (A 1) nr nb) {t : xT} (hT : Hd (A 1) t) (hPL : PLq (A 6) (A 1) t nr nb) (r b : Nat) (hr : r < nr) (hb : b < nb) : CI G yX7_plainLiking cX7_plainLiking 3 (some .int) 1 0 0 [.ref m, .int (nI r), .int (nI b)] σ (fun z σ1 => z = likF (A 1) t r b ∧ σ1 = σ) := by
  refine Met.ofX (by decide +kernel) (Nat.le_of_ble_eq_true rfl) (fun μ Xc hQ hnm => ?_)
  have Xc : xC G μ cX7_plainLiking 3 RX7 (some .int) 1 0 0 := Xc
  show Ev G μ 3 0 0 0 [(0, .ref m), (1, .int (nI r)), (2, .int (nI b))] [] σ
  refine e_aload_n (pc := 0) Xc (dT hX7_plainLiking 0 rfl) 0 rfl ?_
  refine e_iload_n (pc := 1) Xc (dT hX7_plainLiking 1 rfl) 1 rfl ?_
  refine e_iload_n (pc := 2) Xc (dT hX7_plainLiking 2 rfl) 2 rfl ?_
  refine e_aload_n (pc := 3) Xc (dT hX7_plainLiking 3 rfl) 0 rfl ?_
  refine gf_X7_28 (pc := 4) Xc (dT hX7_plainLiking 4 rfl) hP.o rfl ?_
  refine e_bipush (v := 7) (pc := 7) Xc (dT hX7_plainLiking 5 rfl) rfl ?_
  refine e_iload_n (pc := 9) Xc (dT hX7_plainLiking 6 rfl) 1 rfl ?_
  refine e_imulN (a := 7) (b := r) (pc := 10) Xc (dT hX7_plainLiking 7 rfl) ?_
  refine e_iload_n (pc := 11) Xc (dT hX7_plainLiking 8 rfl) 2 rfl ?_
  refine e_iaddN (a := 7 * r) (b := b) (pc := 12) Xc (dT hX7_plainLiking 9 rfl) ?_
  refine e_ialdN (pc := 13) Xc (dT hX7_plainLiking 10 rfl) hP.a6 (by decide) rfl ((7 * r) + b) rfl (by have := hG.1; omega) (by decide) ?_
  refine cl_X7_139 (pc := 14) (k := 0) (n := 0) (S := []) Xc hP.o (c_likingBy hP hG r b (by omega) (by omega) (A 6 ((7 * r) + b))) (dT hX7_plainLiking 11 rfl) rfl (Nat.le_of_ble_eq_true rfl) (Nat.le_of_ble_eq_true rfl) (Nat.le_of_ble_eq_true rfl) rfl (Nat.le_of_ble_eq_true rfl) (fun r1 σ2 hq3 => ?_)
  obtain ⟨r1e, r1s⟩ := hq3
  have r1e := r1e.symm; subst r1e; have r1s := r1s.symm; subst r1s
  refine e_iret (pc := 17) Xc hQ (dT hX7_plainLiking 12 rfl) (Nat.le_refl _) (Nat.le_refl _) ?_
  refine ⟨?_, rfl⟩
  rw [hPL r b hr hb, likF]
set_option maxRecDepth 100000 in
set_option maxHeartbeats 4000000 in
theorem c_wouldChange {G : xG} {σ : xS} {m : Nat} {F : Nat → Int32} {T : Nat → Nat} {A : Nat → Nat → Int32} (hP : PX7 σ m F T A) {nr nb : Nat} (hG : Gd (A 1) nr nb) {t : xT} (hT : Hd (A 1) t) (hPL : PLq (A 6) (A 1) t nr nb) (a b : Nat) (ha : a < nr) (hb : b < nr) : CI G yX7_wouldChange cX7_wouldChange 3 (some .boolean) 2 0 0 [.ref m, .int (nI a), .int (nI b)] σ (fun z σ1 => z = bI (chF (A 1) t a b) ∧ σ1 = σ) := by
  refine Met.ofX (by decide +kernel) (Nat.le_of_ble_eq_true rfl) (fun μ Xc hQ hnm => ?_)
  have Xc : xC G μ cX7_wouldChange 3 RX7 (some .boolean) 2 0 0 := Xc
  have hr4 := hG.r4
  have hb7 := hG.b7
  show Ev G μ 3 0 0 0 [(0, .ref m), (1, .int (nI a)), (2, .int (nI b))] [] σ
  refine e_aload_n (pc := 0) Xc (dT hX7_wouldChange 0 rfl) 0 rfl ?_
  refine gf_X7_9 (pc := 1) Xc (dT hX7_wouldChange 1 rfl) hP.o rfl ?_
  refine e_iconst (v := 1) (pc := 4) Xc (dT hX7_wouldChange 2 rfl) rfl ?_
  refine e_iload_n (pc := 5) Xc (dT hX7_wouldChange 3 rfl) 1 rfl ?_
  refine e_iaddN (a := 1) (b := a) (pc := 6) Xc (dT hX7_wouldChange 4 rfl) ?_
  refine e_ialdN (pc := 7) Xc (dT hX7_wouldChange 5 rfl) hP.a1 (by decide) rfl (1 + a) rfl (by have := hG.1; omega) (by decide) ?_
  refine e_iconst (v := -1) (pc := 8) Xc (dT hX7_wouldChange 6 rfl) rfl ?_
  refine e_icmp_eq (tgt := 86) (pc := 9) Xc (dT hX7_wouldChange 7 rfl) rfl (fun c9 => ?_) (fun c9 => ?_)
  · skip
    refine e_iconst (v := 0) (pc := 86) Xc (dT hX7_wouldChange 56 rfl) rfl ?_
    refine e_zret (pc := 87) Xc hQ (dT hX7_wouldChange 57 rfl) (Nat.le_refl _) (Nat.le_refl _) (Or.inl rfl) ?_
    refine ⟨?_, rfl⟩
    simp [bI, chF, c9]
  · skip
    obtain ⟨ha_, hal_, hae_⟩ := hG.has (r := a) (by omega) c9
    refine e_aload_n (pc := 12) Xc (dT hX7_wouldChange 8 rfl) 0 rfl ?_
    refine gf_X7_9 (pc := 13) Xc (dT hX7_wouldChange 9 rfl) hP.o rfl ?_
    refine e_iconst (v := 1) (pc := 16) Xc (dT hX7_wouldChange 10 rfl) rfl ?_
    refine e_iload_n (pc := 17) Xc (dT hX7_wouldChange 11 rfl) 2 rfl ?_
    refine e_iaddN (a := 1) (b := b) (pc := 18) Xc (dT hX7_wouldChange 12 rfl) ?_
    refine e_ialdN (pc := 19) Xc (dT hX7_wouldChange 13 rfl) hP.a1 (by decide) rfl (1 + b) rfl (by have := hG.1; omega) (by decide) ?_
    refine e_iconst (v := -1) (pc := 20) Xc (dT hX7_wouldChange 14 rfl) rfl ?_
    refine e_icmp_eq (tgt := 86) (pc := 21) Xc (dT hX7_wouldChange 15 rfl) rfl (fun c21 => ?_) (fun c21 => ?_)
    · skip
      refine e_iconst (v := 0) (pc := 86) Xc (dT hX7_wouldChange 56 rfl) rfl ?_
      refine e_zret (pc := 87) Xc hQ (dT hX7_wouldChange 57 rfl) (Nat.le_refl _) (Nat.le_refl _) (Or.inl rfl) ?_
      refine ⟨?_, rfl⟩
      simp [bI, chF, c21]
    · skip
      obtain ⟨hb_, hbl_, hbe_⟩ := hG.has (r := b) (by omega) c21
      refine e_aload_n (pc := 24) Xc (dT hX7_wouldChange 16 rfl) 0 rfl ?_
      refine e_iload_n (pc := 25) Xc (dT hX7_wouldChange 17 rfl) 1 rfl ?_
      refine e_aload_n (pc := 26) Xc (dT hX7_wouldChange 18 rfl) 0 rfl ?_
      refine gf_X7_9 (pc := 27) Xc (dT hX7_wouldChange 19 rfl) hP.o rfl ?_
      refine e_iconst (v := 1) (pc := 30) Xc (dT hX7_wouldChange 20 rfl) rfl ?_
      refine e_iload_n (pc := 31) Xc (dT hX7_wouldChange 21 rfl) 2 rfl ?_
      refine e_iaddN (a := 1) (b := b) (pc := 32) Xc (dT hX7_wouldChange 22 rfl) ?_
      refine e_ialdN (pc := 33) Xc (dT hX7_wouldChange 23 rfl) hP.a1 (by decide) rfl (1 + b) rfl (by have := hG.1; omega) (by decide) ?_
      refine e_val (y := nI hb_) hbe_ ?_
      refine cl_X7_220 (pc := 34) (k := 0) (n := 0) (S := []) Xc hP.o (c_plainLiking hP hG hT hPL a hb_ (by omega) (by omega)) (dT hX7_wouldChange 24 rfl) rfl (Nat.le_of_ble_eq_true rfl) (Nat.le_of_ble_eq_true rfl) (Nat.le_of_ble_eq_true rfl) rfl (Nat.le_of_ble_eq_true rfl) (fun r1 σ2 hq3 => ?_)
      obtain ⟨r1e, r1s⟩ := hq3
      have r1e := r1e.symm; subst r1e; have r1s := r1s.symm; subst r1s
      refine e_aload_n (pc := 37) Xc (dT hX7_wouldChange 25 rfl) 0 rfl ?_
      refine e_iload_n (pc := 38) Xc (dT hX7_wouldChange 26 rfl) 1 rfl ?_
      refine e_aload_n (pc := 39) Xc (dT hX7_wouldChange 27 rfl) 0 rfl ?_
      refine gf_X7_9 (pc := 40) Xc (dT hX7_wouldChange 28 rfl) hP.o rfl ?_
      refine e_iconst (v := 1) (pc := 43) Xc (dT hX7_wouldChange 29 rfl) rfl ?_
      refine e_iload_n (pc := 44) Xc (dT hX7_wouldChange 30 rfl) 1 rfl ?_
      refine e_iaddN (a := 1) (b := a) (pc := 45) Xc (dT hX7_wouldChange 31 rfl) ?_
      refine e_ialdN (pc := 46) Xc (dT hX7_wouldChange 32 rfl) hP.a1 (by decide) rfl (1 + a) rfl (by have := hG.1; omega) (by decide) ?_
      refine e_val (y := nI ha_) hae_ ?_
      refine cl_X7_220 (pc := 47) (k := 0) (n := 0) (S := [.int (likF (A 1) t a hb_)]) Xc hP.o (c_plainLiking hP hG hT hPL a ha_ (by omega) (by omega)) (dT hX7_wouldChange 33 rfl) rfl (Nat.le_of_ble_eq_true rfl) (Nat.le_of_ble_eq_true rfl) (Nat.le_of_ble_eq_true rfl) rfl (Nat.le_of_ble_eq_true rfl) (fun r4 σ5 hq6 => ?_)
      obtain ⟨r4e, r4s⟩ := hq6
      have r4e := r4e.symm; subst r4e; have r4s := r4s.symm; subst r4s
      refine e_icmp_le (tgt := 86) (pc := 50) Xc (dT hX7_wouldChange 34 rfl) rfl (fun c50 => ?_) (fun c50 => ?_)
      · skip
        refine e_iconst (v := 0) (pc := 86) Xc (dT hX7_wouldChange 56 rfl) rfl ?_
        refine e_zret (pc := 87) Xc hQ (dT hX7_wouldChange 57 rfl) (Nat.le_refl _) (Nat.le_refl _) (Or.inl rfl) ?_
        refine ⟨?_, rfl⟩
        have c50' := Int32.not_lt.mpr c50
        simp [bI, chF, c9, c21, hae_, hbe_, nI_clamp (show ha_ < 2 ^ 31 by omega), nI_clamp (show hb_ < 2 ^ 31 by omega), c50']
      · skip
        refine e_aload_n (pc := 53) Xc (dT hX7_wouldChange 35 rfl) 0 rfl ?_
        refine e_iload_n (pc := 54) Xc (dT hX7_wouldChange 36 rfl) 2 rfl ?_
        refine e_aload_n (pc := 55) Xc (dT hX7_wouldChange 37 rfl) 0 rfl ?_
        refine gf_X7_9 (pc := 56) Xc (dT hX7_wouldChange 38 rfl) hP.o rfl ?_
        refine e_iconst (v := 1) (pc := 59) Xc (dT hX7_wouldChange 39 rfl) rfl ?_
        refine e_iload_n (pc := 60) Xc (dT hX7_wouldChange 40 rfl) 1 rfl ?_
        refine e_iaddN (a := 1) (b := a) (pc := 61) Xc (dT hX7_wouldChange 41 rfl) ?_
        refine e_ialdN (pc := 62) Xc (dT hX7_wouldChange 42 rfl) hP.a1 (by decide) rfl (1 + a) rfl (by have := hG.1; omega) (by decide) ?_
        refine e_val (y := nI ha_) hae_ ?_
        refine cl_X7_220 (pc := 63) (k := 0) (n := 0) (S := []) Xc hP.o (c_plainLiking hP hG hT hPL b ha_ (by omega) (by omega)) (dT hX7_wouldChange 43 rfl) rfl (Nat.le_of_ble_eq_true rfl) (Nat.le_of_ble_eq_true rfl) (Nat.le_of_ble_eq_true rfl) rfl (Nat.le_of_ble_eq_true rfl) (fun r7 σ8 hq9 => ?_)
        obtain ⟨r7e, r7s⟩ := hq9
        have r7e := r7e.symm; subst r7e; have r7s := r7s.symm; subst r7s
        refine e_aload_n (pc := 66) Xc (dT hX7_wouldChange 44 rfl) 0 rfl ?_
        refine e_iload_n (pc := 67) Xc (dT hX7_wouldChange 45 rfl) 2 rfl ?_
        refine e_aload_n (pc := 68) Xc (dT hX7_wouldChange 46 rfl) 0 rfl ?_
        refine gf_X7_9 (pc := 69) Xc (dT hX7_wouldChange 47 rfl) hP.o rfl ?_
        refine e_iconst (v := 1) (pc := 72) Xc (dT hX7_wouldChange 48 rfl) rfl ?_
        refine e_iload_n (pc := 73) Xc (dT hX7_wouldChange 49 rfl) 2 rfl ?_
        refine e_iaddN (a := 1) (b := b) (pc := 74) Xc (dT hX7_wouldChange 50 rfl) ?_
        refine e_ialdN (pc := 75) Xc (dT hX7_wouldChange 51 rfl) hP.a1 (by decide) rfl (1 + b) rfl (by have := hG.1; omega) (by decide) ?_
        refine e_val (y := nI hb_) hbe_ ?_
        refine cl_X7_220 (pc := 76) (k := 0) (n := 0) (S := [.int (likF (A 1) t b ha_)]) Xc hP.o (c_plainLiking hP hG hT hPL b hb_ (by omega) (by omega)) (dT hX7_wouldChange 52 rfl) rfl (Nat.le_of_ble_eq_true rfl) (Nat.le_of_ble_eq_true rfl) (Nat.le_of_ble_eq_true rfl) rfl (Nat.le_of_ble_eq_true rfl) (fun r10 σ11 hq12 => ?_)
        obtain ⟨r10e, r10s⟩ := hq12
        have r10e := r10e.symm; subst r10e; have r10s := r10s.symm; subst r10s
        refine e_icmp_le (tgt := 86) (pc := 79) Xc (dT hX7_wouldChange 53 rfl) rfl (fun c79 => ?_) (fun c79 => ?_)
        · skip
          refine e_iconst (v := 0) (pc := 86) Xc (dT hX7_wouldChange 56 rfl) rfl ?_
          refine e_zret (pc := 87) Xc hQ (dT hX7_wouldChange 57 rfl) (Nat.le_refl _) (Nat.le_refl _) (Or.inl rfl) ?_
          refine ⟨?_, rfl⟩
          have c79' := Int32.not_lt.mpr c79
          simp [bI, chF, c9, c21, hae_, hbe_, nI_clamp (show ha_ < 2 ^ 31 by omega), nI_clamp (show hb_ < 2 ^ 31 by omega), c79']
        · skip
          refine e_iconst (v := 1) (pc := 82) Xc (dT hX7_wouldChange 54 rfl) rfl ?_
          refine e_goto (tgt := 87) (pc := 83) Xc (dT hX7_wouldChange 55 rfl) rfl ?_
          refine e_zret (pc := 87) Xc hQ (dT hX7_wouldChange 57 rfl) (Nat.le_refl _) (Nat.le_refl _) (Or.inr rfl) ?_
          refine ⟨?_, rfl⟩
          have c50' := Int32.not_le.mp c50
          have c79' := Int32.not_le.mp c79
          simp [bI, chF, hae_, hbe_, nI_clamp (show ha_ < 2 ^ 31 by omega), nI_clamp (show hb_ < 2 ^ 31 by omega), c50', c79', nI_nneg (show ha_ < 2 ^ 31 by omega) (show (-1 : Int32) < 0 by decide), nI_nneg (show hb_ < 2 ^ 31 by omega) (show (-1 : Int32) < 0 by decide)]
set_option maxRecDepth 100000 in
set_option maxHeartbeats 4000000 in
theorem c_changes {G : xG} {σ : xS} {m : Nat} {F : Nat → Int32} {T : Nat → Nat} {A : Nat → Nat → Int32} (hP : PX7 σ m F T A) (a b : Nat) (ha : a < 4) (hab : a < b) (hb : b < 4) : CV G yX7_changes cX7_changes 4 none 0 0 0 [.ref m, .int (nI a), .int (nI b)] σ (fun σ1 => PX7 σ1 m F T (upA A 1 (swpF (A 1) a b)) ∧ Off m σ σ1) := by
  refine Met.ofX (by decide +kernel) (Nat.le_of_ble_eq_true rfl) (fun μ Xc hQ hnm => ?_)
  have Xc : xC G μ cX7_changes 4 RX7 none 0 0 0 := Xc
  show Ev G μ 4 0 0 0 [(0, .ref m), (1, .int (nI a)), (2, .int (nI b))] [] σ
  refine e_aload_n (pc := 0) Xc (dT hX7_changes 0 rfl) 0 rfl ?_
  refine gf_X7_9 (pc := 1) Xc (dT hX7_changes 1 rfl) hP.o rfl ?_
  refine e_iconst (v := 1) (pc := 4) Xc (dT hX7_changes 2 rfl) rfl ?_
  refine e_iload_n (pc := 5) Xc (dT hX7_changes 3 rfl) 1 rfl ?_
  refine e_iaddN (a := 1) (b := a) (pc := 6) Xc (dT hX7_changes 4 rfl) ?_
  refine e_ialdN (pc := 7) Xc (dT hX7_changes 5 rfl) hP.a1 (by decide) rfl (1 + a) rfl (by omega) (by decide) ?_
  refine e_istore_n (L' := [(3, .int (A 1 (1 + a))), (0, .ref m), (1, .int (nI a)), (2, .int (nI b))]) (pc := 8) Xc (dT hX7_changes 6 rfl) (by decide) rfl ?_
  refine e_aload_n (pc := 9) Xc (dT hX7_changes 7 rfl) 1 rfl ?_
  refine gf_X7_9 (pc := 10) Xc (dT hX7_changes 8 rfl) hP.o rfl ?_
  refine e_iconst (v := 1) (pc := 13) Xc (dT hX7_changes 9 rfl) rfl ?_
  refine e_iload_n (pc := 14) Xc (dT hX7_changes 10 rfl) 2 rfl ?_
  refine e_iaddN (a := 1) (b := a) (pc := 15) Xc (dT hX7_changes 11 rfl) ?_
  refine e_aload_n (pc := 16) Xc (dT hX7_changes 12 rfl) 1 rfl ?_
  refine gf_X7_9 (pc := 17) Xc (dT hX7_changes 13 rfl) hP.o rfl ?_
  refine e_iconst (v := 1) (pc := 20) Xc (dT hX7_changes 14 rfl) rfl ?_
  refine e_iload_n (pc := 21) Xc (dT hX7_changes 15 rfl) 3 rfl ?_
  refine e_iaddN (a := 1) (b := b) (pc := 22) Xc (dT hX7_changes 16 rfl) ?_
  refine e_ialdN (pc := 23) Xc (dT hX7_changes 17 rfl) hP.a1 (by decide) rfl (1 + b) rfl (by omega) (by decide) ?_
  refine e_iastN (pc := 24) Xc (dT hX7_changes 18 rfl) hP.a1 rfl (1 + a) rfl (by omega) (by decide) ?_
  refine Ev.gen (fun z => PX7 z m F T (upA A 1 (upd (A 1) (1 + a) (A 1 (1 + b))))) (hP.wa1 (g := (upd (A 1) (1 + a) (A 1 (1 + b))))) Off.set (fun σ1 hP2 ho3 => ?_)
  refine e_aload_n (pc := 25) Xc (dT hX7_changes 19 rfl) 1 rfl ?_
  refine gf_X7_9 (pc := 26) Xc (dT hX7_changes 20 rfl) hP2.o rfl ?_
  refine e_iconst (v := 1) (pc := 29) Xc (dT hX7_changes 21 rfl) rfl ?_
  refine e_iload_n (pc := 30) Xc (dT hX7_changes 22 rfl) 3 rfl ?_
  refine e_iaddN (a := 1) (b := b) (pc := 31) Xc (dT hX7_changes 23 rfl) ?_
  refine e_iload_n (pc := 32) Xc (dT hX7_changes 24 rfl) 0 rfl ?_
  refine e_iastN (pc := 33) Xc (dT hX7_changes 25 rfl) hP2.a1 rfl (1 + b) rfl (by omega) (by decide) ?_
  refine Ev.gen (fun z => PX7 z m F T (upA (upA A 1 (upd (A 1) (1 + a) (A 1 (1 + b)))) 1 (upd (upd (A 1) (1 + a) (A 1 (1 + b))) (1 + b) (A 1 (1 + a))))) (hP2.wa1 (g := (upd (upd (A 1) (1 + a) (A 1 (1 + b))) (1 + b) (A 1 (1 + a))))) Off.set (fun σ4 hP5 ho6 => ?_)
  have hP5 : PX7 σ4 m F T (upA A 1 (upd (upd (A 1) (1 + a) (A 1 (1 + b))) (1 + b) (A 1 (1 + a)))) := by rw [upA_2] at hP5; exact hP5
  refine e_vret (pc := 34) Xc hQ (dT hX7_changes 26 rfl) (Nat.le_refl _) (Nat.le_refl _) ?_
  exact ⟨hP5, (ho3.tr ho6)⟩
set_option maxRecDepth 100000 in
set_option maxHeartbeats 4000000 in
theorem c_goesOnFrom {G : xG} {σ : xS} {m : Nat} {F : Nat → Int32} {T : Nat → Nat} {A : Nat → Nat → Int32} (hP : PX7 σ m F T A) {nr nb : Nat} (hG : Gd (A 1) nr nb) {t : xT} (hT : Hd (A 1) t) (hPL : PLq (A 6) (A 1) t nr nb) {ql : wQ} (hRQ : RQ (A 7) (A 8) ql) (hF : F 15 = nI ql.length) (hok : okQ nr nb ql) (n : Nat) (hn : n ≤ ql.length) : CV G yX7_goesOnFrom cX7_goesOnFrom 6 none 4 0 0 [.ref m, .int (nI n)] σ (fun σ1 => ∃ Q S, PX7 σ1 m (upd F 15 (nI (mL n ql (nbL (A 1) t nr nb)).length)) T (upA (upA A 7 Q) 8 S) ∧ RQ Q S (mL n ql (nbL (A 1) t nr nb)) ∧ Off m σ σ1) := by
  refine Met.ofX (by decide +kernel) (Nat.le_of_ble_eq_true rfl) (fun μ Xc hQ hnm => ?_)
  have Xc : xC G μ cX7_goesOnFrom 6 RX7 none 4 0 0 := Xc
  have hr4 := hG.r4
  have hb7 := hG.b7
  show Ev G μ 6 0 0 0 [(0, .ref m), (1, .int (nI n))] [] σ
  refine e_iconst (v := 0) (pc := 0) Xc (dT hX7_goesOnFrom 0 rfl) rfl ?_
  refine e_istore_n (L' := [(2, .int 0), (0, .ref m), (1, .int (nI n))]) (pc := 1) Xc (dT hX7_goesOnFrom 1 rfl) (by decide) rfl ?_
  have lp2 : ∀ (n2 : Nat) (r_ : Nat) (Q_ S_ : Nat → Int32) (σ2 : xS), nr - r_ < n2 → (r_ ≤ nr) → (RQ Q_ S_ (mL n ql (tkR (A 1) nr nb r_))) → (PX7 σ2 m (upd F 15 (nI (mL n ql (tkR (A 1) nr nb r_)).length)) T (upA (upA A 7 Q_) 8 S_)) → (Off m σ σ2) → Ev G μ 6 0 0 2 [(0, .ref m), (1, .int (nI n)), (2, .int (nI r_))] [] σ2 := by
    intro n2
    induction n2 with
    | zero => intro r_ Q_ S_ σ2 hn; exact absurd hn (Nat.not_lt_zero _)
    | succ n2 ih2 =>
      intro r_ Q_ S_ σ2 hn2 hr_ hR1 hp2 ho2
      refine e_iload_n (pc := 2) Xc (dT hX7_goesOnFrom 2 rfl) 2 rfl ?_
      refine e_aload_n (pc := 3) Xc (dT hX7_goesOnFrom 3 rfl) 0 rfl ?_
      refine gf_X7_9 (pc := 4) Xc (dT hX7_goesOnFrom 4 rfl) hp2.o rfl ?_
      refine e_bipush (v := 12) (pc := 7) Xc (dT hX7_goesOnFrom 5 rfl) rfl ?_
      refine e_ialdN (pc := 9) Xc (dT hX7_goesOnFrom 6 rfl) hp2.a1 (by decide) rfl 12 rfl (by have := hG.1; omega) (by decide) ?_
      refine e_val (y := A 1 12) rfl ?_
      refine e_val (y := nI nr) hG.1.2.2.1 ?_
      refine e_icmp_geN (x := r_) (y := nr) (tgt := 91) (pc := 10) Xc (dT hX7_goesOnFrom 7 rfl) rfl (by have := hG.1; omega) (by have := hG.1; omega) (fun c10 => ?_) (fun c10 => ?_)
      · skip
        have hre_ : r_ = nr := by omega
        refine e_iconst (v := 0) (pc := 91) Xc (dT hX7_goesOnFrom 55 rfl) rfl ?_
        refine e_istore_n (L' := [(2, .int 0), (0, .ref m), (1, .int (nI n))]) (pc := 92) Xc (dT hX7_goesOnFrom 56 rfl) (by decide) rfl ?_
        have lp93 : ∀ (n93 : Nat) (a_ : Nat) (Q_ S_ : Nat → Int32) (σ4 : xS), nr - a_ < n93 → (a_ ≤ nr) → (RQ Q_ S_ (mL n ql (tkR (A 1) nr nb nr ++ chA (A 1) t nr a_))) → (PX7 σ4 m (upd F 15 (nI (mL n ql (tkR (A 1) nr nb nr ++ chA (A 1) t nr a_)).length)) T (upA (upA A 7 Q_) 8 S_)) → (Off m σ σ4) → Ev G μ 6 0 0 93 [(0, .ref m), (1, .int (nI n)), (2, .int (nI a_))] [] σ4 := by
          intro n93
          induction n93 with
          | zero => intro a_ Q_ S_ σ4 hn; exact absurd hn (Nat.not_lt_zero _)
          | succ n93 ih93 =>
            intro a_ Q_ S_ σ4 hn93 ha_ hR3 hp4 ho4
            refine e_iload_n (pc := 93) Xc (dT hX7_goesOnFrom 57 rfl) 2 rfl ?_
            refine e_aload_n (pc := 94) Xc (dT hX7_goesOnFrom 58 rfl) 0 rfl ?_
            refine gf_X7_9 (pc := 95) Xc (dT hX7_goesOnFrom 59 rfl) hp4.o rfl ?_
            refine e_bipush (v := 12) (pc := 98) Xc (dT hX7_goesOnFrom 60 rfl) rfl ?_
            refine e_ialdN (pc := 100) Xc (dT hX7_goesOnFrom 61 rfl) hp4.a1 (by decide) rfl 12 rfl (by have := hG.1; omega) (by decide) ?_
            refine e_val (y := A 1 12) rfl ?_
            refine e_val (y := nI nr) hG.1.2.2.1 ?_
            refine e_icmp_geN (x := a_) (y := nr) (tgt := 157) (pc := 101) Xc (dT hX7_goesOnFrom 62 rfl) rfl (by have := hG.1; omega) (by have := hG.1; omega) (fun c101 => ?_) (fun c101 => ?_)
            · skip
              refine e_vret (pc := 157) Xc hQ (dT hX7_goesOnFrom 93 rfl) (Nat.le_refl _) (Nat.le_refl _) ?_
              have hae_ : a_ = nr := by omega
              rw [hae_] at hR3 hp4
              exact ⟨Q_, S_, hp4, hR3, ho4⟩
            · skip
              refine e_iload_n (pc := 104) Xc (dT hX7_goesOnFrom 63 rfl) 2 rfl ?_
              refine e_iconst (v := 1) (pc := 105) Xc (dT hX7_goesOnFrom 64 rfl) rfl ?_
              refine e_iaddN (a := a_) (b := 1) (pc := 106) Xc (dT hX7_goesOnFrom 65 rfl) ?_
              refine e_istore_n (L' := [(3, .int (nI (a_ + 1))), (0, .ref m), (1, .int (nI n)), (2, .int (nI a_))]) (pc := 107) Xc (dT hX7_goesOnFrom 66 rfl) (by decide) rfl ?_
              have lp108 : ∀ (n108 : Nat) (b_ : Nat) (Q_ S_ : Nat → Int32) (σ5 : xS), nr - b_ < n108 → (b_ ≤ nr) → (a_ < b_) → (RQ Q_ S_ (mL n ql (tkR (A 1) nr nb nr ++ chA (A 1) t nr a_ ++ chB (A 1) t nr a_ b_))) → (PX7 σ5 m (upd F 15 (nI (mL n ql (tkR (A 1) nr nb nr ++ chA (A 1) t nr a_ ++ chB (A 1) t nr a_ b_)).length)) T (upA (upA A 7 Q_) 8 S_)) → (Off m σ σ5) → Ev G μ 6 0 0 108 [(0, .ref m), (1, .int (nI n)), (2, .int (nI a_)), (3, .int (nI b_))] [] σ5 := by
                intro n108
                induction n108 with
                | zero => intro b_ Q_ S_ σ5 hn; exact absurd hn (Nat.not_lt_zero _)
                | succ n108 ih108 =>
                  intro b_ Q_ S_ σ5 hn108 hb_ hab_ hR4 hp5 ho5
                  refine e_iload_n (pc := 108) Xc (dT hX7_goesOnFrom 67 rfl) 3 rfl ?_
                  refine e_aload_n (pc := 109) Xc (dT hX7_goesOnFrom 68 rfl) 0 rfl ?_
                  refine gf_X7_9 (pc := 110) Xc (dT hX7_goesOnFrom 69 rfl) hp5.o rfl ?_
                  refine e_bipush (v := 12) (pc := 113) Xc (dT hX7_goesOnFrom 70 rfl) rfl ?_
                  refine e_ialdN (pc := 115) Xc (dT hX7_goesOnFrom 71 rfl) hp5.a1 (by decide) rfl 12 rfl (by have := hG.1; omega) (by decide) ?_
                  refine e_val (y := A 1 12) rfl ?_
                  refine e_val (y := nI nr) hG.1.2.2.1 ?_
                  refine e_icmp_geN (x := b_) (y := nr) (tgt := 151) (pc := 116) Xc (dT hX7_goesOnFrom 72 rfl) rfl (by have := hG.1; omega) (by have := hG.1; omega) (fun c116 => ?_) (fun c116 => ?_)
                  · skip
                    have hbe_ : b_ = nr := by omega
                    refine e_iincN (a := a_) (b := 1) (L' := [(2, .int (nI (a_ + 1))), (0, .ref m), (1, .int (nI n)), (3, .int (nI b_))]) (pc := 151) Xc (dT hX7_goesOnFrom 91 rfl) 2 rfl rfl (by decide) rfl ?_
                    refine e_goto (tgt := 93) (pc := 154) Xc (dT hX7_goesOnFrom 92 rfl) rfl ?_
                    refine Ev.pick (L' := [(0, .ref m), (1, .int (nI n)), (2, .int (nI (a_ + 1)))]) [1, 2, 0] rfl ?_
                    exact ih93 (a_ + 1) Q_ S_ σ5 (by omega) (by omega) (by rw [chA, ← List.append_assoc]; rw [hbe_] at hR4; exact hR4) (by rw [chA, ← List.append_assoc]; have h_ := hp5; rw [hbe_] at h_; exact h_) ho5
                  · skip
                    refine e_aload_n (pc := 119) Xc (dT hX7_goesOnFrom 73 rfl) 0 rfl ?_
                    refine e_iload_n (pc := 120) Xc (dT hX7_goesOnFrom 74 rfl) 2 rfl ?_
                    refine e_iload_n (pc := 121) Xc (dT hX7_goesOnFrom 75 rfl) 3 rfl ?_
                    refine cl_X7_226 (pc := 122) (k := 0) (n := 0) (S := []) Xc hp5.o (c_wouldChange hp5 hG hT hPL a_ b_ (by omega) (by omega)) (dT hX7_goesOnFrom 76 rfl) rfl (Nat.le_of_ble_eq_true rfl) (Nat.le_of_ble_eq_true rfl) (Nat.le_of_ble_eq_true rfl) rfl (Nat.le_of_ble_eq_true rfl) (fun r1 σ2 hq3 => ?_)
                    obtain ⟨r1e, r1s⟩ := hq3
                    have r1e := r1e.symm; subst r1e; have r1s := r1s.symm; subst r1s
                    refine e_val (y := bI (chF (A 1) t a_ b_)) rfl ?_
                    refine e_if_eq (tgt := 145) (pc := 125) Xc (dT hX7_goesOnFrom 77 rfl) rfl (fun c125 => ?_) (fun c125 => ?_)
                    · skip
                      have hch_ : ¬ chF (A 1) t a_ b_ = true := by simp only [bI_0] at c125; rw [c125]; decide
                      refine e_iincN (a := b_) (b := 1) (L' := [(3, .int (nI (b_ + 1))), (0, .ref m), (1, .int (nI n)), (2, .int (nI a_))]) (pc := 145) Xc (dT hX7_goesOnFrom 89 rfl) 3 rfl rfl (by decide) rfl ?_
                      refine e_goto (tgt := 108) (pc := 148) Xc (dT hX7_goesOnFrom 90 rfl) rfl ?_
                      refine Ev.pick (L' := [(0, .ref m), (1, .int (nI n)), (2, .int (nI a_)), (3, .int (nI (b_ + 1)))]) [1, 2, 3, 0] rfl ?_
                      exact ih108 (b_ + 1) Q_ S_ σ5 (by omega) (by omega) (by omega) (by rw [chB, if_neg (fun q => hch_ q.2), List.append_nil]; exact hR4) (by rw [chB, if_neg (fun q => hch_ q.2), List.append_nil]; exact hp5) ho5
                    · skip
                      have hch_ : chF (A 1) t a_ b_ = true := by simp only [bI_0, Bool.not_eq_false] at c125; exact c125
                      refine e_aload_n (pc := 128) Xc (dT hX7_goesOnFrom 78 rfl) 0 rfl ?_
                      refine e_iload_n (pc := 129) Xc (dT hX7_goesOnFrom 79 rfl) 2 rfl ?_
                      refine e_iload_n (pc := 130) Xc (dT hX7_goesOnFrom 80 rfl) 3 rfl ?_
                      refine cl_X7_229 (pc := 131) (k := 0) (n := 0) (S := []) Xc hp5.o (c_changes hp5 a_ b_ (by omega) (by omega) (by omega)) (dT hX7_goesOnFrom 81 rfl) rfl (Nat.le_of_ble_eq_true rfl) (Nat.le_of_ble_eq_true rfl) (Nat.le_of_ble_eq_true rfl) rfl (Nat.le_of_ble_eq_true rfl) (fun σ5 hq6 => ?_)
                      obtain ⟨hP7, ho8⟩ := hq6
                      refine e_aload_n (pc := 134) Xc (dT hX7_goesOnFrom 82 rfl) 0 rfl ?_
                      refine e_iload_n (pc := 135) Xc (dT hX7_goesOnFrom 83 rfl) 1 rfl ?_
                      refine cl_X7_223 (pc := 136) (k := 0) (n := 0) (S := []) Xc hP7.o (c_comesTo hP7 (hG.swp (by omega) (by omega)) (ql := (mL n ql (tkR (A 1) nr nb nr ++ chA (A 1) t nr a_ ++ chB (A 1) t nr a_ b_))) hR4 upd_s (okQ_mL _ hok (fun c hc => ch_ok hG (by omega) (by omega) hc) hn).1 n) (dT hX7_goesOnFrom 84 rfl) rfl (Nat.le_of_ble_eq_true rfl) (Nat.le_of_ble_eq_true rfl) (Nat.le_of_ble_eq_true rfl) rfl (Nat.le_of_ble_eq_true rfl) (fun σ10 hq11 => ?_)
                      obtain ⟨Qn_, Sn_, hP12, hRn_, ho13⟩ := hq11
                      have hP12 : PX7 σ10 m (upd (upd F 15 (nI (mL n ql (tkR (A 1) nr nb nr ++ chA (A 1) t nr a_ ++ chB (A 1) t nr a_ b_)).length)) 15 (nI (meetL n (mL n ql (tkR (A 1) nr nb nr ++ chA (A 1) t nr a_ ++ chB (A 1) t nr a_ b_)) (wayX (swpF (A 1) a_ b_) nr)).length)) T (upA (upA (upA (upA (upA A 7 Q_) 8 S_) 1 (swpF (A 1) a_ b_)) 7 Qn_) 8 Sn_) := hP12
                      rw [upd_2, show (upA (upA (upA (upA (upA A 7 Q_) 8 S_) 1 (swpF (A 1) a_ b_)) 7 Qn_) 8 Sn_) = (upA (upA (upA A 7 Qn_) 8 Sn_) 1 (swpF (A 1) a_ b_)) from (by funext j_; unfold upA; repeat' split <;> simp_all)] at hP12
                      refine e_aload_n (pc := 139) Xc (dT hX7_goesOnFrom 85 rfl) 0 rfl ?_
                      refine e_iload_n (pc := 140) Xc (dT hX7_goesOnFrom 86 rfl) 2 rfl ?_
                      refine e_iload_n (pc := 141) Xc (dT hX7_goesOnFrom 87 rfl) 3 rfl ?_
                      refine cl_X7_229 (pc := 142) (k := 0) (n := 0) (S := []) Xc hP12.o (c_changes hP12 a_ b_ (by omega) (by omega) (by omega)) (dT hX7_goesOnFrom 88 rfl) rfl (Nat.le_of_ble_eq_true rfl) (Nat.le_of_ble_eq_true rfl) (Nat.le_of_ble_eq_true rfl) rfl (Nat.le_of_ble_eq_true rfl) (fun σ15 hq16 => ?_)
                      obtain ⟨hP17, ho18⟩ := hq16
                      rw [upA_2] at hP17
                      have hP17 : PX7 σ15 m (upd F 15 (nI (meetL n (mL n ql (tkR (A 1) nr nb nr ++ chA (A 1) t nr a_ ++ chB (A 1) t nr a_ b_)) (wayX (swpF (A 1) a_ b_) nr)).length)) T (upA (upA (upA A 7 Qn_) 8 Sn_) 1 (swpF (swpF (A 1) a_ b_) a_ b_)) := hP17
                      refine e_iincN (a := b_) (b := 1) (L' := [(3, .int (nI (b_ + 1))), (0, .ref m), (1, .int (nI n)), (2, .int (nI a_))]) (pc := 145) Xc (dT hX7_goesOnFrom 89 rfl) 3 rfl rfl (by decide) rfl ?_
                      refine e_goto (tgt := 108) (pc := 148) Xc (dT hX7_goesOnFrom 90 rfl) rfl ?_
                      refine Ev.pick (L' := [(0, .ref m), (1, .int (nI n)), (2, .int (nI a_)), (3, .int (nI (b_ + 1)))]) [1, 2, 3, 0] rfl ?_
                      exact ih108 (b_ + 1) Qn_ Sn_ σ15 (by omega) (by omega) (by omega) (by rw [chB, if_pos ⟨hab_, hch_⟩, ← List.append_assoc, mL_app]; exact hRn_) (by rw [chB, if_pos ⟨hab_, hch_⟩, ← List.append_assoc, mL_app]; exact (by have h_ := hP17; rw [swp_back hab_] at h_; rw [show (upA (upA (upA A 7 Qn_) 8 Sn_) 1 (A 1)) = upA (upA A 7 Qn_) 8 Sn_ from (by funext j_; unfold upA; repeat' split <;> simp_all)] at h_; exact h_)) (((ho5.tr ho8).tr ho13).tr ho18)
              refine Ev.pick (L' := [(0, .ref m), (1, .int (nI n)), (2, .int (nI a_)), (3, .int (nI (a_ + 1)))]) [1, 2, 3, 0] rfl ?_
              exact lp108 ((nr - (a_ + 1)) + 1) (a_ + 1) Q_ S_ σ4 (Nat.lt_succ_self _) (by omega) (Nat.lt_succ_self _) (by rw [chB_nil (Nat.le_refl _), List.append_nil]; exact hR3) (by rw [chB_nil (Nat.le_refl _), List.append_nil]; exact hp4) ho4
        refine Ev.pick (L' := [(0, .ref m), (1, .int (nI n)), (2, .int 0)]) [1, 2, 0] rfl ?_
        exact lp93 ((nr - 0) + 1) 0 Q_ S_ σ2 (Nat.lt_succ_self _) (Nat.zero_le _) (by rw [chA, List.append_nil]; rw [hre_] at hR1; exact hR1) (by rw [chA, List.append_nil]; have h_ := hp2; rw [hre_] at h_; exact h_) ho2
      · skip
        refine e_aload_n (pc := 13) Xc (dT hX7_goesOnFrom 8 rfl) 0 rfl ?_
        refine gf_X7_9 (pc := 14) Xc (dT hX7_goesOnFrom 9 rfl) hp2.o rfl ?_
        refine e_iconst (v := 1) (pc := 17) Xc (dT hX7_goesOnFrom 10 rfl) rfl ?_
        refine e_iload_n (pc := 18) Xc (dT hX7_goesOnFrom 11 rfl) 2 rfl ?_
        refine e_iaddN (a := 1) (b := r_) (pc := 19) Xc (dT hX7_goesOnFrom 12 rfl) ?_
        refine e_ialdN (pc := 20) Xc (dT hX7_goesOnFrom 13 rfl) hp2.a1 (by decide) rfl (1 + r_) rfl (by have := hG.1; omega) (by decide) ?_
        refine e_val (y := A 1 (1 + r_)) rfl ?_
        refine e_istore_n (L' := [(3, .int (A 1 (1 + r_))), (0, .ref m), (1, .int (nI n)), (2, .int (nI r_))]) (pc := 21) Xc (dT hX7_goesOnFrom 14 rfl) (by decide) rfl ?_
        refine e_aload_n (pc := 22) Xc (dT hX7_goesOnFrom 15 rfl) 1 rfl ?_
        refine e_iload_n (pc := 23) Xc (dT hX7_goesOnFrom 16 rfl) 3 rfl ?_
        refine cl_X7_174 (pc := 24) (k := 0) (n := 0) (S := []) Xc hp2.o (c_mayTake hp2 hG r_ (by omega)) (dT hX7_goesOnFrom 17 rfl) rfl (Nat.le_of_ble_eq_true rfl) (Nat.le_of_ble_eq_true rfl) (Nat.le_of_ble_eq_true rfl) rfl (Nat.le_of_ble_eq_true rfl) (fun r19 σ20 hq21 => ?_)
        obtain ⟨r19e, r19s⟩ := hq21
        have r19e := r19e.symm; subst r19e; have r19s := r19s.symm; subst r19s
        refine e_val (y := mayTakeF (A 1) nr nb r_) rfl ?_
        refine e_val (y := nI (bitN (fun b => mayF (A 1) nr r_ b) nb)) (itr_bit hb7) ?_
        have hbn_ : bitN (fun b => mayF (A 1) nr r_ b) nb < 128 := Nat.lt_of_lt_of_le (bitN_lt nb) (Nat.pow_le_pow_right (by decide) (show nb ≤ 7 from hb7))
        refine e_istore (L' := [(4, .int (nI (bitN (fun b => mayF (A 1) nr r_ b) nb))), (3, .int (A 1 (1 + r_))), (0, .ref m), (1, .int (nI n)), (2, .int (nI r_))]) (pc := 27) Xc (dT hX7_goesOnFrom 18 rfl) (by decide) rfl ?_
        refine e_iconst (v := 0) (pc := 29) Xc (dT hX7_goesOnFrom 19 rfl) rfl ?_
        refine e_istore (L' := [(5, .int 0), (4, .int (nI (bitN (fun b => mayF (A 1) nr r_ b) nb))), (3, .int (A 1 (1 + r_))), (0, .ref m), (1, .int (nI n)), (2, .int (nI r_))]) (pc := 30) Xc (dT hX7_goesOnFrom 20 rfl) (by decide) rfl ?_
        have lp32 : ∀ (n32 : Nat) (b_ : Nat) (Q_ S_ : Nat → Int32) (σ3 : xS), nb - b_ < n32 → (b_ ≤ nb) → (RQ Q_ S_ (mL n ql (tkR (A 1) nr nb r_ ++ tkB (A 1) nr r_ b_))) → (PX7 σ3 m (upd F 15 (nI (mL n ql (tkR (A 1) nr nb r_ ++ tkB (A 1) nr r_ b_)).length)) T (upA (upA A 7 Q_) 8 S_)) → (Off m σ σ3) → Ev G μ 6 0 0 32 [(0, .ref m), (1, .int (nI n)), (2, .int (nI r_)), (3, .int (A 1 (1 + r_))), (4, .int (nI (bitN (fun b => mayF (A 1) nr r_ b) nb))), (5, .int (nI b_))] [] σ3 := by
          intro n32
          induction n32 with
          | zero => intro b_ Q_ S_ σ3 hn; exact absurd hn (Nat.not_lt_zero _)
          | succ n32 ih32 =>
            intro b_ Q_ S_ σ3 hn32 hb_ hR2 hp3 ho3
            refine e_iload (pc := 32) Xc (dT hX7_goesOnFrom 21 rfl) 5 rfl ?_
            refine e_aload_n (pc := 34) Xc (dT hX7_goesOnFrom 22 rfl) 0 rfl ?_
            refine gf_X7_9 (pc := 35) Xc (dT hX7_goesOnFrom 23 rfl) hp3.o rfl ?_
            refine e_bipush (v := 13) (pc := 38) Xc (dT hX7_goesOnFrom 24 rfl) rfl ?_
            refine e_ialdN (pc := 40) Xc (dT hX7_goesOnFrom 25 rfl) hp3.a1 (by decide) rfl 13 rfl (by have := hG.1; omega) (by decide) ?_
            refine e_val (y := A 1 13) rfl ?_
            refine e_val (y := nI nb) hG.1.2.2.2 ?_
            refine e_icmp_geN (x := b_) (y := nb) (tgt := 85) (pc := 41) Xc (dT hX7_goesOnFrom 26 rfl) rfl (by have := hG.1; omega) (by have := hG.1; omega) (fun c41 => ?_) (fun c41 => ?_)
            · skip
              have hbe_ : b_ = nb := by omega
              refine e_iincN (a := r_) (b := 1) (L' := [(2, .int (nI (r_ + 1))), (0, .ref m), (1, .int (nI n)), (3, .int (A 1 (1 + r_))), (4, .int (nI (bitN (fun b => mayF (A 1) nr r_ b) nb))), (5, .int (nI b_))]) (pc := 85) Xc (dT hX7_goesOnFrom 53 rfl) 2 rfl rfl (by decide) rfl ?_
              refine e_goto (tgt := 2) (pc := 88) Xc (dT hX7_goesOnFrom 54 rfl) rfl ?_
              refine Ev.pick (L' := [(0, .ref m), (1, .int (nI n)), (2, .int (nI (r_ + 1)))]) [1, 2, 0] rfl ?_
              exact ih2 (r_ + 1) Q_ S_ σ3 (by omega) (by omega) (by rw [tkR]; rw [hbe_] at hR2; exact hR2) (by rw [tkR]; have h_ := hp3; rw [hbe_] at h_; exact h_) ho3
            · skip
              refine e_iload (pc := 44) Xc (dT hX7_goesOnFrom 27 rfl) 4 rfl ?_
              refine e_iload (pc := 46) Xc (dT hX7_goesOnFrom 28 rfl) 5 rfl ?_
              refine e_ishr (pc := 48) Xc (dT hX7_goesOnFrom 29 rfl) ?_
              refine e_val (y := nI (bitN (fun b => mayF (A 1) nr r_ b) nb / 2 ^ b_)) (shrN (by omega) (by omega)) ?_
              refine e_iconst (v := 1) (pc := 49) Xc (dT hX7_goesOnFrom 30 rfl) rfl ?_
              refine e_iand (pc := 50) Xc (dT hX7_goesOnFrom 31 rfl) ?_
              refine e_val (y := nI (bitN (fun b => mayF (A 1) nr r_ b) nb / 2 ^ b_ % 2)) (and1 _ (Nat.lt_of_le_of_lt (Nat.div_le_self _ _) (by omega))) ?_
              have hbm_ : bitN (fun b => mayF (A 1) nr r_ b) nb / 2 ^ b_ % 2 < 2 := Nat.mod_lt _ (by decide)
              refine e_iconst (v := 1) (pc := 51) Xc (dT hX7_goesOnFrom 32 rfl) rfl ?_
              refine e_icmp_neN (x := bitN (fun b => mayF (A 1) nr r_ b) nb / 2 ^ b_ % 2) (y := 1) (tgt := 79) (pc := 52) Xc (dT hX7_goesOnFrom 33 rfl) rfl (by have := hG.1; omega) (by have := hG.1; omega) (fun c52 => ?_) (fun c52 => ?_)
              · skip
                have hmay_ : ¬ mayF (A 1) nr r_ b_ = true := fun q => c52 ((bit_may (by omega)).mpr q)
                refine e_iincN (a := b_) (b := 1) (L' := [(5, .int (nI (b_ + 1))), (0, .ref m), (1, .int (nI n)), (2, .int (nI r_)), (3, .int (A 1 (1 + r_))), (4, .int (nI (bitN (fun b => mayF (A 1) nr r_ b) nb)))]) (pc := 79) Xc (dT hX7_goesOnFrom 51 rfl) 5 rfl rfl (by decide) rfl ?_
                refine e_goto (tgt := 32) (pc := 82) Xc (dT hX7_goesOnFrom 52 rfl) rfl ?_
                refine Ev.pick (L' := [(0, .ref m), (1, .int (nI n)), (2, .int (nI r_)), (3, .int (A 1 (1 + r_))), (4, .int (nI (bitN (fun b => mayF (A 1) nr r_ b) nb))), (5, .int (nI (b_ + 1)))]) [1, 2, 3, 4, 5, 0] rfl ?_
                exact ih32 (b_ + 1) Q_ S_ σ3 (by omega) (by omega) (by rw [tkB, if_neg hmay_, List.append_nil]; exact hR2) (by rw [tkB, if_neg hmay_, List.append_nil]; exact hp3) ho3
              · skip
                have hmay_ : mayF (A 1) nr r_ b_ = true := (bit_may (by omega)).mp c52
                refine e_aload_n (pc := 55) Xc (dT hX7_goesOnFrom 34 rfl) 0 rfl ?_
                refine gf_X7_9 (pc := 56) Xc (dT hX7_goesOnFrom 35 rfl) hp3.o rfl ?_
                refine e_iconst (v := 1) (pc := 59) Xc (dT hX7_goesOnFrom 36 rfl) rfl ?_
                refine e_iload_n (pc := 60) Xc (dT hX7_goesOnFrom 37 rfl) 2 rfl ?_
                refine e_iaddN (a := 1) (b := r_) (pc := 61) Xc (dT hX7_goesOnFrom 38 rfl) ?_
                refine e_iload (pc := 62) Xc (dT hX7_goesOnFrom 39 rfl) 5 rfl ?_
                refine e_iastN (pc := 64) Xc (dT hX7_goesOnFrom 40 rfl) hp3.a1 rfl (1 + r_) rfl (by have := hG.1; omega) (by decide) ?_
                refine Ev.gen (fun z => PX7 z m (upd F 15 (nI (mL n ql (tkR (A 1) nr nb r_ ++ tkB (A 1) nr r_ b_)).length)) T (upA (upA (upA A 7 Q_) 8 S_) 1 (upd (A 1) (1 + r_) (nI b_)))) (hp3.wa1 (g := (upd (A 1) (1 + r_) (nI b_)))) Off.set (fun σ22 hP23 ho24 => ?_)
                refine e_aload_n (pc := 65) Xc (dT hX7_goesOnFrom 41 rfl) 0 rfl ?_
                refine e_iload_n (pc := 66) Xc (dT hX7_goesOnFrom 42 rfl) 1 rfl ?_
                refine cl_X7_223 (pc := 67) (k := 0) (n := 0) (S := []) Xc hP23.o (c_comesTo hP23 (hG.upd_has (by omega) (Or.inr ⟨b_, by omega, rfl⟩)) (ql := (mL n ql (tkR (A 1) nr nb r_ ++ tkB (A 1) nr r_ b_))) hR2 upd_s (okQ_mL _ hok (fun c hc => tk_ok hG (by omega) (by omega) hc) hn).1 n) (dT hX7_goesOnFrom 43 rfl) rfl (Nat.le_of_ble_eq_true rfl) (Nat.le_of_ble_eq_true rfl) (Nat.le_of_ble_eq_true rfl) rfl (Nat.le_of_ble_eq_true rfl) (fun σ26 hq27 => ?_)
                obtain ⟨Qn_, Sn_, hP28, hRn_, ho29⟩ := hq27
                have hP28 : PX7 σ26 m (upd (upd F 15 (nI (mL n ql (tkR (A 1) nr nb r_ ++ tkB (A 1) nr r_ b_)).length)) 15 (nI (meetL n (mL n ql (tkR (A 1) nr nb r_ ++ tkB (A 1) nr r_ b_)) (wayX (upd (A 1) (1 + r_) (nI b_)) nr)).length)) T (upA (upA (upA (upA (upA A 7 Q_) 8 S_) 1 (upd (A 1) (1 + r_) (nI b_))) 7 Qn_) 8 Sn_) := hP28
                rw [upd_2, show (upA (upA (upA (upA (upA A 7 Q_) 8 S_) 1 (upd (A 1) (1 + r_) (nI b_))) 7 Qn_) 8 Sn_) = (upA (upA (upA A 7 Qn_) 8 Sn_) 1 (upd (A 1) (1 + r_) (nI b_))) from (by funext j_; unfold upA; repeat' split <;> simp_all)] at hP28
                refine e_aload_n (pc := 70) Xc (dT hX7_goesOnFrom 44 rfl) 0 rfl ?_
                refine gf_X7_9 (pc := 71) Xc (dT hX7_goesOnFrom 45 rfl) hP28.o rfl ?_
                refine e_iconst (v := 1) (pc := 74) Xc (dT hX7_goesOnFrom 46 rfl) rfl ?_
                refine e_iload_n (pc := 75) Xc (dT hX7_goesOnFrom 47 rfl) 2 rfl ?_
                refine e_iaddN (a := 1) (b := r_) (pc := 76) Xc (dT hX7_goesOnFrom 48 rfl) ?_
                refine e_iload_n (pc := 77) Xc (dT hX7_goesOnFrom 49 rfl) 3 rfl ?_
                refine e_iastN (pc := 78) Xc (dT hX7_goesOnFrom 50 rfl) hP28.a1 rfl (1 + r_) rfl (by have := hG.1; omega) (by decide) ?_
                refine Ev.gen (fun z => PX7 z m (upd F 15 (nI (meetL n (mL n ql (tkR (A 1) nr nb r_ ++ tkB (A 1) nr r_ b_)) (wayX (upd (A 1) (1 + r_) (nI b_)) nr)).length)) T (upA (upA (upA (upA A 7 Qn_) 8 Sn_) 1 (upd (A 1) (1 + r_) (nI b_))) 1 (upd (upd (A 1) (1 + r_) (nI b_)) (1 + r_) (A 1 (1 + r_))))) (hP28.wa1 (g := (upd (upd (A 1) (1 + r_) (nI b_)) (1 + r_) (A 1 (1 + r_))))) Off.set (fun σ30 hP31 ho32 => ?_)
                have hP31 : PX7 σ30 m (upd F 15 (nI (meetL n (mL n ql (tkR (A 1) nr nb r_ ++ tkB (A 1) nr r_ b_)) (wayX (upd (A 1) (1 + r_) (nI b_)) nr)).length)) T (upA (upA (upA A 7 Qn_) 8 Sn_) 1 (upd (upd (A 1) (1 + r_) (nI b_)) (1 + r_) (A 1 (1 + r_)))) := by rw [upA_2] at hP31; exact hP31
                refine e_iincN (a := b_) (b := 1) (L' := [(5, .int (nI (b_ + 1))), (0, .ref m), (1, .int (nI n)), (2, .int (nI r_)), (3, .int (A 1 (1 + r_))), (4, .int (nI (bitN (fun b => mayF (A 1) nr r_ b) nb)))]) (pc := 79) Xc (dT hX7_goesOnFrom 51 rfl) 5 rfl rfl (by decide) rfl ?_
                refine e_goto (tgt := 32) (pc := 82) Xc (dT hX7_goesOnFrom 52 rfl) rfl ?_
                refine Ev.pick (L' := [(0, .ref m), (1, .int (nI n)), (2, .int (nI r_)), (3, .int (A 1 (1 + r_))), (4, .int (nI (bitN (fun b => mayF (A 1) nr r_ b) nb))), (5, .int (nI (b_ + 1)))]) [1, 2, 3, 4, 5, 0] rfl ?_
                exact ih32 (b_ + 1) Qn_ Sn_ σ30 (by omega) (by omega) (by rw [tkB, if_pos hmay_, ← List.append_assoc, mL_app]; exact hRn_) (by rw [tkB, if_pos hmay_, ← List.append_assoc, mL_app]; exact (by have h_ := hP31; rw [upd_2, upd_self] at h_; rw [show (upA (upA (upA A 7 Qn_) 8 Sn_) 1 (A 1)) = upA (upA A 7 Qn_) 8 Sn_ from (by funext j_; unfold upA; repeat' split <;> simp_all)] at h_; exact h_)) (((ho3.tr ho24).tr ho29).tr ho32)
        refine Ev.pick (L' := [(0, .ref m), (1, .int (nI n)), (2, .int (nI r_)), (3, .int (A 1 (1 + r_))), (4, .int (nI (bitN (fun b => mayF (A 1) nr r_ b) nb))), (5, .int 0)]) [3, 4, 5, 2, 1, 0] rfl ?_
        exact lp32 ((nb - 0) + 1) 0 Q_ S_ σ2 (Nat.lt_succ_self _) (Nat.zero_le _) (by rw [tkB, List.append_nil]; exact hR1) (by rw [tkB, List.append_nil]; exact hp2) ho2
  refine Ev.pick (L' := [(0, .ref m), (1, .int (nI n)), (2, .int 0)]) [1, 2, 0] rfl ?_
  exact lp2 ((nr - 0) + 1) 0 (A 7) (A 8) σ (Nat.lt_succ_self _) (Nat.zero_le _) hRQ (by rw [show (mL n ql (tkR (A 1) nr nb 0)) = ql from rfl, upA_id, upA_id, ← hF, upd_self]; exact hP) Off.rf
