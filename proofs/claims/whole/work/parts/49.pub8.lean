set_option maxRecDepth 100000 in
set_option maxHeartbeats 4000000 in
theorem c_looksForPlains {G : xG} {σ : xS} {m : Nat} {F : Nat → Int32} {T : Nat → Nat} {A : Nat → Nat → Int32} (hP : PX7 σ m F T A) {nr nb : Nat} (hG : Gd (A 1) nr nb) {t : xT} (hT : Hd (A 1) t) : CV G yX7_looksForPlains cX7_looksForPlains 3 none 2 0 0 [.ref m] σ (fun σ1 => ∃ P, PX7 σ1 m F T (upA A 6 P) ∧ PLq P (A 1) t nr nb ∧ Off m σ σ1) := by
  refine Met.ofX (by decide +kernel) (Nat.le_of_ble_eq_true rfl) (fun μ Xc hQ hnm => ?_)
  have Xc : xC G μ cX7_looksForPlains 3 RX7 none 2 0 0 := Xc
  have hr4 := hG.r4
  have hb7 := hG.b7
  show Ev G μ 3 0 0 0 [(0, .ref m)] [] σ
  refine e_iconst (v := 0) (pc := 0) Xc (dT hX7_looksForPlains 0 rfl) rfl ?_
  refine e_istore_n (L' := [(1, .int 0), (0, .ref m)]) (pc := 1) Xc (dT hX7_looksForPlains 1 rfl) (by decide) rfl ?_
  have lp2 : ∀ (n2 : Nat) (r_ : Nat) (P_ : Nat → Int32) (σ2 : xS), nr - r_ < n2 → (r_ ≤ nr) → (∀ r b, r < r_ → b < nb → P_ (7 * r + b) = plainF (A 1) t r b) → (PX7 σ2 m F T (upA A 6 P_)) → (Off m σ σ2) → Ev G μ 3 0 0 2 [(0, .ref m), (1, .int (nI r_))] [] σ2 := by
    intro n2
    induction n2 with
    | zero => intro r_ P_ σ2 hn; exact absurd hn (Nat.not_lt_zero _)
    | succ n2 ih2 =>
      intro r_ P_ σ2 hn2 hr_ hi1 hp2 ho2
      refine e_iload_n (pc := 2) Xc (dT hX7_looksForPlains 2 rfl) 1 rfl ?_
      refine e_aload_n (pc := 3) Xc (dT hX7_looksForPlains 3 rfl) 0 rfl ?_
      refine gf_X7_9 (pc := 4) Xc (dT hX7_looksForPlains 4 rfl) hp2.o rfl ?_
      refine e_bipush (v := 12) (pc := 7) Xc (dT hX7_looksForPlains 5 rfl) rfl ?_
      refine e_ialdN (pc := 9) Xc (dT hX7_looksForPlains 6 rfl) hp2.a1 (by decide) rfl 12 rfl (by have := hG.1; omega) (by decide) ?_
      refine e_val (y := A 1 12) rfl ?_
      refine e_val (y := nI nr) hG.1.2.2.1 ?_
      refine e_icmp_geN (x := r_) (y := nr) (tgt := 55) (pc := 10) Xc (dT hX7_looksForPlains 7 rfl) rfl (by have := hG.1; omega) (by have := hG.1; omega) (fun c10 => ?_) (fun c10 => ?_)
      · skip
        refine e_vret (pc := 55) Xc hQ (dT hX7_looksForPlains 32 rfl) (Nat.le_refl _) (Nat.le_refl _) ?_
        exact ⟨P_, hp2, fun r b h1 h2 => hi1 r b (by omega) h2, ho2⟩
      · skip
        refine e_iconst (v := 0) (pc := 13) Xc (dT hX7_looksForPlains 8 rfl) rfl ?_
        refine e_istore_n (L' := [(2, .int 0), (0, .ref m), (1, .int (nI r_))]) (pc := 14) Xc (dT hX7_looksForPlains 9 rfl) (by decide) rfl ?_
        have lp15 : ∀ (n15 : Nat) (b_ : Nat) (P_ : Nat → Int32) (σ3 : xS), nb - b_ < n15 → (b_ ≤ nb) → (∀ r b, (r < r_ ∨ r = r_ ∧ b < b_) → b < nb → P_ (7 * r + b) = plainF (A 1) t r b) → (PX7 σ3 m F T (upA A 6 P_)) → (Off m σ σ3) → Ev G μ 3 0 0 15 [(0, .ref m), (1, .int (nI r_)), (2, .int (nI b_))] [] σ3 := by
          intro n15
          induction n15 with
          | zero => intro b_ P_ σ3 hn; exact absurd hn (Nat.not_lt_zero _)
          | succ n15 ih15 =>
            intro b_ P_ σ3 hn15 hb_ hi2 hp3 ho3
            refine e_iload_n (pc := 15) Xc (dT hX7_looksForPlains 10 rfl) 2 rfl ?_
            refine e_aload_n (pc := 16) Xc (dT hX7_looksForPlains 11 rfl) 0 rfl ?_
            refine gf_X7_9 (pc := 17) Xc (dT hX7_looksForPlains 12 rfl) hp3.o rfl ?_
            refine e_bipush (v := 13) (pc := 20) Xc (dT hX7_looksForPlains 13 rfl) rfl ?_
            refine e_ialdN (pc := 22) Xc (dT hX7_looksForPlains 14 rfl) hp3.a1 (by decide) rfl 13 rfl (by have := hG.1; omega) (by decide) ?_
            refine e_val (y := A 1 13) rfl ?_
            refine e_val (y := nI nb) hG.1.2.2.2 ?_
            refine e_icmp_geN (x := b_) (y := nb) (tgt := 49) (pc := 23) Xc (dT hX7_looksForPlains 15 rfl) rfl (by have := hG.1; omega) (by have := hG.1; omega) (fun c23 => ?_) (fun c23 => ?_)
            · skip
              refine e_iincN (a := r_) (b := 1) (L' := [(1, .int (nI (r_ + 1))), (0, .ref m), (2, .int (nI b_))]) (pc := 49) Xc (dT hX7_looksForPlains 30 rfl) 1 rfl rfl (by decide) rfl ?_
              refine e_goto (tgt := 2) (pc := 52) Xc (dT hX7_looksForPlains 31 rfl) rfl ?_
              refine Ev.pick (L' := [(0, .ref m), (1, .int (nI (r_ + 1)))]) [1, 0] rfl ?_
              exact ih2 (r_ + 1) P_ σ3 (by omega) (by omega) (fun r b h1 h2 => hi2 r b (by omega) h2) hp3 ho3
            · skip
              refine e_aload_n (pc := 26) Xc (dT hX7_looksForPlains 16 rfl) 0 rfl ?_
              refine gf_X7_28 (pc := 27) Xc (dT hX7_looksForPlains 17 rfl) hp3.o rfl ?_
              refine e_bipush (v := 7) (pc := 30) Xc (dT hX7_looksForPlains 18 rfl) rfl ?_
              refine e_iload_n (pc := 32) Xc (dT hX7_looksForPlains 19 rfl) 1 rfl ?_
              refine e_imulN (a := 7) (b := r_) (pc := 33) Xc (dT hX7_looksForPlains 20 rfl) ?_
              refine e_iload_n (pc := 34) Xc (dT hX7_looksForPlains 21 rfl) 2 rfl ?_
              refine e_iaddN (a := 7 * r_) (b := b_) (pc := 35) Xc (dT hX7_looksForPlains 22 rfl) ?_
              refine e_aload_n (pc := 36) Xc (dT hX7_looksForPlains 23 rfl) 0 rfl ?_
              refine e_iload_n (pc := 37) Xc (dT hX7_looksForPlains 24 rfl) 1 rfl ?_
              refine e_iload_n (pc := 38) Xc (dT hX7_looksForPlains 25 rfl) 2 rfl ?_
              refine cl_X7_136 (pc := 39) (k := 0) (n := 0) (S := [.int (nI ((7 * r_) + b_)), .ref (m + 6)]) Xc hp3.o (c_looks hp3 hG hT r_ b_ (by omega) (by omega)) (dT hX7_looksForPlains 26 rfl) rfl (Nat.le_of_ble_eq_true rfl) (Nat.le_of_ble_eq_true rfl) (Nat.le_of_ble_eq_true rfl) rfl (Nat.le_of_ble_eq_true rfl) (fun r1 σ2 hq3 => ?_)
              obtain ⟨r1e, hP4, ho5⟩ := hq3
              have r1e := r1e.symm; subst r1e
              refine e_val (y := plainF (A 1) t r_ b_) rfl ?_
              refine e_iastN (pc := 42) Xc (dT hX7_looksForPlains 27 rfl) hP4.a6 rfl ((7 * r_) + b_) rfl (by have := hG.1; omega) (by decide) ?_
              refine Ev.gen (fun z => PX7 z m F T (upA (upA A 6 P_) 6 (upd P_ ((7 * r_) + b_) (plainF (A 1) t r_ b_)))) (hP4.wa6 (g := (upd P_ ((7 * r_) + b_) (plainF (A 1) t r_ b_)))) Off.set (fun σ6 hP7 ho8 => ?_)
              have hP7 : PX7 σ6 m F T (upA A 6 (upd P_ ((7 * r_) + b_) (plainF (A 1) t r_ b_))) := by rw [upA_2] at hP7; exact hP7
              refine e_iincN (a := b_) (b := 1) (L' := [(2, .int (nI (b_ + 1))), (0, .ref m), (1, .int (nI r_))]) (pc := 43) Xc (dT hX7_looksForPlains 28 rfl) 2 rfl rfl (by decide) rfl ?_
              refine e_goto (tgt := 15) (pc := 46) Xc (dT hX7_looksForPlains 29 rfl) rfl ?_
              refine Ev.pick (L' := [(0, .ref m), (1, .int (nI r_)), (2, .int (nI (b_ + 1)))]) [1, 2, 0] rfl ?_
              exact ih15 (b_ + 1) (upd P_ ((7 * r_) + b_) (plainF (A 1) t r_ b_)) σ6 (by omega) (by omega) (fun r b h1 h2 => by by_cases e_ : r = r_ ∧ b = b_; (obtain ⟨rfl, rfl⟩ := e_; rw [upd_s]); (rw [upd_n (by omega)]; exact hi2 r b (by omega) h2)) hP7 ((ho3.tr ho5).tr ho8)
        refine Ev.pick (L' := [(0, .ref m), (1, .int (nI r_)), (2, .int 0)]) [1, 2, 0] rfl ?_
        exact lp15 ((nb - 0) + 1) 0 P_ σ2 (Nat.lt_succ_self _) (Nat.zero_le _) (fun r b h1 h2 => hi1 r b (by omega) h2) hp2 ho2
  refine Ev.pick (L' := [(0, .ref m), (1, .int 0)]) [1, 0] rfl ?_
  exact lp2 ((nr - 0) + 1) 0 (A 6) σ (Nat.lt_succ_self _) (Nat.zero_le _) (fun r b h => absurd h (Nat.not_lt_zero _)) (by rw [upA_id]; exact hP) Off.rf
set_option maxRecDepth 100000 in
set_option maxHeartbeats 4000000 in
theorem c_wayNow {G : xG} {σ : xS} {m : Nat} {F : Nat → Int32} {T : Nat → Nat} {A : Nat → Nat → Int32} (hP : PX7 σ m F T A) {nr nb : Nat} (hG : Gd (A 1) nr nb) : CI G yX7_wayNow cX7_wayNow 3 (some .int) 0 0 0 [.ref m] σ (fun z σ1 => z = nI (wayX (A 1) nr) ∧ σ1 = σ) := by
  refine Met.ofX (by decide +kernel) (Nat.le_of_ble_eq_true rfl) (fun μ Xc hQ hnm => ?_)
  have Xc : xC G μ cX7_wayNow 3 RX7 (some .int) 0 0 0 := Xc
  have hr4 := hG.r4
  have lp4 : ∀ (n4 : Nat) (r_ w_ : Nat), 4 - r_ < n4 → (r_ ≤ 4) → (w_ = itr (fun r a => 8 * a + dgX (A 1) nr r) 0 r_) → Ev G μ 3 0 0 4 [(0, .ref m), (1, .int (nI w_)), (2, .int (nI r_))] [] σ := by
    intro n4
    induction n4 with
    | zero => intro r_ w_ hn; exact absurd hn (Nat.not_lt_zero _)
    | succ n4 ih4 =>
      intro r_ w_ hn4 hr_ hw_
      refine e_iload_n (pc := 4) Xc (dT hX7_wayNow 4 rfl) 2 rfl ?_
      refine e_iconst (v := 4) (pc := 5) Xc (dT hX7_wayNow 5 rfl) rfl ?_
      refine e_icmp_geN (x := r_) (y := 4) (tgt := 57) (pc := 6) Xc (dT hX7_wayNow 6 rfl) rfl (by have := hG.1; omega) (by have := hG.1; omega) (fun c6 => ?_) (fun c6 => ?_)
      · skip
        refine e_iload_n (pc := 57) Xc (dT hX7_wayNow 36 rfl) 1 rfl ?_
        refine e_iret (pc := 58) Xc hQ (dT hX7_wayNow 37 rfl) (Nat.le_refl _) (Nat.le_refl _) ?_
        refine ⟨?_, rfl⟩
        have hre_ : r_ = 4 := by omega
        subst hre_
        rw [hw_]; rfl
      · skip
        refine e_bipush (v := 8) (pc := 9) Xc (dT hX7_wayNow 7 rfl) rfl ?_
        refine e_iload_n (pc := 11) Xc (dT hX7_wayNow 8 rfl) 1 rfl ?_
        refine e_imulN (a := 8) (b := w_) (pc := 12) Xc (dT hX7_wayNow 9 rfl) ?_
        refine e_iload_n (pc := 13) Xc (dT hX7_wayNow 10 rfl) 2 rfl ?_
        refine e_aload_n (pc := 14) Xc (dT hX7_wayNow 11 rfl) 0 rfl ?_
        refine gf_X7_9 (pc := 15) Xc (dT hX7_wayNow 12 rfl) hP.o rfl ?_
        refine e_bipush (v := 12) (pc := 18) Xc (dT hX7_wayNow 13 rfl) rfl ?_
        refine e_ialdN (pc := 20) Xc (dT hX7_wayNow 14 rfl) hP.a1 (by decide) rfl 12 rfl (by have := hG.1; omega) (by decide) ?_
        refine e_val (y := nI nr) hG.1.2.2.1 ?_
        refine e_icmp_geN (x := r_) (y := nr) (tgt := 47) (pc := 21) Xc (dT hX7_wayNow 15 rfl) rfl (by have := hG.1; omega) (by have := hG.1; omega) (fun c21 => ?_) (fun c21 => ?_)
        · skip
          refine e_bipush (v := 7) (pc := 47) Xc (dT hX7_wayNow 31 rfl) rfl ?_
          refine e_val (y := nI (dgX (A 1) nr r_)) (congrArg nI (show 7 = dgX (A 1) nr r_ from (if_neg (fun q => absurd q.1 (by omega))).symm)) ?_
          refine e_iaddN (a := 8 * w_) (b := dgX (A 1) nr r_) (pc := 49) Xc (dT hX7_wayNow 32 rfl) ?_
          refine e_istore_n (L' := [(1, .int (nI ((8 * w_) + (dgX (A 1) nr r_)))), (0, .ref m), (2, .int (nI r_))]) (pc := 50) Xc (dT hX7_wayNow 33 rfl) (by decide) rfl ?_
          refine e_iincN (a := r_) (b := 1) (L' := [(2, .int (nI (r_ + 1))), (1, .int (nI ((8 * w_) + (dgX (A 1) nr r_)))), (0, .ref m)]) (pc := 51) Xc (dT hX7_wayNow 34 rfl) 2 rfl rfl (by decide) rfl ?_
          refine e_goto (tgt := 4) (pc := 54) Xc (dT hX7_wayNow 35 rfl) rfl ?_
          refine Ev.pick (L' := [(0, .ref m), (1, .int (nI ((8 * w_) + (dgX (A 1) nr r_)))), (2, .int (nI (r_ + 1)))]) [2, 1, 0] rfl ?_
          exact ih4 (r_ + 1) ((8 * w_) + (dgX (A 1) nr r_)) (by omega) (by omega) (by rw [itr, ← hw_])
        · skip
          refine e_aload_n (pc := 24) Xc (dT hX7_wayNow 16 rfl) 0 rfl ?_
          refine gf_X7_9 (pc := 25) Xc (dT hX7_wayNow 17 rfl) hP.o rfl ?_
          refine e_iconst (v := 1) (pc := 28) Xc (dT hX7_wayNow 18 rfl) rfl ?_
          refine e_iload_n (pc := 29) Xc (dT hX7_wayNow 19 rfl) 2 rfl ?_
          refine e_iaddN (a := 1) (b := r_) (pc := 30) Xc (dT hX7_wayNow 20 rfl) ?_
          refine e_ialdN (pc := 31) Xc (dT hX7_wayNow 21 rfl) hP.a1 (by decide) rfl (1 + r_) rfl (by have := hG.1; omega) (by decide) ?_
          refine e_iconst (v := -1) (pc := 32) Xc (dT hX7_wayNow 22 rfl) rfl ?_
          refine e_icmp_eq (tgt := 47) (pc := 33) Xc (dT hX7_wayNow 23 rfl) rfl (fun c33 => ?_) (fun c33 => ?_)
          · skip
            refine e_bipush (v := 7) (pc := 47) Xc (dT hX7_wayNow 31 rfl) rfl ?_
            refine e_val (y := nI (dgX (A 1) nr r_)) (congrArg nI (show 7 = dgX (A 1) nr r_ from (if_neg (fun q => q.2 c33)).symm)) ?_
            refine e_iaddN (a := 8 * w_) (b := dgX (A 1) nr r_) (pc := 49) Xc (dT hX7_wayNow 32 rfl) ?_
            refine e_istore_n (L' := [(1, .int (nI ((8 * w_) + (dgX (A 1) nr r_)))), (0, .ref m), (2, .int (nI r_))]) (pc := 50) Xc (dT hX7_wayNow 33 rfl) (by decide) rfl ?_
            refine e_iincN (a := r_) (b := 1) (L' := [(2, .int (nI (r_ + 1))), (1, .int (nI ((8 * w_) + (dgX (A 1) nr r_)))), (0, .ref m)]) (pc := 51) Xc (dT hX7_wayNow 34 rfl) 2 rfl rfl (by decide) rfl ?_
            refine e_goto (tgt := 4) (pc := 54) Xc (dT hX7_wayNow 35 rfl) rfl ?_
            refine Ev.pick (L' := [(0, .ref m), (1, .int (nI ((8 * w_) + (dgX (A 1) nr r_)))), (2, .int (nI (r_ + 1)))]) [2, 1, 0] rfl ?_
            exact ih4 (r_ + 1) ((8 * w_) + (dgX (A 1) nr r_)) (by omega) (by omega) (by rw [itr, ← hw_])
          · skip
            refine e_aload_n (pc := 36) Xc (dT hX7_wayNow 24 rfl) 0 rfl ?_
            refine gf_X7_9 (pc := 37) Xc (dT hX7_wayNow 25 rfl) hP.o rfl ?_
            refine e_iconst (v := 1) (pc := 40) Xc (dT hX7_wayNow 26 rfl) rfl ?_
            refine e_iload_n (pc := 41) Xc (dT hX7_wayNow 27 rfl) 2 rfl ?_
            refine e_iaddN (a := 1) (b := r_) (pc := 42) Xc (dT hX7_wayNow 28 rfl) ?_
            refine e_ialdN (pc := 43) Xc (dT hX7_wayNow 29 rfl) hP.a1 (by decide) rfl (1 + r_) rfl (by have := hG.1; omega) (by decide) ?_
            refine e_goto (tgt := 49) (pc := 44) Xc (dT hX7_wayNow 30 rfl) rfl ?_
            refine e_val (y := nI (dgX (A 1) nr r_)) ((dgX_le hG).resolve_left (fun q => c33 (q.2 (by omega)))).2.2 ?_
            refine e_iaddN (a := 8 * w_) (b := dgX (A 1) nr r_) (pc := 49) Xc (dT hX7_wayNow 32 rfl) ?_
            refine e_istore_n (L' := [(1, .int (nI ((8 * w_) + (dgX (A 1) nr r_)))), (0, .ref m), (2, .int (nI r_))]) (pc := 50) Xc (dT hX7_wayNow 33 rfl) (by decide) rfl ?_
            refine e_iincN (a := r_) (b := 1) (L' := [(2, .int (nI (r_ + 1))), (1, .int (nI ((8 * w_) + (dgX (A 1) nr r_)))), (0, .ref m)]) (pc := 51) Xc (dT hX7_wayNow 34 rfl) 2 rfl rfl (by decide) rfl ?_
            refine e_goto (tgt := 4) (pc := 54) Xc (dT hX7_wayNow 35 rfl) rfl ?_
            refine Ev.pick (L' := [(0, .ref m), (1, .int (nI ((8 * w_) + (dgX (A 1) nr r_)))), (2, .int (nI (r_ + 1)))]) [2, 1, 0] rfl ?_
            exact ih4 (r_ + 1) ((8 * w_) + (dgX (A 1) nr r_)) (by omega) (by omega) (by rw [itr, ← hw_])
  show Ev G μ 3 0 0 0 [(0, .ref m)] [] σ
  refine e_iconst (v := 0) (pc := 0) Xc (dT hX7_wayNow 0 rfl) rfl ?_
  refine e_istore_n (L' := [(1, .int 0), (0, .ref m)]) (pc := 1) Xc (dT hX7_wayNow 1 rfl) (by decide) rfl ?_
  refine e_iconst (v := 0) (pc := 2) Xc (dT hX7_wayNow 2 rfl) rfl ?_
  refine e_istore_n (L' := [(2, .int 0), (1, .int 0), (0, .ref m)]) (pc := 3) Xc (dT hX7_wayNow 3 rfl) (by decide) rfl ?_
  refine Ev.pick (L' := [(0, .ref m), (1, .int 0), (2, .int 0)]) [2, 1, 0] rfl ?_
  exact lp4 ((4 - 0) + 1) 0 0 (Nat.lt_succ_self _) (Nat.zero_le _) rfl
set_option maxRecDepth 100000 in
set_option maxHeartbeats 4000000 in
theorem c_hasIn {G : xG} {σ : xS} (w r : Nat) (hw : w < 4096) (hr : r < 4) : CI G yX7_hasIn cX7_hasIn 3 (some .int) 0 0 0 [.int (nI w), .int (nI r)] σ (fun z σ1 => z = hsW w r ∧ σ1 = σ) := by
  refine Met.ofX (by decide +kernel) (Nat.le_of_ble_eq_true rfl) (fun μ Xc hQ hnm => ?_)
  have Xc : xC G μ cX7_hasIn 3 RX7 (some .int) 0 0 0 := Xc
  have hdg_ : dgW w r < 8 := Nat.mod_lt _ (by decide)
  show Ev G μ 3 0 0 0 [(0, .int (nI w)), (1, .int (nI r))] [] σ
  refine e_iload_n (pc := 0) Xc (dT hX7_hasIn 0 rfl) 0 rfl ?_
  refine e_iconst (v := 3) (pc := 1) Xc (dT hX7_hasIn 1 rfl) rfl ?_
  refine e_iconst (v := 3) (pc := 2) Xc (dT hX7_hasIn 2 rfl) rfl ?_
  refine e_iload_n (pc := 3) Xc (dT hX7_hasIn 3 rfl) 1 rfl ?_
  refine e_isubN (a := 3) (b := r) (pc := 4) Xc (dT hX7_hasIn 4 rfl) (by omega) ?_
  refine e_imulN (a := 3) (b := 3 - r) (pc := 5) Xc (dT hX7_hasIn 5 rfl) ?_
  refine e_ishr (pc := 6) Xc (dT hX7_hasIn 6 rfl) ?_
  refine e_val (y := nI (w / 2 ^ (3 * (3 - r)))) (shrN (by omega) (by omega)) ?_
  refine e_bipush (v := 7) (pc := 7) Xc (dT hX7_hasIn 7 rfl) rfl ?_
  refine e_iand (pc := 9) Xc (dT hX7_hasIn 8 rfl) ?_
  refine e_val (y := nI (dgW w r)) ((and7 _ (Nat.lt_of_le_of_lt (Nat.div_le_self _ _) (by omega))).trans (congrArg nI dgW_eq)) ?_
  refine e_istore_n (L' := [(2, .int (nI (dgW w r))), (0, .int (nI w)), (1, .int (nI r))]) (pc := 10) Xc (dT hX7_hasIn 9 rfl) (by decide) rfl ?_
  refine e_iload_n (pc := 11) Xc (dT hX7_hasIn 10 rfl) 0 rfl ?_
  refine e_bipush (v := 7) (pc := 12) Xc (dT hX7_hasIn 11 rfl) rfl ?_
  refine e_icmp_neN (x := dgW w r) (y := 7) (tgt := 21) (pc := 14) Xc (dT hX7_hasIn 12 rfl) rfl (by omega) (by omega) (fun c14 => ?_) (fun c14 => ?_)
  · skip
    refine e_iload_n (pc := 21) Xc (dT hX7_hasIn 15 rfl) 0 rfl ?_
    refine e_iret (pc := 22) Xc hQ (dT hX7_hasIn 16 rfl) (Nat.le_refl _) (Nat.le_refl _) ?_
    exact ⟨(if_neg c14).symm, rfl⟩
  · skip
    refine e_iconst (v := -1) (pc := 17) Xc (dT hX7_hasIn 13 rfl) rfl ?_
    refine e_goto (tgt := 22) (pc := 18) Xc (dT hX7_hasIn 14 rfl) rfl ?_
    refine e_iret (pc := 22) Xc hQ (dT hX7_hasIn 16 rfl) (Nat.le_refl _) (Nat.le_refl _) ?_
    exact ⟨(if_pos c14).symm, rfl⟩
set_option maxRecDepth 100000 in
set_option maxHeartbeats 4000000 in
theorem c_goesTo {G : xG} {σ : xS} {m : Nat} {F : Nat → Int32} {T : Nat → Nat} {A : Nat → Nat → Int32} (hP : PX7 σ m F T A) {nr nb : Nat} (hG : Gd (A 1) nr nb) (w : Nat) (hw : w < 4096) : CV G yX7_goesTo cX7_goesTo 3 none 1 0 0 [.ref m, .int (nI w)] σ (fun σ1 => PX7 σ1 m F T (upA A 1 (setW (A 1) nr w)) ∧ Off m σ σ1) := by
  refine Met.ofX (by decide +kernel) (Nat.le_of_ble_eq_true rfl) (fun μ Xc hQ hnm => ?_)
  have Xc : xC G μ cX7_goesTo 3 RX7 none 1 0 0 := Xc
  have hr4 := hG.r4
  show Ev G μ 3 0 0 0 [(0, .ref m), (1, .int (nI w))] [] σ
  refine e_iconst (v := 0) (pc := 0) Xc (dT hX7_goesTo 0 rfl) rfl ?_
  refine e_istore_n (L' := [(2, .int 0), (0, .ref m), (1, .int (nI w))]) (pc := 1) Xc (dT hX7_goesTo 1 rfl) (by decide) rfl ?_
  have lp2 : ∀ (n2 : Nat) (r_ : Nat) (σ2 : xS), nr - r_ < n2 → (r_ ≤ nr) → (PX7 σ2 m F T (upA A 1 (setW (A 1) r_ w))) → (Off m σ σ2) → Ev G μ 3 0 0 2 [(0, .ref m), (1, .int (nI w)), (2, .int (nI r_))] [] σ2 := by
    intro n2
    induction n2 with
    | zero => intro r_ σ2 hn; exact absurd hn (Nat.not_lt_zero _)
    | succ n2 ih2 =>
      intro r_ σ2 hn2 hr_ hp2 ho2
      refine e_iload_n (pc := 2) Xc (dT hX7_goesTo 2 rfl) 2 rfl ?_
      refine e_aload_n (pc := 3) Xc (dT hX7_goesTo 3 rfl) 0 rfl ?_
      refine gf_X7_9 (pc := 4) Xc (dT hX7_goesTo 4 rfl) hp2.o rfl ?_
      refine e_bipush (v := 12) (pc := 7) Xc (dT hX7_goesTo 5 rfl) rfl ?_
      refine e_ialdN (pc := 9) Xc (dT hX7_goesTo 6 rfl) hp2.a1 (by decide) rfl 12 rfl (by have := hG.1; omega) (by decide) ?_
      refine e_val (y := (setW (A 1) r_ w) 12) rfl ?_
      refine e_val (y := nI nr) ((setW_n (by omega)).trans hG.1.2.2.1) ?_
      refine e_icmp_geN (x := r_) (y := nr) (tgt := 32) (pc := 10) Xc (dT hX7_goesTo 7 rfl) rfl (by have := hG.1; omega) (by have := hG.1; omega) (fun c10 => ?_) (fun c10 => ?_)
      · skip
        refine e_vret (pc := 32) Xc hQ (dT hX7_goesTo 19 rfl) (Nat.le_refl _) (Nat.le_refl _) ?_
        have hre_ : r_ = nr := by omega
        subst hre_
        exact ⟨hp2, ho2⟩
      · skip
        refine e_aload_n (pc := 13) Xc (dT hX7_goesTo 8 rfl) 0 rfl ?_
        refine gf_X7_9 (pc := 14) Xc (dT hX7_goesTo 9 rfl) hp2.o rfl ?_
        refine e_iconst (v := 1) (pc := 17) Xc (dT hX7_goesTo 10 rfl) rfl ?_
        refine e_iload_n (pc := 18) Xc (dT hX7_goesTo 11 rfl) 2 rfl ?_
        refine e_iaddN (a := 1) (b := r_) (pc := 19) Xc (dT hX7_goesTo 12 rfl) ?_
        refine e_iload_n (pc := 20) Xc (dT hX7_goesTo 13 rfl) 1 rfl ?_
        refine e_iload_n (pc := 21) Xc (dT hX7_goesTo 14 rfl) 2 rfl ?_
        refine cl_X7_211 (pc := 22) (k := 0) (n := 0) (S := [.int (nI (1 + r_)), .ref (m + 1)]) Xc (c_hasIn w r_ (by omega) (by omega)) (dT hX7_goesTo 15 rfl) rfl (Nat.le_of_ble_eq_true rfl) (Nat.le_of_ble_eq_true rfl) (Nat.le_of_ble_eq_true rfl) rfl (Nat.le_of_ble_eq_true rfl) (fun r1 σ2 hq3 => ?_)
        obtain ⟨r1e, r1s⟩ := hq3
        have r1e := r1e.symm; subst r1e; have r1s := r1s.symm; subst r1s
        refine e_iastN (pc := 25) Xc (dT hX7_goesTo 16 rfl) hp2.a1 rfl (1 + r_) rfl (by have := hG.1; omega) (by decide) ?_
        refine Ev.gen (fun z => PX7 z m F T (upA (upA A 1 (setW (A 1) r_ w)) 1 (upd (setW (A 1) r_ w) (1 + r_) (hsW w r_)))) (hp2.wa1 (g := (upd (setW (A 1) r_ w) (1 + r_) (hsW w r_)))) Off.set (fun σ4 hP5 ho6 => ?_)
        have hP5 : PX7 σ4 m F T (upA A 1 (upd (setW (A 1) r_ w) (1 + r_) (hsW w r_))) := by rw [upA_2] at hP5; exact hP5
        refine e_iincN (a := r_) (b := 1) (L' := [(2, .int (nI (r_ + 1))), (0, .ref m), (1, .int (nI w))]) (pc := 26) Xc (dT hX7_goesTo 17 rfl) 2 rfl rfl (by decide) rfl ?_
        refine e_goto (tgt := 2) (pc := 29) Xc (dT hX7_goesTo 18 rfl) rfl ?_
        refine Ev.pick (L' := [(0, .ref m), (1, .int (nI w)), (2, .int (nI (r_ + 1)))]) [1, 2, 0] rfl ?_
        exact ih2 (r_ + 1) σ4 (by omega) (by omega) (by rw [setW_s]; exact hP5) (ho2.tr ho6)
  refine Ev.pick (L' := [(0, .ref m), (1, .int (nI w)), (2, .int 0)]) [1, 2, 0] rfl ?_
  exact lp2 ((nr - 0) + 1) 0 σ (Nat.lt_succ_self _) (Nat.zero_le _) (by rw [setW_0, upA_id]; exact hP) Off.rf
set_option maxRecDepth 100000 in
set_option maxHeartbeats 4000000 in
theorem c_comesTo {G : xG} {σ : xS} {m : Nat} {F : Nat → Int32} {T : Nat → Nat} {A : Nat → Nat → Int32} (hP : PX7 σ m F T A) {nr nb : Nat} (hG : Gd (A 1) nr nb) {ql : wQ} (hRQ : RQ (A 7) (A 8) ql) (hF : F 15 = nI ql.length) (hok : okQ nr nb ql) (n : Nat) : CV G yX7_comesTo cX7_comesTo 3 none 1 0 0 [.ref m, .int (nI n)] σ (fun σ1 => ∃ Q S, PX7 σ1 m (upd F 15 (nI (meetL n ql (wayX (A 1) nr)).length)) T (upA (upA A 7 Q) 8 S) ∧ RQ Q S (meetL n ql (wayX (A 1) nr)) ∧ Off m σ σ1) := by
  refine Met.ofX (by decide +kernel) (Nat.le_of_ble_eq_true rfl) (fun μ Xc hQ hnm => ?_)
  have Xc : xC G μ cX7_comesTo 3 RX7 none 1 0 0 := Xc
  have hr4 := hG.r4
  have hwl_ := way_lt hG
  show Ev G μ 3 0 0 0 [(0, .ref m), (1, .int (nI n))] [] σ
  refine e_aload_n (pc := 0) Xc (dT hX7_comesTo 0 rfl) 0 rfl ?_
  refine cl_X7_214 (pc := 1) (k := 0) (n := 0) (S := []) Xc hP.o (c_wayNow hP hG) (dT hX7_comesTo 1 rfl) rfl (Nat.le_of_ble_eq_true rfl) (Nat.le_of_ble_eq_true rfl) (Nat.le_of_ble_eq_true rfl) rfl (Nat.le_of_ble_eq_true rfl) (fun r1 σ2 hq3 => ?_)
  obtain ⟨r1e, r1s⟩ := hq3
  have r1e := r1e.symm; subst r1e; have r1s := r1s.symm; subst r1s
  refine e_istore_n (L' := [(2, .int (nI (wayX (A 1) nr))), (0, .ref m), (1, .int (nI n))]) (pc := 4) Xc (dT hX7_comesTo 2 rfl) (by decide) rfl ?_
  refine e_aload_n (pc := 5) Xc (dT hX7_comesTo 3 rfl) 1 rfl ?_
  refine gf_X7_34 (pc := 6) Xc (dT hX7_comesTo 4 rfl) hP.o rfl ?_
  refine e_iload_n (pc := 9) Xc (dT hX7_comesTo 5 rfl) 0 rfl ?_
  refine e_ialdN (pc := 10) Xc (dT hX7_comesTo 6 rfl) hP.a8 (by decide) rfl (wayX (A 1) nr) rfl (by have := hG.1; omega) (by decide) ?_
  refine e_iconst (v := -1) (pc := 11) Xc (dT hX7_comesTo 7 rfl) rfl ?_
  refine e_icmp_ne (tgt := 42) (pc := 12) Xc (dT hX7_comesTo 8 rfl) rfl (fun c12 => ?_) (fun c12 => ?_)
  · skip
    refine e_vret (pc := 42) Xc hQ (dT hX7_comesTo 26 rfl) (Nat.le_refl _) (Nat.le_refl _) ?_
    have hany_ : ql.any (fun q => q.1 == wayX (A 1) nr) = true := by
      by_cases e_ : ql.any (fun q => q.1 == wayX (A 1) nr) = true
      · exact e_
      · exact absurd ((hRQ.2 _ hwl_).trans ((lkQ_none hok).mpr e_)) c12
    rw [meet_y hany_]
    refine ⟨A 7, A 8, ?_, hRQ, Off.rf⟩
    rw [upA_id, upA_id, ← hF, upd_self]
    exact hP
  · skip
    have hany_ : ¬ ql.any (fun q => q.1 == wayX (A 1) nr) = true := (lkQ_none hok).mp ((hRQ.2 _ hwl_).symm.trans c12)
    have hql_ := okQ_lt hok (okV_way hG) hany_
    refine e_aload_n (pc := 15) Xc (dT hX7_comesTo 9 rfl) 1 rfl ?_
    refine gf_X7_34 (pc := 16) Xc (dT hX7_comesTo 10 rfl) hP.o rfl ?_
    refine e_iload_n (pc := 19) Xc (dT hX7_comesTo 11 rfl) 0 rfl ?_
    refine e_iload_n (pc := 20) Xc (dT hX7_comesTo 12 rfl) 2 rfl ?_
    refine e_iastN (pc := 21) Xc (dT hX7_comesTo 13 rfl) hP.a8 rfl (wayX (A 1) nr) rfl (by have := hG.1; omega) (by decide) ?_
    refine Ev.gen (fun z => PX7 z m F T (upA A 8 (upd (A 8) (wayX (A 1) nr) (nI n)))) (hP.wa8 (g := (upd (A 8) (wayX (A 1) nr) (nI n)))) Off.set (fun σ4 hP5 ho6 => ?_)
    refine e_aload_n (pc := 22) Xc (dT hX7_comesTo 14 rfl) 1 rfl ?_
    refine gf_X7_31 (pc := 23) Xc (dT hX7_comesTo 15 rfl) hP5.o rfl ?_
    refine e_aload_n (pc := 26) Xc (dT hX7_comesTo 16 rfl) 1 rfl ?_
    refine gf_X7_217 (pc := 27) Xc (dT hX7_comesTo 17 rfl) hP5.o rfl ?_
    refine e_val (y := nI ql.length) hF ?_
    refine e_iload_n (pc := 30) Xc (dT hX7_comesTo 18 rfl) 0 rfl ?_
    refine e_iastN (pc := 31) Xc (dT hX7_comesTo 19 rfl) hP5.a7 rfl ql.length rfl (by have := hG.1; omega) (by decide) ?_
    refine Ev.gen (fun z => PX7 z m F T (upA (upA A 8 (upd (A 8) (wayX (A 1) nr) (nI n))) 7 (upd (A 7) ql.length (nI (wayX (A 1) nr))))) (hP5.wa7 (g := (upd (A 7) ql.length (nI (wayX (A 1) nr))))) Off.set (fun σ7 hP8 ho9 => ?_)
    refine e_aload_n (pc := 32) Xc (dT hX7_comesTo 20 rfl) 1 rfl ?_
    refine e_dup (pc := 33) Xc (dT hX7_comesTo 21 rfl) rfl ?_
    refine gf_X7_217 (pc := 34) Xc (dT hX7_comesTo 22 rfl) hP8.o rfl ?_
    refine e_val (y := nI ql.length) hF ?_
    refine e_iconst (v := 1) (pc := 37) Xc (dT hX7_comesTo 23 rfl) rfl ?_
    refine e_iaddN (a := ql.length) (b := 1) (pc := 38) Xc (dT hX7_comesTo 24 rfl) ?_
    refine pf_X7_217 (fs' := olX7 m (upd F 15 (nI (ql.length + 1))) T) (pc := 39) Xc (dT hX7_comesTo 25 rfl) hP8.o (Nat.le_of_ble_eq_true rfl) rfl ?_
    refine Ev.gen (fun z => PX7 z m (upd F 15 (nI (ql.length + 1))) T (upA (upA A 8 (upd (A 8) (wayX (A 1) nr) (nI n))) 7 (upd (A 7) ql.length (nI (wayX (A 1) nr))))) (hP8.wf15 (x := nI (ql.length + 1))) Off.set (fun σ10 hP11 ho12 => ?_)
    refine e_vret (pc := 42) Xc hQ (dT hX7_comesTo 26 rfl) (Nat.le_refl _) (Nat.le_refl _) ?_
    rw [meet_n hany_]
    refine ⟨upd (A 7) ql.length (nI (wayX (A 1) nr)), upd (A 8) (wayX (A 1) nr) (nI n), ?_, RQ_new hRQ hany_, ((ho6.tr ho9).tr ho12)⟩
    rw [List.length_append, List.length_singleton]
    rw [show upA (upA A 7 (upd (A 7) ql.length (nI (wayX (A 1) nr)))) 8 (upd (A 8) (wayX (A 1) nr) (nI n)) = upA (upA A 8 (upd (A 8) (wayX (A 1) nr) (nI n))) 7 (upd (A 7) ql.length (nI (wayX (A 1) nr))) from (by funext j_; unfold upA; repeat' split <;> simp_all)]
    exact hP11
