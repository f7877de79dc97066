set_option maxRecDepth 100000 in
set_option maxHeartbeats 4000000 in
theorem c_looksForWays {G : xG} {σ : xS} {m : Nat} {F : Nat → Int32} {T : Nat → Nat} {A : Nat → Nat → Int32} (hP : PX7 σ m F T A) {nr nb : Nat} (hG : Gd (A 1) nr nb) {t : xT} (hT : Hd (A 1) t) : CV G yX7_looksForWays cX7_looksForWays 2 none 5 0 0 [.ref m] σ (fun σ1 => ∃ ql P Q S fr, PX7 σ1 m (upd F 15 (nI ql.length)) T (upA (upA (upA (upA A 3 fr) 6 P) 7 Q) 8 S) ∧ PLq P (A 1) t nr nb ∧ RQ Q S ql ∧ RES (A 1) t nr nb ql ∧ Off m σ σ1) := by
  refine Met.ofX (by decide +kernel) (Nat.le_of_ble_eq_true rfl) (fun μ Xc hQ hnm => ?_)
  have Xc : xC G μ cX7_looksForWays 2 RX7 none 5 0 0 := Xc
  have hr4 := hG.r4
  have hb7 := hG.b7
  show Ev G μ 2 0 0 0 [(0, .ref m)] [] σ
  refine e_aload_n (pc := 0) Xc (dT hX7_looksForWays 0 rfl) 0 rfl ?_
  refine cl_X7_233 (pc := 1) (k := 0) (n := 0) (S := []) Xc hP.o (c_looksForPlains hP hG hT) (dT hX7_looksForWays 1 rfl) rfl (Nat.le_of_ble_eq_true rfl) (Nat.le_of_ble_eq_true rfl) (Nat.le_of_ble_eq_true rfl) rfl (Nat.le_of_ble_eq_true rfl) (fun σ2 hq3 => ?_)
  obtain ⟨P_, hP4, hPL_, ho5⟩ := hq3
  refine e_iconst (v := 0) (pc := 4) Xc (dT hX7_looksForWays 2 rfl) rfl ?_
  refine e_istore_n (L' := [(1, .int 0), (0, .ref m)]) (pc := 5) Xc (dT hX7_looksForWays 3 rfl) (by decide) rfl ?_
  have lp6 : ∀ (n6 : Nat) (k_ : Nat) (S_ : Nat → Int32) (σ2 : xS), 4096 - k_ < n6 → (k_ ≤ 4096) → (∀ i, i < k_ → S_ i = -1) → (PX7 σ2 m F T (upA (upA A 6 P_) 8 S_)) → (Off m σ σ2) → Ev G μ 2 0 0 6 [(0, .ref m), (1, .int (nI k_))] [] σ2 := by
    intro n6
    induction n6 with
    | zero => intro k_ S_ σ2 hn; exact absurd hn (Nat.not_lt_zero _)
    | succ n6 ih6 =>
      intro k_ S_ σ2 hn6 hk_ hi_ hp2 ho2
      refine e_iload_n (pc := 6) Xc (dT hX7_looksForWays 4 rfl) 1 rfl ?_
      refine e_sipush (v := 4096) (pc := 7) Xc (dT hX7_looksForWays 5 rfl) rfl ?_
      refine e_icmp_geN (x := k_) (y := 4096) (tgt := 26) (pc := 10) Xc (dT hX7_looksForWays 6 rfl) rfl (by have := hG.1; omega) (by have := hG.1; omega) (fun c10 => ?_) (fun c10 => ?_)
      · skip
        have hke_ : k_ = 4096 := by omega
        refine e_aload_n (pc := 26) Xc (dT hX7_looksForWays 14 rfl) 0 rfl ?_
        refine e_iconst (v := 0) (pc := 27) Xc (dT hX7_looksForWays 15 rfl) rfl ?_
        refine pf_X7_217 (fs' := olX7 m (upd F 15 0) T) (pc := 28) Xc (dT hX7_looksForWays 16 rfl) hp2.o (Nat.le_of_ble_eq_true rfl) rfl ?_
        refine Ev.gen (fun z => PX7 z m (upd F 15 0) T (upA (upA A 6 P_) 8 S_)) (hp2.wf15 (x := 0)) Off.set (fun σ6 hP7 ho8 => ?_)
        refine e_aload_n (pc := 31) Xc (dT hX7_looksForWays 17 rfl) 0 rfl ?_
        refine cl_X7_202 (pc := 32) (k := 0) (n := 0) (S := []) Xc hP7.o (c_keeps hP7) (dT hX7_looksForWays 18 rfl) rfl (Nat.le_of_ble_eq_true rfl) (Nat.le_of_ble_eq_true rfl) (Nat.le_of_ble_eq_true rfl) rfl (Nat.le_of_ble_eq_true rfl) (fun σ10 hq11 => ?_)
        obtain ⟨fr, hP12, hfr_, ho13⟩ := hq11
        have hfr_ : ∀ j, j < 12 → fr j = A 1 j := hfr_
        rw [show upA (upA (upA A 6 P_) 8 S_) 3 fr = (upA (upA (upA A 3 fr) 6 P_) 8 S_) from (by funext j_; unfold upA; repeat' split <;> simp_all)] at hP12
        refine e_aload_n (pc := 35) Xc (dT hX7_looksForWays 19 rfl) 0 rfl ?_
        refine e_iconst (v := 0) (pc := 36) Xc (dT hX7_looksForWays 20 rfl) rfl ?_
        refine cl_X7_223 (pc := 37) (k := 0) (n := 0) (S := []) Xc hP12.o (c_comesTo hP12 hG (ql := []) ⟨fun i h => absurd h (Nat.not_lt_zero _), fun c hc => hi_ c (by omega)⟩ upd_s ⟨List.nodup_nil, fun q h => absurd h (List.not_mem_nil), fun i h => absurd h (Nat.not_lt_zero _)⟩ 0) (dT hX7_looksForWays 21 rfl) rfl (Nat.le_of_ble_eq_true rfl) (Nat.le_of_ble_eq_true rfl) (Nat.le_of_ble_eq_true rfl) rfl (Nat.le_of_ble_eq_true rfl) (fun σ15 hq16 => ?_)
        obtain ⟨Q0_, S0_, hP17, hR0_, ho18⟩ := hq16
        have hR0_ : RQ Q0_ S0_ [(wayX (A 1) nr, 0)] := hR0_
        have hP17 : PX7 σ15 m (upd (upd F 15 0) 15 (nI [(wayX (A 1) nr, 0)].length)) T (upA (upA (upA (upA (upA A 3 fr) 6 P_) 8 S_) 7 Q0_) 8 S0_) := hP17
        rw [upd_2, show (upA (upA (upA (upA (upA A 3 fr) 6 P_) 8 S_) 7 Q0_) 8 S0_) = (upA (upA (upA (upA A 3 fr) 6 P_) 7 Q0_) 8 S0_) from (by funext j_; unfold upA; repeat' split <;> simp_all)] at hP17
        refine e_iconst (v := 0) (pc := 40) Xc (dT hX7_looksForWays 22 rfl) rfl ?_
        refine e_istore_n (L' := [(1, .int 0), (0, .ref m)]) (pc := 41) Xc (dT hX7_looksForWays 23 rfl) (by decide) rfl ?_
        have lp42 : ∀ (n42 : Nat) (k_ : Nat) (ql : wQ) (Q_ S_ X1_ : Nat → Int32) (σ3 : xS), 4096 - k_ < n42 → (k_ ≤ ql.length) → (BIq (A 1) t nr nb ql k_) → (RQ Q_ S_ ql) → (∀ j, ¬ (1 ≤ j ∧ j ≤ nr) → X1_ j = A 1 j) → (Gd X1_ nr nb) → (PX7 σ3 m (upd F 15 (nI ql.length)) T (upA (upA (upA (upA (upA A 3 fr) 6 P_) 7 Q_) 8 S_) 1 X1_)) → (Off m σ σ3) → Ev G μ 2 0 0 42 [(0, .ref m), (1, .int (nI k_))] [] σ3 := by
          intro n42
          induction n42 with
          | zero => intro k_ ql Q_ S_ X1_ σ3 hn; exact absurd hn (Nat.not_lt_zero _)
          | succ n42 ih42 =>
            intro k_ ql Q_ S_ X1_ σ3 hn42 hk_ hBI_ hR_ hX1_ hG1_ hp3 ho3
            have hle_ := okQ_le hBI_.1
            refine e_iload_n (pc := 42) Xc (dT hX7_looksForWays 24 rfl) 1 rfl ?_
            refine e_aload_n (pc := 43) Xc (dT hX7_looksForWays 25 rfl) 0 rfl ?_
            refine gf_X7_217 (pc := 44) Xc (dT hX7_looksForWays 26 rfl) hp3.o rfl ?_
            refine e_val (y := nI ql.length) rfl ?_
            refine e_val (y := nI ql.length) rfl ?_
            refine e_icmp_geN (x := k_) (y := ql.length) (tgt := 83) (pc := 47) Xc (dT hX7_looksForWays 27 rfl) rfl (by have := hG.1; omega) (by have := hG.1; omega) (fun c47 => ?_) (fun c47 => ?_)
            · skip
              have hke_ : k_ = ql.length := by omega
              subst hke_
              refine e_aload_n (pc := 83) Xc (dT hX7_looksForWays 47 rfl) 0 rfl ?_
              refine cl_X7_205 (pc := 84) (k := 0) (n := 0) (S := []) Xc hp3.o (c_goesBack hp3) (dT hX7_looksForWays 48 rfl) rfl (Nat.le_of_ble_eq_true rfl) (Nat.le_of_ble_eq_true rfl) (Nat.le_of_ble_eq_true rfl) rfl (Nat.le_of_ble_eq_true rfl) (fun σ20 hq21 => ?_)
              obtain ⟨hP22, ho23⟩ := hq21
              have hP22 : PX7 σ20 m (upd F 15 (nI ql.length)) T (upA (upA (upA (upA (upA (upA A 3 fr) 6 P_) 7 Q_) 8 S_) 1 X1_) 1 (backF X1_ fr)) := hP22
              rw [back_hi hfr_ (fun j hj => hX1_ j (by omega)), show upA (upA (upA (upA (upA (upA A 3 fr) 6 P_) 7 Q_) 8 S_) 1 X1_) 1 (A 1) = (upA (upA (upA (upA A 3 fr) 6 P_) 7 Q_) 8 S_) from (by funext j_; unfold upA; repeat' split <;> simp_all)] at hP22
              refine e_vret (pc := 87) Xc hQ (dT hX7_looksForWays 49 rfl) (Nat.le_refl _) (Nat.le_refl _) ?_
              exact ⟨ql, P_, Q_, S_, fr, hP22, hPL_, hR_, BIq_e hBI_, (ho3.tr ho23)⟩
            · skip
              have hk1_ : k_ < ql.length := by omega
              have hkm_ := gQ_mem hk1_
              have hv_ := hBI_.1.2.1 _ hkm_
              have hwl_ := hv_.1
              have hG2_ := Gd_setW hG hv_
              have hdl_ := okQ_d hBI_.1 hkm_
              refine e_aload_n (pc := 50) Xc (dT hX7_looksForWays 28 rfl) 0 rfl ?_
              refine e_aload_n (pc := 51) Xc (dT hX7_looksForWays 29 rfl) 0 rfl ?_
              refine gf_X7_31 (pc := 52) Xc (dT hX7_looksForWays 30 rfl) hp3.o rfl ?_
              refine e_iload_n (pc := 55) Xc (dT hX7_looksForWays 31 rfl) 1 rfl ?_
              refine e_ialdN (pc := 56) Xc (dT hX7_looksForWays 32 rfl) hp3.a7 (by decide) rfl k_ rfl (by have := hG.1; omega) (by decide) ?_
              refine e_val (y := Q_ k_) rfl ?_
              refine e_val (y := nI ((gQ ql k_).1)) (hR_.1 k_ hk1_) ?_
              refine cl_X7_236 (pc := 57) (k := 0) (n := 0) (S := []) Xc hp3.o (c_goesTo hp3 hG1_ ((gQ ql k_).1) hwl_) (dT hX7_looksForWays 33 rfl) rfl (Nat.le_of_ble_eq_true rfl) (Nat.le_of_ble_eq_true rfl) (Nat.le_of_ble_eq_true rfl) rfl (Nat.le_of_ble_eq_true rfl) (fun σ25 hq26 => ?_)
              obtain ⟨hP27, ho28⟩ := hq26
              have hP27 : PX7 σ25 m (upd F 15 (nI ql.length)) T (upA (upA (upA (upA (upA (upA A 3 fr) 6 P_) 7 Q_) 8 S_) 1 X1_) 1 (setW X1_ nr (gQ ql k_).1)) := hP27
              rw [upA_2, setW_cg hX1_] at hP27
              refine e_aload_n (pc := 60) Xc (dT hX7_looksForWays 34 rfl) 0 rfl ?_
              refine e_aload_n (pc := 61) Xc (dT hX7_looksForWays 35 rfl) 0 rfl ?_
              refine gf_X7_34 (pc := 62) Xc (dT hX7_looksForWays 36 rfl) hP27.o rfl ?_
              refine e_aload_n (pc := 65) Xc (dT hX7_looksForWays 37 rfl) 0 rfl ?_
              refine gf_X7_31 (pc := 66) Xc (dT hX7_looksForWays 38 rfl) hP27.o rfl ?_
              refine e_iload_n (pc := 69) Xc (dT hX7_looksForWays 39 rfl) 1 rfl ?_
              refine e_ialdN (pc := 70) Xc (dT hX7_looksForWays 40 rfl) hP27.a7 (by decide) rfl k_ rfl (by have := hG.1; omega) (by decide) ?_
              refine e_val (y := Q_ k_) rfl ?_
              refine e_val (y := nI ((gQ ql k_).1)) (hR_.1 k_ hk1_) ?_
              refine e_ialdN (pc := 71) Xc (dT hX7_looksForWays 41 rfl) hP27.a8 (by decide) rfl ((gQ ql k_).1) rfl (by have := hG.1; omega) (by decide) ?_
              refine e_val (y := S_ ((gQ ql k_).1)) rfl ?_
              refine e_val (y := nI ((gQ ql k_).2)) ((hR_.2 _ hwl_).trans (lkQ_mem hBI_.1 hkm_)) ?_
              refine e_iconst (v := 1) (pc := 72) Xc (dT hX7_looksForWays 42 rfl) rfl ?_
              refine e_iaddN (a := (gQ ql k_).2) (b := 1) (pc := 73) Xc (dT hX7_looksForWays 43 rfl) ?_
              refine cl_X7_239 (pc := 74) (k := 0) (n := 0) (S := []) Xc hP27.o (c_goesOnFrom hP27 hG2_ (Hd_setW hT hr4) (hPL_.cg hr4 (fun j h => setW_n h)) (ql := ql) hR_ upd_s hBI_.1 ((gQ ql k_).2 + 1) (by have := hBI_.1.2.2 k_ hk1_; omega)) (dT hX7_looksForWays 44 rfl) rfl (Nat.le_of_ble_eq_true rfl) (Nat.le_of_ble_eq_true rfl) (Nat.le_of_ble_eq_true rfl) rfl (Nat.le_of_ble_eq_true rfl) (fun σ30 hq31 => ?_)
              obtain ⟨Qn_, Sn_, hP32, hRn_, ho33⟩ := hq31
              have hRn_ : RQ Qn_ Sn_ (mL ((gQ ql k_).2 + 1) ql (nbL (setW (A 1) nr (gQ ql k_).1) t nr nb)) := hRn_
              have hP32 : PX7 σ30 m (upd (upd F 15 (nI ql.length)) 15 (nI (mL ((gQ ql k_).2 + 1) ql (nbL (setW (A 1) nr (gQ ql k_).1) t nr nb)).length)) T (upA (upA (upA (upA (upA (upA (upA A 3 fr) 6 P_) 7 Q_) 8 S_) 1 (setW (A 1) nr (gQ ql k_).1)) 7 Qn_) 8 Sn_) := hP32
              rw [upd_2, show (upA (upA (upA (upA (upA (upA (upA A 3 fr) 6 P_) 7 Q_) 8 S_) 1 (setW (A 1) nr (gQ ql k_).1)) 7 Qn_) 8 Sn_) = (upA (upA (upA (upA (upA A 3 fr) 6 P_) 7 Qn_) 8 Sn_) 1 (setW (A 1) nr (gQ ql k_).1)) from (by funext j_; unfold upA; repeat' split <;> simp_all)] at hP32
              refine e_iincN (a := k_) (b := 1) (L' := [(1, .int (nI (k_ + 1))), (0, .ref m)]) (pc := 77) Xc (dT hX7_looksForWays 45 rfl) 1 rfl rfl (by decide) rfl ?_
              refine e_goto (tgt := 42) (pc := 80) Xc (dT hX7_looksForWays 46 rfl) rfl ?_
              refine Ev.pick (L' := [(0, .ref m), (1, .int (nI (k_ + 1)))]) [1, 0] rfl ?_
              exact ih42 (k_ + 1) (mL ((gQ ql k_).2 + 1) ql (nbL (setW (A 1) nr (gQ ql k_).1) t nr nb)) Qn_ Sn_ (setW (A 1) nr (gQ ql k_).1) σ30 (by omega) (by have := (okQ_mL (n := (gQ ql k_).2 + 1) (nbL (setW (A 1) nr (gQ ql k_).1) t nr nb) hBI_.1 (fun c hc => NB_ok hG hv_ hc) (by have := hBI_.1.2.2 k_ hk1_; omega)).2; omega) (BIq_s hG hBI_ hk1_ (fun c => Iff.rfl)) hRn_ (fun j h => setW_n h) hG2_ hP32 ((ho3.tr ho28).tr ho33)
        refine Ev.pick (L' := [(0, .ref m), (1, .int 0)]) [1, 0] rfl ?_
        exact lp42 ((4096 - 0) + 1) 0 ([(wayX (A 1) nr, 0)]) Q0_ S0_ (A 1) σ15 (Nat.lt_succ_self _) (Nat.zero_le _) (BIq_0 hG) hR0_ (fun j h => rfl) hG (by rw [show (upA (upA (upA (upA (upA A 3 fr) 6 P_) 7 Q0_) 8 S0_) 1 (A 1)) = (upA (upA (upA (upA A 3 fr) 6 P_) 7 Q0_) 8 S0_) from (by funext j_; unfold upA; repeat' split <;> simp_all)]; exact hP17) (((ho2.tr ho8).tr ho13).tr ho18)
      · skip
        refine e_aload_n (pc := 13) Xc (dT hX7_looksForWays 7 rfl) 0 rfl ?_
        refine gf_X7_34 (pc := 14) Xc (dT hX7_looksForWays 8 rfl) hp2.o rfl ?_
        refine e_iload_n (pc := 17) Xc (dT hX7_looksForWays 9 rfl) 1 rfl ?_
        refine e_iconst (v := -1) (pc := 18) Xc (dT hX7_looksForWays 10 rfl) rfl ?_
        refine e_iastN (pc := 19) Xc (dT hX7_looksForWays 11 rfl) hp2.a8 rfl k_ rfl (by have := hG.1; omega) (by decide) ?_
        refine Ev.gen (fun z => PX7 z m F T (upA (upA (upA A 6 P_) 8 S_) 8 (upd S_ k_ (-1)))) (hp2.wa8 (g := (upd S_ k_ (-1)))) Off.set (fun σ34 hP35 ho36 => ?_)
        have hP35 : PX7 σ34 m F T (upA (upA A 6 P_) 8 (upd S_ k_ (-1))) := by rw [upA_2] at hP35; exact hP35
        refine e_iincN (a := k_) (b := 1) (L' := [(1, .int (nI (k_ + 1))), (0, .ref m)]) (pc := 20) Xc (dT hX7_looksForWays 12 rfl) 1 rfl rfl (by decide) rfl ?_
        refine e_goto (tgt := 6) (pc := 23) Xc (dT hX7_looksForWays 13 rfl) rfl ?_
        refine Ev.pick (L' := [(0, .ref m), (1, .int (nI (k_ + 1)))]) [1, 0] rfl ?_
        exact ih6 (k_ + 1) (upd S_ k_ (-1)) σ34 (by omega) (by omega) (fun i h => by by_cases e_ : i = k_; (subst e_; rw [upd_s]); (rw [upd_n e_]; exact hi_ i (by omega))) hP35 (ho2.tr ho36)
  refine Ev.pick (L' := [(0, .ref m), (1, .int 0)]) [1, 0] rfl ?_
  exact lp6 ((4096 - 0) + 1) 0 (A 8) σ2 (Nat.lt_succ_self _) (Nat.zero_le _) (fun i h => absurd h (Nat.not_lt_zero _)) (by rw [show upA (upA A 6 P_) 8 (A 8) = upA A 6 P_ from (by funext j_; unfold upA; repeat' split <;> simp_all)]; exact hP4) ho5
