set_option maxRecDepth 100000 in
set_option maxHeartbeats 4000000 in
theorem c_looksForWays {G : xG} {σ : xS} {m : Nat} {F : Nat → Int32} {T : Nat → Nat} {A : Nat → Nat → Int32} (hP : PX7 σ m F T A) {nr nb : Nat} (hG : Gd (A 1) nr nb) {t : xT} (hT : Hd (A 1) t) : CV G yX7_looksForWays cX7_looksForWays 2 none 5 0 0 [.ref m] σ (fun σ1 => ∃ ql P Q S fr, PX7 σ1 m (upd F 15 (nI ql.length)) T (upA (upA (upA (upA A 3 fr) 6 P) 7 Q) 8 S) ∧ PLq P (A 1) t nr nb ∧ RQ Q S ql ∧ RES (A 1) t nr nb ql ∧ Off m σ σ1) := by
  refine Met.ofX (by decide +kernel) (Nat.le_of_ble_eq_true rfl) (fun μ Xc hQ hnm => ?_)
  have Xc : xC G μ cX7_looksForWays 2 RX7 none 5 0 0 := Xc
  have hr4 := hG.r4
  have hb7 := hG.b7
  show Ev G μ 2 0 0 0 [(0, .ref m)] [] σ
  refine e_aload_n (pc := 0) Xc (dT hX7_looksForWays 0 rfl) 0 rfl ?_
  refine cl_X7_233 (pc := 1) (k := 0) (n := 0) (S := []) Xc hP.o (c_looksForPlains hP hG hT) (dT hX7_looksForWays 1 rfl) rfl (Nat.le_of_ble_eq_true rfl) (Nat.le_of_ble_eq_true rfl) (Nat.le_of_ble_eq_true rfl) rfl (Nat.le_of_ble_eq_true rfl) (fun σ2 hq3 => ?_)
  obtain ⟨P_, hP4, hPL_, ho5⟩ := hq3
  refine e_iconst (v := 0) (pc := 4) Xc (dT hX7_looksForWays 2 rfl) rfl ?_
  refine e_istore_n (L' := [(1, .int 0), (0, .ref m)]) (pc := 5) Xc (dT hX7_looksForWays 3 rfl) (by decide) rfl ?_
  have lp6 : ∀ (n6 : Nat) (k_ : Nat) (S_ : Nat → Int32) (σ2 : xS), 4096 - k_ < n6 → (k_ ≤ 4096) → (∀ i, i < k_ → S_ i = -1) → (PX7 σ2 m F T (upA (upA A 6 P_) 8 S_)) → (Off m σ σ2) → Ev G μ 2 0 0 6 [(0, .ref m), (1, .int (nI k_))] [] σ2 := by
    intro n6
    induction n6 with
    | zero => intro k_ S_ σ2 hn; exact absurd hn (Nat.not_lt_zero _)
    | succ n6 ih6 =>
      intro k_ S_ σ2 hn6 hk_ hi_ hp2 ho2
      refine e_iload_n (pc := 6) Xc (dT hX7_looksForWays 4 rfl) 1 rfl ?_
      refine e_sipush (v := 4096) (pc := 7) Xc (dT hX7_looksForWays 5 rfl) rfl ?_
      refine e_icmp_geN (x := k_) (y := 4096) (tgt := 26) (pc := 10) Xc (dT hX7_looksForWays 6 rfl) rfl (by have := hG.1; omega) (by have := hG.1; omega) (fun c10 => ?_) (fun c10 => ?_)
      · skip
        have hke_ : k_ = 4096 := by omega
        refine e_aload_n (pc := 26) Xc (dT hX7_looksForWays 14 rfl) 0 rfl ?_
        refine e_iconst (v := 0) (pc := 27) Xc (dT hX7_looksForWays 15 rfl) rfl ?_
        refine pf_X7_217 (fs' := olX7 m (upd F 15 0) T) (pc := 28) Xc (dT hX7_looksForWays 16 rfl) hp2.o (Nat.le_of_ble_eq_true rfl) rfl ?_
        refine Ev.gen (fun z => PX7 z m (upd F 15 0) T (upA (upA A 6 P_) 8 S_)) (hp2.wf15 (x := 0)) Off.set (fun σ6 hP7 ho8 => ?_)
        refine e_aload_n (pc := 31) Xc (dT hX7_looksForWays 17 rfl) 0 rfl ?_
        refine cl_X7_202 (pc := 32) (k := 0) (n := 0) (S := []) Xc hP7.o (c_keeps hP7) (dT hX7_looksForWays 18 rfl) rfl (Nat.le_of_ble_eq_true rfl) (Nat.le_of_ble_eq_true rfl) (Nat.le_of_ble_eq_true rfl) rfl (Nat.le_of_ble_eq_true rfl) (fun σ10 hq11 => ?_)
        obtain ⟨fr, hP12, hfr_, ho13⟩ := hq11
        have hfr_ : ∀ j, j < 12 → fr j = A 1 j := hfr_
        rw [show upA (upA (upA A 6 P_) 8 S_) 3 fr = (upA (upA (upA A 3 fr) 6 P_) 8 S_) from (by funext j_; unfold upA; repeat' split <;> simp_all)] at hP12
        refine e_aload_n (pc := 35) Xc (dT hX7_looksForWays 19 rfl) 0 rfl ?_
        refine e_iconst (v := 0) (pc := 36) Xc (dT hX7_looksForWays 20 rfl) rfl ?_
        refine cl_X7_223 (pc := 37) (k := 0) (n := 0) (S := []) Xc hP12.o (c_comesTo hP12 hG (ql := []) ⟨fun i h => absurd h (Nat.not_lt_zero _), fun c hc => hi_ c (by omega)⟩ upd_s ⟨List.nodup_nil, fun q h => absurd h (List.not_mem_nil), fun i h => absurd h (Nat.not_lt_zero _)⟩ 0) (dT hX7_looksForWays 21 rfl) rfl (Nat.le_of_ble_eq_true rfl) (Nat.le_of_ble_eq_true rfl) (Nat.le_of_ble_eq_true rfl) rfl (Nat.le_of_ble_eq_true rfl) (fun σ15 hq16 => ?_)
        obtain ⟨Q0_, S0_, hP17, hR0_, ho18⟩ := hq16
        have hR0_ : RQ Q0_ S0_ [(wayX (A 1) nr, 0)] := hR0_
        have hP17 : PX7 σ15 m (upd (upd F 15 0) 15 (nI [(wayX (A 1) nr, 0)].length)) T (upA (upA (upA (upA (upA A 3 fr) 6 P_) 8 S_) 7 Q0_) 8 S0_) := hP17
        rw [upd_2, show (upA (upA (upA (upA (upA A 3 fr) 6 P_) 8 S_) 7 Q0_) 8 S0_) = (upA (upA (upA (upA A 3 fr) 6 P_) 7 Q0_) 8 S0_) from (by funext j_; unfold upA; repeat' split <;> simp_all)] at hP17
        refine e_iconst (v := 0) (pc := 40) Xc (dT hX7_looksForWays 22 rfl) rfl ?_
        refine e_istore_n (L' := [(1, .int 0), (0, .ref m)]) (pc := 41) Xc (dT hX7_looksForWays 23 rfl) (by decide) rfl ?_
        have lp42 : ∀ (n42 : Nat) (k_ : Nat) (ql : wQ) (Q_ S_ X1_ : Nat → Int32) (σ3 : xS), 4096 - k_ < n42 → (k_ ≤ ql.length) → (BIq (A 1) t nr nb ql k_) → (RQ Q_ S_ ql) → (∀ j, ¬ (1 ≤ j ∧ j ≤ nr) → X1_ j = A 1 j) → (Gd X1_ nr nb) → (PX7 σ3 m (upd F 15 (nI ql.length)) T (upA (upA (upA (upA (upA A 3 fr) 6 P_) 7 Q_) 8 S_) 1 X1_)) → (Off m σ σ3) → Ev G μ 2 0 0 42 [(0, .ref m), (1, .int (nI k_))] [] σ3 := by
          intro n42
          induction n42 with
          | zero => intro k_ ql Q_ S_ X1_ σ3 hn; exact absurd hn (Nat.not_lt_zero _)
          | succ n42 ih42 =>
            intro k_ ql Q_ S_ X1_ σ3 hn42 hk_ hBI_ hR_ hX1_ hG1_ hp3 ho3
            have hle_ := okQ_le hBI_.1
            refine e_iload_n (pc := 42) Xc (dT hX7_looksForWays 24 rfl) 1 rfl ?_
            refine e_aload_n (pc := 43) Xc (dT hX7_looksForWays 25 rfl) 0 rfl ?_
            refine gf_X7_217 (pc := 44) Xc (dT hX7_looksForWays 26 rfl) hp3.o rfl ?_
            refine e_val (y := nI ql.length) rfl ?_
            refine e_val (y := nI ql.length) rfl ?_
            refine e_icmp_geN (x := k_) (y := ql.length) (tgt := 83) (pc := 47) Xc (dT hX7_looksForWays 27 rfl) rfl (by have := hG.1; omega) (by have := hG.1; omega) (fun c47 => ?_) (fun c47 => ?_)
            · skip
              have hke_ : k_ = ql.length := by omega
              subst hke_
              refine e_aload_n (pc := 83) Xc (dT hX7_looksForWays 47 rfl) 0 rfl ?_
              refine cl_X7_205 (pc := 84) (k := 0) (n := 0) (S := []) Xc hp3.o (c_goesBack hp3) (dT hX7_looksForWays 48 rfl) rfl (Nat.le_of_ble_eq_true rfl) (Nat.le_of_ble_eq_true rfl) (Nat.le_of_ble_eq_true rfl) rfl (Nat.le_of_ble_eq_true rfl) (fun σ20 hq21 => ?_)
              obtain ⟨hP22, ho23⟩ := hq21
              have hP22 : PX7 σ20 m (upd F 15 (nI ql.length)) T (upA (upA (upA (upA (upA (upA A 3 fr) 6 P_) 7 Q_) 8 S_) 1 X1_) 1 (backF X1_ fr)) := hP22
              rw [back_hi hfr_ (fun j hj => hX1_ j (by omega)), show upA (upA (upA (upA (upA (upA A 3 fr) 6 P_) 7 Q_) 8 S_) 1 X1_) 1 (A 1) = (upA (upA (upA (upA A 3 fr) 6 P_) 7 Q_) 8 S_) from (by funext j_; unfold upA; repeat' split <;> simp_all)] at hP22
              refine e_vret (pc := 87) Xc hQ (dT hX7_looksForWays 49 rfl) (Nat.le_refl _) (Nat.le_refl _) ?_
              exact ⟨ql, P_, Q_, S_, fr, hP22, hPL_, hR_, BIq_e hBI_, (ho3.tr ho23)⟩
            · skip
              have hk1_ : k_ < ql.length := by omega
              have hkm_ := gQ_mem hk1_
              have hv_ := hBI_.1.2.1 _ hkm_
              have hwl_ := hv_.1
              have hG2_ := Gd_setW hG hv_
              have hdl_ := okQ_d hBI_.1 hkm_
              refine e_aload_n (pc := 50) Xc (dT hX7_looksForWays 28 rfl) 0 rfl ?_
              refine e_aload_n (pc := 51) Xc (dT hX7_looksForWays 29 rfl) 0 rfl ?_
              refine gf_X7_31 (pc := 52) Xc (dT hX7_looksForWays 30 rfl) hp3.o rfl ?_
              refine e_iload_n (pc := 55) Xc (dT hX7_looksForWays 31 rfl) 1 rfl ?_
              refine e_ialdN (pc := 56) Xc (dT hX7_looksForWays 32 rfl) hp3.a7 (by decide) rfl k_ rfl (by have := hG.1; omega) (by decide) ?_
              refine e_val (y := Q_ k_) rfl ?_
              refine e_val (y := nI ((gQ ql k_).1)) (hR_.1 k_ hk1_) ?_
              refine cl_X7_236 (pc := 57) (k := 0) (n := 0) (S := []) Xc hp3.o (c_goesTo hp3 hG1_ ((gQ ql k_).1) hwl_) (dT hX7_looksForWays 33 rfl) rfl (Nat.le_of_ble_eq_true rfl) (Nat.le_of_ble_eq_true rfl) (Nat.le_of_ble_eq_true rfl) rfl (Nat.le_of_ble_eq_true rfl) (fun σ25 hq26 => ?_)
              obtain ⟨hP27, ho28⟩ := hq26
              have hP27 : PX7 σ25 m (upd F 15 (nI ql.length)) T (upA (upA (upA (upA (upA (upA A 3 fr) 6 P_) 7 Q_) 8 S_) 1 X1_) 1 (setW X1_ nr (gQ ql k_).1)) := hP27
              rw [upA_2, setW_cg hX1_] at hP27
              refine e_aload_n (pc := 60) Xc (dT hX7_looksForWays 34 rfl) 0 rfl ?_
              refine e_aload_n (pc := 61) Xc (dT hX7_looksForWays 35 rfl) 0 rfl ?_
              refine gf_X7_34 (pc := 62) Xc (dT hX7_looksForWays 36 rfl) hP27.o rfl ?_
              refine e_aload_n (pc := 65) Xc (dT hX7_looksForWays 37 rfl) 0 rfl ?_
              refine gf_X7_31 (pc := 66) Xc (dT hX7_looksForWays 38 rfl) hP27.o rfl ?_
              refine e_iload_n (pc := 69) Xc (dT hX7_looksForWays 39 rfl) 1 rfl ?_
              refine e_ialdN (pc := 70) Xc (dT hX7_looksForWays 40 rfl) hP27.a7 (by decide) rfl k_ rfl (by have := hG.1; omega) (by decide) ?_
              refine e_val (y := Q_ k_) rfl ?_
              refine e_val (y := nI ((gQ ql k_).1)) (hR_.1 k_ hk1_) ?_
              refine e_ialdN (pc := 71) Xc (dT hX7_looksForWays 41 rfl) hP27.a8 (by decide) rfl ((gQ ql k_).1) rfl (by have := hG.1; omega) (by decide) ?_
              refine e_val (y := S_ ((gQ ql k_).1)) rfl ?_
              refine e_val (y := nI ((gQ ql k_).2)) ((hR_.2 _ hwl_).trans (lkQ_mem hBI_.1 hkm_)) ?_
              refine e_iconst (v := 1) (pc := 72) Xc (dT hX7_looksForWays 42 rfl) rfl ?_
              refine e_iaddN (a := (gQ ql k_).2) (b := 1) (pc := 73) Xc (dT hX7_looksForWays 43 rfl) ?_
              refine cl_X7_239 (pc := 74) (k := 0) (n := 0) (S := []) Xc hP27.o (c_goesOnFrom hP27 hG2_ (Hd_setW hT hr4) (hPL_.cg hr4 (fun j h => setW_n h)) (ql := ql) hR_ upd_s hBI_.1 ((gQ ql k_).2 + 1) (by have := hBI_.1.2.2 k_ hk1_; omega)) (dT hX7_looksForWays 44 rfl) rfl (Nat.le_of_ble_eq_true rfl) (Nat.le_of_ble_eq_true rfl) (Nat.le_of_ble_eq_true rfl) rfl (Nat.le_of_ble_eq_true rfl) (fun σ30 hq31 => ?_)
              obtain ⟨Qn_, Sn_, hP32, hRn_, ho33⟩ := hq31
              have hRn_ : RQ Qn_ Sn_ (mL ((gQ ql k_).2 + 1) ql (nbL (setW (A 1) nr (gQ ql k_).1) t nr nb)) := hRn_
              have hP32 : PX7 σ30 m (upd (upd F 15 (nI ql.length)) 15 (nI (mL ((gQ ql k_).2 + 1) ql (nbL (setW (A 1) nr (gQ ql k_).1) t nr nb)).length)) T (upA (upA (upA (upA (upA (upA (upA A 3 fr) 6 P_) 7 Q_) 8 S_) 1 (setW (A 1) nr (gQ ql k_).1)) 7 Qn_) 8 Sn_) := hP32
              rw [upd_2, show (upA (upA (upA (upA (upA (upA (upA A 3 fr) 6 P_) 7 Q_) 8 S_) 1 (setW (A 1) nr (gQ ql k_).1)) 7 Qn_) 8 Sn_) = (upA (upA (upA (upA (upA A 3 fr) 6 P_) 7 Qn_) 8 Sn_) 1 (setW (A 1) nr (gQ ql k_).1)) from (by funext j_; unfold upA; repeat' split <;> simp_all)] at hP32
              refine e_iincN (a := k_) (b := 1) (L' := [(1, .int (nI (k_ + 1))), (0, .ref m)]) (pc := 77) Xc (dT hX7_looksForWays 45 rfl) 1 rfl rfl (by decide) rfl ?_
              refine e_goto (tgt := 42) (pc := 80) Xc (dT hX7_looksForWays 46 rfl) rfl ?_
              refine Ev.pick (L' := [(0, .ref m), (1, .int (nI (k_ + 1)))]) [1, 0] rfl ?_
              exact ih42 (k_ + 1) (mL ((gQ ql k_).2 + 1) ql (nbL (setW (A 1) nr (gQ ql k_).1) t nr nb)) Qn_ Sn_ (setW (A 1) nr (gQ ql k_).1) σ30 (by omega) (by have := (okQ_mL (n := (gQ ql k_).2 + 1) (nbL (setW (A 1) nr (gQ ql k_).1) t nr nb) hBI_.1 (fun c hc => NB_ok hG hv_ hc) (by have := hBI_.1.2.2 k_ hk1_; omega)).2; omega) (BIq_s hG hBI_ hk1_ (fun c => Iff.rfl)) hRn_ (fun j h => setW_n h) hG2_ hP32 ((ho3.tr ho28).tr ho33)
        refine Ev.pick (L' := [(0, .ref m), (1, .int 0)]) [1, 0] rfl ?_
        exact lp42 ((4096 - 0) + 1) 0 ([(wayX (A 1) nr, 0)]) Q0_ S0_ (A 1) σ15 (Nat.lt_succ_self _) (Nat.zero_le _) (BIq_0 hG) hR0_ (fun j h => rfl) hG (by rw [show (upA (upA (upA (upA (upA A 3 fr) 6 P_) 7 Q0_) 8 S0_) 1 (A 1)) = (upA (upA (upA (upA A 3 fr) 6 P_) 7 Q0_) 8 S0_) from (by funext j_; unfold upA; repeat' split <;> simp_all)]; exact hP17) (((ho2.tr ho8).tr ho13).tr ho18)
      · skip
        refine e_aload_n (pc := 13) Xc (dT hX7_looksForWays 7 rfl) 0 rfl ?_
        refine gf_X7_34 (pc := 14) Xc (dT hX7_looksForWays 8 rfl) hp2.o rfl ?_
        refine e_iload_n (pc := 17) Xc (dT hX7_looksForWays 9 rfl) 1 rfl ?_
        refine e_iconst (v := -1) (pc := 18) Xc (dT hX7_looksForWays 10 rfl) rfl ?_
        refine e_iastN (pc := 19) Xc (dT hX7_looksForWays 11 rfl) hp2.a8 rfl k_ rfl (by have := hG.1; omega) (by decide) ?_
        refine Ev.gen (fun z => PX7 z m F T (upA (upA (upA A 6 P_) 8 S_) 8 (upd S_ k_ (-1)))) (hp2.wa8 (g := (upd S_ k_ (-1)))) Off.set (fun σ34 hP35 ho36 => ?_)
        have hP35 : PX7 σ34 m F T (upA (upA A 6 P_) 8 (upd S_ k_ (-1))) := by rw [upA_2] at hP35; exact hP35
        refine e_iincN (a := k_) (b := 1) (L' := [(1, .int (nI (k_ + 1))), (0, .ref m)]) (pc := 20) Xc (dT hX7_looksForWays 12 rfl) 1 rfl rfl (by decide) rfl ?_
        refine e_goto (tgt := 6) (pc := 23) Xc (dT hX7_looksForWays 13 rfl) rfl ?_
        refine Ev.pick (L' := [(0, .ref m), (1, .int (nI (k_ + 1)))]) [1, 0] rfl ?_
        exact ih6 (k_ + 1) (upd S_ k_ (-1)) σ34 (by omega) (by omega) (fun i h => by by_cases e_ : i = k_; (subst e_; rw [upd_s]); (rw [upd_n e_]; exact hi_ i (by omega))) hP35 (ho2.tr ho36)
  refine Ev.pick (L' := [(0, .ref m), (1, .int 0)]) [1, 0] rfl ?_
  exact lp6 ((4096 - 0) + 1) 0 (A 8) σ2 (Nat.lt_succ_self _) (Nat.zero_le _) (fun i h => absurd h (Nat.not_lt_zero _)) (by rw [show upA (upA A 6 P_) 8 (A 8) = upA A 6 P_ from (by funext j_; unfold upA; repeat' split <;> simp_all)]; exact hP4) ho5
set_option maxRecDepth 100000 in
set_option maxHeartbeats 4000000 in
theorem c_fewOf {G : xG} {σ : xS} {m : Nat} {F : Nat → Int32} {T : Nat → Nat} {A : Nat → Nat → Int32} (hP : PX7 σ m F T A) {nr nb : Nat} (hG : Gd (A 1) nr nb) {ql : wQ} (hRQ : RQ (A 7) (A 8) ql) (hF : F 15 = nI ql.length) (hok : okQ nr nb ql) (r b : Nat) (hr : r < 4) : CI G yX7_fewOf cX7_fewOf 4 (some .int) 1 0 0 [.ref m, .int (nI r), .int (nI b)] σ (fun z σ1 => z = fewL ql r (nI b) ∧ σ1 = σ) := by
  refine Met.ofX (by decide +kernel) (Nat.le_of_ble_eq_true rfl) (fun μ Xc hQ hnm => ?_)
  have Xc : xC G μ cX7_fewOf 4 RX7 (some .int) 1 0 0 := Xc
  have hle_ := okQ_le hok
  have lp2 : ∀ (n2 : Nat) (k_ : Nat), ql.length - k_ < n2 → (k_ ≤ ql.length) → ((ql.take k_).find? (fun q => hsW q.1 r == nI b) = none) → Ev G μ 4 0 0 2 [(0, .ref m), (1, .int (nI r)), (2, .int (nI b)), (3, .int (nI k_))] [] σ := by
    intro n2
    induction n2 with
    | zero => intro k_ hn; exact absurd hn (Nat.not_lt_zero _)
    | succ n2 ih2 =>
      intro k_ hn2 hk_ hs_
      refine e_iload_n (pc := 2) Xc (dT hX7_fewOf 2 rfl) 3 rfl ?_
      refine e_aload_n (pc := 3) Xc (dT hX7_fewOf 3 rfl) 0 rfl ?_
      refine gf_X7_217 (pc := 4) Xc (dT hX7_fewOf 4 rfl) hP.o rfl ?_
      refine e_val (y := nI ql.length) hF ?_
      refine e_icmp_geN (x := k_) (y := ql.length) (tgt := 42) (pc := 7) Xc (dT hX7_fewOf 5 rfl) rfl (by have := hG.1; omega) (by have := hG.1; omega) (fun c7 => ?_) (fun c7 => ?_)
      · skip
        have hke_ : k_ = ql.length := by omega
        refine e_bipush (v := -5) (pc := 42) Xc (dT hX7_fewOf 24 rfl) rfl ?_
        refine e_iret (pc := 44) Xc hQ (dT hX7_fewOf 25 rfl) (Nat.le_refl _) (Nat.le_refl _) ?_
        rw [tk_e (by omega)] at hs_
        exact ⟨(few_miss hs_).symm, rfl⟩
      · skip
        have hk1_ : k_ < ql.length := by omega
        have hkm_ := gQ_mem hk1_
        have hwl_ := (hok.2.1 _ hkm_).1
        refine e_aload_n (pc := 10) Xc (dT hX7_fewOf 6 rfl) 0 rfl ?_
        refine gf_X7_31 (pc := 11) Xc (dT hX7_fewOf 7 rfl) hP.o rfl ?_
        refine e_iload_n (pc := 14) Xc (dT hX7_fewOf 8 rfl) 3 rfl ?_
        refine e_ialdN (pc := 15) Xc (dT hX7_fewOf 9 rfl) hP.a7 (by decide) rfl k_ rfl (by have := hG.1; omega) (by decide) ?_
        refine e_val (y := nI ((gQ ql k_).1)) (hRQ.1 k_ hk1_) ?_
        refine e_iload_n (pc := 16) Xc (dT hX7_fewOf 10 rfl) 1 rfl ?_
        refine cl_X7_211 (pc := 17) (k := 0) (n := 0) (S := []) Xc (c_hasIn ((gQ ql k_).1) r (by omega) (by omega)) (dT hX7_fewOf 11 rfl) rfl (Nat.le_of_ble_eq_true rfl) (Nat.le_of_ble_eq_true rfl) (Nat.le_of_ble_eq_true rfl) rfl (Nat.le_of_ble_eq_true rfl) (fun r1 σ2 hq3 => ?_)
        obtain ⟨r1e, r1s⟩ := hq3
        have r1e := r1e.symm; subst r1e; have r1s := r1s.symm; subst r1s
        refine e_iload_n (pc := 20) Xc (dT hX7_fewOf 12 rfl) 2 rfl ?_
        refine e_icmp_ne (tgt := 36) (pc := 21) Xc (dT hX7_fewOf 13 rfl) rfl (fun c21 => ?_) (fun c21 => ?_)
        · skip
          refine e_iincN (a := k_) (b := 1) (L' := [(3, .int (nI (k_ + 1))), (0, .ref m), (1, .int (nI r)), (2, .int (nI b))]) (pc := 36) Xc (dT hX7_fewOf 22 rfl) 3 rfl rfl (by decide) rfl ?_
          refine e_goto (tgt := 2) (pc := 39) Xc (dT hX7_fewOf 23 rfl) rfl ?_
          refine Ev.pick (L' := [(0, .ref m), (1, .int (nI r)), (2, .int (nI b)), (3, .int (nI (k_ + 1)))]) [1, 2, 3, 0] rfl ?_
          exact ih2 (k_ + 1) (by omega) (by omega) (by rw [tk_s hk1_, List.find?_append, hs_]; simp [c21])
        · skip
          refine e_aload_n (pc := 24) Xc (dT hX7_fewOf 14 rfl) 0 rfl ?_
          refine gf_X7_34 (pc := 25) Xc (dT hX7_fewOf 15 rfl) hP.o rfl ?_
          refine e_aload_n (pc := 28) Xc (dT hX7_fewOf 16 rfl) 0 rfl ?_
          refine gf_X7_31 (pc := 29) Xc (dT hX7_fewOf 17 rfl) hP.o rfl ?_
          refine e_iload_n (pc := 32) Xc (dT hX7_fewOf 18 rfl) 3 rfl ?_
          refine e_ialdN (pc := 33) Xc (dT hX7_fewOf 19 rfl) hP.a7 (by decide) rfl k_ rfl (by have := hG.1; omega) (by decide) ?_
          refine e_val (y := nI ((gQ ql k_).1)) (hRQ.1 k_ hk1_) ?_
          refine e_ialdN (pc := 34) Xc (dT hX7_fewOf 20 rfl) hP.a8 (by decide) rfl ((gQ ql k_).1) rfl (by have := hG.1; omega) (by decide) ?_
          refine e_val (y := nI ((gQ ql k_).2)) ((hRQ.2 _ hwl_).trans (lkQ_mem hok hkm_)) ?_
          refine e_iret (pc := 35) Xc hQ (dT hX7_fewOf 21 rfl) (Nat.le_refl _) (Nat.le_refl _) ?_
          exact ⟨(few_hit hk1_ hs_ c21).symm, rfl⟩
  show Ev G μ 4 0 0 0 [(0, .ref m), (1, .int (nI r)), (2, .int (nI b))] [] σ
  refine e_iconst (v := 0) (pc := 0) Xc (dT hX7_fewOf 0 rfl) rfl ?_
  refine e_istore_n (L' := [(3, .int 0), (0, .ref m), (1, .int (nI r)), (2, .int (nI b))]) (pc := 1) Xc (dT hX7_fewOf 1 rfl) (by decide) rfl ?_
  refine Ev.pick (L' := [(0, .ref m), (1, .int (nI r)), (2, .int (nI b)), (3, .int 0)]) [1, 2, 3, 0] rfl ?_
  exact lp2 ((ql.length - 0) + 1) 0 (Nat.lt_succ_self _) (Nat.zero_le _) rfl
set_option maxRecDepth 100000 in
set_option maxHeartbeats 4000000 in
theorem c_reachOf {G : xG} {σ : xS} {m : Nat} {F : Nat → Int32} {T : Nat → Nat} {A : Nat → Nat → Int32} (hP : PX7 σ m F T A) {nr nb : Nat} (hG : Gd (A 1) nr nb) {ql : wQ} (hRQ : RQ (A 7) (A 8) ql) (hF : F 15 = nI ql.length) (hok : okQ nr nb ql) (r : Nat) (hr : r < 4) : CI G yX7_reachOf cX7_reachOf 4 (some .int) 2 0 0 [.ref m, .int (nI r)] σ (fun z σ1 => z = reachL ql nb r ∧ σ1 = σ) := by
  refine Met.ofX (by decide +kernel) (Nat.le_of_ble_eq_true rfl) (fun μ Xc hQ hnm => ?_)
  have Xc : xC G μ cX7_reachOf 4 RX7 (some .int) 2 0 0 := Xc
  have hle_ := okQ_le hok
  have hb7 := hG.b7
  have lp4 : ∀ (n4 : Nat) (b_ : Nat) (ac_ : Int32), nb - b_ < n4 → (b_ ≤ nb) → (ac_ = itr (fun b a => a ||| (if fewL ql r (nI b) = -5 then (0 : Int32) else 1 <<< (nI b &&& 31))) 0 b_) → Ev G μ 4 0 0 4 [(0, .ref m), (1, .int (nI r)), (2, .int ac_), (3, .int (nI b_))] [] σ := by
    intro n4
    induction n4 with
    | zero => intro b_ ac_ hn; exact absurd hn (Nat.not_lt_zero _)
    | succ n4 ih4 =>
      intro b_ ac_ hn4 hb_ ha_
      refine e_iload_n (pc := 4) Xc (dT hX7_reachOf 4 rfl) 3 rfl ?_
      refine e_aload_n (pc := 5) Xc (dT hX7_reachOf 5 rfl) 0 rfl ?_
      refine gf_X7_9 (pc := 6) Xc (dT hX7_reachOf 6 rfl) hP.o rfl ?_
      refine e_bipush (v := 13) (pc := 9) Xc (dT hX7_reachOf 7 rfl) rfl ?_
      refine e_ialdN (pc := 11) Xc (dT hX7_reachOf 8 rfl) hP.a1 (by decide) rfl 13 rfl (by have := hG.1; omega) (by decide) ?_
      refine e_val (y := nI nb) hG.1.2.2.2 ?_
      refine e_icmp_geN (x := b_) (y := nb) (tgt := 42) (pc := 12) Xc (dT hX7_reachOf 9 rfl) rfl (by have := hG.1; omega) (by have := hG.1; omega) (fun c12 => ?_) (fun c12 => ?_)
      · skip
        refine e_iload_n (pc := 42) Xc (dT hX7_reachOf 26 rfl) 2 rfl ?_
        refine e_iret (pc := 43) Xc hQ (dT hX7_reachOf 27 rfl) (Nat.le_refl _) (Nat.le_refl _) ?_
        refine ⟨?_, rfl⟩
        have hbe_ : b_ = nb := by omega
        subst hbe_
        exact ha_
      · skip
        refine e_iload_n (pc := 15) Xc (dT hX7_reachOf 10 rfl) 2 rfl ?_
        refine e_aload_n (pc := 16) Xc (dT hX7_reachOf 11 rfl) 0 rfl ?_
        refine e_iload_n (pc := 17) Xc (dT hX7_reachOf 12 rfl) 1 rfl ?_
        refine e_iload_n (pc := 18) Xc (dT hX7_reachOf 13 rfl) 3 rfl ?_
        refine cl_X7_245 (pc := 19) (k := 0) (n := 0) (S := [.int ac_]) Xc hP.o (c_fewOf hP hG hRQ hF hok r b_ (by omega)) (dT hX7_reachOf 14 rfl) rfl (Nat.le_of_ble_eq_true rfl) (Nat.le_of_ble_eq_true rfl) (Nat.le_of_ble_eq_true rfl) rfl (Nat.le_of_ble_eq_true rfl) (fun r1 σ2 hq3 => ?_)
        obtain ⟨r1e, r1s⟩ := hq3
        have r1e := r1e.symm; subst r1e; have r1s := r1s.symm; subst r1s
        refine e_bipush (v := -5) (pc := 22) Xc (dT hX7_reachOf 15 rfl) rfl ?_
        refine e_icmp_eq (tgt := 33) (pc := 24) Xc (dT hX7_reachOf 16 rfl) rfl (fun c24 => ?_) (fun c24 => ?_)
        · skip
          refine e_iconst (v := 0) (pc := 33) Xc (dT hX7_reachOf 21 rfl) rfl ?_
          refine e_ior (pc := 34) Xc (dT hX7_reachOf 22 rfl) ?_
          refine e_istore_n (L' := [(2, .int (ac_ ||| 0)), (0, .ref m), (1, .int (nI r)), (3, .int (nI b_))]) (pc := 35) Xc (dT hX7_reachOf 23 rfl) (by decide) rfl ?_
          refine e_iincN (a := b_) (b := 1) (L' := [(3, .int (nI (b_ + 1))), (2, .int (ac_ ||| 0)), (0, .ref m), (1, .int (nI r))]) (pc := 36) Xc (dT hX7_reachOf 24 rfl) 3 rfl rfl (by decide) rfl ?_
          refine e_goto (tgt := 4) (pc := 39) Xc (dT hX7_reachOf 25 rfl) rfl ?_
          refine Ev.pick (L' := [(0, .ref m), (1, .int (nI r)), (2, .int (ac_ ||| 0)), (3, .int (nI (b_ + 1)))]) [2, 3, 1, 0] rfl ?_
          exact ih4 (b_ + 1) (ac_ ||| 0) (by omega) (by omega) (by rw [itr, ← ha_, if_pos c24])
        · skip
          refine e_iconst (v := 1) (pc := 27) Xc (dT hX7_reachOf 17 rfl) rfl ?_
          refine e_iload_n (pc := 28) Xc (dT hX7_reachOf 18 rfl) 3 rfl ?_
          refine e_ishl (pc := 29) Xc (dT hX7_reachOf 19 rfl) ?_
          refine e_goto (tgt := 34) (pc := 30) Xc (dT hX7_reachOf 20 rfl) rfl ?_
          refine e_ior (pc := 34) Xc (dT hX7_reachOf 22 rfl) ?_
          refine e_istore_n (L' := [(2, .int (ac_ ||| (1 <<< ((nI b_) &&& 31)))), (0, .ref m), (1, .int (nI r)), (3, .int (nI b_))]) (pc := 35) Xc (dT hX7_reachOf 23 rfl) (by decide) rfl ?_
          refine e_iincN (a := b_) (b := 1) (L' := [(3, .int (nI (b_ + 1))), (2, .int (ac_ ||| (1 <<< ((nI b_) &&& 31)))), (0, .ref m), (1, .int (nI r))]) (pc := 36) Xc (dT hX7_reachOf 24 rfl) 3 rfl rfl (by decide) rfl ?_
          refine e_goto (tgt := 4) (pc := 39) Xc (dT hX7_reachOf 25 rfl) rfl ?_
          refine Ev.pick (L' := [(0, .ref m), (1, .int (nI r)), (2, .int (ac_ ||| (1 <<< ((nI b_) &&& 31)))), (3, .int (nI (b_ + 1)))]) [2, 3, 1, 0] rfl ?_
          exact ih4 (b_ + 1) (ac_ ||| (1 <<< ((nI b_) &&& 31))) (by omega) (by omega) (by rw [itr, ← ha_, if_neg c24])
  show Ev G μ 4 0 0 0 [(0, .ref m), (1, .int (nI r))] [] σ
  refine e_iconst (v := 0) (pc := 0) Xc (dT hX7_reachOf 0 rfl) rfl ?_
  refine e_istore_n (L' := [(2, .int 0), (0, .ref m), (1, .int (nI r))]) (pc := 1) Xc (dT hX7_reachOf 1 rfl) (by decide) rfl ?_
  refine e_iconst (v := 0) (pc := 2) Xc (dT hX7_reachOf 2 rfl) rfl ?_
  refine e_istore_n (L' := [(3, .int 0), (2, .int 0), (0, .ref m), (1, .int (nI r))]) (pc := 3) Xc (dT hX7_reachOf 3 rfl) (by decide) rfl ?_
  refine Ev.pick (L' := [(0, .ref m), (1, .int (nI r)), (2, .int 0), (3, .int 0)]) [2, 3, 1, 0] rfl ?_
  exact lp4 ((nb - 0) + 1) 0 0 (Nat.lt_succ_self _) (Nat.zero_le _) rfl
set_option maxRecDepth 100000 in
set_option maxHeartbeats 4000000 in
theorem c_plainTotal {G : xG} {σ : xS} {m : Nat} {F : Nat → Int32} {T : Nat → Nat} {A : Nat → Nat → Int32} (hP : PX7 σ m F T A) {nr nb : Nat} (hG : Gd (A 1) nr nb) {t : xT} (hT : Hd (A 1) t) (hPL : PLq (A 6) (A 1) t nr nb) : CI G yX7_plainTotal cX7_plainTotal 3 (some .int) 2 0 0 [.ref m] σ (fun z σ1 => z = totF (A 1) t nr ∧ σ1 = σ) := by
  refine Met.ofX (by decide +kernel) (Nat.le_of_ble_eq_true rfl) (fun μ Xc hQ hnm => ?_)
  have Xc : xC G μ cX7_plainTotal 3 RX7 (some .int) 2 0 0 := Xc
  have hr4 := hG.r4
  have hb7 := hG.b7
  have lp4 : ∀ (n4 : Nat) (r_ : Nat) (ac_ : Int32), nr - r_ < n4 → (r_ ≤ nr) → (ac_ = itr (fun r a => a + (if A 1 (1 + r) = -1 then 0 else likF (A 1) t r (A 1 (1 + r)).toNatClampNeg)) 0 r_) → Ev G μ 3 0 0 4 [(0, .ref m), (2, .int (nI r_)), (1, .int ac_)] [] σ := by
    intro n4
    induction n4 with
    | zero => intro r_ ac_ hn; exact absurd hn (Nat.not_lt_zero _)
    | succ n4 ih4 =>
      intro r_ ac_ hn4 hr_ ha_
      refine e_iload_n (pc := 4) Xc (dT hX7_plainTotal 4 rfl) 1 rfl ?_
      refine e_aload_n (pc := 5) Xc (dT hX7_plainTotal 5 rfl) 0 rfl ?_
      refine gf_X7_9 (pc := 6) Xc (dT hX7_plainTotal 6 rfl) hP.o rfl ?_
      refine e_bipush (v := 12) (pc := 9) Xc (dT hX7_plainTotal 7 rfl) rfl ?_
      refine e_ialdN (pc := 11) Xc (dT hX7_plainTotal 8 rfl) hP.a1 (by decide) rfl 12 rfl (by have := hG.1; omega) (by decide) ?_
      refine e_val (y := nI nr) hG.1.2.2.1 ?_
      refine e_icmp_geN (x := r_) (y := nr) (tgt := 53) (pc := 12) Xc (dT hX7_plainTotal 9 rfl) rfl (by have := hG.1; omega) (by have := hG.1; omega) (fun c12 => ?_) (fun c12 => ?_)
      · skip
        refine e_iload_n (pc := 53) Xc (dT hX7_plainTotal 34 rfl) 2 rfl ?_
        refine e_iret (pc := 54) Xc hQ (dT hX7_plainTotal 35 rfl) (Nat.le_refl _) (Nat.le_refl _) ?_
        refine ⟨?_, rfl⟩
        have hre_ : r_ = nr := by omega
        subst hre_
        exact ha_
      · skip
        refine e_iload_n (pc := 15) Xc (dT hX7_plainTotal 10 rfl) 2 rfl ?_
        refine e_aload_n (pc := 16) Xc (dT hX7_plainTotal 11 rfl) 0 rfl ?_
        refine gf_X7_9 (pc := 17) Xc (dT hX7_plainTotal 12 rfl) hP.o rfl ?_
        refine e_iconst (v := 1) (pc := 20) Xc (dT hX7_plainTotal 13 rfl) rfl ?_
        refine e_iload_n (pc := 21) Xc (dT hX7_plainTotal 14 rfl) 1 rfl ?_
        refine e_iaddN (a := 1) (b := r_) (pc := 22) Xc (dT hX7_plainTotal 15 rfl) ?_
        refine e_ialdN (pc := 23) Xc (dT hX7_plainTotal 16 rfl) hP.a1 (by decide) rfl (1 + r_) rfl (by have := hG.1; omega) (by decide) ?_
        refine e_iconst (v := -1) (pc := 24) Xc (dT hX7_plainTotal 17 rfl) rfl ?_
        refine e_icmp_ne (tgt := 32) (pc := 25) Xc (dT hX7_plainTotal 18 rfl) rfl (fun c25 => ?_) (fun c25 => ?_)
        · skip
          obtain ⟨hh_, hhl_, hhe_⟩ := hG.has (r := r_) (by omega) c25
          refine e_aload_n (pc := 32) Xc (dT hX7_plainTotal 21 rfl) 0 rfl ?_
          refine e_iload_n (pc := 33) Xc (dT hX7_plainTotal 22 rfl) 1 rfl ?_
          refine e_aload_n (pc := 34) Xc (dT hX7_plainTotal 23 rfl) 0 rfl ?_
          refine gf_X7_9 (pc := 35) Xc (dT hX7_plainTotal 24 rfl) hP.o rfl ?_
          refine e_iconst (v := 1) (pc := 38) Xc (dT hX7_plainTotal 25 rfl) rfl ?_
          refine e_iload_n (pc := 39) Xc (dT hX7_plainTotal 26 rfl) 1 rfl ?_
          refine e_iaddN (a := 1) (b := r_) (pc := 40) Xc (dT hX7_plainTotal 27 rfl) ?_
          refine e_ialdN (pc := 41) Xc (dT hX7_plainTotal 28 rfl) hP.a1 (by decide) rfl (1 + r_) rfl (by have := hG.1; omega) (by decide) ?_
          refine e_val (y := nI hh_) hhe_ ?_
          refine cl_X7_220 (pc := 42) (k := 0) (n := 0) (S := [.int ac_]) Xc hP.o (c_plainLiking hP hG hT hPL r_ hh_ (by omega) (by omega)) (dT hX7_plainTotal 29 rfl) rfl (Nat.le_of_ble_eq_true rfl) (Nat.le_of_ble_eq_true rfl) (Nat.le_of_ble_eq_true rfl) rfl (Nat.le_of_ble_eq_true rfl) (fun r1 σ2 hq3 => ?_)
          obtain ⟨r1e, r1s⟩ := hq3
          have r1e := r1e.symm; subst r1e; have r1s := r1s.symm; subst r1s
          refine e_iadd (pc := 45) Xc (dT hX7_plainTotal 30 rfl) ?_
          refine e_istore_n (L' := [(1, .int (ac_ + (likF (A 1) t r_ hh_))), (0, .ref m), (2, .int (nI r_))]) (pc := 46) Xc (dT hX7_plainTotal 31 rfl) (by decide) rfl ?_
          refine e_iincN (a := r_) (b := 1) (L' := [(2, .int (nI (r_ + 1))), (1, .int (ac_ + (likF (A 1) t r_ hh_))), (0, .ref m)]) (pc := 47) Xc (dT hX7_plainTotal 32 rfl) 2 rfl rfl (by decide) rfl ?_
          refine e_goto (tgt := 4) (pc := 50) Xc (dT hX7_plainTotal 33 rfl) rfl ?_
          refine Ev.pick (L' := [(0, .ref m), (2, .int (nI (r_ + 1))), (1, .int (ac_ + (likF (A 1) t r_ hh_)))]) [2, 0, 1] rfl ?_
          exact ih4 (r_ + 1) (ac_ + (likF (A 1) t r_ hh_)) (by omega) (by omega) (by rw [itr, ← ha_, if_neg c25, hhe_, nI_clamp (by omega)])
        · skip
          refine e_iconst (v := 0) (pc := 28) Xc (dT hX7_plainTotal 19 rfl) rfl ?_
          refine e_goto (tgt := 45) (pc := 29) Xc (dT hX7_plainTotal 20 rfl) rfl ?_
          refine e_iadd (pc := 45) Xc (dT hX7_plainTotal 30 rfl) ?_
          refine e_istore_n (L' := [(1, .int (ac_ + 0)), (0, .ref m), (2, .int (nI r_))]) (pc := 46) Xc (dT hX7_plainTotal 31 rfl) (by decide) rfl ?_
          refine e_iincN (a := r_) (b := 1) (L' := [(2, .int (nI (r_ + 1))), (1, .int (ac_ + 0)), (0, .ref m)]) (pc := 47) Xc (dT hX7_plainTotal 32 rfl) 2 rfl rfl (by decide) rfl ?_
          refine e_goto (tgt := 4) (pc := 50) Xc (dT hX7_plainTotal 33 rfl) rfl ?_
          refine Ev.pick (L' := [(0, .ref m), (2, .int (nI (r_ + 1))), (1, .int (ac_ + 0))]) [2, 0, 1] rfl ?_
          exact ih4 (r_ + 1) (ac_ + 0) (by omega) (by omega) (by rw [itr, ← ha_, if_pos c25])
  show Ev G μ 3 0 0 0 [(0, .ref m)] [] σ
  refine e_iconst (v := 0) (pc := 0) Xc (dT hX7_plainTotal 0 rfl) rfl ?_
  refine e_istore_n (L' := [(1, .int 0), (0, .ref m)]) (pc := 1) Xc (dT hX7_plainTotal 1 rfl) (by decide) rfl ?_
  refine e_iconst (v := 0) (pc := 2) Xc (dT hX7_plainTotal 2 rfl) rfl ?_
  refine e_istore_n (L' := [(2, .int 0), (1, .int 0), (0, .ref m)]) (pc := 3) Xc (dT hX7_plainTotal 3 rfl) (by decide) rfl ?_
  refine Ev.pick (L' := [(0, .ref m), (2, .int 0), (1, .int 0)]) [2, 0, 1] rfl ?_
  exact lp4 ((nr - 0) + 1) 0 0 (Nat.lt_succ_self _) (Nat.zero_le _) rfl
set_option maxRecDepth 100000 in
set_option maxHeartbeats 4000000 in
theorem p_few {G : xG} {σ : xS} {m : Nat} {X Y bd : Nat → Int32} {hi rn : Int32} (hM : MK σ m X Y bd hi rn) {nr nb ns np nn nt na dy : Nat} {t : xT} (hK : OK X nr nb t ns np nn nt na dy) (v : Int32) (b : Int32) : CI G yX7_few cX7_few 3 (some .int) 6 0 0 [.ref m, .int v, .int b] σ (fun z σ1 => z = v_few X t nr nb v b ∧ MK σ1 m X Y bd hi rn ∧ Off m σ σ1) := by
  refine Met.ofX (by decide +kernel) (Nat.le_of_ble_eq_true rfl) (fun μ Xc hQ hnm => ?_)
  have Xc : xC G μ cX7_few 3 RX7 (some .int) 6 0 0 := Xc
  obtain ⟨F, T, A, hP, e1, e2, e3, e4, e5⟩ := hM
  subst e1 e2 e3 e4 e5
  obtain ⟨hG, hT, hS, hPl, hNo, hTa, hA, hJ, hR, hD⟩ := id hK
  have hr4 := hG.r4
  have hb7 := hG.b7
  have hs6 := hS.1
  have hp8 := hPl.1
  have hn8 := hNo.1
  have ht100 := hTa.1
  have ha5 := hA.1
  have hd9 := hD.1
  show Ev G μ 3 0 0 0 [(0, .ref m), (1, .int v), (2, .int b)] [] σ
  refine e_aload_n (pc := 0) Xc (dT hX7_few 0 rfl) 0 rfl ?_
  refine e_iload_n (pc := 1) Xc (dT hX7_few 1 rfl) 1 rfl ?_
  refine cl_X7_165 (pc := 2) (k := 0) (n := 0) (S := []) Xc hP.o (c_isReader hP hG v) (dT hX7_few 2 rfl) rfl (Nat.le_of_ble_eq_true rfl) (Nat.le_of_ble_eq_true rfl) (Nat.le_of_ble_eq_true rfl) rfl (Nat.le_of_ble_eq_true rfl) (fun r1 σ2 hq3 => ?_)
  obtain ⟨r1e, r1s⟩ := hq3
  have r1e := r1e.symm; subst r1e; have r1s := r1s.symm; subst r1s
  refine e_if_eq (tgt := 16) (pc := 5) Xc (dT hX7_few 3 rfl) rfl (fun c5 => ?_) (fun c5 => ?_)
  · skip
    refine e_iconst (v := -1) (pc := 16) Xc (dT hX7_few 8 rfl) rfl ?_
    refine e_iret (pc := 17) Xc hQ (dT hX7_few 9 rfl) (Nat.le_refl _) (Nat.le_refl _) ?_
    have hz : v_few (A 1) t nr nb v b = (-1) := by
      try simp only [bI_0, bI_1, Bool.not_eq_true, Bool.not_eq_false] at c5
      first | (simp [v_few, c5]; done) | (clear hK hG hT hS hPl hNo hTa hA hJ hR hD hQ Xc; simp_all [v_few]; done)
    exact ⟨hz.symm, ⟨_, _, _, hP, rfl, rfl, rfl, rfl, rfl⟩, Off.rf⟩
  · skip
    obtain ⟨q, hq, rfl⟩ := inF_nat (v := v) (n := nr) (by omega) (by simpa [bI_0, bI_1] using c5)
    have hc_q : cl (nI q) = q := cl_nI (by omega)
    refine e_aload_n (pc := 8) Xc (dT hX7_few 4 rfl) 0 rfl ?_
    refine e_iload_n (pc := 9) Xc (dT hX7_few 5 rfl) 2 rfl ?_
    refine cl_X7_177 (pc := 10) (k := 0) (n := 0) (S := []) Xc hP.o (c_isBook hP hG b) (dT hX7_few 6 rfl) rfl (Nat.le_of_ble_eq_true rfl) (Nat.le_of_ble_eq_true rfl) (Nat.le_of_ble_eq_true rfl) rfl (Nat.le_of_ble_eq_true rfl) (fun r4 σ5 hq6 => ?_)
    obtain ⟨r4e, r4s⟩ := hq6
    have r4e := r4e.symm; subst r4e; have r4s := r4s.symm; subst r4s
    refine e_if_ne (tgt := 18) (pc := 13) Xc (dT hX7_few 7 rfl) rfl (fun c13 => ?_) (fun c13 => ?_)
    · skip
      obtain ⟨p, hp, rfl⟩ := inF_nat (v := b) (n := nb) (by omega) (by simpa [bI_0, bI_1] using c13)
      have hc_p : cl (nI p) = p := cl_nI (by omega)
      refine e_aload_n (pc := 18) Xc (dT hX7_few 10 rfl) 0 rfl ?_
      refine cl_X7_242 (pc := 19) (k := 0) (n := 0) (S := []) Xc hP.o (c_looksForWays hP hG hT) (dT hX7_few 11 rfl) rfl (Nat.le_of_ble_eq_true rfl) (Nat.le_of_ble_eq_true rfl) (Nat.le_of_ble_eq_true rfl) rfl (Nat.le_of_ble_eq_true rfl) (fun σ8 hq9 => ?_)
      obtain ⟨ql, P_, Q_, S_, fr, hP10, hPL_, hRQ_, hRES_, ho11⟩ := hq9
      have hle_ := okQ_le hRES_.1
      refine e_aload_n (pc := 22) Xc (dT hX7_few 12 rfl) 0 rfl ?_
      refine e_iload_n (pc := 23) Xc (dT hX7_few 13 rfl) 1 rfl ?_
      refine e_iload_n (pc := 24) Xc (dT hX7_few 14 rfl) 2 rfl ?_
      refine cl_X7_245 (pc := 25) (k := 0) (n := 0) (S := []) Xc hP10.o (c_fewOf hP10 hG hRQ_ upd_s hRES_.1 q p (by omega)) (dT hX7_few 15 rfl) rfl (Nat.le_of_ble_eq_true rfl) (Nat.le_of_ble_eq_true rfl) (Nat.le_of_ble_eq_true rfl) rfl (Nat.le_of_ble_eq_true rfl) (fun r12 σ13 hq14 => ?_)
      obtain ⟨r12e, r12s⟩ := hq14
      have r12e := r12e.symm; subst r12e; have r12s := r12s.symm; subst r12s
      refine e_val (y := fewL ql q (nI p)) rfl ?_
      refine e_iret (pc := 28) Xc hQ (dT hX7_few 16 rfl) (Nat.le_refl _) (Nat.le_refl _) ?_
      have hz : v_few (A 1) t nr nb (nI q) (nI p) = fewL ql q (nI p) := by
        simp only [bI_0, Bool.not_eq_true, Bool.not_eq_false] at c5 c13
        rw [v_few, if_pos ⟨c5, c13⟩, hc_q, few_q hRES_]
      exact ⟨hz.symm, ⟨_, _, _, hP10, rfl, rfl, rfl, rfl, rfl⟩, ho11⟩
    · skip
      refine e_iconst (v := -1) (pc := 16) Xc (dT hX7_few 8 rfl) rfl ?_
      refine e_iret (pc := 17) Xc hQ (dT hX7_few 9 rfl) (Nat.le_refl _) (Nat.le_refl _) ?_
      have hz : v_few (A 1) t nr nb (nI q) b = (-1) := by
        try simp only [bI_0, bI_1, Bool.not_eq_true, Bool.not_eq_false] at c5 c13
        first | (simp [v_few, c5, c13, hc_q]; done) | (clear hK hG hT hS hPl hNo hTa hA hJ hR hD hQ Xc; simp_all [v_few]; done)
      exact ⟨hz.symm, ⟨_, _, _, hP, rfl, rfl, rfl, rfl, rfl⟩, Off.rf⟩
set_option maxRecDepth 100000 in
set_option maxHeartbeats 4000000 in
theorem p_reach {G : xG} {σ : xS} {m : Nat} {X Y bd : Nat → Int32} {hi rn : Int32} (hM : MK σ m X Y bd hi rn) {nr nb ns np nn nt na dy : Nat} {t : xT} (hK : OK X nr nb t ns np nn nt na dy) (v : Int32) : CI G yX7_reach cX7_reach 2 (some .int) 6 0 0 [.ref m, .int v] σ (fun z σ1 => z = v_reach X t nr nb v ∧ MK σ1 m X Y bd hi rn ∧ Off m σ σ1) := by
  refine Met.ofX (by decide +kernel) (Nat.le_of_ble_eq_true rfl) (fun μ Xc hQ hnm => ?_)
  have Xc : xC G μ cX7_reach 2 RX7 (some .int) 6 0 0 := Xc
  obtain ⟨F, T, A, hP, e1, e2, e3, e4, e5⟩ := hM
  subst e1 e2 e3 e4 e5
  obtain ⟨hG, hT, hS, hPl, hNo, hTa, hA, hJ, hR, hD⟩ := id hK
  have hr4 := hG.r4
  have hb7 := hG.b7
  have hs6 := hS.1
  have hp8 := hPl.1
  have hn8 := hNo.1
  have ht100 := hTa.1
  have ha5 := hA.1
  have hd9 := hD.1
  show Ev G μ 2 0 0 0 [(0, .ref m), (1, .int v)] [] σ
  refine e_aload_n (pc := 0) Xc (dT hX7_reach 0 rfl) 0 rfl ?_
  refine e_iload_n (pc := 1) Xc (dT hX7_reach 1 rfl) 1 rfl ?_
  refine cl_X7_165 (pc := 2) (k := 0) (n := 0) (S := []) Xc hP.o (c_isReader hP hG v) (dT hX7_reach 2 rfl) rfl (Nat.le_of_ble_eq_true rfl) (Nat.le_of_ble_eq_true rfl) (Nat.le_of_ble_eq_true rfl) rfl (Nat.le_of_ble_eq_true rfl) (fun r1 σ2 hq3 => ?_)
  obtain ⟨r1e, r1s⟩ := hq3
  have r1e := r1e.symm; subst r1e; have r1s := r1s.symm; subst r1s
  refine e_if_ne (tgt := 10) (pc := 5) Xc (dT hX7_reach 3 rfl) rfl (fun c5 => ?_) (fun c5 => ?_)
  · skip
    obtain ⟨q, hq, rfl⟩ := inF_nat (v := v) (n := nr) (by omega) (by simpa [bI_0, bI_1] using c5)
    have hc_q : cl (nI q) = q := cl_nI (by omega)
    refine e_aload_n (pc := 10) Xc (dT hX7_reach 6 rfl) 0 rfl ?_
    refine cl_X7_242 (pc := 11) (k := 0) (n := 0) (S := []) Xc hP.o (c_looksForWays hP hG hT) (dT hX7_reach 7 rfl) rfl (Nat.le_of_ble_eq_true rfl) (Nat.le_of_ble_eq_true rfl) (Nat.le_of_ble_eq_true rfl) rfl (Nat.le_of_ble_eq_true rfl) (fun σ5 hq6 => ?_)
    obtain ⟨ql, P_, Q_, S_, fr, hP7, hPL_, hRQ_, hRES_, ho8⟩ := hq6
    have hle_ := okQ_le hRES_.1
    refine e_aload_n (pc := 14) Xc (dT hX7_reach 8 rfl) 0 rfl ?_
    refine e_iload_n (pc := 15) Xc (dT hX7_reach 9 rfl) 1 rfl ?_
    refine cl_X7_248 (pc := 16) (k := 0) (n := 0) (S := []) Xc hP7.o (c_reachOf hP7 hG hRQ_ upd_s hRES_.1 q (by omega)) (dT hX7_reach 10 rfl) rfl (Nat.le_of_ble_eq_true rfl) (Nat.le_of_ble_eq_true rfl) (Nat.le_of_ble_eq_true rfl) rfl (Nat.le_of_ble_eq_true rfl) (fun r9 σ10 hq11 => ?_)
    obtain ⟨r9e, r9s⟩ := hq11
    have r9e := r9e.symm; subst r9e; have r9s := r9s.symm; subst r9s
    refine e_val (y := reachL ql nb q) rfl ?_
    refine e_iret (pc := 19) Xc hQ (dT hX7_reach 11 rfl) (Nat.le_refl _) (Nat.le_refl _) ?_
    have hz : v_reach (A 1) t nr nb (nI q) = reachL ql nb q := by
      simp only [bI_0, Bool.not_eq_true, Bool.not_eq_false] at c5
      rw [v_reach, if_pos c5, hc_q, reach_q hRES_]
    exact ⟨hz.symm, ⟨_, _, _, hP7, rfl, rfl, rfl, rfl, rfl⟩, ho8⟩
  · skip
    refine e_iconst (v := -1) (pc := 8) Xc (dT hX7_reach 4 rfl) rfl ?_
    refine e_iret (pc := 9) Xc hQ (dT hX7_reach 5 rfl) (Nat.le_refl _) (Nat.le_refl _) ?_
    have hz : v_reach (A 1) t nr nb v = (-1) := by
      try simp only [bI_0, bI_1, Bool.not_eq_true, Bool.not_eq_false] at c5
      first | (simp [v_reach, c5]; done) | (clear hK hG hT hS hPl hNo hTa hA hJ hR hD hQ Xc; simp_all [v_reach]; done)
    exact ⟨hz.symm, ⟨_, _, _, hP, rfl, rfl, rfl, rfl, rfl⟩, Off.rf⟩
set_option maxRecDepth 100000 in
set_option maxHeartbeats 4000000 in
theorem p_never {G : xG} {σ : xS} {m : Nat} {X Y bd : Nat → Int32} {hi rn : Int32} (hM : MK σ m X Y bd hi rn) {nr nb ns np nn nt na dy : Nat} {t : xT} (hK : OK X nr nb t ns np nn nt na dy)  : CI G yX7_never cX7_never 3 (some .int) 6 0 0 [.ref m] σ (fun z σ1 => z = v_never X t nr nb ∧ MK σ1 m X Y bd hi rn ∧ Off m σ σ1) := by
  refine Met.ofX (by decide +kernel) (Nat.le_of_ble_eq_true rfl) (fun μ Xc hQ hnm => ?_)
  have Xc : xC G μ cX7_never 3 RX7 (some .int) 6 0 0 := Xc
  obtain ⟨F, T, A, hP, e1, e2, e3, e4, e5⟩ := hM
  subst e1 e2 e3 e4 e5
  obtain ⟨hG, hT, hS, hPl, hNo, hTa, hA, hJ, hR, hD⟩ := id hK
  have hr4 := hG.r4
  have hb7 := hG.b7
  have hs6 := hS.1
  have hp8 := hPl.1
  have hn8 := hNo.1
  have ht100 := hTa.1
  have ha5 := hA.1
  have hd9 := hD.1
  show Ev G μ 3 0 0 0 [(0, .ref m)] [] σ
  refine e_aload_n (pc := 0) Xc (dT hX7_never 0 rfl) 0 rfl ?_
  refine cl_X7_242 (pc := 1) (k := 0) (n := 0) (S := []) Xc hP.o (c_looksForWays hP hG hT) (dT hX7_never 1 rfl) rfl (Nat.le_of_ble_eq_true rfl) (Nat.le_of_ble_eq_true rfl) (Nat.le_of_ble_eq_true rfl) rfl (Nat.le_of_ble_eq_true rfl) (fun σ2 hq3 => ?_)
  obtain ⟨ql, P_, Q_, S_, fr, hP4, hPL_, hRQ_, hRES_, ho5⟩ := hq3
  have hle_ := okQ_le hRES_.1
  refine e_iconst (v := 1) (pc := 4) Xc (dT hX7_never 2 rfl) rfl ?_
  refine e_aload_n (pc := 5) Xc (dT hX7_never 3 rfl) 0 rfl ?_
  refine gf_X7_9 (pc := 6) Xc (dT hX7_never 4 rfl) hP4.o rfl ?_
  refine e_bipush (v := 13) (pc := 9) Xc (dT hX7_never 5 rfl) rfl ?_
  refine e_ialdN (pc := 11) Xc (dT hX7_never 6 rfl) hP4.a1 (by decide) rfl 13 rfl (by omega) (by decide) ?_
  refine e_val (y := A 1 13) rfl ?_
  refine e_val (y := nI nb) hG.1.2.2.2 ?_
  refine e_ishl (pc := 12) Xc (dT hX7_never 7 rfl) ?_
  refine e_iconst (v := 1) (pc := 13) Xc (dT hX7_never 8 rfl) rfl ?_
  refine e_isub (pc := 14) Xc (dT hX7_never 9 rfl) ?_
  refine e_istore_n (L' := [(1, .int ((1 <<< ((nI nb) &&& 31)) - 1)), (0, .ref m)]) (pc := 15) Xc (dT hX7_never 10 rfl) (by decide) rfl ?_
  refine e_iconst (v := 0) (pc := 16) Xc (dT hX7_never 11 rfl) rfl ?_
  refine e_istore_n (L' := [(2, .int 0), (1, .int ((1 <<< ((nI nb) &&& 31)) - 1)), (0, .ref m)]) (pc := 17) Xc (dT hX7_never 12 rfl) (by decide) rfl ?_
  have lp18 : ∀ (n18 : Nat) (r_ : Nat) (ac_ : Int32), nr - r_ < n18 → (r_ ≤ nr) → (ac_ = itr (fun r a => a &&& (reachL ql nb r ^^^ -1)) ((1 <<< (nI nb &&& 31)) - 1) r_) → Ev G μ 3 0 0 18 [(0, .ref m), (1, .int ac_), (2, .int (nI r_))] [] σ2 := by
    intro n18
    induction n18 with
    | zero => intro r_ ac_ hn; exact absurd hn (Nat.not_lt_zero _)
    | succ n18 ih18 =>
      intro r_ ac_ hn18 hr_ ha_
      refine e_iload_n (pc := 18) Xc (dT hX7_never 13 rfl) 2 rfl ?_
      refine e_aload_n (pc := 19) Xc (dT hX7_never 14 rfl) 0 rfl ?_
      refine gf_X7_9 (pc := 20) Xc (dT hX7_never 15 rfl) hP4.o rfl ?_
      refine e_bipush (v := 12) (pc := 23) Xc (dT hX7_never 16 rfl) rfl ?_
      refine e_ialdN (pc := 25) Xc (dT hX7_never 17 rfl) hP4.a1 (by decide) rfl 12 rfl (by omega) (by decide) ?_
      refine e_val (y := A 1 12) rfl ?_
      refine e_val (y := nI nr) hG.1.2.2.1 ?_
      refine e_icmp_geN (x := r_) (y := nr) (tgt := 45) (pc := 26) Xc (dT hX7_never 18 rfl) rfl (by omega) (by omega) (fun c26 => ?_) (fun c26 => ?_)
      · skip
        refine e_iload_n (pc := 45) Xc (dT hX7_never 29 rfl) 1 rfl ?_
        refine e_iret (pc := 46) Xc hQ (dT hX7_never 30 rfl) (Nat.le_refl _) (Nat.le_refl _) ?_
        have hre_ : r_ = nr := by omega
        have hz : v_never (A 1) t nr nb = ac_ := by
          rw [v_never, never_q hRES_, neverL, ha_, hre_]
        exact ⟨hz.symm, ⟨_, _, _, hP4, rfl, rfl, rfl, rfl, rfl⟩, ho5⟩
      · skip
        refine e_iload_n (pc := 29) Xc (dT hX7_never 19 rfl) 1 rfl ?_
        refine e_aload_n (pc := 30) Xc (dT hX7_never 20 rfl) 0 rfl ?_
        refine e_iload_n (pc := 31) Xc (dT hX7_never 21 rfl) 2 rfl ?_
        refine cl_X7_248 (pc := 32) (k := 0) (n := 0) (S := [.int ac_]) Xc hP4.o (c_reachOf hP4 hG hRQ_ upd_s hRES_.1 r_ (by omega)) (dT hX7_never 22 rfl) rfl (Nat.le_of_ble_eq_true rfl) (Nat.le_of_ble_eq_true rfl) (Nat.le_of_ble_eq_true rfl) rfl (Nat.le_of_ble_eq_true rfl) (fun r6 σ7 hq8 => ?_)
        obtain ⟨r6e, r6s⟩ := hq8
        have r6e := r6e.symm; subst r6e; have r6s := r6s.symm; subst r6s
        refine e_val (y := reachL ql nb r_) rfl ?_
        refine e_iconst (v := -1) (pc := 35) Xc (dT hX7_never 23 rfl) rfl ?_
        refine e_ixor (pc := 36) Xc (dT hX7_never 24 rfl) ?_
        refine e_iand (pc := 37) Xc (dT hX7_never 25 rfl) ?_
        refine e_istore_n (L' := [(1, .int (ac_ &&& ((reachL ql nb r_) ^^^ (-1)))), (0, .ref m), (2, .int (nI r_))]) (pc := 38) Xc (dT hX7_never 26 rfl) (by decide) rfl ?_
        refine e_iincN (a := r_) (b := 1) (L' := [(2, .int (nI (r_ + 1))), (1, .int (ac_ &&& ((reachL ql nb r_) ^^^ (-1)))), (0, .ref m)]) (pc := 39) Xc (dT hX7_never 27 rfl) 2 rfl rfl (by decide) rfl ?_
        refine e_goto (tgt := 18) (pc := 42) Xc (dT hX7_never 28 rfl) rfl ?_
        refine Ev.pick (L' := [(0, .ref m), (1, .int (ac_ &&& ((reachL ql nb r_) ^^^ (-1)))), (2, .int (nI (r_ + 1)))]) [2, 1, 0] rfl ?_
        exact ih18 (r_ + 1) (ac_ &&& ((reachL ql nb r_) ^^^ (-1))) (by omega) (by omega) (by rw [itr, ← ha_])
  refine Ev.pick (L' := [(0, .ref m), (1, .int ((1 <<< ((nI nb) &&& 31)) - 1)), (2, .int 0)]) [2, 1, 0] rfl ?_
  exact lp18 ((nr - 0) + 1) 0 ((1 <<< ((nI nb) &&& 31)) - 1) (Nat.lt_succ_self _) (Nat.zero_le _) rfl
set_option maxRecDepth 100000 in
set_option maxHeartbeats 4000000 in
theorem c_looksForMost {G : xG} {σ : xS} {m : Nat} {F : Nat → Int32} {T : Nat → Nat} {A : Nat → Nat → Int32} (hP : PX7 σ m F T A) {nr nb : Nat} (hG : Gd (A 1) nr nb) {t : xT} (hT : Hd (A 1) t) : CV G yX7_looksForMost cX7_looksForMost 3 none 6 0 0 [.ref m] σ (fun σ1 => ∃ ql P Q S fr, ∃ pw : Nat × Int32, PX7 σ1 m (upd (upd (upd F 15 (nI ql.length)) 16 (nI pw.1)) 17 pw.2) T (upA (upA (upA (upA A 3 fr) 6 P) 7 Q) 8 S) ∧ RQ Q S ql ∧ RES (A 1) t nr nb ql ∧ mostL (A 1) t nr ql = some pw ∧ pw.1 < 4096 ∧ Off m σ σ1) := by
  refine Met.ofX (by decide +kernel) (Nat.le_of_ble_eq_true rfl) (fun μ Xc hQ hnm => ?_)
  have Xc : xC G μ cX7_looksForMost 3 RX7 none 6 0 0 := Xc
  have hr4 := hG.r4
  have hb7 := hG.b7
  show Ev G μ 3 0 0 0 [(0, .ref m)] [] σ
  refine e_aload_n (pc := 0) Xc (dT hX7_looksForMost 0 rfl) 0 rfl ?_
  refine cl_X7_242 (pc := 1) (k := 0) (n := 0) (S := []) Xc hP.o (c_looksForWays hP hG hT) (dT hX7_looksForMost 1 rfl) rfl (Nat.le_of_ble_eq_true rfl) (Nat.le_of_ble_eq_true rfl) (Nat.le_of_ble_eq_true rfl) rfl (Nat.le_of_ble_eq_true rfl) (fun σ2 hq3 => ?_)
  obtain ⟨ql, P_, Q_, S_, fr, hP4, hPL_, hRQ_, hRES_, ho5⟩ := hq3
  have hle_ := okQ_le hRES_.1
  refine e_aload_n (pc := 4) Xc (dT hX7_looksForMost 2 rfl) 0 rfl ?_
  refine cl_X7_202 (pc := 5) (k := 0) (n := 0) (S := []) Xc hP4.o (c_keeps hP4) (dT hX7_looksForMost 3 rfl) rfl (Nat.le_of_ble_eq_true rfl) (Nat.le_of_ble_eq_true rfl) (Nat.le_of_ble_eq_true rfl) rfl (Nat.le_of_ble_eq_true rfl) (fun σ7 hq8 => ?_)
  obtain ⟨fr2, hP9, hfr_, ho10⟩ := hq8
  have hfr_ : ∀ j, j < 12 → fr2 j = A 1 j := hfr_
  rw [show upA (upA (upA (upA (upA A 3 fr) 6 P_) 7 Q_) 8 S_) 3 fr2 = (upA (upA (upA (upA A 3 fr2) 6 P_) 7 Q_) 8 S_) from (by funext j_; unfold upA; repeat' split <;> simp_all)] at hP9
  refine e_aload_n (pc := 8) Xc (dT hX7_looksForMost 4 rfl) 0 rfl ?_
  refine e_iconst (v := -1) (pc := 9) Xc (dT hX7_looksForMost 5 rfl) rfl ?_
  refine pf_X7_251 (fs' := olX7 m (upd (upd F 15 (nI ql.length)) 16 (-1)) T) (pc := 10) Xc (dT hX7_looksForMost 6 rfl) hP9.o (Nat.le_of_ble_eq_true rfl) rfl ?_
  refine Ev.gen (fun z => PX7 z m (upd (upd F 15 (nI ql.length)) 16 (-1)) T (upA (upA (upA (upA A 3 fr2) 6 P_) 7 Q_) 8 S_)) (hP9.wf16 (x := (-1))) Off.set (fun σ11 hP12 ho13 => ?_)
  refine e_iconst (v := 0) (pc := 13) Xc (dT hX7_looksForMost 7 rfl) rfl ?_
  refine e_istore_n (L' := [(1, .int 0), (0, .ref m)]) (pc := 14) Xc (dT hX7_looksForMost 8 rfl) (by decide) rfl ?_
  have lp15 : ∀ (n15 : Nat) (k_ : Nat) (X1_ : Nat → Int32) (mw_ mt_ : Int32) (o_ : Option (Nat × Int32)) (σ3 : xS), ql.length - k_ < n15 → (k_ ≤ ql.length) → (∀ j, ¬ (1 ≤ j ∧ j ≤ nr) → X1_ j = A 1 j) → (Gd X1_ nr nb) → (mostL (A 1) t nr (ql.take k_) = o_) → (relO o_ mw_ mt_) → (PX7 σ3 m (upd (upd (upd F 15 (nI ql.length)) 16 mw_) 17 mt_) T (upA (upA (upA (upA (upA A 3 fr2) 6 P_) 7 Q_) 8 S_) 1 X1_)) → (Off m σ σ3) → Ev G μ 3 0 0 15 [(0, .ref m), (1, .int (nI k_))] [] σ3 := by
    intro n15
    induction n15 with
    | zero => intro k_ X1_ mw_ mt_ o_ σ3 hn; exact absurd hn (Nat.not_lt_zero _)
    | succ n15 ih15 =>
      intro k_ X1_ mw_ mt_ o_ σ3 hn15 hk_ hX1_ hG1_ ho_ hrl_ hp3 ho3
      refine e_iload_n (pc := 15) Xc (dT hX7_looksForMost 9 rfl) 1 rfl ?_
      refine e_aload_n (pc := 16) Xc (dT hX7_looksForMost 10 rfl) 0 rfl ?_
      refine gf_X7_217 (pc := 17) Xc (dT hX7_looksForMost 11 rfl) hp3.o rfl ?_
      refine e_val (y := nI ql.length) rfl ?_
      refine e_val (y := nI ql.length) rfl ?_
      refine e_icmp_geN (x := k_) (y := ql.length) (tgt := 96) (pc := 20) Xc (dT hX7_looksForMost 12 rfl) rfl (by have := hG.1; omega) (by have := hG.1; omega) (fun c20 => ?_) (fun c20 => ?_)
      · skip
        have hke_ : k_ = ql.length := by omega
        subst hke_
        refine e_aload_n (pc := 96) Xc (dT hX7_looksForMost 52 rfl) 0 rfl ?_
        refine cl_X7_205 (pc := 97) (k := 0) (n := 0) (S := []) Xc hp3.o (c_goesBack hp3) (dT hX7_looksForMost 53 rfl) rfl (Nat.le_of_ble_eq_true rfl) (Nat.le_of_ble_eq_true rfl) (Nat.le_of_ble_eq_true rfl) rfl (Nat.le_of_ble_eq_true rfl) (fun σ15 hq16 => ?_)
        obtain ⟨hP17, ho18⟩ := hq16
        have hP17 : PX7 σ15 m (upd (upd (upd F 15 (nI ql.length)) 16 mw_) 17 mt_) T (upA (upA (upA (upA (upA (upA A 3 fr2) 6 P_) 7 Q_) 8 S_) 1 X1_) 1 (backF X1_ fr2)) := hP17
        rw [back_hi hfr_ (fun j hj => hX1_ j (by omega)), show upA (upA (upA (upA (upA (upA A 3 fr2) 6 P_) 7 Q_) 8 S_) 1 X1_) 1 (A 1) = (upA (upA (upA (upA A 3 fr2) 6 P_) 7 Q_) 8 S_) from (by funext j_; unfold upA; repeat' split <;> simp_all)] at hP17
        refine e_vret (pc := 100) Xc hQ (dT hX7_looksForMost 54 rfl) (Nat.le_refl _) (Nat.le_refl _) ?_
        rw [List.take_length] at ho_
        obtain ⟨pw_, hmo_, -⟩ := mostL_top hRES_
        rw [hmo_] at ho_
        subst ho_
        obtain ⟨hmw_, hmt_, hpl_⟩ : mw_ = nI pw_.1 ∧ mt_ = pw_.2 ∧ pw_.1 < 4096 := hrl_
        subst hmw_ hmt_
        exact ⟨ql, P_, Q_, S_, fr2, pw_, hP17, hRQ_, hRES_, hmo_, hpl_, (ho3.tr ho18)⟩
      · skip
        have hk1_ : k_ < ql.length := by omega
        have hkm_ := gQ_mem hk1_
        have hv_ := hRES_.1.2.1 _ hkm_
        have hwl_ := hv_.1
        have hG2_ := Gd_setW hG hv_
        refine e_aload_n (pc := 23) Xc (dT hX7_looksForMost 13 rfl) 0 rfl ?_
        refine e_aload_n (pc := 24) Xc (dT hX7_looksForMost 14 rfl) 0 rfl ?_
        refine gf_X7_31 (pc := 25) Xc (dT hX7_looksForMost 15 rfl) hp3.o rfl ?_
        refine e_iload_n (pc := 28) Xc (dT hX7_looksForMost 16 rfl) 1 rfl ?_
        refine e_ialdN (pc := 29) Xc (dT hX7_looksForMost 17 rfl) hp3.a7 (by decide) rfl k_ rfl (by have := hG.1; omega) (by decide) ?_
        refine e_val (y := Q_ k_) rfl ?_
        refine e_val (y := nI ((gQ ql k_).1)) (hRQ_.1 k_ hk1_) ?_
        refine cl_X7_236 (pc := 30) (k := 0) (n := 0) (S := []) Xc hp3.o (c_goesTo hp3 hG1_ ((gQ ql k_).1) hwl_) (dT hX7_looksForMost 18 rfl) rfl (Nat.le_of_ble_eq_true rfl) (Nat.le_of_ble_eq_true rfl) (Nat.le_of_ble_eq_true rfl) rfl (Nat.le_of_ble_eq_true rfl) (fun σ20 hq21 => ?_)
        obtain ⟨hP22, ho23⟩ := hq21
        have hP22 : PX7 σ20 m (upd (upd (upd F 15 (nI ql.length)) 16 mw_) 17 mt_) T (upA (upA (upA (upA (upA (upA A 3 fr2) 6 P_) 7 Q_) 8 S_) 1 X1_) 1 (setW X1_ nr (gQ ql k_).1)) := hP22
        rw [upA_2, setW_cg hX1_] at hP22
        refine e_aload_n (pc := 33) Xc (dT hX7_looksForMost 19 rfl) 0 rfl ?_
        refine cl_X7_254 (pc := 34) (k := 0) (n := 0) (S := []) Xc hP22.o (c_plainTotal hP22 hG2_ (Hd_setW hT hr4) (hPL_.cg hr4 (fun j h => setW_n h))) (dT hX7_looksForMost 20 rfl) rfl (Nat.le_of_ble_eq_true rfl) (Nat.le_of_ble_eq_true rfl) (Nat.le_of_ble_eq_true rfl) rfl (Nat.le_of_ble_eq_true rfl) (fun r24 σ25 hq26 => ?_)
        obtain ⟨r24e, r24s⟩ := hq26
        have r24e := r24e.symm; subst r24e; have r24s := r24s.symm; subst r24s
        refine e_val (y := totF (setW (A 1) nr (gQ ql k_).1) t nr) rfl ?_
        refine e_istore_n (L' := [(2, .int (totF (setW (A 1) nr (gQ ql k_).1) t nr)), (0, .ref m), (1, .int (nI k_))]) (pc := 37) Xc (dT hX7_looksForMost 21 rfl) (by decide) rfl ?_
        rcases o_ with _ | pw_
        · skip
          have hmw_ : mw_ = -1 := hrl_
          subst hmw_
          refine e_aload_n (pc := 38) Xc (dT hX7_looksForMost 22 rfl) 1 rfl ?_
          refine gf_X7_251 (pc := 39) Xc (dT hX7_looksForMost 23 rfl) hP22.o rfl ?_
          refine e_val (y := (-1)) rfl ?_
          refine e_iconst (v := -1) (pc := 42) Xc (dT hX7_looksForMost 24 rfl) rfl ?_
          refine e_icmp_eq (tgt := 75) (pc := 43) Xc (dT hX7_looksForMost 25 rfl) rfl (fun c43 => ?_) (fun c43 => ?_)
          · skip
            refine e_aload_n (pc := 75) Xc (dT hX7_looksForMost 41 rfl) 1 rfl ?_
            refine e_aload_n (pc := 76) Xc (dT hX7_looksForMost 42 rfl) 1 rfl ?_
            refine gf_X7_31 (pc := 77) Xc (dT hX7_looksForMost 43 rfl) hP22.o rfl ?_
            refine e_iload_n (pc := 80) Xc (dT hX7_looksForMost 44 rfl) 2 rfl ?_
            refine e_ialdN (pc := 81) Xc (dT hX7_looksForMost 45 rfl) hP22.a7 (by decide) rfl k_ rfl (by have := hG.1; omega) (by decide) ?_
            refine e_val (y := Q_ k_) rfl ?_
            refine e_val (y := nI ((gQ ql k_).1)) (hRQ_.1 k_ hk1_) ?_
            refine pf_X7_251 (fs' := olX7 m (upd (upd (upd (upd F 15 (nI ql.length)) 16 (-1)) 17 mt_) 16 (nI ((gQ ql k_).1))) T) (pc := 82) Xc (dT hX7_looksForMost 46 rfl) hP22.o (Nat.le_of_ble_eq_true rfl) rfl ?_
            refine Ev.gen (fun z => PX7 z m (upd (upd (upd (upd F 15 (nI ql.length)) 16 (-1)) 17 mt_) 16 (nI ((gQ ql k_).1))) T (upA (upA (upA (upA (upA A 3 fr2) 6 P_) 7 Q_) 8 S_) 1 (setW (A 1) nr (gQ ql k_).1))) (hP22.wf16 (x := nI ((gQ ql k_).1))) Off.set (fun σ27 hP28 ho29 => ?_)
            refine e_aload_n (pc := 85) Xc (dT hX7_looksForMost 47 rfl) 1 rfl ?_
            refine e_iload_n (pc := 86) Xc (dT hX7_looksForMost 48 rfl) 0 rfl ?_
            refine pf_X7_257 (fs' := olX7 m (upd (upd (upd (upd (upd F 15 (nI ql.length)) 16 (-1)) 17 mt_) 16 (nI ((gQ ql k_).1))) 17 (totF (setW (A 1) nr (gQ ql k_).1) t nr)) T) (pc := 87) Xc (dT hX7_looksForMost 49 rfl) hP28.o (Nat.le_of_ble_eq_true rfl) rfl ?_
            refine Ev.gen (fun z => PX7 z m (upd (upd (upd (upd (upd F 15 (nI ql.length)) 16 (-1)) 17 mt_) 16 (nI ((gQ ql k_).1))) 17 (totF (setW (A 1) nr (gQ ql k_).1) t nr)) T (upA (upA (upA (upA (upA A 3 fr2) 6 P_) 7 Q_) 8 S_) 1 (setW (A 1) nr (gQ ql k_).1))) (hP28.wf17 (x := totF (setW (A 1) nr (gQ ql k_).1) t nr)) Off.set (fun σ30 hP31 ho32 => ?_)
            refine e_iincN (a := k_) (b := 1) (L' := [(1, .int (nI (k_ + 1))), (2, .int (totF (setW (A 1) nr (gQ ql k_).1) t nr)), (0, .ref m)]) (pc := 90) Xc (dT hX7_looksForMost 50 rfl) 2 rfl rfl (by decide) rfl ?_
            refine e_goto (tgt := 15) (pc := 93) Xc (dT hX7_looksForMost 51 rfl) rfl ?_
            refine Ev.pick (L' := [(0, .ref m), (1, .int (nI (k_ + 1)))]) [2, 0] rfl ?_
            exact ih15 (k_ + 1) (setW (A 1) nr (gQ ql k_).1) (nI (gQ ql k_).1) (totF (setW (A 1) nr (gQ ql k_).1) t nr) (some ((gQ ql k_).1, (totF (setW (A 1) nr (gQ ql k_).1) t nr))) σ30 (by omega) (by omega) (fun j h => setW_n h) hG2_ (by rw [mostL_s hk1_, ho_]; exact rfl) (⟨rfl, rfl, hwl_⟩) (by have h_ := hP31; first | exact h_ | (rw [show upd (upd (upd (upd (upd F 15 (nI ql.length)) 16 (-1)) 17 mt_) 16 (nI (gQ ql k_).1)) 17 (totF (setW (A 1) nr (gQ ql k_).1) t nr) = upd (upd (upd F 15 (nI ql.length)) 16 (nI (gQ ql k_).1)) 17 (totF (setW (A 1) nr (gQ ql k_).1) t nr) by funext j_; simp only [upd]; repeat' split <;> simp_all] at h_; exact h_)) (((ho3.tr ho23).tr ho29).tr ho32)
          · skip
            exact absurd c43 (by decide)
        · skip
          obtain ⟨hmw_, hmt_, hpl_⟩ : mw_ = nI pw_.1 ∧ mt_ = pw_.2 ∧ pw_.1 < 4096 := hrl_
          subst hmw_ hmt_
          refine e_aload_n (pc := 38) Xc (dT hX7_looksForMost 22 rfl) 1 rfl ?_
          refine gf_X7_251 (pc := 39) Xc (dT hX7_looksForMost 23 rfl) hP22.o rfl ?_
          refine e_val (y := (nI pw_.1)) rfl ?_
          refine e_val (y := nI pw_.1) rfl ?_
          refine e_iconst (v := -1) (pc := 42) Xc (dT hX7_looksForMost 24 rfl) rfl ?_
          refine e_icmp_eq (tgt := 75) (pc := 43) Xc (dT hX7_looksForMost 25 rfl) rfl (fun c43 => ?_) (fun c43 => ?_)
          · skip
            exact absurd c43 (nI_nneg (by omega) (by decide))
          · skip
            refine e_iload_n (pc := 46) Xc (dT hX7_looksForMost 26 rfl) 0 rfl ?_
            refine e_aload_n (pc := 47) Xc (dT hX7_looksForMost 27 rfl) 1 rfl ?_
            refine gf_X7_257 (pc := 48) Xc (dT hX7_looksForMost 28 rfl) hP22.o rfl ?_
            refine e_val (y := pw_.2) rfl ?_
            refine e_icmp_gt (tgt := 75) (pc := 51) Xc (dT hX7_looksForMost 29 rfl) rfl (fun c51 => ?_) (fun c51 => ?_)
            · skip
              refine e_aload_n (pc := 75) Xc (dT hX7_looksForMost 41 rfl) 1 rfl ?_
              refine e_aload_n (pc := 76) Xc (dT hX7_looksForMost 42 rfl) 1 rfl ?_
              refine gf_X7_31 (pc := 77) Xc (dT hX7_looksForMost 43 rfl) hP22.o rfl ?_
              refine e_iload_n (pc := 80) Xc (dT hX7_looksForMost 44 rfl) 2 rfl ?_
              refine e_ialdN (pc := 81) Xc (dT hX7_looksForMost 45 rfl) hP22.a7 (by decide) rfl k_ rfl (by have := hG.1; omega) (by decide) ?_
              refine e_val (y := Q_ k_) rfl ?_
              refine e_val (y := nI ((gQ ql k_).1)) (hRQ_.1 k_ hk1_) ?_
              refine pf_X7_251 (fs' := olX7 m (upd (upd (upd (upd F 15 (nI ql.length)) 16 (nI pw_.1)) 17 pw_.2) 16 (nI ((gQ ql k_).1))) T) (pc := 82) Xc (dT hX7_looksForMost 46 rfl) hP22.o (Nat.le_of_ble_eq_true rfl) rfl ?_
              refine Ev.gen (fun z => PX7 z m (upd (upd (upd (upd F 15 (nI ql.length)) 16 (nI pw_.1)) 17 pw_.2) 16 (nI ((gQ ql k_).1))) T (upA (upA (upA (upA (upA A 3 fr2) 6 P_) 7 Q_) 8 S_) 1 (setW (A 1) nr (gQ ql k_).1))) (hP22.wf16 (x := nI ((gQ ql k_).1))) Off.set (fun σ33 hP34 ho35 => ?_)
              refine e_aload_n (pc := 85) Xc (dT hX7_looksForMost 47 rfl) 1 rfl ?_
              refine e_iload_n (pc := 86) Xc (dT hX7_looksForMost 48 rfl) 0 rfl ?_
              refine pf_X7_257 (fs' := olX7 m (upd (upd (upd (upd (upd F 15 (nI ql.length)) 16 (nI pw_.1)) 17 pw_.2) 16 (nI ((gQ ql k_).1))) 17 (totF (setW (A 1) nr (gQ ql k_).1) t nr)) T) (pc := 87) Xc (dT hX7_looksForMost 49 rfl) hP34.o (Nat.le_of_ble_eq_true rfl) rfl ?_
              refine Ev.gen (fun z => PX7 z m (upd (upd (upd (upd (upd F 15 (nI ql.length)) 16 (nI pw_.1)) 17 pw_.2) 16 (nI ((gQ ql k_).1))) 17 (totF (setW (A 1) nr (gQ ql k_).1) t nr)) T (upA (upA (upA (upA (upA A 3 fr2) 6 P_) 7 Q_) 8 S_) 1 (setW (A 1) nr (gQ ql k_).1))) (hP34.wf17 (x := totF (setW (A 1) nr (gQ ql k_).1) t nr)) Off.set (fun σ36 hP37 ho38 => ?_)
              refine e_iincN (a := k_) (b := 1) (L' := [(1, .int (nI (k_ + 1))), (2, .int (totF (setW (A 1) nr (gQ ql k_).1) t nr)), (0, .ref m)]) (pc := 90) Xc (dT hX7_looksForMost 50 rfl) 2 rfl rfl (by decide) rfl ?_
              refine e_goto (tgt := 15) (pc := 93) Xc (dT hX7_looksForMost 51 rfl) rfl ?_
              refine Ev.pick (L' := [(0, .ref m), (1, .int (nI (k_ + 1)))]) [2, 0] rfl ?_
              exact ih15 (k_ + 1) (setW (A 1) nr (gQ ql k_).1) (nI (gQ ql k_).1) (totF (setW (A 1) nr (gQ ql k_).1) t nr) (some ((gQ ql k_).1, (totF (setW (A 1) nr (gQ ql k_).1) t nr))) σ36 (by omega) (by omega) (fun j h => setW_n h) hG2_ (by rw [mostL_s hk1_, ho_]; exact (if_pos (Or.inl c51))) (⟨rfl, rfl, hwl_⟩) (by have h_ := hP37; first | exact h_ | (rw [show upd (upd (upd (upd (upd F 15 (nI ql.length)) 16 (nI pw_.1)) 17 pw_.2) 16 (nI (gQ ql k_).1)) 17 (totF (setW (A 1) nr (gQ ql k_).1) t nr) = upd (upd (upd F 15 (nI ql.length)) 16 (nI (gQ ql k_).1)) 17 (totF (setW (A 1) nr (gQ ql k_).1) t nr) by funext j_; simp only [upd]; repeat' split <;> simp_all] at h_; exact h_)) (((ho3.tr ho23).tr ho35).tr ho38)
            · skip
              refine e_iload_n (pc := 54) Xc (dT hX7_looksForMost 30 rfl) 0 rfl ?_
              refine e_aload_n (pc := 55) Xc (dT hX7_looksForMost 31 rfl) 1 rfl ?_
              refine gf_X7_257 (pc := 56) Xc (dT hX7_looksForMost 32 rfl) hP22.o rfl ?_
              refine e_val (y := pw_.2) rfl ?_
              refine e_icmp_ne (tgt := 90) (pc := 59) Xc (dT hX7_looksForMost 33 rfl) rfl (fun c59 => ?_) (fun c59 => ?_)
              · skip
                refine e_iincN (a := k_) (b := 1) (L' := [(1, .int (nI (k_ + 1))), (2, .int (totF (setW (A 1) nr (gQ ql k_).1) t nr)), (0, .ref m)]) (pc := 90) Xc (dT hX7_looksForMost 50 rfl) 2 rfl rfl (by decide) rfl ?_
                refine e_goto (tgt := 15) (pc := 93) Xc (dT hX7_looksForMost 51 rfl) rfl ?_
                refine Ev.pick (L' := [(0, .ref m), (1, .int (nI (k_ + 1)))]) [2, 0] rfl ?_
                exact ih15 (k_ + 1) (setW (A 1) nr (gQ ql k_).1) (nI pw_.1) pw_.2 (some pw_) σ20 (by omega) (by omega) (fun j h => setW_n h) hG2_ (by rw [mostL_s hk1_, ho_]; exact (if_neg (fun q => q.elim c51 (fun q => c59 q.1)))) (⟨rfl, rfl, hpl_⟩) hP22 (ho3.tr ho23)
              · skip
                refine e_aload_n (pc := 62) Xc (dT hX7_looksForMost 34 rfl) 1 rfl ?_
                refine gf_X7_31 (pc := 63) Xc (dT hX7_looksForMost 35 rfl) hP22.o rfl ?_
                refine e_iload_n (pc := 66) Xc (dT hX7_looksForMost 36 rfl) 2 rfl ?_
                refine e_ialdN (pc := 67) Xc (dT hX7_looksForMost 37 rfl) hP22.a7 (by decide) rfl k_ rfl (by have := hG.1; omega) (by decide) ?_
                refine e_val (y := Q_ k_) rfl ?_
                refine e_val (y := nI ((gQ ql k_).1)) (hRQ_.1 k_ hk1_) ?_
                refine e_aload_n (pc := 68) Xc (dT hX7_looksForMost 38 rfl) 1 rfl ?_
                refine gf_X7_251 (pc := 69) Xc (dT hX7_looksForMost 39 rfl) hP22.o rfl ?_
                refine e_val (y := (nI pw_.1)) rfl ?_
                refine e_val (y := nI pw_.1) rfl ?_
                refine e_icmp_geN (x := (gQ ql k_).1) (y := pw_.1) (tgt := 90) (pc := 72) Xc (dT hX7_looksForMost 40 rfl) rfl (by have := hG.1; omega) (by have := hG.1; omega) (fun c72 => ?_) (fun c72 => ?_)
                · skip
                  refine e_iincN (a := k_) (b := 1) (L' := [(1, .int (nI (k_ + 1))), (2, .int (totF (setW (A 1) nr (gQ ql k_).1) t nr)), (0, .ref m)]) (pc := 90) Xc (dT hX7_looksForMost 50 rfl) 2 rfl rfl (by decide) rfl ?_
                  refine e_goto (tgt := 15) (pc := 93) Xc (dT hX7_looksForMost 51 rfl) rfl ?_
                  refine Ev.pick (L' := [(0, .ref m), (1, .int (nI (k_ + 1)))]) [2, 0] rfl ?_
                  exact ih15 (k_ + 1) (setW (A 1) nr (gQ ql k_).1) (nI pw_.1) pw_.2 (some pw_) σ20 (by omega) (by omega) (fun j h => setW_n h) hG2_ (by rw [mostL_s hk1_, ho_]; exact (if_neg (fun q => q.elim c51 (fun q => by omega)))) (⟨rfl, rfl, hpl_⟩) hP22 (ho3.tr ho23)
                · skip
                  refine e_aload_n (pc := 75) Xc (dT hX7_looksForMost 41 rfl) 1 rfl ?_
                  refine e_aload_n (pc := 76) Xc (dT hX7_looksForMost 42 rfl) 1 rfl ?_
                  refine gf_X7_31 (pc := 77) Xc (dT hX7_looksForMost 43 rfl) hP22.o rfl ?_
                  refine e_iload_n (pc := 80) Xc (dT hX7_looksForMost 44 rfl) 2 rfl ?_
                  refine e_ialdN (pc := 81) Xc (dT hX7_looksForMost 45 rfl) hP22.a7 (by decide) rfl k_ rfl (by have := hG.1; omega) (by decide) ?_
                  refine e_val (y := Q_ k_) rfl ?_
                  refine e_val (y := nI ((gQ ql k_).1)) (hRQ_.1 k_ hk1_) ?_
                  refine pf_X7_251 (fs' := olX7 m (upd (upd (upd (upd F 15 (nI ql.length)) 16 (nI pw_.1)) 17 pw_.2) 16 (nI ((gQ ql k_).1))) T) (pc := 82) Xc (dT hX7_looksForMost 46 rfl) hP22.o (Nat.le_of_ble_eq_true rfl) rfl ?_
                  refine Ev.gen (fun z => PX7 z m (upd (upd (upd (upd F 15 (nI ql.length)) 16 (nI pw_.1)) 17 pw_.2) 16 (nI ((gQ ql k_).1))) T (upA (upA (upA (upA (upA A 3 fr2) 6 P_) 7 Q_) 8 S_) 1 (setW (A 1) nr (gQ ql k_).1))) (hP22.wf16 (x := nI ((gQ ql k_).1))) Off.set (fun σ39 hP40 ho41 => ?_)
                  refine e_aload_n (pc := 85) Xc (dT hX7_looksForMost 47 rfl) 1 rfl ?_
                  refine e_iload_n (pc := 86) Xc (dT hX7_looksForMost 48 rfl) 0 rfl ?_
                  refine pf_X7_257 (fs' := olX7 m (upd (upd (upd (upd (upd F 15 (nI ql.length)) 16 (nI pw_.1)) 17 pw_.2) 16 (nI ((gQ ql k_).1))) 17 (totF (setW (A 1) nr (gQ ql k_).1) t nr)) T) (pc := 87) Xc (dT hX7_looksForMost 49 rfl) hP40.o (Nat.le_of_ble_eq_true rfl) rfl ?_
                  refine Ev.gen (fun z => PX7 z m (upd (upd (upd (upd (upd F 15 (nI ql.length)) 16 (nI pw_.1)) 17 pw_.2) 16 (nI ((gQ ql k_).1))) 17 (totF (setW (A 1) nr (gQ ql k_).1) t nr)) T (upA (upA (upA (upA (upA A 3 fr2) 6 P_) 7 Q_) 8 S_) 1 (setW (A 1) nr (gQ ql k_).1))) (hP40.wf17 (x := totF (setW (A 1) nr (gQ ql k_).1) t nr)) Off.set (fun σ42 hP43 ho44 => ?_)
                  refine e_iincN (a := k_) (b := 1) (L' := [(1, .int (nI (k_ + 1))), (2, .int (totF (setW (A 1) nr (gQ ql k_).1) t nr)), (0, .ref m)]) (pc := 90) Xc (dT hX7_looksForMost 50 rfl) 2 rfl rfl (by decide) rfl ?_
                  refine e_goto (tgt := 15) (pc := 93) Xc (dT hX7_looksForMost 51 rfl) rfl ?_
                  refine Ev.pick (L' := [(0, .ref m), (1, .int (nI (k_ + 1)))]) [2, 0] rfl ?_
                  exact ih15 (k_ + 1) (setW (A 1) nr (gQ ql k_).1) (nI (gQ ql k_).1) (totF (setW (A 1) nr (gQ ql k_).1) t nr) (some ((gQ ql k_).1, (totF (setW (A 1) nr (gQ ql k_).1) t nr))) σ42 (by omega) (by omega) (fun j h => setW_n h) hG2_ (by rw [mostL_s hk1_, ho_]; exact (if_pos (Or.inr ⟨c59, by omega⟩))) (⟨rfl, rfl, hwl_⟩) (by have h_ := hP43; first | exact h_ | (rw [show upd (upd (upd (upd (upd F 15 (nI ql.length)) 16 (nI pw_.1)) 17 pw_.2) 16 (nI (gQ ql k_).1)) 17 (totF (setW (A 1) nr (gQ ql k_).1) t nr) = upd (upd (upd F 15 (nI ql.length)) 16 (nI (gQ ql k_).1)) 17 (totF (setW (A 1) nr (gQ ql k_).1) t nr) by funext j_; simp only [upd]; repeat' split <;> simp_all] at h_; exact h_)) (((ho3.tr ho23).tr ho41).tr ho44)
  refine Ev.pick (L' := [(0, .ref m), (1, .int 0)]) [1, 0] rfl ?_
  exact lp15 ((ql.length - 0) + 1) 0 (A 1) (-1) (F 17) none σ11 (Nat.lt_succ_self _) (Nat.zero_le _) (fun j h => rfl) hG rfl rfl (by rw [show (upA (upA (upA (upA (upA A 3 fr2) 6 P_) 7 Q_) 8 S_) 1 (A 1)) = (upA (upA (upA (upA A 3 fr2) 6 P_) 7 Q_) 8 S_) from (by funext j_; unfold upA; repeat' split <;> simp_all), show upd (upd (upd F 15 (nI ql.length)) 16 (-1)) 17 (F 17) = upd (upd F 15 (nI ql.length)) 16 (-1) from upd_self]; exact hP12) ((ho5.tr ho10).tr ho13)
set_option maxRecDepth 100000 in
set_option maxHeartbeats 4000000 in
theorem p_most {G : xG} {σ : xS} {m : Nat} {X Y bd : Nat → Int32} {hi rn : Int32} (hM : MK σ m X Y bd hi rn) {nr nb ns np nn nt na dy : Nat} {t : xT} (hK : OK X nr nb t ns np nn nt na dy) (w : Int32) : CI G yX7_most cX7_most 2 (some .int) 7 0 0 [.ref m, .int w] σ (fun z σ1 => z = v_most X t nr nb w ∧ MK σ1 m X Y bd hi rn ∧ Off m σ σ1) := by
  refine Met.ofX (by decide +kernel) (Nat.le_of_ble_eq_true rfl) (fun μ Xc hQ hnm => ?_)
  have Xc : xC G μ cX7_most 2 RX7 (some .int) 7 0 0 := Xc
  obtain ⟨F, T, A, hP, e1, e2, e3, e4, e5⟩ := hM
  subst e1 e2 e3 e4 e5
  obtain ⟨hG, hT, hS, hPl, hNo, hTa, hA, hJ, hR, hD⟩ := id hK
  have hr4 := hG.r4
  have hb7 := hG.b7
  have hs6 := hS.1
  have hp8 := hPl.1
  have hn8 := hNo.1
  have ht100 := hTa.1
  have ha5 := hA.1
  have hd9 := hD.1
  show Ev G μ 2 0 0 0 [(0, .ref m), (1, .int w)] [] σ
  refine e_iload_n (pc := 0) Xc (dT hX7_most 0 rfl) 1 rfl ?_
  refine e_iconst (v := 0) (pc := 1) Xc (dT hX7_most 1 rfl) rfl ?_
  refine e_iconst (v := 1) (pc := 2) Xc (dT hX7_most 2 rfl) rfl ?_
  refine cl_X7_50 (pc := 3) (k := 0) (n := 0) (S := []) Xc (c_in w 0 1) (dT hX7_most 3 rfl) rfl (Nat.le_of_ble_eq_true rfl) (Nat.le_of_ble_eq_true rfl) (Nat.le_of_ble_eq_true rfl) rfl (Nat.le_of_ble_eq_true rfl) (fun r1 σ2 hq3 => ?_)
  obtain ⟨r1e, r1s⟩ := hq3
  have r1e := r1e.symm; subst r1e; have r1s := r1s.symm; subst r1s
  refine e_if_ne (tgt := 24) (pc := 6) Xc (dT hX7_most 4 rfl) rfl (fun c6 => ?_) (fun c6 => ?_)
  · skip
    simp only [bI_0, Bool.not_eq_true, Bool.not_eq_false] at c6
    have hin_ : inF w 0 1 = true ∨ inF (w - 10) 0 (nI nr - 1) = true := Or.inl c6
    refine e_aload_n (pc := 24) Xc (dT hX7_most 13 rfl) 0 rfl ?_
    refine cl_X7_260 (pc := 25) (k := 0) (n := 0) (S := []) Xc hP.o (c_looksForMost hP hG hT) (dT hX7_most 14 rfl) rfl (Nat.le_of_ble_eq_true rfl) (Nat.le_of_ble_eq_true rfl) (Nat.le_of_ble_eq_true rfl) rfl (Nat.le_of_ble_eq_true rfl) (fun σ5 hq6 => ?_)
    obtain ⟨ql, P_, Q_, S_, fr, pw_, hP7, hRQ_, hRES_, hmo_, hpl_, ho8⟩ := hq6
    have hz0_ : v_most (A 1) t nr nb w = if w = 0 then pw_.2 else if w = 1 then lkQ (theQ (A 1) t nr nb) pw_.1 else orN (hsW pw_.1 (cl (w - 10))) := by
      rw [v_most, if_pos hin_, most_q hRES_, hmo_]
    have hlk_ : lkQ (theQ (A 1) t nr nb) pw_.1 = S_ pw_.1 := by
      obtain ⟨p_, e_, ⟨q_, hq1_, hq2_⟩, -⟩ := mostL_top hRES_
      rw [hmo_] at e_
      have e_ : pw_ = p_ := Option.some.inj e_
      subst e_
      rw [hRQ_.2 _ hpl_]
      exact (lkQ_one hRES_ (theQ_ok hRES_) ⟨q_, hq1_, hq2_⟩).symm
    refine e_iload_n (pc := 28) Xc (dT hX7_most 15 rfl) 1 rfl ?_
    refine e_if_ne (tgt := 39) (pc := 29) Xc (dT hX7_most 16 rfl) rfl (fun c29 => ?_) (fun c29 => ?_)
    · skip
      refine e_iload_n (pc := 39) Xc (dT hX7_most 20 rfl) 1 rfl ?_
      refine e_iconst (v := 1) (pc := 40) Xc (dT hX7_most 21 rfl) rfl ?_
      refine e_icmp_ne (tgt := 56) (pc := 41) Xc (dT hX7_most 22 rfl) rfl (fun c41 => ?_) (fun c41 => ?_)
      · skip
        exact absurd (in01 c6 c29 c41) id
      · skip
        refine e_aload_n (pc := 44) Xc (dT hX7_most 23 rfl) 0 rfl ?_
        refine gf_X7_34 (pc := 45) Xc (dT hX7_most 24 rfl) hP7.o rfl ?_
        refine e_aload_n (pc := 48) Xc (dT hX7_most 25 rfl) 0 rfl ?_
        refine gf_X7_251 (pc := 49) Xc (dT hX7_most 26 rfl) hP7.o rfl ?_
        refine e_val (y := nI pw_.1) rfl ?_
        refine e_val (y := nI pw_.1) rfl ?_
        refine e_ialdN (pc := 52) Xc (dT hX7_most 27 rfl) hP7.a8 (by decide) rfl pw_.1 rfl (by omega) (by decide) ?_
        refine e_val (y := S_ pw_.1) rfl ?_
        refine e_goto (tgt := 71) (pc := 53) Xc (dT hX7_most 28 rfl) rfl ?_
        refine e_iret (pc := 71) Xc hQ (dT hX7_most 37 rfl) (Nat.le_refl _) (Nat.le_refl _) ?_
        have hz : v_most (A 1) t nr nb w = S_ pw_.1 := by
          rw [hz0_, if_neg c29, if_pos c41, hlk_]
        exact ⟨hz.symm, ⟨_, _, _, hP7, rfl, rfl, rfl, rfl, rfl⟩, ho8⟩
    · skip
      refine e_aload_n (pc := 32) Xc (dT hX7_most 17 rfl) 0 rfl ?_
      refine gf_X7_257 (pc := 33) Xc (dT hX7_most 18 rfl) hP7.o rfl ?_
      refine e_val (y := pw_.2) rfl ?_
      refine e_goto (tgt := 71) (pc := 36) Xc (dT hX7_most 19 rfl) rfl ?_
      refine e_iret (pc := 71) Xc hQ (dT hX7_most 37 rfl) (Nat.le_refl _) (Nat.le_refl _) ?_
      have hz : v_most (A 1) t nr nb w = pw_.2 := by
        rw [hz0_, if_pos c29]
      exact ⟨hz.symm, ⟨_, _, _, hP7, rfl, rfl, rfl, rfl, rfl⟩, ho8⟩
  · skip
    refine e_aload_n (pc := 9) Xc (dT hX7_most 5 rfl) 0 rfl ?_
    refine e_iload_n (pc := 10) Xc (dT hX7_most 6 rfl) 1 rfl ?_
    refine e_bipush (v := 10) (pc := 11) Xc (dT hX7_most 7 rfl) rfl ?_
    refine e_isub (pc := 13) Xc (dT hX7_most 8 rfl) ?_
    refine cl_X7_165 (pc := 14) (k := 0) (n := 0) (S := []) Xc hP.o (c_isReader hP hG (w - 10)) (dT hX7_most 9 rfl) rfl (Nat.le_of_ble_eq_true rfl) (Nat.le_of_ble_eq_true rfl) (Nat.le_of_ble_eq_true rfl) rfl (Nat.le_of_ble_eq_true rfl) (fun r9 σ10 hq11 => ?_)
    obtain ⟨r9e, r9s⟩ := hq11
    have r9e := r9e.symm; subst r9e; have r9s := r9s.symm; subst r9s
    refine e_if_ne (tgt := 24) (pc := 17) Xc (dT hX7_most 10 rfl) rfl (fun c17 => ?_) (fun c17 => ?_)
    · skip
      simp only [bI_0, Bool.not_eq_true, Bool.not_eq_false] at c6 c17
      have hin_ : inF w 0 1 = true ∨ inF (w - 10) 0 (nI nr - 1) = true := Or.inr c17
      refine e_aload_n (pc := 24) Xc (dT hX7_most 13 rfl) 0 rfl ?_
      refine cl_X7_260 (pc := 25) (k := 0) (n := 0) (S := []) Xc hP.o (c_looksForMost hP hG hT) (dT hX7_most 14 rfl) rfl (Nat.le_of_ble_eq_true rfl) (Nat.le_of_ble_eq_true rfl) (Nat.le_of_ble_eq_true rfl) rfl (Nat.le_of_ble_eq_true rfl) (fun σ13 hq14 => ?_)
      obtain ⟨ql, P_, Q_, S_, fr, pw_, hP15, hRQ_, hRES_, hmo_, hpl_, ho16⟩ := hq14
      have hz0_ : v_most (A 1) t nr nb w = if w = 0 then pw_.2 else if w = 1 then lkQ (theQ (A 1) t nr nb) pw_.1 else orN (hsW pw_.1 (cl (w - 10))) := by
        rw [v_most, if_pos hin_, most_q hRES_, hmo_]
      have hlk_ : lkQ (theQ (A 1) t nr nb) pw_.1 = S_ pw_.1 := by
        obtain ⟨p_, e_, ⟨q_, hq1_, hq2_⟩, -⟩ := mostL_top hRES_
        rw [hmo_] at e_
        have e_ : pw_ = p_ := Option.some.inj e_
        subst e_
        rw [hRQ_.2 _ hpl_]
        exact (lkQ_one hRES_ (theQ_ok hRES_) ⟨q_, hq1_, hq2_⟩).symm
      refine e_iload_n (pc := 28) Xc (dT hX7_most 15 rfl) 1 rfl ?_
      refine e_if_ne (tgt := 39) (pc := 29) Xc (dT hX7_most 16 rfl) rfl (fun c29 => ?_) (fun c29 => ?_)
      · skip
        refine e_iload_n (pc := 39) Xc (dT hX7_most 20 rfl) 1 rfl ?_
        refine e_iconst (v := 1) (pc := 40) Xc (dT hX7_most 21 rfl) rfl ?_
        refine e_icmp_ne (tgt := 56) (pc := 41) Xc (dT hX7_most 22 rfl) rfl (fun c41 => ?_) (fun c41 => ?_)
        · skip
          obtain ⟨q, hq, hqe_⟩ := inF_nat (v := w - 10) (n := nr) (by omega) c17
          have hc_q : cl (nI q) = q := cl_nI (by omega)
          refine e_aload_n (pc := 56) Xc (dT hX7_most 29 rfl) 0 rfl ?_
          refine e_aload_n (pc := 57) Xc (dT hX7_most 30 rfl) 0 rfl ?_
          refine gf_X7_251 (pc := 58) Xc (dT hX7_most 31 rfl) hP15.o rfl ?_
          refine e_val (y := nI pw_.1) rfl ?_
          refine e_val (y := nI pw_.1) rfl ?_
          refine e_iload_n (pc := 61) Xc (dT hX7_most 32 rfl) 1 rfl ?_
          refine e_bipush (v := 10) (pc := 62) Xc (dT hX7_most 33 rfl) rfl ?_
          refine e_isub (pc := 64) Xc (dT hX7_most 34 rfl) ?_
          refine e_val (y := nI q) hqe_ ?_
          refine cl_X7_211 (pc := 65) (k := 0) (n := 0) (S := [.ref m]) Xc (c_hasIn pw_.1 q (by omega) (by omega)) (dT hX7_most 35 rfl) rfl (Nat.le_of_ble_eq_true rfl) (Nat.le_of_ble_eq_true rfl) (Nat.le_of_ble_eq_true rfl) rfl (Nat.le_of_ble_eq_true rfl) (fun r17 σ18 hq19 => ?_)
          obtain ⟨r17e, r17s⟩ := hq19
          have r17e := r17e.symm; subst r17e; have r17s := r17s.symm; subst r17s
          refine cl_X7_168 (pc := 68) (k := 0) (n := 0) (S := []) Xc hP15.o (c_orNone hP15 (hsW pw_.1 q)) (dT hX7_most 36 rfl) rfl (Nat.le_of_ble_eq_true rfl) (Nat.le_of_ble_eq_true rfl) (Nat.le_of_ble_eq_true rfl) rfl (Nat.le_of_ble_eq_true rfl) (fun r20 σ21 hq22 => ?_)
          obtain ⟨r20e, r20s⟩ := hq22
          have r20e := r20e.symm; subst r20e; have r20s := r20s.symm; subst r20s
          refine e_val (y := orN (hsW pw_.1 q)) rfl ?_
          refine e_iret (pc := 71) Xc hQ (dT hX7_most 37 rfl) (Nat.le_refl _) (Nat.le_refl _) ?_
          have hz : v_most (A 1) t nr nb w = orN (hsW pw_.1 q) := by
            rw [hz0_, if_neg c29, if_neg c41, hqe_, hc_q]
          exact ⟨hz.symm, ⟨_, _, _, hP15, rfl, rfl, rfl, rfl, rfl⟩, ho16⟩
        · skip
          refine e_aload_n (pc := 44) Xc (dT hX7_most 23 rfl) 0 rfl ?_
          refine gf_X7_34 (pc := 45) Xc (dT hX7_most 24 rfl) hP15.o rfl ?_
          refine e_aload_n (pc := 48) Xc (dT hX7_most 25 rfl) 0 rfl ?_
          refine gf_X7_251 (pc := 49) Xc (dT hX7_most 26 rfl) hP15.o rfl ?_
          refine e_val (y := nI pw_.1) rfl ?_
          refine e_val (y := nI pw_.1) rfl ?_
          refine e_ialdN (pc := 52) Xc (dT hX7_most 27 rfl) hP15.a8 (by decide) rfl pw_.1 rfl (by omega) (by decide) ?_
          refine e_val (y := S_ pw_.1) rfl ?_
          refine e_goto (tgt := 71) (pc := 53) Xc (dT hX7_most 28 rfl) rfl ?_
          refine e_iret (pc := 71) Xc hQ (dT hX7_most 37 rfl) (Nat.le_refl _) (Nat.le_refl _) ?_
          have hz : v_most (A 1) t nr nb w = S_ pw_.1 := by
            rw [hz0_, if_neg c29, if_pos c41, hlk_]
          exact ⟨hz.symm, ⟨_, _, _, hP15, rfl, rfl, rfl, rfl, rfl⟩, ho16⟩
      · skip
        refine e_aload_n (pc := 32) Xc (dT hX7_most 17 rfl) 0 rfl ?_
        refine gf_X7_257 (pc := 33) Xc (dT hX7_most 18 rfl) hP15.o rfl ?_
        refine e_val (y := pw_.2) rfl ?_
        refine e_goto (tgt := 71) (pc := 36) Xc (dT hX7_most 19 rfl) rfl ?_
        refine e_iret (pc := 71) Xc hQ (dT hX7_most 37 rfl) (Nat.le_refl _) (Nat.le_refl _) ?_
        have hz : v_most (A 1) t nr nb w = pw_.2 := by
          rw [hz0_, if_pos c29]
        exact ⟨hz.symm, ⟨_, _, _, hP15, rfl, rfl, rfl, rfl, rfl⟩, ho16⟩
    · skip
      refine e_sipush (v := -10001) (pc := 20) Xc (dT hX7_most 11 rfl) rfl ?_
      refine e_iret (pc := 23) Xc hQ (dT hX7_most 12 rfl) (Nat.le_refl _) (Nat.le_refl _) ?_
      have hz : v_most (A 1) t nr nb w = (-10001) := by
        try simp only [bI_0, bI_1, Bool.not_eq_true, Bool.not_eq_false] at c6 c17
        first | (simp [v_most, c6, c17]; done) | (clear hK hG hT hS hPl hNo hTa hA hJ hR hD hQ Xc; simp_all [v_most]; done)
      exact ⟨hz.symm, ⟨_, _, _, hP, rfl, rfl, rfl, rfl, rfl⟩, Off.rf⟩
