set_option maxRecDepth 100000 in
set_option maxHeartbeats 4000000 in
theorem c_orders0 {G : xG} {σ : xS} {m : Nat} {F : Nat → Int32} {T : Nat → Nat} {A : Nat → Nat → Int32} (hP : PX7 σ m F T A) {nr nb : Nat} (hG : Gd (A 1) nr nb) {t : xT} (hT : Hd (A 1) t) (k d : Nat) (pre : List Nat) (B : ordS) (hk : pre.length = k) (hd : d < 16) (hB : F 17 = B.1) (hB2 : ∀ j, j < B.2.length → A 10 j = nI (B.2.getD j 0)) (hp : ∀ j, j < k → A 9 j = nI (pre.getD j 0)) (hkf : k = nr) : CV G yX7_ordersFrom cX7_ordersFrom 5 none 5 0 0 [.ref m, .int (nI k), .int (nI d)] σ (fun σ1 => ∃ l9 l10, PX7 σ1 m (upd F 17 (foO (A 1) t nr nb pre B (lvO 0 nr d)).1) T (upA (upA A 9 l9) 10 l10) ∧ (∀ j, j < k → l9 j = nI (pre.getD j 0)) ∧ (∀ j, j < (foO (A 1) t nr nb pre B (lvO 0 nr d)).2.length → l10 j = nI ((foO (A 1) t nr nb pre B (lvO 0 nr d)).2.getD j 0)) ∧ Off m σ σ1) := by
  refine Met.ofX (by decide +kernel) (Nat.le_of_ble_eq_true rfl) (fun μ Xc hQ hnm => ?_)
  have Xc : xC G μ cX7_ordersFrom 5 RX7 none 5 0 0 := Xc
  have hr4 := hG.r4
  show Ev G μ 5 0 0 0 [(0, .ref m), (1, .int (nI k)), (2, .int (nI d))] [] σ
  refine e_iload_n (pc := 0) Xc (dT hX7_ordersFrom 0 rfl) 1 rfl ?_
  refine e_aload_n (pc := 1) Xc (dT hX7_ordersFrom 1 rfl) 0 rfl ?_
  refine gf_X7_9 (pc := 2) Xc (dT hX7_ordersFrom 2 rfl) hP.o rfl ?_
  refine e_bipush (v := 12) (pc := 5) Xc (dT hX7_ordersFrom 3 rfl) rfl ?_
  refine e_ialdN (pc := 7) Xc (dT hX7_ordersFrom 4 rfl) hP.a1 (by decide) rfl 12 rfl (by have := hG.1; omega) (by decide) ?_
  refine e_val (y := nI nr) hG.1.2.2.1 ?_
  refine e_icmp_neN (x := k) (y := nr) (tgt := 59) (pc := 8) Xc (dT hX7_ordersFrom 5 rfl) rfl (by have := hG.1; omega) (by have := hG.1; omega) (fun c8 => ?_) (fun c8 => ?_)
  · skip
    exact absurd hkf c8
  · skip
    refine e_aload_n (pc := 11) Xc (dT hX7_ordersFrom 6 rfl) 0 rfl ?_
    refine cl_X7_183 (pc := 12) (k := 0) (n := 0) (S := []) Xc hP.o (c_totalNow hP hG hT) (dT hX7_ordersFrom 7 rfl) rfl (Nat.le_of_ble_eq_true rfl) (Nat.le_of_ble_eq_true rfl) (Nat.le_of_ble_eq_true rfl) rfl (Nat.le_of_ble_eq_true rfl) (fun r1 σ2 hq3 => ?_)
    obtain ⟨r1e, hP4, ho5⟩ := hq3
    have r1e := r1e.symm; subst r1e
    refine e_istore_n (L' := [(3, .int (totF (A 1) t nr)), (0, .ref m), (1, .int (nI k)), (2, .int (nI d))]) (pc := 15) Xc (dT hX7_ordersFrom 8 rfl) (by decide) rfl ?_
    refine e_iload_n (pc := 16) Xc (dT hX7_ordersFrom 9 rfl) 0 rfl ?_
    refine e_aload_n (pc := 17) Xc (dT hX7_ordersFrom 10 rfl) 1 rfl ?_
    refine gf_X7_257 (pc := 18) Xc (dT hX7_ordersFrom 11 rfl) hP4.o rfl ?_
    refine e_icmp_le (tgt := 58) (pc := 21) Xc (dT hX7_ordersFrom 12 rfl) rfl (fun c21 => ?_) (fun c21 => ?_)
    · skip
      refine e_vret (pc := 58) Xc hQ (dT hX7_ordersFrom 31 rfl) (Nat.le_refl _) (Nat.le_refl _) ?_
      have hz : foO (A 1) t nr nb pre B (lvO 0 nr d) = B := by
        show stepO (A 1) t nr nb pre B [] = B
        rw [stepO, if_neg (by rw [← hB]; exact Int32.not_lt.mpr c21)]
      rw [hz]
      refine ⟨A 9, A 10, ?_, hp, hB2, ho5⟩
      rw [upA_id, upA_id, ← hB, upd_self]
      exact hP4
    · skip
      refine e_aload_n (pc := 24) Xc (dT hX7_ordersFrom 13 rfl) 1 rfl ?_
      refine e_iload_n (pc := 25) Xc (dT hX7_ordersFrom 14 rfl) 0 rfl ?_
      refine pf_X7_257 (fs' := olX7 m (upd F 17 (totF (A 1) t nr)) T) (pc := 26) Xc (dT hX7_ordersFrom 15 rfl) hP4.o (Nat.le_of_ble_eq_true rfl) rfl ?_
      refine Ev.gen (fun z => PX7 z m (upd F 17 (totF (A 1) t nr)) T A) (hP4.wf17 (x := totF (A 1) t nr)) Off.set (fun σ6 hP7 ho8 => ?_)
      refine e_iconst (v := 0) (pc := 29) Xc (dT hX7_ordersFrom 16 rfl) rfl ?_
      refine e_istore (L' := [(4, .int 0), (3, .int (totF (A 1) t nr)), (0, .ref m), (1, .int (nI k)), (2, .int (nI d))]) (pc := 30) Xc (dT hX7_ordersFrom 17 rfl) (by decide) rfl ?_
      have lp32 : ∀ (n32 : Nat) (j_ : Nat) (g_ : Nat → Int32) (σ2 : xS), k - j_ < n32 → (j_ ≤ k) → (∀ i, i < j_ → g_ i = nI (pre.getD i 0)) → (PX7 σ2 m (upd F 17 (totF (A 1) t nr)) T (upA A 10 g_)) → (Off m σ σ2) → Ev G μ 5 0 0 32 [(0, .ref m), (1, .int (nI k)), (3, .int (totF (A 1) t nr)), (4, .int (nI j_))] [] σ2 := by
        intro n32
        induction n32 with
        | zero => intro j_ g_ σ2 hn; exact absurd hn (Nat.not_lt_zero _)
        | succ n32 ih32 =>
          intro j_ g_ σ2 hn32 hj_ hg_ hp2 ho2
          refine e_iload (pc := 32) Xc (dT hX7_ordersFrom 18 rfl) 3 rfl ?_
          refine e_iload_n (pc := 34) Xc (dT hX7_ordersFrom 19 rfl) 1 rfl ?_
          refine e_icmp_geN (x := j_) (y := k) (tgt := 58) (pc := 35) Xc (dT hX7_ordersFrom 20 rfl) rfl (by have := hG.1; omega) (by have := hG.1; omega) (fun c35 => ?_) (fun c35 => ?_)
          · skip
            refine e_vret (pc := 58) Xc hQ (dT hX7_ordersFrom 31 rfl) (Nat.le_refl _) (Nat.le_refl _) ?_
            have hz : foO (A 1) t nr nb pre B (lvO 0 nr d) = (totF (A 1) t nr, pre) := by
              show stepO (A 1) t nr nb pre B [] = _
              rw [stepO, if_pos (by rw [← hB]; exact Int32.not_le.mp c21), List.append_nil]; rfl
            rw [hz]
            refine ⟨A 9, g_, ?_, hp, (fun i hi => hg_ i (by have : i < pre.length := hi; omega)), ho2⟩
            rw [upA_id]
            exact hp2
          · skip
            refine e_aload_n (pc := 38) Xc (dT hX7_ordersFrom 21 rfl) 0 rfl ?_
            refine gf_X7_40 (pc := 39) Xc (dT hX7_ordersFrom 22 rfl) hp2.o rfl ?_
            refine e_iload (pc := 42) Xc (dT hX7_ordersFrom 23 rfl) 3 rfl ?_
            refine e_aload_n (pc := 44) Xc (dT hX7_ordersFrom 24 rfl) 0 rfl ?_
            refine gf_X7_37 (pc := 45) Xc (dT hX7_ordersFrom 25 rfl) hp2.o rfl ?_
            refine e_iload (pc := 48) Xc (dT hX7_ordersFrom 26 rfl) 3 rfl ?_
            refine e_ialdN (pc := 50) Xc (dT hX7_ordersFrom 27 rfl) hp2.a9 (by decide) rfl j_ rfl (by have := hG.1; omega) (by decide) ?_
            refine e_val (y := A 9 j_) rfl ?_
            refine e_iastN (pc := 51) Xc (dT hX7_ordersFrom 28 rfl) hp2.a10 rfl j_ rfl (by have := hG.1; omega) (by decide) ?_
            refine Ev.gen (fun z => PX7 z m (upd F 17 (totF (A 1) t nr)) T (upA (upA A 10 g_) 10 (upd g_ j_ (A 9 j_)))) (hp2.wa10 (g := (upd g_ j_ (A 9 j_)))) Off.set (fun σ9 hP10 ho11 => ?_)
            have hP10 : PX7 σ9 m (upd F 17 (totF (A 1) t nr)) T (upA A 10 (upd g_ j_ (A 9 j_))) := by rw [upA_2] at hP10; exact hP10
            refine e_iincN (a := j_) (b := 1) (L' := [(4, .int (nI (j_ + 1))), (0, .ref m), (1, .int (nI k)), (3, .int (totF (A 1) t nr))]) (pc := 52) Xc (dT hX7_ordersFrom 29 rfl) 3 rfl rfl (by decide) rfl ?_
            refine e_goto (tgt := 32) (pc := 55) Xc (dT hX7_ordersFrom 30 rfl) rfl ?_
            refine Ev.pick (L' := [(0, .ref m), (1, .int (nI k)), (3, .int (totF (A 1) t nr)), (4, .int (nI (j_ + 1)))]) [1, 2, 3, 0] rfl ?_
            exact ih32 (j_ + 1) (upd g_ j_ (A 9 j_)) σ9 (by omega) (by omega) (fun i hi => by by_cases e_ : i = j_; (subst e_; rw [upd_s]; exact hp i (by omega)); (rw [upd_n e_]; exact hg_ i (by omega))) hP10 (ho2.tr ho11)
      refine Ev.pick (L' := [(0, .ref m), (1, .int (nI k)), (3, .int (totF (A 1) t nr)), (4, .int 0)]) [2, 3, 1, 0] rfl ?_
      exact lp32 ((k - 0) + 1) 0 (A 10) σ6 (Nat.lt_succ_self _) (Nat.zero_le _) (fun i hi => absurd hi (Nat.not_lt_zero _)) (by rw [upA_id]; exact hP7) (ho5.tr ho8)
set_option maxRecDepth 100000 in
set_option maxHeartbeats 4000000 in
theorem c_orders1 {G : xG} {σ : xS} {m : Nat} {F : Nat → Int32} {T : Nat → Nat} {A : Nat → Nat → Int32} (hP : PX7 σ m F T A) {nr nb : Nat} (hG : Gd (A 1) nr nb) {t : xT} (hT : Hd (A 1) t) (k d : Nat) (pre : List Nat) (B : ordS) (hk : pre.length = k) (hd : d < 16) (hB : F 17 = B.1) (hB2 : ∀ j, j < B.2.length → A 10 j = nI (B.2.getD j 0)) (hp : ∀ j, j < k → A 9 j = nI (pre.getD j 0)) (hkf : k + 1 = nr) : CV G yX7_ordersFrom cX7_ordersFrom 5 none 6 0 0 [.ref m, .int (nI k), .int (nI d)] σ (fun σ1 => ∃ l9 l10, PX7 σ1 m (upd F 17 (foO (A 1) t nr nb pre B (lvO 1 nr d)).1) T (upA (upA A 9 l9) 10 l10) ∧ (∀ j, j < k → l9 j = nI (pre.getD j 0)) ∧ (∀ j, j < (foO (A 1) t nr nb pre B (lvO 1 nr d)).2.length → l10 j = nI ((foO (A 1) t nr nb pre B (lvO 1 nr d)).2.getD j 0)) ∧ Off m σ σ1) := by
  refine Met.ofX (by decide +kernel) (Nat.le_of_ble_eq_true rfl) (fun μ Xc hQ hnm => ?_)
  have Xc : xC G μ cX7_ordersFrom 5 RX7 none 6 0 0 := Xc
  have hr4 := hG.r4
  show Ev G μ 5 0 0 0 [(0, .ref m), (1, .int (nI k)), (2, .int (nI d))] [] σ
  refine e_iload_n (pc := 0) Xc (dT hX7_ordersFrom 0 rfl) 1 rfl ?_
  refine e_aload_n (pc := 1) Xc (dT hX7_ordersFrom 1 rfl) 0 rfl ?_
  refine gf_X7_9 (pc := 2) Xc (dT hX7_ordersFrom 2 rfl) hP.o rfl ?_
  refine e_bipush (v := 12) (pc := 5) Xc (dT hX7_ordersFrom 3 rfl) rfl ?_
  refine e_ialdN (pc := 7) Xc (dT hX7_ordersFrom 4 rfl) hP.a1 (by decide) rfl 12 rfl (by have := hG.1; omega) (by decide) ?_
  refine e_val (y := nI nr) hG.1.2.2.1 ?_
  refine e_icmp_neN (x := k) (y := nr) (tgt := 59) (pc := 8) Xc (dT hX7_ordersFrom 5 rfl) rfl (by have := hG.1; omega) (by have := hG.1; omega) (fun c8 => ?_) (fun c8 => ?_)
  · skip
    refine e_iconst (v := 0) (pc := 59) Xc (dT hX7_ordersFrom 32 rfl) rfl ?_
    refine e_istore_n (L' := [(3, .int 0), (0, .ref m), (1, .int (nI k)), (2, .int (nI d))]) (pc := 60) Xc (dT hX7_ordersFrom 33 rfl) (by decide) rfl ?_
    have lp61 : ∀ (n61 : Nat) (r_ : Nat) (l9 l10 : Nat → Int32) (σ2 : xS), nr - r_ < n61 → (r_ ≤ nr) → (∀ j, j < k → l9 j = nI (pre.getD j 0)) → (∀ j, j < (foO (A 1) t nr nb pre B (lvP (fun r => lvO 0 nr (d + 2 ^ r)) d r_)).2.length → l10 j = nI ((foO (A 1) t nr nb pre B (lvP (fun r => lvO 0 nr (d + 2 ^ r)) d r_)).2.getD j 0)) → (PX7 σ2 m (upd F 17 (foO (A 1) t nr nb pre B (lvP (fun r => lvO 0 nr (d + 2 ^ r)) d r_)).1) T (upA (upA A 9 l9) 10 l10)) → (Off m σ σ2) → Ev G μ 5 0 0 61 [(0, .ref m), (1, .int (nI k)), (2, .int (nI d)), (3, .int (nI r_))] [] σ2 := by
      intro n61
      induction n61 with
      | zero => intro r_ l9 l10 σ2 hn; exact absurd hn (Nat.not_lt_zero _)
      | succ n61 ih61 =>
        intro r_ l9 l10 σ2 hn61 hr_ h9 h10 hp2 ho2
        refine e_iload_n (pc := 61) Xc (dT hX7_ordersFrom 34 rfl) 3 rfl ?_
        refine e_aload_n (pc := 62) Xc (dT hX7_ordersFrom 35 rfl) 0 rfl ?_
        refine gf_X7_9 (pc := 63) Xc (dT hX7_ordersFrom 36 rfl) hp2.o rfl ?_
        refine e_bipush (v := 12) (pc := 66) Xc (dT hX7_ordersFrom 37 rfl) rfl ?_
        refine e_ialdN (pc := 68) Xc (dT hX7_ordersFrom 38 rfl) hp2.a1 (by decide) rfl 12 rfl (by have := hG.1; omega) (by decide) ?_
        refine e_val (y := A 1 12) rfl ?_
        refine e_val (y := nI nr) hG.1.2.2.1 ?_
        refine e_icmp_geN (x := r_) (y := nr) (tgt := 131) (pc := 69) Xc (dT hX7_ordersFrom 39 rfl) rfl (by have := hG.1; omega) (by have := hG.1; omega) (fun c69 => ?_) (fun c69 => ?_)
        · skip
          have hre_ : r_ = nr := by omega
          subst hre_
          refine e_vret (pc := 131) Xc hQ (dT hX7_ordersFrom 81 rfl) (Nat.le_refl _) (Nat.le_refl _) ?_
          exact ⟨l9, l10, hp2, h9, h10, ho2⟩
        · skip
          refine e_iload_n (pc := 72) Xc (dT hX7_ordersFrom 40 rfl) 2 rfl ?_
          refine e_iload_n (pc := 73) Xc (dT hX7_ordersFrom 41 rfl) 3 rfl ?_
          refine e_ishr (pc := 74) Xc (dT hX7_ordersFrom 42 rfl) ?_
          refine e_val (y := nI (d / 2 ^ r_)) (shrN (by omega) (by omega)) ?_
          refine e_iconst (v := 1) (pc := 75) Xc (dT hX7_ordersFrom 43 rfl) rfl ?_
          refine e_iand (pc := 76) Xc (dT hX7_ordersFrom 44 rfl) ?_
          refine e_val (y := nI (d / 2 ^ r_ % 2)) (and1 _ (Nat.lt_of_le_of_lt (Nat.div_le_self _ _) (by omega))) ?_
          refine e_if_ne (tgt := 125) (pc := 77) Xc (dT hX7_ordersFrom 45 rfl) rfl (fun c77 => ?_) (fun c77 => ?_)
          · skip
            have hbit : ¬ d / 2 ^ r_ % 2 = 0 := fun e_ => c77 (by rw [e_]; rfl)
            refine e_iincN (a := r_) (b := 1) (L' := [(3, .int (nI (r_ + 1))), (0, .ref m), (1, .int (nI k)), (2, .int (nI d))]) (pc := 125) Xc (dT hX7_ordersFrom 79 rfl) 3 rfl rfl (by decide) rfl ?_
            refine e_goto (tgt := 61) (pc := 128) Xc (dT hX7_ordersFrom 80 rfl) rfl ?_
            refine Ev.pick (L' := [(0, .ref m), (1, .int (nI k)), (2, .int (nI d)), (3, .int (nI (r_ + 1)))]) [1, 2, 3, 0] rfl ?_
            exact ih61 (r_ + 1) l9 l10 σ2 (by omega) (by omega) h9 (by rw [foO_x hbit]; exact h10) (by rw [foO_x hbit]; exact hp2) ho2
          · skip
            have hbit : d / 2 ^ r_ % 2 = 0 := by
              by_cases e_ : d / 2 ^ r_ % 2 = 0
              · exact e_
              · exact absurd c77 (nI_ne0 (Nat.pos_of_ne_zero e_) (Nat.lt_trans (Nat.mod_lt _ (show 2 > 0 by decide)) (by decide)))
            have hmk_ := maskN hd (show r_ < 4 by omega) hbit
            refine e_aload_n (pc := 80) Xc (dT hX7_ordersFrom 46 rfl) 0 rfl ?_
            refine gf_X7_9 (pc := 81) Xc (dT hX7_ordersFrom 47 rfl) hp2.o rfl ?_
            refine e_iconst (v := 1) (pc := 84) Xc (dT hX7_ordersFrom 48 rfl) rfl ?_
            refine e_iload_n (pc := 85) Xc (dT hX7_ordersFrom 49 rfl) 3 rfl ?_
            refine e_iaddN (a := 1) (b := r_) (pc := 86) Xc (dT hX7_ordersFrom 50 rfl) ?_
            refine e_ialdN (pc := 87) Xc (dT hX7_ordersFrom 51 rfl) hp2.a1 (by decide) rfl (1 + r_) rfl (by have := hG.1; omega) (by decide) ?_
            refine e_val (y := A 1 (1 + r_)) rfl ?_
            refine e_istore (L' := [(4, .int (A 1 (1 + r_))), (0, .ref m), (1, .int (nI k)), (2, .int (nI d)), (3, .int (nI r_))]) (pc := 88) Xc (dT hX7_ordersFrom 52 rfl) (by decide) rfl ?_
            refine e_aload_n (pc := 90) Xc (dT hX7_ordersFrom 53 rfl) 1 rfl ?_
            refine gf_X7_37 (pc := 91) Xc (dT hX7_ordersFrom 54 rfl) hp2.o rfl ?_
            refine e_iload_n (pc := 94) Xc (dT hX7_ordersFrom 55 rfl) 2 rfl ?_
            refine e_iload_n (pc := 95) Xc (dT hX7_ordersFrom 56 rfl) 4 rfl ?_
            refine e_iastN (pc := 96) Xc (dT hX7_ordersFrom 57 rfl) hp2.a9 rfl k rfl (by have := hG.1; omega) (by decide) ?_
            refine Ev.gen (fun z => PX7 z m (upd F 17 (foO (A 1) t nr nb pre B (lvP (fun r => lvO 0 nr (d + 2 ^ r)) d r_)).1) T (upA (upA (upA A 9 l9) 10 l10) 9 (upd l9 k (nI r_)))) (hp2.wa9 (g := (upd l9 k (nI r_)))) Off.set (fun σ1 hP2 ho3 => ?_)
            refine e_aload_n (pc := 97) Xc (dT hX7_ordersFrom 58 rfl) 1 rfl ?_
            refine e_iload_n (pc := 98) Xc (dT hX7_ordersFrom 59 rfl) 4 rfl ?_
            refine cl_X7_189 (pc := 99) (k := 0) (n := 0) (S := []) Xc hP2.o (c_comes hP2 hG hT r_ (by omega)) (dT hX7_ordersFrom 60 rfl) rfl (Nat.le_of_ble_eq_true rfl) (Nat.le_of_ble_eq_true rfl) (Nat.le_of_ble_eq_true rfl) rfl (Nat.le_of_ble_eq_true rfl) (fun r4 σ5 hq6 => ?_)
            obtain ⟨r4e, hP7, ho8⟩ := hq6
            have r4e := r4e.symm; subst r4e
            refine e_val (y := bI (decide (choF (A 1) t nr nb r_ ≠ -1))) rfl ?_
            refine e_pop (pc := 102) Xc (dT hX7_ordersFrom 61 rfl) rfl ?_
            refine e_aload_n (pc := 103) Xc (dT hX7_ordersFrom 62 rfl) 1 rfl ?_
            refine e_iload_n (pc := 104) Xc (dT hX7_ordersFrom 63 rfl) 2 rfl ?_
            refine e_iconst (v := 1) (pc := 105) Xc (dT hX7_ordersFrom 64 rfl) rfl ?_
            refine e_iaddN (a := k) (b := 1) (pc := 106) Xc (dT hX7_ordersFrom 65 rfl) ?_
            refine e_iload_n (pc := 107) Xc (dT hX7_ordersFrom 66 rfl) 3 rfl ?_
            refine e_iconst (v := 1) (pc := 108) Xc (dT hX7_ordersFrom 67 rfl) rfl ?_
            refine e_iload_n (pc := 109) Xc (dT hX7_ordersFrom 68 rfl) 4 rfl ?_
            refine e_ishl (pc := 110) Xc (dT hX7_ordersFrom 69 rfl) ?_
            refine e_ior (pc := 111) Xc (dT hX7_ordersFrom 70 rfl) ?_
            refine e_val (y := nI (d + 2 ^ r_)) hmk_.1 ?_
            refine cl_X7_263 (pc := 112) (k := 0) (n := 0) (S := []) Xc hP7.o (c_orders0 hP7 (hG.come (by omega)) (hT.come hG.r4 (by omega)) (k + 1) (d + 2 ^ r_) (pre ++ [r_]) (foO (A 1) t nr nb pre B (lvP (fun r => lvO 0 nr (d + 2 ^ r)) d r_)) (by simp [hk]) hmk_.2 rfl h10 (fun j hj => by rw [getD_app]; by_cases e_ : j = k; (subst e_; rw [if_pos hk.symm]; exact upd_s); (rw [if_neg (by omega)]; exact (upd_n e_).trans (h9 j (by omega)))) (by omega)) (dT hX7_ordersFrom 71 rfl) rfl (Nat.le_of_ble_eq_true rfl) (Nat.le_of_ble_eq_true rfl) (Nat.le_of_ble_eq_true rfl) rfl (Nat.le_of_ble_eq_true rfl) (fun σ10 hq11 => ?_)
            obtain ⟨l9n, l10n, hP12, h9n, h10n, ho13⟩ := hq11
            have hP12 : PX7 σ10 m (upd (upd F 17 (foO (A 1) t nr nb pre B (lvP (fun r => lvO 0 nr (d + 2 ^ r)) d r_)).1) 17 (foO (comeF (A 1) t nr nb r_) t nr nb (pre ++ [r_]) (foO (A 1) t nr nb pre B (lvP (fun r => lvO 0 nr (d + 2 ^ r)) d r_)) (lvO 0 nr (d + 2 ^ r_))).1) T (upA (upA (upA (upA (upA (upA A 9 l9) 10 l10) 9 (upd l9 k (nI r_))) 1 (comeF (A 1) t nr nb r_)) 9 l9n) 10 l10n) := hP12
            rw [show (upA (upA (upA (upA (upA (upA A 9 l9) 10 l10) 9 (upd l9 k (nI r_))) 1 (comeF (A 1) t nr nb r_)) 9 l9n) 10 l10n) = (upA (upA (upA A 9 l9n) 10 l10n) 1 (comeF (A 1) t nr nb r_)) from (by funext j_; unfold upA; repeat' split <;> simp_all), upd_2] at hP12
            refine e_aload_n (pc := 115) Xc (dT hX7_ordersFrom 72 rfl) 1 rfl ?_
            refine gf_X7_9 (pc := 116) Xc (dT hX7_ordersFrom 73 rfl) hP12.o rfl ?_
            refine e_iconst (v := 1) (pc := 119) Xc (dT hX7_ordersFrom 74 rfl) rfl ?_
            refine e_iload_n (pc := 120) Xc (dT hX7_ordersFrom 75 rfl) 4 rfl ?_
            refine e_iaddN (a := 1) (b := r_) (pc := 121) Xc (dT hX7_ordersFrom 76 rfl) ?_
            refine e_iload (pc := 122) Xc (dT hX7_ordersFrom 77 rfl) 0 rfl ?_
            refine e_iastN (pc := 124) Xc (dT hX7_ordersFrom 78 rfl) hP12.a1 rfl (1 + r_) rfl (by have := hG.1; omega) (by decide) ?_
            refine Ev.gen (fun z => PX7 z m (upd F 17 (foO (comeF (A 1) t nr nb r_) t nr nb (pre ++ [r_]) (foO (A 1) t nr nb pre B (lvP (fun r => lvO 0 nr (d + 2 ^ r)) d r_)) (lvO 0 nr (d + 2 ^ r_))).1) T (upA (upA (upA (upA A 9 l9n) 10 l10n) 1 (comeF (A 1) t nr nb r_)) 1 (upd (comeF (A 1) t nr nb r_) (1 + r_) (A 1 (1 + r_))))) (hP12.wa1 (g := (upd (comeF (A 1) t nr nb r_) (1 + r_) (A 1 (1 + r_))))) Off.set (fun σ14 hP15 ho16 => ?_)
            have hP15 : PX7 σ14 m (upd F 17 (foO (comeF (A 1) t nr nb r_) t nr nb (pre ++ [r_]) (foO (A 1) t nr nb pre B (lvP (fun r => lvO 0 nr (d + 2 ^ r)) d r_)) (lvO 0 nr (d + 2 ^ r_))).1) T (upA (upA (upA A 9 l9n) 10 l10n) 1 (upd (comeF (A 1) t nr nb r_) (1 + r_) (A 1 (1 + r_)))) := by rw [upA_2] at hP15; exact hP15
            refine e_iincN (a := r_) (b := 1) (L' := [(3, .int (nI (r_ + 1))), (4, .int (A 1 (1 + r_))), (0, .ref m), (1, .int (nI k)), (2, .int (nI d))]) (pc := 125) Xc (dT hX7_ordersFrom 79 rfl) 4 rfl rfl (by decide) rfl ?_
            refine e_goto (tgt := 61) (pc := 128) Xc (dT hX7_ordersFrom 80 rfl) rfl ?_
            refine Ev.pick (L' := [(0, .ref m), (1, .int (nI k)), (2, .int (nI d)), (3, .int (nI (r_ + 1)))]) [2, 3, 4, 0] rfl ?_
            exact ih61 (r_ + 1) l9n l10n σ14 (by omega) (by omega) (fun j hj => by rw [h9n j (by omega), getD_app, if_neg (by omega)]) (by rw [foO_y hbit]; exact h10n) (by rw [foO_y hbit]; have h_ := hP15; rw [come_back] at h_; rw [show (upA (upA (upA A 9 l9n) 10 l10n) 1 (A 1)) = upA (upA A 9 l9n) 10 l10n from (by funext j_; unfold upA; repeat' split <;> simp_all)] at h_; exact h_) ((((ho2.tr ho3).tr ho8).tr ho13).tr ho16)
    refine Ev.pick (L' := [(0, .ref m), (1, .int (nI k)), (2, .int (nI d)), (3, .int 0)]) [1, 2, 3, 0] rfl ?_
    exact lp61 ((nr - 0) + 1) 0 (A 9) (A 10) σ (Nat.lt_succ_self _) (Nat.zero_le _) hp hB2 (by rw [upA_id, upA_id, show (foO (A 1) t nr nb pre B (lvP (fun r => lvO 0 nr (d + 2 ^ r)) d 0)).1 = F 17 from hB.symm, upd_self]; exact hP) Off.rf
  · skip
    exact absurd c8 (by omega)
set_option maxRecDepth 100000 in
set_option maxHeartbeats 4000000 in
theorem c_orders2 {G : xG} {σ : xS} {m : Nat} {F : Nat → Int32} {T : Nat → Nat} {A : Nat → Nat → Int32} (hP : PX7 σ m F T A) {nr nb : Nat} (hG : Gd (A 1) nr nb) {t : xT} (hT : Hd (A 1) t) (k d : Nat) (pre : List Nat) (B : ordS) (hk : pre.length = k) (hd : d < 16) (hB : F 17 = B.1) (hB2 : ∀ j, j < B.2.length → A 10 j = nI (B.2.getD j 0)) (hp : ∀ j, j < k → A 9 j = nI (pre.getD j 0)) (hkf : k + 2 = nr) : CV G yX7_ordersFrom cX7_ordersFrom 5 none 7 0 0 [.ref m, .int (nI k), .int (nI d)] σ (fun σ1 => ∃ l9 l10, PX7 σ1 m (upd F 17 (foO (A 1) t nr nb pre B (lvO 2 nr d)).1) T (upA (upA A 9 l9) 10 l10) ∧ (∀ j, j < k → l9 j = nI (pre.getD j 0)) ∧ (∀ j, j < (foO (A 1) t nr nb pre B (lvO 2 nr d)).2.length → l10 j = nI ((foO (A 1) t nr nb pre B (lvO 2 nr d)).2.getD j 0)) ∧ Off m σ σ1) := by
  refine Met.ofX (by decide +kernel) (Nat.le_of_ble_eq_true rfl) (fun μ Xc hQ hnm => ?_)
  have Xc : xC G μ cX7_ordersFrom 5 RX7 none 7 0 0 := Xc
  have hr4 := hG.r4
  show Ev G μ 5 0 0 0 [(0, .ref m), (1, .int (nI k)), (2, .int (nI d))] [] σ
  refine e_iload_n (pc := 0) Xc (dT hX7_ordersFrom 0 rfl) 1 rfl ?_
  refine e_aload_n (pc := 1) Xc (dT hX7_ordersFrom 1 rfl) 0 rfl ?_
  refine gf_X7_9 (pc := 2) Xc (dT hX7_ordersFrom 2 rfl) hP.o rfl ?_
  refine e_bipush (v := 12) (pc := 5) Xc (dT hX7_ordersFrom 3 rfl) rfl ?_
  refine e_ialdN (pc := 7) Xc (dT hX7_ordersFrom 4 rfl) hP.a1 (by decide) rfl 12 rfl (by have := hG.1; omega) (by decide) ?_
  refine e_val (y := nI nr) hG.1.2.2.1 ?_
  refine e_icmp_neN (x := k) (y := nr) (tgt := 59) (pc := 8) Xc (dT hX7_ordersFrom 5 rfl) rfl (by have := hG.1; omega) (by have := hG.1; omega) (fun c8 => ?_) (fun c8 => ?_)
  · skip
    refine e_iconst (v := 0) (pc := 59) Xc (dT hX7_ordersFrom 32 rfl) rfl ?_
    refine e_istore_n (L' := [(3, .int 0), (0, .ref m), (1, .int (nI k)), (2, .int (nI d))]) (pc := 60) Xc (dT hX7_ordersFrom 33 rfl) (by decide) rfl ?_
    have lp61 : ∀ (n61 : Nat) (r_ : Nat) (l9 l10 : Nat → Int32) (σ2 : xS), nr - r_ < n61 → (r_ ≤ nr) → (∀ j, j < k → l9 j = nI (pre.getD j 0)) → (∀ j, j < (foO (A 1) t nr nb pre B (lvP (fun r => lvO 1 nr (d + 2 ^ r)) d r_)).2.length → l10 j = nI ((foO (A 1) t nr nb pre B (lvP (fun r => lvO 1 nr (d + 2 ^ r)) d r_)).2.getD j 0)) → (PX7 σ2 m (upd F 17 (foO (A 1) t nr nb pre B (lvP (fun r => lvO 1 nr (d + 2 ^ r)) d r_)).1) T (upA (upA A 9 l9) 10 l10)) → (Off m σ σ2) → Ev G μ 5 0 0 61 [(0, .ref m), (1, .int (nI k)), (2, .int (nI d)), (3, .int (nI r_))] [] σ2 := by
      intro n61
      induction n61 with
      | zero => intro r_ l9 l10 σ2 hn; exact absurd hn (Nat.not_lt_zero _)
      | succ n61 ih61 =>
        intro r_ l9 l10 σ2 hn61 hr_ h9 h10 hp2 ho2
        refine e_iload_n (pc := 61) Xc (dT hX7_ordersFrom 34 rfl) 3 rfl ?_
        refine e_aload_n (pc := 62) Xc (dT hX7_ordersFrom 35 rfl) 0 rfl ?_
        refine gf_X7_9 (pc := 63) Xc (dT hX7_ordersFrom 36 rfl) hp2.o rfl ?_
        refine e_bipush (v := 12) (pc := 66) Xc (dT hX7_ordersFrom 37 rfl) rfl ?_
        refine e_ialdN (pc := 68) Xc (dT hX7_ordersFrom 38 rfl) hp2.a1 (by decide) rfl 12 rfl (by have := hG.1; omega) (by decide) ?_
        refine e_val (y := A 1 12) rfl ?_
        refine e_val (y := nI nr) hG.1.2.2.1 ?_
        refine e_icmp_geN (x := r_) (y := nr) (tgt := 131) (pc := 69) Xc (dT hX7_ordersFrom 39 rfl) rfl (by have := hG.1; omega) (by have := hG.1; omega) (fun c69 => ?_) (fun c69 => ?_)
        · skip
          have hre_ : r_ = nr := by omega
          subst hre_
          refine e_vret (pc := 131) Xc hQ (dT hX7_ordersFrom 81 rfl) (Nat.le_refl _) (Nat.le_refl _) ?_
          exact ⟨l9, l10, hp2, h9, h10, ho2⟩
        · skip
          refine e_iload_n (pc := 72) Xc (dT hX7_ordersFrom 40 rfl) 2 rfl ?_
          refine e_iload_n (pc := 73) Xc (dT hX7_ordersFrom 41 rfl) 3 rfl ?_
          refine e_ishr (pc := 74) Xc (dT hX7_ordersFrom 42 rfl) ?_
          refine e_val (y := nI (d / 2 ^ r_)) (shrN (by omega) (by omega)) ?_
          refine e_iconst (v := 1) (pc := 75) Xc (dT hX7_ordersFrom 43 rfl) rfl ?_
          refine e_iand (pc := 76) Xc (dT hX7_ordersFrom 44 rfl) ?_
          refine e_val (y := nI (d / 2 ^ r_ % 2)) (and1 _ (Nat.lt_of_le_of_lt (Nat.div_le_self _ _) (by omega))) ?_
          refine e_if_ne (tgt := 125) (pc := 77) Xc (dT hX7_ordersFrom 45 rfl) rfl (fun c77 => ?_) (fun c77 => ?_)
          · skip
            have hbit : ¬ d / 2 ^ r_ % 2 = 0 := fun e_ => c77 (by rw [e_]; rfl)
            refine e_iincN (a := r_) (b := 1) (L' := [(3, .int (nI (r_ + 1))), (0, .ref m), (1, .int (nI k)), (2, .int (nI d))]) (pc := 125) Xc (dT hX7_ordersFrom 79 rfl) 3 rfl rfl (by decide) rfl ?_
            refine e_goto (tgt := 61) (pc := 128) Xc (dT hX7_ordersFrom 80 rfl) rfl ?_
            refine Ev.pick (L' := [(0, .ref m), (1, .int (nI k)), (2, .int (nI d)), (3, .int (nI (r_ + 1)))]) [1, 2, 3, 0] rfl ?_
            exact ih61 (r_ + 1) l9 l10 σ2 (by omega) (by omega) h9 (by rw [foO_x hbit]; exact h10) (by rw [foO_x hbit]; exact hp2) ho2
          · skip
            have hbit : d / 2 ^ r_ % 2 = 0 := by
              by_cases e_ : d / 2 ^ r_ % 2 = 0
              · exact e_
              · exact absurd c77 (nI_ne0 (Nat.pos_of_ne_zero e_) (Nat.lt_trans (Nat.mod_lt _ (show 2 > 0 by decide)) (by decide)))
            have hmk_ := maskN hd (show r_ < 4 by omega) hbit
            refine e_aload_n (pc := 80) Xc (dT hX7_ordersFrom 46 rfl) 0 rfl ?_
            refine gf_X7_9 (pc := 81) Xc (dT hX7_ordersFrom 47 rfl) hp2.o rfl ?_
            refine e_iconst (v := 1) (pc := 84) Xc (dT hX7_ordersFrom 48 rfl) rfl ?_
            refine e_iload_n (pc := 85) Xc (dT hX7_ordersFrom 49 rfl) 3 rfl ?_
            refine e_iaddN (a := 1) (b := r_) (pc := 86) Xc (dT hX7_ordersFrom 50 rfl) ?_
            refine e_ialdN (pc := 87) Xc (dT hX7_ordersFrom 51 rfl) hp2.a1 (by decide) rfl (1 + r_) rfl (by have := hG.1; omega) (by decide) ?_
            refine e_val (y := A 1 (1 + r_)) rfl ?_
            refine e_istore (L' := [(4, .int (A 1 (1 + r_))), (0, .ref m), (1, .int (nI k)), (2, .int (nI d)), (3, .int (nI r_))]) (pc := 88) Xc (dT hX7_ordersFrom 52 rfl) (by decide) rfl ?_
            refine e_aload_n (pc := 90) Xc (dT hX7_ordersFrom 53 rfl) 1 rfl ?_
            refine gf_X7_37 (pc := 91) Xc (dT hX7_ordersFrom 54 rfl) hp2.o rfl ?_
            refine e_iload_n (pc := 94) Xc (dT hX7_ordersFrom 55 rfl) 2 rfl ?_
            refine e_iload_n (pc := 95) Xc (dT hX7_ordersFrom 56 rfl) 4 rfl ?_
            refine e_iastN (pc := 96) Xc (dT hX7_ordersFrom 57 rfl) hp2.a9 rfl k rfl (by have := hG.1; omega) (by decide) ?_
            refine Ev.gen (fun z => PX7 z m (upd F 17 (foO (A 1) t nr nb pre B (lvP (fun r => lvO 1 nr (d + 2 ^ r)) d r_)).1) T (upA (upA (upA A 9 l9) 10 l10) 9 (upd l9 k (nI r_)))) (hp2.wa9 (g := (upd l9 k (nI r_)))) Off.set (fun σ1 hP2 ho3 => ?_)
            refine e_aload_n (pc := 97) Xc (dT hX7_ordersFrom 58 rfl) 1 rfl ?_
            refine e_iload_n (pc := 98) Xc (dT hX7_ordersFrom 59 rfl) 4 rfl ?_
            refine cl_X7_189 (pc := 99) (k := 0) (n := 0) (S := []) Xc hP2.o (c_comes hP2 hG hT r_ (by omega)) (dT hX7_ordersFrom 60 rfl) rfl (Nat.le_of_ble_eq_true rfl) (Nat.le_of_ble_eq_true rfl) (Nat.le_of_ble_eq_true rfl) rfl (Nat.le_of_ble_eq_true rfl) (fun r4 σ5 hq6 => ?_)
            obtain ⟨r4e, hP7, ho8⟩ := hq6
            have r4e := r4e.symm; subst r4e
            refine e_val (y := bI (decide (choF (A 1) t nr nb r_ ≠ -1))) rfl ?_
            refine e_pop (pc := 102) Xc (dT hX7_ordersFrom 61 rfl) rfl ?_
            refine e_aload_n (pc := 103) Xc (dT hX7_ordersFrom 62 rfl) 1 rfl ?_
            refine e_iload_n (pc := 104) Xc (dT hX7_ordersFrom 63 rfl) 2 rfl ?_
            refine e_iconst (v := 1) (pc := 105) Xc (dT hX7_ordersFrom 64 rfl) rfl ?_
            refine e_iaddN (a := k) (b := 1) (pc := 106) Xc (dT hX7_ordersFrom 65 rfl) ?_
            refine e_iload_n (pc := 107) Xc (dT hX7_ordersFrom 66 rfl) 3 rfl ?_
            refine e_iconst (v := 1) (pc := 108) Xc (dT hX7_ordersFrom 67 rfl) rfl ?_
            refine e_iload_n (pc := 109) Xc (dT hX7_ordersFrom 68 rfl) 4 rfl ?_
            refine e_ishl (pc := 110) Xc (dT hX7_ordersFrom 69 rfl) ?_
            refine e_ior (pc := 111) Xc (dT hX7_ordersFrom 70 rfl) ?_
            refine e_val (y := nI (d + 2 ^ r_)) hmk_.1 ?_
            refine cl_X7_263 (pc := 112) (k := 0) (n := 0) (S := []) Xc hP7.o (c_orders1 hP7 (hG.come (by omega)) (hT.come hG.r4 (by omega)) (k + 1) (d + 2 ^ r_) (pre ++ [r_]) (foO (A 1) t nr nb pre B (lvP (fun r => lvO 1 nr (d + 2 ^ r)) d r_)) (by simp [hk]) hmk_.2 rfl h10 (fun j hj => by rw [getD_app]; by_cases e_ : j = k; (subst e_; rw [if_pos hk.symm]; exact upd_s); (rw [if_neg (by omega)]; exact (upd_n e_).trans (h9 j (by omega)))) (by omega)) (dT hX7_ordersFrom 71 rfl) rfl (Nat.le_of_ble_eq_true rfl) (Nat.le_of_ble_eq_true rfl) (Nat.le_of_ble_eq_true rfl) rfl (Nat.le_of_ble_eq_true rfl) (fun σ10 hq11 => ?_)
            obtain ⟨l9n, l10n, hP12, h9n, h10n, ho13⟩ := hq11
            have hP12 : PX7 σ10 m (upd (upd F 17 (foO (A 1) t nr nb pre B (lvP (fun r => lvO 1 nr (d + 2 ^ r)) d r_)).1) 17 (foO (comeF (A 1) t nr nb r_) t nr nb (pre ++ [r_]) (foO (A 1) t nr nb pre B (lvP (fun r => lvO 1 nr (d + 2 ^ r)) d r_)) (lvO 1 nr (d + 2 ^ r_))).1) T (upA (upA (upA (upA (upA (upA A 9 l9) 10 l10) 9 (upd l9 k (nI r_))) 1 (comeF (A 1) t nr nb r_)) 9 l9n) 10 l10n) := hP12
            rw [show (upA (upA (upA (upA (upA (upA A 9 l9) 10 l10) 9 (upd l9 k (nI r_))) 1 (comeF (A 1) t nr nb r_)) 9 l9n) 10 l10n) = (upA (upA (upA A 9 l9n) 10 l10n) 1 (comeF (A 1) t nr nb r_)) from (by funext j_; unfold upA; repeat' split <;> simp_all), upd_2] at hP12
            refine e_aload_n (pc := 115) Xc (dT hX7_ordersFrom 72 rfl) 1 rfl ?_
            refine gf_X7_9 (pc := 116) Xc (dT hX7_ordersFrom 73 rfl) hP12.o rfl ?_
            refine e_iconst (v := 1) (pc := 119) Xc (dT hX7_ordersFrom 74 rfl) rfl ?_
            refine e_iload_n (pc := 120) Xc (dT hX7_ordersFrom 75 rfl) 4 rfl ?_
            refine e_iaddN (a := 1) (b := r_) (pc := 121) Xc (dT hX7_ordersFrom 76 rfl) ?_
            refine e_iload (pc := 122) Xc (dT hX7_ordersFrom 77 rfl) 0 rfl ?_
            refine e_iastN (pc := 124) Xc (dT hX7_ordersFrom 78 rfl) hP12.a1 rfl (1 + r_) rfl (by have := hG.1; omega) (by decide) ?_
            refine Ev.gen (fun z => PX7 z m (upd F 17 (foO (comeF (A 1) t nr nb r_) t nr nb (pre ++ [r_]) (foO (A 1) t nr nb pre B (lvP (fun r => lvO 1 nr (d + 2 ^ r)) d r_)) (lvO 1 nr (d + 2 ^ r_))).1) T (upA (upA (upA (upA A 9 l9n) 10 l10n) 1 (comeF (A 1) t nr nb r_)) 1 (upd (comeF (A 1) t nr nb r_) (1 + r_) (A 1 (1 + r_))))) (hP12.wa1 (g := (upd (comeF (A 1) t nr nb r_) (1 + r_) (A 1 (1 + r_))))) Off.set (fun σ14 hP15 ho16 => ?_)
            have hP15 : PX7 σ14 m (upd F 17 (foO (comeF (A 1) t nr nb r_) t nr nb (pre ++ [r_]) (foO (A 1) t nr nb pre B (lvP (fun r => lvO 1 nr (d + 2 ^ r)) d r_)) (lvO 1 nr (d + 2 ^ r_))).1) T (upA (upA (upA A 9 l9n) 10 l10n) 1 (upd (comeF (A 1) t nr nb r_) (1 + r_) (A 1 (1 + r_)))) := by rw [upA_2] at hP15; exact hP15
            refine e_iincN (a := r_) (b := 1) (L' := [(3, .int (nI (r_ + 1))), (4, .int (A 1 (1 + r_))), (0, .ref m), (1, .int (nI k)), (2, .int (nI d))]) (pc := 125) Xc (dT hX7_ordersFrom 79 rfl) 4 rfl rfl (by decide) rfl ?_
            refine e_goto (tgt := 61) (pc := 128) Xc (dT hX7_ordersFrom 80 rfl) rfl ?_
            refine Ev.pick (L' := [(0, .ref m), (1, .int (nI k)), (2, .int (nI d)), (3, .int (nI (r_ + 1)))]) [2, 3, 4, 0] rfl ?_
            exact ih61 (r_ + 1) l9n l10n σ14 (by omega) (by omega) (fun j hj => by rw [h9n j (by omega), getD_app, if_neg (by omega)]) (by rw [foO_y hbit]; exact h10n) (by rw [foO_y hbit]; have h_ := hP15; rw [come_back] at h_; rw [show (upA (upA (upA A 9 l9n) 10 l10n) 1 (A 1)) = upA (upA A 9 l9n) 10 l10n from (by funext j_; unfold upA; repeat' split <;> simp_all)] at h_; exact h_) ((((ho2.tr ho3).tr ho8).tr ho13).tr ho16)
    refine Ev.pick (L' := [(0, .ref m), (1, .int (nI k)), (2, .int (nI d)), (3, .int 0)]) [1, 2, 3, 0] rfl ?_
    exact lp61 ((nr - 0) + 1) 0 (A 9) (A 10) σ (Nat.lt_succ_self _) (Nat.zero_le _) hp hB2 (by rw [upA_id, upA_id, show (foO (A 1) t nr nb pre B (lvP (fun r => lvO 1 nr (d + 2 ^ r)) d 0)).1 = F 17 from hB.symm, upd_self]; exact hP) Off.rf
  · skip
    exact absurd c8 (by omega)
set_option maxRecDepth 100000 in
set_option maxHeartbeats 4000000 in
theorem c_orders3 {G : xG} {σ : xS} {m : Nat} {F : Nat → Int32} {T : Nat → Nat} {A : Nat → Nat → Int32} (hP : PX7 σ m F T A) {nr nb : Nat} (hG : Gd (A 1) nr nb) {t : xT} (hT : Hd (A 1) t) (k d : Nat) (pre : List Nat) (B : ordS) (hk : pre.length = k) (hd : d < 16) (hB : F 17 = B.1) (hB2 : ∀ j, j < B.2.length → A 10 j = nI (B.2.getD j 0)) (hp : ∀ j, j < k → A 9 j = nI (pre.getD j 0)) (hkf : k + 3 = nr) : CV G yX7_ordersFrom cX7_ordersFrom 5 none 8 0 0 [.ref m, .int (nI k), .int (nI d)] σ (fun σ1 => ∃ l9 l10, PX7 σ1 m (upd F 17 (foO (A 1) t nr nb pre B (lvO 3 nr d)).1) T (upA (upA A 9 l9) 10 l10) ∧ (∀ j, j < k → l9 j = nI (pre.getD j 0)) ∧ (∀ j, j < (foO (A 1) t nr nb pre B (lvO 3 nr d)).2.length → l10 j = nI ((foO (A 1) t nr nb pre B (lvO 3 nr d)).2.getD j 0)) ∧ Off m σ σ1) := by
  refine Met.ofX (by decide +kernel) (Nat.le_of_ble_eq_true rfl) (fun μ Xc hQ hnm => ?_)
  have Xc : xC G μ cX7_ordersFrom 5 RX7 none 8 0 0 := Xc
  have hr4 := hG.r4
  show Ev G μ 5 0 0 0 [(0, .ref m), (1, .int (nI k)), (2, .int (nI d))] [] σ
  refine e_iload_n (pc := 0) Xc (dT hX7_ordersFrom 0 rfl) 1 rfl ?_
  refine e_aload_n (pc := 1) Xc (dT hX7_ordersFrom 1 rfl) 0 rfl ?_
  refine gf_X7_9 (pc := 2) Xc (dT hX7_ordersFrom 2 rfl) hP.o rfl ?_
  refine e_bipush (v := 12) (pc := 5) Xc (dT hX7_ordersFrom 3 rfl) rfl ?_
  refine e_ialdN (pc := 7) Xc (dT hX7_ordersFrom 4 rfl) hP.a1 (by decide) rfl 12 rfl (by have := hG.1; omega) (by decide) ?_
  refine e_val (y := nI nr) hG.1.2.2.1 ?_
  refine e_icmp_neN (x := k) (y := nr) (tgt := 59) (pc := 8) Xc (dT hX7_ordersFrom 5 rfl) rfl (by have := hG.1; omega) (by have := hG.1; omega) (fun c8 => ?_) (fun c8 => ?_)
  · skip
    refine e_iconst (v := 0) (pc := 59) Xc (dT hX7_ordersFrom 32 rfl) rfl ?_
    refine e_istore_n (L' := [(3, .int 0), (0, .ref m), (1, .int (nI k)), (2, .int (nI d))]) (pc := 60) Xc (dT hX7_ordersFrom 33 rfl) (by decide) rfl ?_
    have lp61 : ∀ (n61 : Nat) (r_ : Nat) (l9 l10 : Nat → Int32) (σ2 : xS), nr - r_ < n61 → (r_ ≤ nr) → (∀ j, j < k → l9 j = nI (pre.getD j 0)) → (∀ j, j < (foO (A 1) t nr nb pre B (lvP (fun r => lvO 2 nr (d + 2 ^ r)) d r_)).2.length → l10 j = nI ((foO (A 1) t nr nb pre B (lvP (fun r => lvO 2 nr (d + 2 ^ r)) d r_)).2.getD j 0)) → (PX7 σ2 m (upd F 17 (foO (A 1) t nr nb pre B (lvP (fun r => lvO 2 nr (d + 2 ^ r)) d r_)).1) T (upA (upA A 9 l9) 10 l10)) → (Off m σ σ2) → Ev G μ 5 0 0 61 [(0, .ref m), (1, .int (nI k)), (2, .int (nI d)), (3, .int (nI r_))] [] σ2 := by
      intro n61
      induction n61 with
      | zero => intro r_ l9 l10 σ2 hn; exact absurd hn (Nat.not_lt_zero _)
      | succ n61 ih61 =>
        intro r_ l9 l10 σ2 hn61 hr_ h9 h10 hp2 ho2
        refine e_iload_n (pc := 61) Xc (dT hX7_ordersFrom 34 rfl) 3 rfl ?_
        refine e_aload_n (pc := 62) Xc (dT hX7_ordersFrom 35 rfl) 0 rfl ?_
        refine gf_X7_9 (pc := 63) Xc (dT hX7_ordersFrom 36 rfl) hp2.o rfl ?_
        refine e_bipush (v := 12) (pc := 66) Xc (dT hX7_ordersFrom 37 rfl) rfl ?_
        refine e_ialdN (pc := 68) Xc (dT hX7_ordersFrom 38 rfl) hp2.a1 (by decide) rfl 12 rfl (by have := hG.1; omega) (by decide) ?_
        refine e_val (y := A 1 12) rfl ?_
        refine e_val (y := nI nr) hG.1.2.2.1 ?_
        refine e_icmp_geN (x := r_) (y := nr) (tgt := 131) (pc := 69) Xc (dT hX7_ordersFrom 39 rfl) rfl (by have := hG.1; omega) (by have := hG.1; omega) (fun c69 => ?_) (fun c69 => ?_)
        · skip
          have hre_ : r_ = nr := by omega
          subst hre_
          refine e_vret (pc := 131) Xc hQ (dT hX7_ordersFrom 81 rfl) (Nat.le_refl _) (Nat.le_refl _) ?_
          exact ⟨l9, l10, hp2, h9, h10, ho2⟩
        · skip
          refine e_iload_n (pc := 72) Xc (dT hX7_ordersFrom 40 rfl) 2 rfl ?_
          refine e_iload_n (pc := 73) Xc (dT hX7_ordersFrom 41 rfl) 3 rfl ?_
          refine e_ishr (pc := 74) Xc (dT hX7_ordersFrom 42 rfl) ?_
          refine e_val (y := nI (d / 2 ^ r_)) (shrN (by omega) (by omega)) ?_
          refine e_iconst (v := 1) (pc := 75) Xc (dT hX7_ordersFrom 43 rfl) rfl ?_
          refine e_iand (pc := 76) Xc (dT hX7_ordersFrom 44 rfl) ?_
          refine e_val (y := nI (d / 2 ^ r_ % 2)) (and1 _ (Nat.lt_of_le_of_lt (Nat.div_le_self _ _) (by omega))) ?_
          refine e_if_ne (tgt := 125) (pc := 77) Xc (dT hX7_ordersFrom 45 rfl) rfl (fun c77 => ?_) (fun c77 => ?_)
          · skip
            have hbit : ¬ d / 2 ^ r_ % 2 = 0 := fun e_ => c77 (by rw [e_]; rfl)
            refine e_iincN (a := r_) (b := 1) (L' := [(3, .int (nI (r_ + 1))), (0, .ref m), (1, .int (nI k)), (2, .int (nI d))]) (pc := 125) Xc (dT hX7_ordersFrom 79 rfl) 3 rfl rfl (by decide) rfl ?_
            refine e_goto (tgt := 61) (pc := 128) Xc (dT hX7_ordersFrom 80 rfl) rfl ?_
            refine Ev.pick (L' := [(0, .ref m), (1, .int (nI k)), (2, .int (nI d)), (3, .int (nI (r_ + 1)))]) [1, 2, 3, 0] rfl ?_
            exact ih61 (r_ + 1) l9 l10 σ2 (by omega) (by omega) h9 (by rw [foO_x hbit]; exact h10) (by rw [foO_x hbit]; exact hp2) ho2
          · skip
            have hbit : d / 2 ^ r_ % 2 = 0 := by
              by_cases e_ : d / 2 ^ r_ % 2 = 0
              · exact e_
              · exact absurd c77 (nI_ne0 (Nat.pos_of_ne_zero e_) (Nat.lt_trans (Nat.mod_lt _ (show 2 > 0 by decide)) (by decide)))
            have hmk_ := maskN hd (show r_ < 4 by omega) hbit
            refine e_aload_n (pc := 80) Xc (dT hX7_ordersFrom 46 rfl) 0 rfl ?_
            refine gf_X7_9 (pc := 81) Xc (dT hX7_ordersFrom 47 rfl) hp2.o rfl ?_
            refine e_iconst (v := 1) (pc := 84) Xc (dT hX7_ordersFrom 48 rfl) rfl ?_
            refine e_iload_n (pc := 85) Xc (dT hX7_ordersFrom 49 rfl) 3 rfl ?_
            refine e_iaddN (a := 1) (b := r_) (pc := 86) Xc (dT hX7_ordersFrom 50 rfl) ?_
            refine e_ialdN (pc := 87) Xc (dT hX7_ordersFrom 51 rfl) hp2.a1 (by decide) rfl (1 + r_) rfl (by have := hG.1; omega) (by decide) ?_
            refine e_val (y := A 1 (1 + r_)) rfl ?_
            refine e_istore (L' := [(4, .int (A 1 (1 + r_))), (0, .ref m), (1, .int (nI k)), (2, .int (nI d)), (3, .int (nI r_))]) (pc := 88) Xc (dT hX7_ordersFrom 52 rfl) (by decide) rfl ?_
            refine e_aload_n (pc := 90) Xc (dT hX7_ordersFrom 53 rfl) 1 rfl ?_
            refine gf_X7_37 (pc := 91) Xc (dT hX7_ordersFrom 54 rfl) hp2.o rfl ?_
            refine e_iload_n (pc := 94) Xc (dT hX7_ordersFrom 55 rfl) 2 rfl ?_
            refine e_iload_n (pc := 95) Xc (dT hX7_ordersFrom 56 rfl) 4 rfl ?_
            refine e_iastN (pc := 96) Xc (dT hX7_ordersFrom 57 rfl) hp2.a9 rfl k rfl (by have := hG.1; omega) (by decide) ?_
            refine Ev.gen (fun z => PX7 z m (upd F 17 (foO (A 1) t nr nb pre B (lvP (fun r => lvO 2 nr (d + 2 ^ r)) d r_)).1) T (upA (upA (upA A 9 l9) 10 l10) 9 (upd l9 k (nI r_)))) (hp2.wa9 (g := (upd l9 k (nI r_)))) Off.set (fun σ1 hP2 ho3 => ?_)
            refine e_aload_n (pc := 97) Xc (dT hX7_ordersFrom 58 rfl) 1 rfl ?_
            refine e_iload_n (pc := 98) Xc (dT hX7_ordersFrom 59 rfl) 4 rfl ?_
            refine cl_X7_189 (pc := 99) (k := 0) (n := 0) (S := []) Xc hP2.o (c_comes hP2 hG hT r_ (by omega)) (dT hX7_ordersFrom 60 rfl) rfl (Nat.le_of_ble_eq_true rfl) (Nat.le_of_ble_eq_true rfl) (Nat.le_of_ble_eq_true rfl) rfl (Nat.le_of_ble_eq_true rfl) (fun r4 σ5 hq6 => ?_)
            obtain ⟨r4e, hP7, ho8⟩ := hq6
            have r4e := r4e.symm; subst r4e
            refine e_val (y := bI (decide (choF (A 1) t nr nb r_ ≠ -1))) rfl ?_
            refine e_pop (pc := 102) Xc (dT hX7_ordersFrom 61 rfl) rfl ?_
            refine e_aload_n (pc := 103) Xc (dT hX7_ordersFrom 62 rfl) 1 rfl ?_
            refine e_iload_n (pc := 104) Xc (dT hX7_ordersFrom 63 rfl) 2 rfl ?_
            refine e_iconst (v := 1) (pc := 105) Xc (dT hX7_ordersFrom 64 rfl) rfl ?_
            refine e_iaddN (a := k) (b := 1) (pc := 106) Xc (dT hX7_ordersFrom 65 rfl) ?_
            refine e_iload_n (pc := 107) Xc (dT hX7_ordersFrom 66 rfl) 3 rfl ?_
            refine e_iconst (v := 1) (pc := 108) Xc (dT hX7_ordersFrom 67 rfl) rfl ?_
            refine e_iload_n (pc := 109) Xc (dT hX7_ordersFrom 68 rfl) 4 rfl ?_
            refine e_ishl (pc := 110) Xc (dT hX7_ordersFrom 69 rfl) ?_
            refine e_ior (pc := 111) Xc (dT hX7_ordersFrom 70 rfl) ?_
            refine e_val (y := nI (d + 2 ^ r_)) hmk_.1 ?_
            refine cl_X7_263 (pc := 112) (k := 0) (n := 0) (S := []) Xc hP7.o (c_orders2 hP7 (hG.come (by omega)) (hT.come hG.r4 (by omega)) (k + 1) (d + 2 ^ r_) (pre ++ [r_]) (foO (A 1) t nr nb pre B (lvP (fun r => lvO 2 nr (d + 2 ^ r)) d r_)) (by simp [hk]) hmk_.2 rfl h10 (fun j hj => by rw [getD_app]; by_cases e_ : j = k; (subst e_; rw [if_pos hk.symm]; exact upd_s); (rw [if_neg (by omega)]; exact (upd_n e_).trans (h9 j (by omega)))) (by omega)) (dT hX7_ordersFrom 71 rfl) rfl (Nat.le_of_ble_eq_true rfl) (Nat.le_of_ble_eq_true rfl) (Nat.le_of_ble_eq_true rfl) rfl (Nat.le_of_ble_eq_true rfl) (fun σ10 hq11 => ?_)
            obtain ⟨l9n, l10n, hP12, h9n, h10n, ho13⟩ := hq11
            have hP12 : PX7 σ10 m (upd (upd F 17 (foO (A 1) t nr nb pre B (lvP (fun r => lvO 2 nr (d + 2 ^ r)) d r_)).1) 17 (foO (comeF (A 1) t nr nb r_) t nr nb (pre ++ [r_]) (foO (A 1) t nr nb pre B (lvP (fun r => lvO 2 nr (d + 2 ^ r)) d r_)) (lvO 2 nr (d + 2 ^ r_))).1) T (upA (upA (upA (upA (upA (upA A 9 l9) 10 l10) 9 (upd l9 k (nI r_))) 1 (comeF (A 1) t nr nb r_)) 9 l9n) 10 l10n) := hP12
            rw [show (upA (upA (upA (upA (upA (upA A 9 l9) 10 l10) 9 (upd l9 k (nI r_))) 1 (comeF (A 1) t nr nb r_)) 9 l9n) 10 l10n) = (upA (upA (upA A 9 l9n) 10 l10n) 1 (comeF (A 1) t nr nb r_)) from (by funext j_; unfold upA; repeat' split <;> simp_all), upd_2] at hP12
            refine e_aload_n (pc := 115) Xc (dT hX7_ordersFrom 72 rfl) 1 rfl ?_
            refine gf_X7_9 (pc := 116) Xc (dT hX7_ordersFrom 73 rfl) hP12.o rfl ?_
            refine e_iconst (v := 1) (pc := 119) Xc (dT hX7_ordersFrom 74 rfl) rfl ?_
            refine e_iload_n (pc := 120) Xc (dT hX7_ordersFrom 75 rfl) 4 rfl ?_
            refine e_iaddN (a := 1) (b := r_) (pc := 121) Xc (dT hX7_ordersFrom 76 rfl) ?_
            refine e_iload (pc := 122) Xc (dT hX7_ordersFrom 77 rfl) 0 rfl ?_
            refine e_iastN (pc := 124) Xc (dT hX7_ordersFrom 78 rfl) hP12.a1 rfl (1 + r_) rfl (by have := hG.1; omega) (by decide) ?_
            refine Ev.gen (fun z => PX7 z m (upd F 17 (foO (comeF (A 1) t nr nb r_) t nr nb (pre ++ [r_]) (foO (A 1) t nr nb pre B (lvP (fun r => lvO 2 nr (d + 2 ^ r)) d r_)) (lvO 2 nr (d + 2 ^ r_))).1) T (upA (upA (upA (upA A 9 l9n) 10 l10n) 1 (comeF (A 1) t nr nb r_)) 1 (upd (comeF (A 1) t nr nb r_) (1 + r_) (A 1 (1 + r_))))) (hP12.wa1 (g := (upd (comeF (A 1) t nr nb r_) (1 + r_) (A 1 (1 + r_))))) Off.set (fun σ14 hP15 ho16 => ?_)
            have hP15 : PX7 σ14 m (upd F 17 (foO (comeF (A 1) t nr nb r_) t nr nb (pre ++ [r_]) (foO (A 1) t nr nb pre B (lvP (fun r => lvO 2 nr (d + 2 ^ r)) d r_)) (lvO 2 nr (d + 2 ^ r_))).1) T (upA (upA (upA A 9 l9n) 10 l10n) 1 (upd (comeF (A 1) t nr nb r_) (1 + r_) (A 1 (1 + r_)))) := by rw [upA_2] at hP15; exact hP15
            refine e_iincN (a := r_) (b := 1) (L' := [(3, .int (nI (r_ + 1))), (4, .int (A 1 (1 + r_))), (0, .ref m), (1, .int (nI k)), (2, .int (nI d))]) (pc := 125) Xc (dT hX7_ordersFrom 79 rfl) 4 rfl rfl (by decide) rfl ?_
            refine e_goto (tgt := 61) (pc := 128) Xc (dT hX7_ordersFrom 80 rfl) rfl ?_
            refine Ev.pick (L' := [(0, .ref m), (1, .int (nI k)), (2, .int (nI d)), (3, .int (nI (r_ + 1)))]) [2, 3, 4, 0] rfl ?_
            exact ih61 (r_ + 1) l9n l10n σ14 (by omega) (by omega) (fun j hj => by rw [h9n j (by omega), getD_app, if_neg (by omega)]) (by rw [foO_y hbit]; exact h10n) (by rw [foO_y hbit]; have h_ := hP15; rw [come_back] at h_; rw [show (upA (upA (upA A 9 l9n) 10 l10n) 1 (A 1)) = upA (upA A 9 l9n) 10 l10n from (by funext j_; unfold upA; repeat' split <;> simp_all)] at h_; exact h_) ((((ho2.tr ho3).tr ho8).tr ho13).tr ho16)
    refine Ev.pick (L' := [(0, .ref m), (1, .int (nI k)), (2, .int (nI d)), (3, .int 0)]) [1, 2, 3, 0] rfl ?_
    exact lp61 ((nr - 0) + 1) 0 (A 9) (A 10) σ (Nat.lt_succ_self _) (Nat.zero_le _) hp hB2 (by rw [upA_id, upA_id, show (foO (A 1) t nr nb pre B (lvP (fun r => lvO 2 nr (d + 2 ^ r)) d 0)).1 = F 17 from hB.symm, upd_self]; exact hP) Off.rf
  · skip
    exact absurd c8 (by omega)
set_option maxRecDepth 100000 in
set_option maxHeartbeats 4000000 in
theorem c_orders4 {G : xG} {σ : xS} {m : Nat} {F : Nat → Int32} {T : Nat → Nat} {A : Nat → Nat → Int32} (hP : PX7 σ m F T A) {nr nb : Nat} (hG : Gd (A 1) nr nb) {t : xT} (hT : Hd (A 1) t) (k d : Nat) (pre : List Nat) (B : ordS) (hk : pre.length = k) (hd : d < 16) (hB : F 17 = B.1) (hB2 : ∀ j, j < B.2.length → A 10 j = nI (B.2.getD j 0)) (hp : ∀ j, j < k → A 9 j = nI (pre.getD j 0)) (hkf : k + 4 = nr) : CV G yX7_ordersFrom cX7_ordersFrom 5 none 9 0 0 [.ref m, .int (nI k), .int (nI d)] σ (fun σ1 => ∃ l9 l10, PX7 σ1 m (upd F 17 (foO (A 1) t nr nb pre B (lvO 4 nr d)).1) T (upA (upA A 9 l9) 10 l10) ∧ (∀ j, j < k → l9 j = nI (pre.getD j 0)) ∧ (∀ j, j < (foO (A 1) t nr nb pre B (lvO 4 nr d)).2.length → l10 j = nI ((foO (A 1) t nr nb pre B (lvO 4 nr d)).2.getD j 0)) ∧ Off m σ σ1) := by
  refine Met.ofX (by decide +kernel) (Nat.le_of_ble_eq_true rfl) (fun μ Xc hQ hnm => ?_)
  have Xc : xC G μ cX7_ordersFrom 5 RX7 none 9 0 0 := Xc
  have hr4 := hG.r4
  show Ev G μ 5 0 0 0 [(0, .ref m), (1, .int (nI k)), (2, .int (nI d))] [] σ
  refine e_iload_n (pc := 0) Xc (dT hX7_ordersFrom 0 rfl) 1 rfl ?_
  refine e_aload_n (pc := 1) Xc (dT hX7_ordersFrom 1 rfl) 0 rfl ?_
  refine gf_X7_9 (pc := 2) Xc (dT hX7_ordersFrom 2 rfl) hP.o rfl ?_
  refine e_bipush (v := 12) (pc := 5) Xc (dT hX7_ordersFrom 3 rfl) rfl ?_
  refine e_ialdN (pc := 7) Xc (dT hX7_ordersFrom 4 rfl) hP.a1 (by decide) rfl 12 rfl (by have := hG.1; omega) (by decide) ?_
  refine e_val (y := nI nr) hG.1.2.2.1 ?_
  refine e_icmp_neN (x := k) (y := nr) (tgt := 59) (pc := 8) Xc (dT hX7_ordersFrom 5 rfl) rfl (by have := hG.1; omega) (by have := hG.1; omega) (fun c8 => ?_) (fun c8 => ?_)
  · skip
    refine e_iconst (v := 0) (pc := 59) Xc (dT hX7_ordersFrom 32 rfl) rfl ?_
    refine e_istore_n (L' := [(3, .int 0), (0, .ref m), (1, .int (nI k)), (2, .int (nI d))]) (pc := 60) Xc (dT hX7_ordersFrom 33 rfl) (by decide) rfl ?_
    have lp61 : ∀ (n61 : Nat) (r_ : Nat) (l9 l10 : Nat → Int32) (σ2 : xS), nr - r_ < n61 → (r_ ≤ nr) → (∀ j, j < k → l9 j = nI (pre.getD j 0)) → (∀ j, j < (foO (A 1) t nr nb pre B (lvP (fun r => lvO 3 nr (d + 2 ^ r)) d r_)).2.length → l10 j = nI ((foO (A 1) t nr nb pre B (lvP (fun r => lvO 3 nr (d + 2 ^ r)) d r_)).2.getD j 0)) → (PX7 σ2 m (upd F 17 (foO (A 1) t nr nb pre B (lvP (fun r => lvO 3 nr (d + 2 ^ r)) d r_)).1) T (upA (upA A 9 l9) 10 l10)) → (Off m σ σ2) → Ev G μ 5 0 0 61 [(0, .ref m), (1, .int (nI k)), (2, .int (nI d)), (3, .int (nI r_))] [] σ2 := by
      intro n61
      induction n61 with
      | zero => intro r_ l9 l10 σ2 hn; exact absurd hn (Nat.not_lt_zero _)
      | succ n61 ih61 =>
        intro r_ l9 l10 σ2 hn61 hr_ h9 h10 hp2 ho2
        refine e_iload_n (pc := 61) Xc (dT hX7_ordersFrom 34 rfl) 3 rfl ?_
        refine e_aload_n (pc := 62) Xc (dT hX7_ordersFrom 35 rfl) 0 rfl ?_
        refine gf_X7_9 (pc := 63) Xc (dT hX7_ordersFrom 36 rfl) hp2.o rfl ?_
        refine e_bipush (v := 12) (pc := 66) Xc (dT hX7_ordersFrom 37 rfl) rfl ?_
        refine e_ialdN (pc := 68) Xc (dT hX7_ordersFrom 38 rfl) hp2.a1 (by decide) rfl 12 rfl (by have := hG.1; omega) (by decide) ?_
        refine e_val (y := A 1 12) rfl ?_
        refine e_val (y := nI nr) hG.1.2.2.1 ?_
        refine e_icmp_geN (x := r_) (y := nr) (tgt := 131) (pc := 69) Xc (dT hX7_ordersFrom 39 rfl) rfl (by have := hG.1; omega) (by have := hG.1; omega) (fun c69 => ?_) (fun c69 => ?_)
        · skip
          have hre_ : r_ = nr := by omega
          subst hre_
          refine e_vret (pc := 131) Xc hQ (dT hX7_ordersFrom 81 rfl) (Nat.le_refl _) (Nat.le_refl _) ?_
          exact ⟨l9, l10, hp2, h9, h10, ho2⟩
        · skip
          refine e_iload_n (pc := 72) Xc (dT hX7_ordersFrom 40 rfl) 2 rfl ?_
          refine e_iload_n (pc := 73) Xc (dT hX7_ordersFrom 41 rfl) 3 rfl ?_
          refine e_ishr (pc := 74) Xc (dT hX7_ordersFrom 42 rfl) ?_
          refine e_val (y := nI (d / 2 ^ r_)) (shrN (by omega) (by omega)) ?_
          refine e_iconst (v := 1) (pc := 75) Xc (dT hX7_ordersFrom 43 rfl) rfl ?_
          refine e_iand (pc := 76) Xc (dT hX7_ordersFrom 44 rfl) ?_
          refine e_val (y := nI (d / 2 ^ r_ % 2)) (and1 _ (Nat.lt_of_le_of_lt (Nat.div_le_self _ _) (by omega))) ?_
          refine e_if_ne (tgt := 125) (pc := 77) Xc (dT hX7_ordersFrom 45 rfl) rfl (fun c77 => ?_) (fun c77 => ?_)
          · skip
            have hbit : ¬ d / 2 ^ r_ % 2 = 0 := fun e_ => c77 (by rw [e_]; rfl)
            refine e_iincN (a := r_) (b := 1) (L' := [(3, .int (nI (r_ + 1))), (0, .ref m), (1, .int (nI k)), (2, .int (nI d))]) (pc := 125) Xc (dT hX7_ordersFrom 79 rfl) 3 rfl rfl (by decide) rfl ?_
            refine e_goto (tgt := 61) (pc := 128) Xc (dT hX7_ordersFrom 80 rfl) rfl ?_
            refine Ev.pick (L' := [(0, .ref m), (1, .int (nI k)), (2, .int (nI d)), (3, .int (nI (r_ + 1)))]) [1, 2, 3, 0] rfl ?_
            exact ih61 (r_ + 1) l9 l10 σ2 (by omega) (by omega) h9 (by rw [foO_x hbit]; exact h10) (by rw [foO_x hbit]; exact hp2) ho2
          · skip
            have hbit : d / 2 ^ r_ % 2 = 0 := by
              by_cases e_ : d / 2 ^ r_ % 2 = 0
              · exact e_
              · exact absurd c77 (nI_ne0 (Nat.pos_of_ne_zero e_) (Nat.lt_trans (Nat.mod_lt _ (show 2 > 0 by decide)) (by decide)))
            have hmk_ := maskN hd (show r_ < 4 by omega) hbit
            refine e_aload_n (pc := 80) Xc (dT hX7_ordersFrom 46 rfl) 0 rfl ?_
            refine gf_X7_9 (pc := 81) Xc (dT hX7_ordersFrom 47 rfl) hp2.o rfl ?_
            refine e_iconst (v := 1) (pc := 84) Xc (dT hX7_ordersFrom 48 rfl) rfl ?_
            refine e_iload_n (pc := 85) Xc (dT hX7_ordersFrom 49 rfl) 3 rfl ?_
            refine e_iaddN (a := 1) (b := r_) (pc := 86) Xc (dT hX7_ordersFrom 50 rfl) ?_
            refine e_ialdN (pc := 87) Xc (dT hX7_ordersFrom 51 rfl) hp2.a1 (by decide) rfl (1 + r_) rfl (by have := hG.1; omega) (by decide) ?_
            refine e_val (y := A 1 (1 + r_)) rfl ?_
            refine e_istore (L' := [(4, .int (A 1 (1 + r_))), (0, .ref m), (1, .int (nI k)), (2, .int (nI d)), (3, .int (nI r_))]) (pc := 88) Xc (dT hX7_ordersFrom 52 rfl) (by decide) rfl ?_
            refine e_aload_n (pc := 90) Xc (dT hX7_ordersFrom 53 rfl) 1 rfl ?_
            refine gf_X7_37 (pc := 91) Xc (dT hX7_ordersFrom 54 rfl) hp2.o rfl ?_
            refine e_iload_n (pc := 94) Xc (dT hX7_ordersFrom 55 rfl) 2 rfl ?_
            refine e_iload_n (pc := 95) Xc (dT hX7_ordersFrom 56 rfl) 4 rfl ?_
            refine e_iastN (pc := 96) Xc (dT hX7_ordersFrom 57 rfl) hp2.a9 rfl k rfl (by have := hG.1; omega) (by decide) ?_
            refine Ev.gen (fun z => PX7 z m (upd F 17 (foO (A 1) t nr nb pre B (lvP (fun r => lvO 3 nr (d + 2 ^ r)) d r_)).1) T (upA (upA (upA A 9 l9) 10 l10) 9 (upd l9 k (nI r_)))) (hp2.wa9 (g := (upd l9 k (nI r_)))) Off.set (fun σ1 hP2 ho3 => ?_)
            refine e_aload_n (pc := 97) Xc (dT hX7_ordersFrom 58 rfl) 1 rfl ?_
            refine e_iload_n (pc := 98) Xc (dT hX7_ordersFrom 59 rfl) 4 rfl ?_
            refine cl_X7_189 (pc := 99) (k := 0) (n := 0) (S := []) Xc hP2.o (c_comes hP2 hG hT r_ (by omega)) (dT hX7_ordersFrom 60 rfl) rfl (Nat.le_of_ble_eq_true rfl) (Nat.le_of_ble_eq_true rfl) (Nat.le_of_ble_eq_true rfl) rfl (Nat.le_of_ble_eq_true rfl) (fun r4 σ5 hq6 => ?_)
            obtain ⟨r4e, hP7, ho8⟩ := hq6
            have r4e := r4e.symm; subst r4e
            refine e_val (y := bI (decide (choF (A 1) t nr nb r_ ≠ -1))) rfl ?_
            refine e_pop (pc := 102) Xc (dT hX7_ordersFrom 61 rfl) rfl ?_
            refine e_aload_n (pc := 103) Xc (dT hX7_ordersFrom 62 rfl) 1 rfl ?_
            refine e_iload_n (pc := 104) Xc (dT hX7_ordersFrom 63 rfl) 2 rfl ?_
            refine e_iconst (v := 1) (pc := 105) Xc (dT hX7_ordersFrom 64 rfl) rfl ?_
            refine e_iaddN (a := k) (b := 1) (pc := 106) Xc (dT hX7_ordersFrom 65 rfl) ?_
            refine e_iload_n (pc := 107) Xc (dT hX7_ordersFrom 66 rfl) 3 rfl ?_
            refine e_iconst (v := 1) (pc := 108) Xc (dT hX7_ordersFrom 67 rfl) rfl ?_
            refine e_iload_n (pc := 109) Xc (dT hX7_ordersFrom 68 rfl) 4 rfl ?_
            refine e_ishl (pc := 110) Xc (dT hX7_ordersFrom 69 rfl) ?_
            refine e_ior (pc := 111) Xc (dT hX7_ordersFrom 70 rfl) ?_
            refine e_val (y := nI (d + 2 ^ r_)) hmk_.1 ?_
            refine cl_X7_263 (pc := 112) (k := 0) (n := 0) (S := []) Xc hP7.o (c_orders3 hP7 (hG.come (by omega)) (hT.come hG.r4 (by omega)) (k + 1) (d + 2 ^ r_) (pre ++ [r_]) (foO (A 1) t nr nb pre B (lvP (fun r => lvO 3 nr (d + 2 ^ r)) d r_)) (by simp [hk]) hmk_.2 rfl h10 (fun j hj => by rw [getD_app]; by_cases e_ : j = k; (subst e_; rw [if_pos hk.symm]; exact upd_s); (rw [if_neg (by omega)]; exact (upd_n e_).trans (h9 j (by omega)))) (by omega)) (dT hX7_ordersFrom 71 rfl) rfl (Nat.le_of_ble_eq_true rfl) (Nat.le_of_ble_eq_true rfl) (Nat.le_of_ble_eq_true rfl) rfl (Nat.le_of_ble_eq_true rfl) (fun σ10 hq11 => ?_)
            obtain ⟨l9n, l10n, hP12, h9n, h10n, ho13⟩ := hq11
            have hP12 : PX7 σ10 m (upd (upd F 17 (foO (A 1) t nr nb pre B (lvP (fun r => lvO 3 nr (d + 2 ^ r)) d r_)).1) 17 (foO (comeF (A 1) t nr nb r_) t nr nb (pre ++ [r_]) (foO (A 1) t nr nb pre B (lvP (fun r => lvO 3 nr (d + 2 ^ r)) d r_)) (lvO 3 nr (d + 2 ^ r_))).1) T (upA (upA (upA (upA (upA (upA A 9 l9) 10 l10) 9 (upd l9 k (nI r_))) 1 (comeF (A 1) t nr nb r_)) 9 l9n) 10 l10n) := hP12
            rw [show (upA (upA (upA (upA (upA (upA A 9 l9) 10 l10) 9 (upd l9 k (nI r_))) 1 (comeF (A 1) t nr nb r_)) 9 l9n) 10 l10n) = (upA (upA (upA A 9 l9n) 10 l10n) 1 (comeF (A 1) t nr nb r_)) from (by funext j_; unfold upA; repeat' split <;> simp_all), upd_2] at hP12
            refine e_aload_n (pc := 115) Xc (dT hX7_ordersFrom 72 rfl) 1 rfl ?_
            refine gf_X7_9 (pc := 116) Xc (dT hX7_ordersFrom 73 rfl) hP12.o rfl ?_
            refine e_iconst (v := 1) (pc := 119) Xc (dT hX7_ordersFrom 74 rfl) rfl ?_
            refine e_iload_n (pc := 120) Xc (dT hX7_ordersFrom 75 rfl) 4 rfl ?_
            refine e_iaddN (a := 1) (b := r_) (pc := 121) Xc (dT hX7_ordersFrom 76 rfl) ?_
            refine e_iload (pc := 122) Xc (dT hX7_ordersFrom 77 rfl) 0 rfl ?_
            refine e_iastN (pc := 124) Xc (dT hX7_ordersFrom 78 rfl) hP12.a1 rfl (1 + r_) rfl (by have := hG.1; omega) (by decide) ?_
            refine Ev.gen (fun z => PX7 z m (upd F 17 (foO (comeF (A 1) t nr nb r_) t nr nb (pre ++ [r_]) (foO (A 1) t nr nb pre B (lvP (fun r => lvO 3 nr (d + 2 ^ r)) d r_)) (lvO 3 nr (d + 2 ^ r_))).1) T (upA (upA (upA (upA A 9 l9n) 10 l10n) 1 (comeF (A 1) t nr nb r_)) 1 (upd (comeF (A 1) t nr nb r_) (1 + r_) (A 1 (1 + r_))))) (hP12.wa1 (g := (upd (comeF (A 1) t nr nb r_) (1 + r_) (A 1 (1 + r_))))) Off.set (fun σ14 hP15 ho16 => ?_)
            have hP15 : PX7 σ14 m (upd F 17 (foO (comeF (A 1) t nr nb r_) t nr nb (pre ++ [r_]) (foO (A 1) t nr nb pre B (lvP (fun r => lvO 3 nr (d + 2 ^ r)) d r_)) (lvO 3 nr (d + 2 ^ r_))).1) T (upA (upA (upA A 9 l9n) 10 l10n) 1 (upd (comeF (A 1) t nr nb r_) (1 + r_) (A 1 (1 + r_)))) := by rw [upA_2] at hP15; exact hP15
            refine e_iincN (a := r_) (b := 1) (L' := [(3, .int (nI (r_ + 1))), (4, .int (A 1 (1 + r_))), (0, .ref m), (1, .int (nI k)), (2, .int (nI d))]) (pc := 125) Xc (dT hX7_ordersFrom 79 rfl) 4 rfl rfl (by decide) rfl ?_
            refine e_goto (tgt := 61) (pc := 128) Xc (dT hX7_ordersFrom 80 rfl) rfl ?_
            refine Ev.pick (L' := [(0, .ref m), (1, .int (nI k)), (2, .int (nI d)), (3, .int (nI (r_ + 1)))]) [2, 3, 4, 0] rfl ?_
            exact ih61 (r_ + 1) l9n l10n σ14 (by omega) (by omega) (fun j hj => by rw [h9n j (by omega), getD_app, if_neg (by omega)]) (by rw [foO_y hbit]; exact h10n) (by rw [foO_y hbit]; have h_ := hP15; rw [come_back] at h_; rw [show (upA (upA (upA A 9 l9n) 10 l10n) 1 (A 1)) = upA (upA A 9 l9n) 10 l10n from (by funext j_; unfold upA; repeat' split <;> simp_all)] at h_; exact h_) ((((ho2.tr ho3).tr ho8).tr ho13).tr ho16)
    refine Ev.pick (L' := [(0, .ref m), (1, .int (nI k)), (2, .int (nI d)), (3, .int 0)]) [1, 2, 3, 0] rfl ?_
    exact lp61 ((nr - 0) + 1) 0 (A 9) (A 10) σ (Nat.lt_succ_self _) (Nat.zero_le _) hp hB2 (by rw [upA_id, upA_id, show (foO (A 1) t nr nb pre B (lvP (fun r => lvO 3 nr (d + 2 ^ r)) d 0)).1 = F 17 from hB.symm, upd_self]; exact hP) Off.rf
  · skip
    exact absurd c8 (by omega)
