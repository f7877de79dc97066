set_option maxRecDepth 100000 in
set_option maxHeartbeats 4000000 in
theorem c_spells {G : xG} {σ : xS} {m : Nat} {F : Nat → Int32} {T : Nat → Nat} {A : Nat → Nat → Int32} (hP : PX7 σ m F T A) {H : Nat → Int32} {nt a n0 : Nat} (hp : PH (A 1) F H nt a n0) (s : Bool × Nat) (hs : s.2 ≤ nt) (hF : F 6 = nI s.2 ∧ F 8 = bI (!s.1)) (i : Nat) (hi : i < 10) : CV G yX7_spells cX7_spells 3 none 4 0 0 [.ref m, .ref (gK G i)] σ (fun σ1 => PX7 σ1 m (fP F (spelP H (sByt i) s)) T A ∧ Off m σ σ1) := by
  refine Met.ofX (by decide +kernel) (Nat.le_of_ble_eq_true rfl) (fun μ Xc hQ hnm => ?_)
  have Xc : xC G μ cX7_spells 3 RX7 none 4 0 0 := Xc
  have hnt_ := hp.1
  have ha5_ := hp.2.1
  have hl6_ := s_len i hi
  show Ev G μ 3 0 0 0 [(0, .ref m), (1, .ref (gK G i))] [] σ
  refine e_iconst (v := 0) (pc := 0) Xc (dT hX7_spells 0 rfl) rfl ?_
  refine e_istore_n (L' := [(2, .int 0), (0, .ref m), (1, .ref (gK G i))]) (pc := 1) Xc (dT hX7_spells 1 rfl) (by decide) rfl ?_
  have lp2 : ∀ (n2 : Nat) (k_ : Nat) (σ2 : xS), (sByt i).length - k_ < n2 → (k_ ≤ (sByt i).length) → (PX7 σ2 m (fP F (spelP H ((sByt i).take k_) s)) T A) → (Off m σ σ2) → Ev G μ 3 0 0 2 [(0, .ref m), (1, .ref (gK G i)), (2, .int (nI k_))] [] σ2 := by
    intro n2
    induction n2 with
    | zero => intro k_ σ2 hn; exact absurd hn (Nat.not_lt_zero _)
    | succ n2 ih2 =>
      intro k_ σ2 hn2 hk_ hp2 ho2
      refine e_iload_n (pc := 2) Xc (dT hX7_spells 2 rfl) 2 rfl ?_
      refine e_aload_n (pc := 3) Xc (dT hX7_spells 3 rfl) 1 rfl ?_
      refine e_callStI (pc := 4) (k := 0) (n := 0) (As := []) (S := [.int (nI k_)]) Xc m_J0_length_8abf5 w_ml_X7_68 w_inst_J0_length_8abf5 w_sel_J0_length_8abf5 hi rfl (c_length (i := i) hi) (dT hX7_spells 4 rfl) rfl (Nat.le_of_ble_eq_true rfl) (by decide) (Nat.le_of_ble_eq_true rfl) (Nat.le_of_ble_eq_true rfl) rfl (Nat.le_of_ble_eq_true rfl) (fun r1 σ2 hq3 => ?_)
      obtain ⟨r1e, r1s⟩ := hq3
      have r1e := r1e.symm; subst r1e; have r1s := r1s.symm; subst r1s
      refine e_icmp_geN (x := k_) (y := (sByt i).length) (tgt := 25) (pc := 7) Xc (dT hX7_spells 5 rfl) rfl (by omega) (by omega) (fun c7 => ?_) (fun c7 => ?_)
      · skip
        refine e_vret (pc := 25) Xc hQ (dT hX7_spells 13 rfl) (Nat.le_refl _) (Nat.le_refl _) ?_
        have hke_ : k_ = (sByt i).length := by omega
        subst hke_
        rw [List.take_length] at hp2
        exact ⟨hp2, ho2⟩
      · skip
        refine e_aload_n (pc := 10) Xc (dT hX7_spells 6 rfl) 0 rfl ?_
        refine e_aload_n (pc := 11) Xc (dT hX7_spells 7 rfl) 1 rfl ?_
        refine e_iload_n (pc := 12) Xc (dT hX7_spells 8 rfl) 2 rfl ?_
        refine e_callStI (pc := 13) (k := 0) (n := 0) (As := [.int (nI k_)]) (S := [.ref m]) Xc m_J0_charAt_5068e w_ml_X7_73 w_inst_J0_charAt_5068e w_sel_J0_charAt_5068e hi rfl (c_charAt (i := i) (j := k_) hi (by omega)) (dT hX7_spells 9 rfl) rfl (Nat.le_of_ble_eq_true rfl) (by decide) (Nat.le_of_ble_eq_true rfl) (Nat.le_of_ble_eq_true rfl) rfl (Nat.le_of_ble_eq_true rfl) (fun r4 σ5 hq6 => ?_)
        obtain ⟨r4e, r4s⟩ := hq6
        have r4e := r4e.symm; subst r4e; have r4s := r4s.symm; subst r4s
        have hph7 : PH (A 1) (fP F (spelP H ((sByt i).take k_) s)) H nt a n0 := ⟨hp.1, hp.2.1, hp.2.2.1, hp.2.2.2.1, hp.2.2.2.2.1, hp.2.2.2.2.2.1, hp.2.2.2.2.2.2⟩
        refine cl_X7_77 (pc := 16) (k := 0) (n := 0) (S := []) Xc hp2.o (c_must hp2 hph7 (spelP H ((sByt i).take k_) s) (spel_hs hp.2.2.1 hi hs) ⟨rfl, rfl⟩ ((sByt i).getD k_ 0)) (dT hX7_spells 10 rfl) rfl (Nat.le_of_ble_eq_true rfl) (Nat.le_of_ble_eq_true rfl) (Nat.le_of_ble_eq_true rfl) rfl (Nat.le_of_ble_eq_true rfl) (fun σ9 hq10 => ?_)
        obtain ⟨hP11, ho12⟩ := hq10
        rw [fP_2] at hP11
        refine e_iincN (a := k_) (b := 1) (L' := [(2, .int (nI (k_ + 1))), (0, .ref m), (1, .ref (gK G i))]) (pc := 19) Xc (dT hX7_spells 11 rfl) 2 rfl rfl (by decide) rfl ?_
        refine e_goto (tgt := 2) (pc := 22) Xc (dT hX7_spells 12 rfl) rfl ?_
        refine Ev.pick (L' := [(0, .ref m), (1, .ref (gK G i)), (2, .int (nI (k_ + 1)))]) [1, 2, 0] rfl ?_
        exact ih2 (k_ + 1) σ9 (by omega) (by omega) (by rw [spel_s (by omega)]; exact hP11) (ho2.tr ho12)
  refine Ev.pick (L' := [(0, .ref m), (1, .ref (gK G i)), (2, .int 0)]) [1, 2, 0] rfl ?_
  exact lp2 (((sByt i).length - 0) + 1) 0 σ (Nat.lt_succ_self _) (Nat.zero_le _) (by rw [List.take_zero, show fP F (spelP H [] s) = F from fP_id hF.1 hF.2]; exact hP) Off.rf
set_option maxRecDepth 100000 in
set_option maxHeartbeats 4000000 in
theorem c_tellsHere {G : xG} {σ : xS} {m : Nat} {F : Nat → Int32} {T : Nat → Nat} {A : Nat → Nat → Int32} (hP : PX7 σ m F T A) {H : Nat → Int32} {nt a n0 : Nat} (hp : PH (A 1) F H nt a n0) (p : Nat) (hs : p ≤ nt) (hF : F 6 = nI p ∧ F 8 = 0) (i : Nat) (hi : i < 10) (wh : Nat) (hwh : wh + a < 909) : CV G yX7_tellsHere cX7_tellsHere 4 none 5 0 0 [.ref m, .int (nI wh), .ref (gK G i)] σ (fun σ1 => PX7 σ1 m (fP F (tellP H (sByt i) p).1) T (upA A 1 (if (tellP H (sByt i) p).1.1 = true then upd (A 1) (wh + a) (nI (tellP H (sByt i) p).2) else A 1)) ∧ Off m σ σ1) := by
  refine Met.ofX (by decide +kernel) (Nat.le_of_ble_eq_true rfl) (fun μ Xc hQ hnm => ?_)
  have Xc : xC G μ cX7_tellsHere 4 RX7 none 5 0 0 := Xc
  have hnt_ := hp.1
  have ha5_ := hp.2.1
  show Ev G μ 4 0 0 0 [(0, .ref m), (1, .int (nI wh)), (2, .ref (gK G i))] [] σ
  refine e_aload_n (pc := 0) Xc (dT hX7_tellsHere 0 rfl) 0 rfl ?_
  refine e_aload_n (pc := 1) Xc (dT hX7_tellsHere 1 rfl) 2 rfl ?_
  refine cl_X7_110 (pc := 2) (k := 0) (n := 0) (S := []) Xc hP.o (c_spells hP hp (true, p) hs ⟨hF.1, hF.2⟩ i hi) (dT hX7_tellsHere 2 rfl) rfl (Nat.le_of_ble_eq_true rfl) (Nat.le_of_ble_eq_true rfl) (Nat.le_of_ble_eq_true rfl) rfl (Nat.le_of_ble_eq_true rfl) (fun σ2 hq3 => ?_)
  obtain ⟨hP4, ho5⟩ := hq3
  have hsp_ := spelP_go hp.2.2.1 (sByt i) (true, p) (s_ne i hi) hs
  have hsp1_ : p ≤ (spelP H (sByt i) (true, p)).2 := hsp_.1
  refine e_aload_n (pc := 5) Xc (dT hX7_tellsHere 3 rfl) 0 rfl ?_
  have hph6 : PH (A 1) (fP F (spelP H (sByt i) (true, p))) H nt a n0 := ⟨hp.1, hp.2.1, hp.2.2.1, hp.2.2.2.1, hp.2.2.2.2.1, hp.2.2.2.2.2.1, hp.2.2.2.2.2.2⟩
  refine cl_X7_104 (pc := 6) (k := 0) (n := 0) (S := []) Xc hP4.o (c_figures hP4 hph6 (spelP H (sByt i) (true, p)) hsp_.2 ⟨rfl, rfl⟩) (dT hX7_tellsHere 4 rfl) rfl (Nat.le_of_ble_eq_true rfl) (Nat.le_of_ble_eq_true rfl) (Nat.le_of_ble_eq_true rfl) rfl (Nat.le_of_ble_eq_true rfl) (fun r7 σ8 hq9 => ?_)
  obtain ⟨r7e, hP10, ho11⟩ := hq9
  have r7e := r7e.symm; subst r7e
  rw [fP_2] at hP10
  have hfg_ := figP_go hp.2.2.1 hsp_.2
  have hfg1_ : p ≤ (mFig H (sByt i) p).1.2 := Nat.le_trans hsp1_ hfg_.1
  have hfg2_ : (mFig H (sByt i) p).1.2 ≤ nt := hfg_.2.1
  have hP10 : PX7 σ8 m (fP F (mFig H (sByt i) p).1) T A := hP10
  refine e_val (y := nI (mFig H (sByt i) p).2) rfl ?_
  refine e_istore_n (L' := [(3, .int (nI ((mFig H (sByt i) p).2))), (0, .ref m), (1, .int (nI wh)), (2, .ref (gK G i))]) (pc := 9) Xc (dT hX7_tellsHere 5 rfl) (by decide) rfl ?_
  refine e_aload_n (pc := 10) Xc (dT hX7_tellsHere 6 rfl) 1 rfl ?_
  refine gf_X7_60 (pc := 11) Xc (dT hX7_tellsHere 7 rfl) hP10.o rfl ?_
  refine e_val (y := bI (!(mFig H (sByt i) p).1.1)) rfl ?_
  refine e_if_ne (tgt := 29) (pc := 14) Xc (dT hX7_tellsHere 8 rfl) rfl (fun c14 => ?_) (fun c14 => ?_)
  · skip
    refine e_vret (pc := 29) Xc hQ (dT hX7_tellsHere 17 rfl) (Nat.le_refl _) (Nat.le_refl _) ?_
    have hok_ : (tellP H (sByt i) p).1.1 = false := by
      cases e_ : (mFig H (sByt i) p).1.1
      · exact e_
      · rw [e_] at c14; exact absurd rfl c14
    refine ⟨?_, (ho5.tr ho11)⟩
    rw [if_neg (by rw [hok_]; decide), upA_id]
    exact hP10
  · skip
    refine e_aload_n (pc := 17) Xc (dT hX7_tellsHere 9 rfl) 1 rfl ?_
    refine gf_X7_9 (pc := 18) Xc (dT hX7_tellsHere 10 rfl) hP10.o rfl ?_
    refine e_iload_n (pc := 21) Xc (dT hX7_tellsHere 11 rfl) 2 rfl ?_
    refine e_aload_n (pc := 22) Xc (dT hX7_tellsHere 12 rfl) 1 rfl ?_
    refine gf_X7_81 (pc := 23) Xc (dT hX7_tellsHere 13 rfl) hP10.o rfl ?_
    refine e_val (y := F 5) rfl ?_
    refine e_val (y := nI a) hp.2.2.2.2.2.1 ?_
    refine e_iaddN (a := wh) (b := a) (pc := 26) Xc (dT hX7_tellsHere 14 rfl) ?_
    refine e_iload_n (pc := 27) Xc (dT hX7_tellsHere 15 rfl) 0 rfl ?_
    refine e_iastN (pc := 28) Xc (dT hX7_tellsHere 16 rfl) hP10.a1 rfl (wh + a) rfl (by omega) (by decide) ?_
    refine Ev.gen (fun z => PX7 z m (fP F (mFig H (sByt i) p).1) T (upA A 1 (upd (A 1) (wh + a) (nI ((mFig H (sByt i) p).2))))) (hP10.wa1 (g := (upd (A 1) (wh + a) (nI ((mFig H (sByt i) p).2))))) Off.set (fun σ12 hP13 ho14 => ?_)
    refine e_vret (pc := 29) Xc hQ (dT hX7_tellsHere 17 rfl) (Nat.le_refl _) (Nat.le_refl _) ?_
    have hok_ : (tellP H (sByt i) p).1.1 = true := by
      cases e_ : (mFig H (sByt i) p).1.1
      · rw [e_] at c14; exact absurd c14 (by decide)
      · exact e_
    refine ⟨?_, ((ho5.tr ho11).tr ho14)⟩
    rw [if_pos hok_]
    exact hP13
set_option maxRecDepth 100000 in
set_option maxHeartbeats 4000000 in
theorem c_much {G : xG} {σ : xS} {m : Nat} {F : Nat → Int32} {T : Nat → Nat} {A : Nat → Nat → Int32} (hP : PX7 σ m F T A) {H : Nat → Int32} {nt a n0 : Nat} (hp : PH (A 1) F H nt a n0) (p : Nat) (hs : p ≤ nt) (hF : F 6 = nI p ∧ F 8 = 0) (i : Nat) (hi : i < 10) (kind : Int32) (hn : n0 ≤ p) (h9 : F 9 = 0) : CV G yX7_much cX7_much 4 none 23 0 0 [.ref m, .int kind, .ref (gK G i)] σ (fun σ1 => PX7 σ1 m (fP F ((muchP H (sByt i) p).1, (muchP H (sByt i) p).2.1)) T (upA A 1 (wrL a (A 1) ((muchP H (sByt i) p).2.2.map encR ++ (if (muchP H (sByt i) p).1 = true then [kind - nI (mFig H (sByt i) p).2] else [])))) ∧ Off m σ σ1) := by
  refine Met.ofX (by decide +kernel) (Nat.le_of_ble_eq_true rfl) (fun μ Xc hQ hnm => ?_)
  have Xc : xC G μ cX7_much 4 RX7 none 23 0 0 := Xc
  have hnt_ := hp.1
  have ha5_ := hp.2.1
  show Ev G μ 4 0 0 0 [(0, .ref m), (1, .int kind), (2, .ref (gK G i))] [] σ
  refine e_aload_n (pc := 0) Xc (dT hX7_much 0 rfl) 0 rfl ?_
  refine e_aload_n (pc := 1) Xc (dT hX7_much 1 rfl) 2 rfl ?_
  refine cl_X7_110 (pc := 2) (k := 0) (n := 0) (S := []) Xc hP.o (c_spells hP hp (true, p) hs ⟨hF.1, hF.2⟩ i hi) (dT hX7_much 2 rfl) rfl (Nat.le_of_ble_eq_true rfl) (Nat.le_of_ble_eq_true rfl) (Nat.le_of_ble_eq_true rfl) rfl (Nat.le_of_ble_eq_true rfl) (fun σ2 hq3 => ?_)
  obtain ⟨hP4, ho5⟩ := hq3
  have hsp_ := spelP_go hp.2.2.1 (sByt i) (true, p) (s_ne i hi) hs
  have hsp1_ : p ≤ (spelP H (sByt i) (true, p)).2 := hsp_.1
  refine e_aload_n (pc := 5) Xc (dT hX7_much 3 rfl) 0 rfl ?_
  have hph6 : PH (A 1) (fP F (spelP H (sByt i) (true, p))) H nt a n0 := ⟨hp.1, hp.2.1, hp.2.2.1, hp.2.2.2.1, hp.2.2.2.2.1, hp.2.2.2.2.2.1, hp.2.2.2.2.2.2⟩
  refine cl_X7_104 (pc := 6) (k := 0) (n := 0) (S := []) Xc hP4.o (c_figures hP4 hph6 (spelP H (sByt i) (true, p)) hsp_.2 ⟨rfl, rfl⟩) (dT hX7_much 4 rfl) rfl (Nat.le_of_ble_eq_true rfl) (Nat.le_of_ble_eq_true rfl) (Nat.le_of_ble_eq_true rfl) rfl (Nat.le_of_ble_eq_true rfl) (fun r7 σ8 hq9 => ?_)
  obtain ⟨r7e, hP10, ho11⟩ := hq9
  have r7e := r7e.symm; subst r7e
  rw [fP_2] at hP10
  have hfg_ := figP_go hp.2.2.1 hsp_.2
  have hfg1_ : p ≤ (mFig H (sByt i) p).1.2 := Nat.le_trans hsp1_ hfg_.1
  have hfg2_ : (mFig H (sByt i) p).1.2 ≤ nt := hfg_.2.1
  have hP10 : PX7 σ8 m (fP F (mFig H (sByt i) p).1) T A := hP10
  refine e_val (y := nI (mFig H (sByt i) p).2) rfl ?_
  refine e_istore_n (L' := [(3, .int (nI ((mFig H (sByt i) p).2))), (0, .ref m), (1, .int kind), (2, .ref (gK G i))]) (pc := 9) Xc (dT hX7_much 5 rfl) (by decide) rfl ?_
  refine e_aload_n (pc := 10) Xc (dT hX7_much 6 rfl) 1 rfl ?_
  refine e_bipush (v := 32) (pc := 11) Xc (dT hX7_much 7 rfl) rfl ?_
  have hph12 : PH (A 1) (fP F (mFig H (sByt i) p).1) H nt a n0 := ⟨hp.1, hp.2.1, hp.2.2.1, hp.2.2.2.1, hp.2.2.2.2.1, hp.2.2.2.2.2.1, hp.2.2.2.2.2.2⟩
  refine cl_X7_77 (pc := 13) (k := 0) (n := 0) (S := []) Xc hP10.o (c_must hP10 hph12 (mFig H (sByt i) p).1 hfg2_ ⟨rfl, rfl⟩ 32) (dT hX7_much 8 rfl) rfl (Nat.le_of_ble_eq_true rfl) (Nat.le_of_ble_eq_true rfl) (Nat.le_of_ble_eq_true rfl) rfl (Nat.le_of_ble_eq_true rfl) (fun σ14 hq15 => ?_)
  obtain ⟨hP16, ho17⟩ := hq15
  rw [fP_2] at hP16
  have hmu_ := mustP_go hp.2.2.1 (c := 32) (by decide) (s := (mFig H (sByt i) p).1) hfg2_
  refine e_aload_n (pc := 16) Xc (dT hX7_much 9 rfl) 1 rfl ?_
  have hph18 : PH (A 1) (fP F (mustP H 32 (mFig H (sByt i) p).1)) H nt a n0 := ⟨hp.1, hp.2.1, hp.2.2.1, hp.2.2.2.1, hp.2.2.2.2.1, hp.2.2.2.2.2.1, hp.2.2.2.2.2.2⟩
  refine cl_X7_93 (pc := 17) (k := 0) (n := 0) (S := []) Xc hP16.o (c_some5 hP16 hph18 (mustP H 32 (mFig H (sByt i) p).1) hmu_.2 ⟨rfl, rfl⟩ (by omega) h9) (dT hX7_much 10 rfl) rfl (Nat.le_of_ble_eq_true rfl) (Nat.le_of_ble_eq_true rfl) (Nat.le_of_ble_eq_true rfl) rfl (Nat.le_of_ble_eq_true rfl) (fun σ20 hq21 => ?_)
  obtain ⟨hP22, ho23⟩ := hq21
  have hP22 : PX7 σ20 m (fP (fP F (mustP H 32 (mFig H (sByt i) p).1)) ((muchP H (sByt i) p).1, (muchP H (sByt i) p).2.1)) T (upA A 1 (wrL a (A 1) ((muchP H (sByt i) p).2.2.map encR))) := hP22
  rw [fP_2] at hP22
  obtain ⟨hg1_, hg2_, hg3_, hg4_⟩ := muchP_go hp.2.2.1 (s_ne i hi) hs
  have hll_ : ((muchP H (sByt i) p).2.2.map encR).length = (muchP H (sByt i) p).2.2.length := List.length_map _
  refine e_aload_n (pc := 20) Xc (dT hX7_much 11 rfl) 1 rfl ?_
  refine e_iload_n (pc := 21) Xc (dT hX7_much 12 rfl) 2 rfl ?_
  refine e_iload_n (pc := 22) Xc (dT hX7_much 13 rfl) 0 rfl ?_
  refine e_isub (pc := 23) Xc (dT hX7_much 14 rfl) ?_
  have hph24 : PH (wrL a (A 1) ((muchP H (sByt i) p).2.2.map encR)) (fP F ((muchP H (sByt i) p).1, (muchP H (sByt i) p).2.1)) H nt a (n0 + ((muchP H (sByt i) p).2.2.map encR).length) := ⟨hp.1, hp.2.1, hp.2.2.1, fun q hq => (wrL_lo (by omega) _ _).trans (hp.2.2.2.1 q hq), hp.2.2.2.2.1, hp.2.2.2.2.2.1, wrL_n _ _ _ hp.2.2.2.2.2.2⟩
  refine cl_X7_90 (pc := 24) (k := 0) (n := 0) (S := []) Xc hP22.o (c_emits hP22 hph24 ((muchP H (sByt i) p).1, (muchP H (sByt i) p).2.1) hg3_ ⟨rfl, rfl⟩ (by omega) (kind - (nI ((mFig H (sByt i) p).2)))) (dT hX7_much 15 rfl) rfl (Nat.le_of_ble_eq_true rfl) (Nat.le_of_ble_eq_true rfl) (Nat.le_of_ble_eq_true rfl) rfl (Nat.le_of_ble_eq_true rfl) (fun σ26 hq27 => ?_)
  obtain ⟨hP28, ho29⟩ := hq27
  have hP28 : PX7 σ26 m (fP F ((muchP H (sByt i) p).1, (muchP H (sByt i) p).2.1)) T (upA (upA A 1 (wrL a (A 1) ((muchP H (sByt i) p).2.2.map encR))) 1 (wrL a (wrL a (A 1) ((muchP H (sByt i) p).2.2.map encR)) (if ((muchP H (sByt i) p).1, (muchP H (sByt i) p).2.1).1 = true then [kind - (nI ((mFig H (sByt i) p).2))] else []))) := hP28
  rw [upA_2, wrL_app] at hP28
  refine e_vret (pc := 27) Xc hQ (dT hX7_much 16 rfl) (Nat.le_refl _) (Nat.le_refl _) ?_
  exact ⟨hP28, ((((ho5.tr ho11).tr ho17).tr ho23).tr ho29)⟩
set_option maxRecDepth 100000 in
set_option maxHeartbeats 4000000 in
theorem c_clauseHere {G : xG} {σ : xS} {m : Nat} {F : Nat → Int32} {T : Nat → Nat} {A : Nat → Nat → Int32} (hP : PX7 σ m F T A) {H : Nat → Int32} {nt a : Nat} {t : xT} (hp : PH (A 1) F H nt a (t.2.2.flatMap flR).length) (p : Nat) (hs : p ≤ nt) (hF : F 6 = nI p ∧ F 8 = 0) (h9 : F 9 = 0) (hRT : RTn (A 1) a t) (hn : (t.2.2.flatMap flR).length ≤ p) : CV G yX7_clauseHere cX7_clauseHere 1 none 24 0 0 [.ref m] σ (fun σ1 => ∃ X1, PX7 σ1 m (fP F ((clauP H p t).1, (clauP H p t).2.1)) T (upA A 1 X1) ∧ clOK H nt a p (A 1) X1 (clauP H p t) ∧ Off m σ σ1) := by
  refine Met.ofX (by decide +kernel) (Nat.le_of_ble_eq_true rfl) (fun μ Xc hQ hnm => ?_)
  have Xc : xC G μ cX7_clauseHere 1 RX7 none 24 0 0 := Xc
  have hnt_ := hp.1
  have ha5_ := hp.2.1
  show Ev G μ 1 0 0 0 [(0, .ref m)] [] σ
  refine e_aload_n (pc := 0) Xc (dT hX7_clauseHere 0 rfl) 0 rfl ?_
  refine cl_X7_64 (pc := 1) (k := 0) (n := 0) (S := []) Xc hP.o (c_here hP hp (true, p) hs hF) (dT hX7_clauseHere 1 rfl) rfl (Nat.le_of_ble_eq_true rfl) (Nat.le_of_ble_eq_true rfl) (Nat.le_of_ble_eq_true rfl) rfl (Nat.le_of_ble_eq_true rfl) (fun r1 σ2 hq3 => ?_)
  obtain ⟨r1e, r1s⟩ := hq3
  have r1e := r1e.symm; subst r1e; have r1s := r1s.symm; subst r1s
  refine e_val (y := H p) rfl ?_
  by_cases sw4_0 : H p = 98
  · skip
    refine e_val (y := 98) sw4_0 ?_
    refine e_lookup (x := 98) (off := 79) (tgt := 83) (pc := 4) Xc (dT hX7_clauseHere 2 rfl) (by decide) (by decide) rfl ?_
    refine e_aload_n (pc := 83) Xc (dT hX7_clauseHere 18 rfl) 0 rfl ?_
    refine e_sipush (v := -200) (pc := 84) Xc (dT hX7_clauseHere 19 rfl) rfl ?_
    refine e_ldcS (i := 9) (pc := 87) Xc (dT hX7_clauseHere 20 rfl) (by decide) rfl rfl ?_
    refine cl_X7_124 (pc := 89) (k := 0) (n := 0) (S := []) Xc hP.o (c_much hP hp p hs hF 9 (by decide) (-200) hn h9) (dT hX7_clauseHere 21 rfl) rfl (Nat.le_of_ble_eq_true rfl) (Nat.le_of_ble_eq_true rfl) (Nat.le_of_ble_eq_true rfl) rfl (Nat.le_of_ble_eq_true rfl) (fun σ5 hq6 => ?_)
    obtain ⟨hP7, ho8⟩ := hq6
    refine e_goto (tgt := 100) (pc := 92) Xc (dT hX7_clauseHere 22 rfl) rfl ?_
    refine e_vret (pc := 100) Xc hQ (dT hX7_clauseHere 26 rfl) (Nat.le_refl _) (Nat.le_refl _) ?_
    rw [clau_98 sw4_0]
    exact ⟨_, hP7, feel_ok hp.2.2.1 hp.1 (s_ne 9 (by decide)) hs hRT hp.2.1 hn rfl, ho8⟩
  by_cases sw4_1 : H p = 103
  · skip
    refine e_val (y := 103) sw4_1 ?_
    refine e_lookup (x := 103) (off := 44) (tgt := 48) (pc := 4) Xc (dT hX7_clauseHere 2 rfl) (by decide) (by decide) rfl ?_
    refine e_aload_n (pc := 48) Xc (dT hX7_clauseHere 3 rfl) 0 rfl ?_
    refine e_sipush (v := 194) (pc := 49) Xc (dT hX7_clauseHere 4 rfl) rfl ?_
    refine e_ldcS (i := 6) (pc := 52) Xc (dT hX7_clauseHere 5 rfl) (by decide) rfl rfl ?_
    refine cl_X7_116 (pc := 54) (k := 0) (n := 0) (S := []) Xc hP.o (c_tellsHere hP hp p hs hF 6 (by decide) 194 (by omega)) (dT hX7_clauseHere 6 rfl) rfl (Nat.le_of_ble_eq_true rfl) (Nat.le_of_ble_eq_true rfl) (Nat.le_of_ble_eq_true rfl) rfl (Nat.le_of_ble_eq_true rfl) (fun σ10 hq11 => ?_)
    obtain ⟨hP12, ho13⟩ := hq11
    refine e_goto (tgt := 100) (pc := 57) Xc (dT hX7_clauseHere 7 rfl) rfl ?_
    refine e_vret (pc := 100) Xc hQ (dT hX7_clauseHere 26 rfl) (Nat.le_refl _) (Nat.le_refl _) ?_
    rw [clau_103 sw4_0 sw4_1]
    exact ⟨_, hP12, gap_ok hp.2.2.1 (s_ne 6 (by decide)) hs hRT hp.2.1 hn, ho13⟩
  by_cases sw4_2 : H p = 108
  · skip
    refine e_val (y := 108) sw4_2 ?_
    refine e_lookup (x := 108) (off := 68) (tgt := 72) (pc := 4) Xc (dT hX7_clauseHere 2 rfl) (by decide) (by decide) rfl ?_
    refine e_aload_n (pc := 72) Xc (dT hX7_clauseHere 13 rfl) 0 rfl ?_
    refine e_bipush (v := -10) (pc := 73) Xc (dT hX7_clauseHere 14 rfl) rfl ?_
    refine e_ldcS (i := 8) (pc := 75) Xc (dT hX7_clauseHere 15 rfl) (by decide) rfl rfl ?_
    refine cl_X7_124 (pc := 77) (k := 0) (n := 0) (S := []) Xc hP.o (c_much hP hp p hs hF 8 (by decide) (-10) hn h9) (dT hX7_clauseHere 16 rfl) rfl (Nat.le_of_ble_eq_true rfl) (Nat.le_of_ble_eq_true rfl) (Nat.le_of_ble_eq_true rfl) rfl (Nat.le_of_ble_eq_true rfl) (fun σ15 hq16 => ?_)
    obtain ⟨hP17, ho18⟩ := hq16
    refine e_goto (tgt := 100) (pc := 80) Xc (dT hX7_clauseHere 17 rfl) rfl ?_
    refine e_vret (pc := 100) Xc hQ (dT hX7_clauseHere 26 rfl) (Nat.le_refl _) (Nat.le_refl _) ?_
    rw [clau_108 sw4_0 sw4_1 sw4_2]
    exact ⟨_, hP17, feel_ok hp.2.2.1 hp.1 (s_ne 8 (by decide)) hs hRT hp.2.1 hn rfl, ho18⟩
  by_cases sw4_3 : H p = 112
  · skip
    refine e_val (y := 112) sw4_3 ?_
    refine e_lookup (x := 112) (off := 56) (tgt := 60) (pc := 4) Xc (dT hX7_clauseHere 2 rfl) (by decide) (by decide) rfl ?_
    refine e_aload_n (pc := 60) Xc (dT hX7_clauseHere 8 rfl) 0 rfl ?_
    refine e_sipush (v := 199) (pc := 61) Xc (dT hX7_clauseHere 9 rfl) rfl ?_
    refine e_ldcS (i := 7) (pc := 64) Xc (dT hX7_clauseHere 10 rfl) (by decide) rfl rfl ?_
    refine cl_X7_116 (pc := 66) (k := 0) (n := 0) (S := []) Xc hP.o (c_tellsHere hP hp p hs hF 7 (by decide) 199 (by omega)) (dT hX7_clauseHere 11 rfl) rfl (Nat.le_of_ble_eq_true rfl) (Nat.le_of_ble_eq_true rfl) (Nat.le_of_ble_eq_true rfl) rfl (Nat.le_of_ble_eq_true rfl) (fun σ20 hq21 => ?_)
    obtain ⟨hP22, ho23⟩ := hq21
    refine e_goto (tgt := 100) (pc := 69) Xc (dT hX7_clauseHere 12 rfl) rfl ?_
    refine e_vret (pc := 100) Xc hQ (dT hX7_clauseHere 26 rfl) (Nat.le_refl _) (Nat.le_refl _) ?_
    rw [clau_112 sw4_0 sw4_1 sw4_2 sw4_3]
    exact ⟨_, hP22, paste_ok hp.2.2.1 (s_ne 7 (by decide)) hs hRT hp.2.1 hn, ho23⟩
  have so4_0 := lv_neT sw4_0 (a := 98) rfl
  have so4_1 := lv_neT sw4_1 (a := 103) rfl
  have so4_2 := lv_neT sw4_2 (a := 108) rfl
  have so4_3 := lv_neT sw4_3 (a := 112) rfl
  refine e_lookup (off := 91) (tgt := 95) (pc := 4) Xc (dT hX7_clauseHere 2 rfl) (by decide) (by exact (lv_osw (a := 98) sw4_0 rfl).trans ((lv_osw (a := 103) sw4_1 rfl).trans ((lv_osw (a := 108) sw4_2 rfl).trans ((lv_osw (a := 112) sw4_3 rfl).trans (rfl))))) rfl ?_
  refine e_aload_n (pc := 95) Xc (dT hX7_clauseHere 23 rfl) 0 rfl ?_
  refine e_iconst (v := 1) (pc := 96) Xc (dT hX7_clauseHere 24 rfl) rfl ?_
  refine pf_X7_60 (fs' := olX7 m (upd F 8 1) T) (pc := 97) Xc (dT hX7_clauseHere 25 rfl) (Or.inr rfl) hP.o (Nat.le_of_ble_eq_true rfl) rfl ?_
  refine Ev.gen (fun z => PX7 z m (upd F 8 1) T A) (hP.wf8 (x := 1)) Off.set (fun σ24 hP25 ho26 => ?_)
  refine e_vret (pc := 100) Xc hQ (dT hX7_clauseHere 26 rfl) (Nat.le_refl _) (Nat.le_refl _) ?_
  rw [clau_no sw4_0 sw4_1 sw4_2 sw4_3]
  refine ⟨A 1, ?_, ⟨SBa.rf, fun q => Bool.noConfusion q, Nat.le_refl _, hs⟩, ho26⟩
  rw [upA_id]
  show PX7 _ m (fP F (false, p)) T A
  rw [show fP F (false, p) = (upd F 8 1) from F_ext hF.1.symm rfl rfl (fun j q6 q8 q9 => by simp only [fP, upd, if_neg q6, if_neg q8, if_neg q9])]
  exact hP25
