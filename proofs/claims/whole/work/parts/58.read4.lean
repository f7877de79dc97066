set_option maxRecDepth 100000 in
set_option maxHeartbeats 4000000 in
theorem c_spells {G : xG} {σ : xS} {m : Nat} {F : Nat → Int32} {T : Nat → Nat} {A : Nat → Nat → Int32} (hP : PX7 σ m F T A) {H : Nat → Int32} {nt a n0 : Nat} (hp : PH (A 1) F H nt a n0) (s : Bool × Nat) (hs : s.2 ≤ nt) (hF : F 6 = nI s.2 ∧ F 8 = bI (!s.1)) (i : Nat) (hi : i < 10) : CV G yX7_spells cX7_spells 3 none 4 0 0 [.ref m, .ref (gK G i)] σ (fun σ1 => PX7 σ1 m (fP F (spelP H (sByt i) s)) T A ∧ Off m σ σ1) := by
  refine Met.ofX (by decide +kernel) (Nat.le_of_ble_eq_true rfl) (fun μ Xc hQ hnm => ?_)
  have Xc : xC G μ cX7_spells 3 RX7 none 4 0 0 := Xc
  have hnt_ := hp.1
  have ha5_ := hp.2.1
  have hl6_ := s_len i hi
  show Ev G μ 3 0 0 0 [(0, .ref m), (1, .ref (gK G i))] [] σ
  refine e_iconst (v := 0) (pc := 0) Xc (dT hX7_spells 0 rfl) rfl ?_
  refine e_istore_n (L' := [(2, .int 0), (0, .ref m), (1, .ref (gK G i))]) (pc := 1) Xc (dT hX7_spells 1 rfl) (by decide) rfl ?_
  have lp2 : ∀ (n2 : Nat) (k_ : Nat) (σ2 : xS), (sByt i).length - k_ < n2 → (k_ ≤ (sByt i).length) → (PX7 σ2 m (fP F (spelP H ((sByt i).take k_) s)) T A) → (Off m σ σ2) → Ev G μ 3 0 0 2 [(0, .ref m), (1, .ref (gK G i)), (2, .int (nI k_))] [] σ2 := by
    intro n2
    induction n2 with
    | zero => intro k_ σ2 hn; exact absurd hn (Nat.not_lt_zero _)
    | succ n2 ih2 =>
      intro k_ σ2 hn2 hk_ hp2 ho2
      refine e_iload_n (pc := 2) Xc (dT hX7_spells 2 rfl) 2 rfl ?_
      refine e_aload_n (pc := 3) Xc (dT hX7_spells 3 rfl) 1 rfl ?_
      refine e_callStI (pc := 4) (k := 0) (n := 0) (As := []) (S := [.int (nI k_)]) Xc m_J0_length_8abf5 w_ml_X7_68 w_inst_J0_length_8abf5 w_sel_J0_length_8abf5 hi rfl (c_length (i := i) hi) (dT hX7_spells 4 rfl) rfl (Nat.le_of_ble_eq_true rfl) (by decide) (Nat.le_of_ble_eq_true rfl) (Nat.le_of_ble_eq_true rfl) rfl (Nat.le_of_ble_eq_true rfl) (fun r1 σ2 hq3 => ?_)
      obtain ⟨r1e, r1s⟩ := hq3
      have r1e := r1e.symm; subst r1e; have r1s := r1s.symm; subst r1s
      refine e_icmp_geN (x := k_) (y := (sByt i).length) (tgt := 25) (pc := 7) Xc (dT hX7_spells 5 rfl) rfl (by omega) (by omega) (fun c7 => ?_) (fun c7 => ?_)
      · skip
        refine e_vret (pc := 25) Xc hQ (dT hX7_spells 13 rfl) (Nat.le_refl _) (Nat.le_refl _) ?_
        have hke_ : k_ = (sByt i).length := by omega
        subst hke_
        rw [List.take_length] at hp2
        exact ⟨hp2, ho2⟩
      · skip
        refine e_aload_n (pc := 10) Xc (dT hX7_spells 6 rfl) 0 rfl ?_
        refine e_aload_n (pc := 11) Xc (dT hX7_spells 7 rfl) 1 rfl ?_
        refine e_iload_n (pc := 12) Xc (dT hX7_spells 8 rfl) 2 rfl ?_
        refine e_callStI (pc := 13) (k := 0) (n := 0) (As := [.int (nI k_)]) (S := [.ref m]) Xc m_J0_charAt_5068e w_ml_X7_73 w_inst_J0_charAt_5068e w_sel_J0_charAt_5068e hi rfl (c_charAt (i := i) (j := k_) hi (by omega)) (dT hX7_spells 9 rfl) rfl (Nat.le_of_ble_eq_true rfl) (by decide) (Nat.le_of_ble_eq_true rfl) (Nat.le_of_ble_eq_true rfl) rfl (Nat.le_of_ble_eq_true rfl) (fun r4 σ5 hq6 => ?_)
        obtain ⟨r4e, r4s⟩ := hq6
        have r4e := r4e.symm; subst r4e; have r4s := r4s.symm; subst r4s
        have hph7 : PH (A 1) (fP F (spelP H ((sByt i).take k_) s)) H nt a n0 := ⟨hp.1, hp.2.1, hp.2.2.1, hp.2.2.2.1, hp.2.2.2.2.1, hp.2.2.2.2.2.1, hp.2.2.2.2.2.2⟩
        refine cl_X7_77 (pc := 16) (k := 0) (n := 0) (S := []) Xc hp2.o (c_must hp2 hph7 (spelP H ((sByt i).take k_) s) (spel_hs hp.2.2.1 hi hs) ⟨rfl, rfl⟩ ((sByt i).getD k_ 0)) (dT hX7_spells 10 rfl) rfl (Nat.le_of_ble_eq_true rfl) (Nat.le_of_ble_eq_true rfl) (Nat.le_of_ble_eq_true rfl) rfl (Nat.le_of_ble_eq_true rfl) (fun σ9 hq10 => ?_)
        obtain ⟨hP11, ho12⟩ := hq10
        rw [fP_2] at hP11
        refine e_iincN (a := k_) (b := 1) (L' := [(2, .int (nI (k_ + 1))), (0, .ref m), (1, .ref (gK G i))]) (pc := 19) Xc (dT hX7_spells 11 rfl) 2 rfl rfl (by decide) rfl ?_
        refine e_goto (tgt := 2) (pc := 22) Xc (dT hX7_spells 12 rfl) rfl ?_
        refine Ev.pick (L' := [(0, .ref m), (1, .ref (gK G i)), (2, .int (nI (k_ + 1)))]) [1, 2, 0] rfl ?_
        exact ih2 (k_ + 1) σ9 (by omega) (by omega) (by rw [spel_s (by omega)]; exact hP11) (ho2.tr ho12)
  refine Ev.pick (L' := [(0, .ref m), (1, .ref (gK G i)), (2, .int 0)]) [1, 2, 0] rfl ?_
  exact lp2 (((sByt i).length - 0) + 1) 0 σ (Nat.lt_succ_self _) (Nat.zero_le _) (by rw [List.take_zero, show fP F (spelP H [] s) = F from fP_id hF.1 hF.2]; exact hP) Off.rf
set_option maxRecDepth 100000 in
set_option maxHeartbeats 4000000 in
theorem c_tellsHere {G : xG} {σ : xS} {m : Nat} {F : Nat → Int32} {T : Nat → Nat} {A : Nat → Nat → Int32} (hP : PX7 σ m F T A) {H : Nat → Int32} {nt a n0 : Nat} (hp : PH (A 1) F H nt a n0) (p : Nat) (hs : p ≤ nt) (hF : F 6 = nI p ∧ F 8 = 0) (i : Nat) (hi : i < 10) (wh : Nat) (hwh : wh + a < 909) : CV G yX7_tellsHere cX7_tellsHere 4 none 5 0 0 [.ref m, .int (nI wh), .ref (gK G i)] σ (fun σ1 => PX7 σ1 m (fP F (tellP H (sByt i) p).1) T (upA A 1 (if (tellP H (sByt i) p).1.1 = true then upd (A 1) (wh + a) (nI (tellP H (sByt i) p).2) else A 1)) ∧ Off m σ σ1) := by
  refine Met.ofX (by decide +kernel) (Nat.le_of_ble_eq_true rfl) (fun μ Xc hQ hnm => ?_)
  have Xc : xC G μ cX7_tellsHere 4 RX7 none 5 0 0 := Xc
  have hnt_ := hp.1
  have ha5_ := hp.2.1
  show Ev G μ 4 0 0 0 [(0, .ref m), (1, .int (nI wh)), (2, .ref (gK G i))] [] σ
  refine e_aload_n (pc := 0) Xc (dT hX7_tellsHere 0 rfl) 0 rfl ?_
  refine e_aload_n (pc := 1) Xc (dT hX7_tellsHere 1 rfl) 2 rfl ?_
  refine cl_X7_110 (pc := 2) (k := 0) (n := 0) (S := []) Xc hP.o (c_spells hP hp (true, p) hs ⟨hF.1, hF.2⟩ i hi) (dT hX7_tellsHere 2 rfl) rfl (Nat.le_of_ble_eq_true rfl) (Nat.le_of_ble_eq_true rfl) (Nat.le_of_ble_eq_true rfl) rfl (Nat.le_of_ble_eq_true rfl) (fun σ2 hq3 => ?_)
  obtain ⟨hP4, ho5⟩ := hq3
  have hsp_ := spelP_go hp.2.2.1 (sByt i) (true, p) (s_ne i hi) hs
  have hsp1_ : p ≤ (spelP H (sByt i) (true, p)).2 := hsp_.1
  refine e_aload_n (pc := 5) Xc (dT hX7_tellsHere 3 rfl) 0 rfl ?_
  have hph6 : PH (A 1) (fP F (spelP H (sByt i) (true, p))) H nt a n0 := ⟨hp.1, hp.2.1, hp.2.2.1, hp.2.2.2.1, hp.2.2.2.2.1, hp.2.2.2.2.2.1, hp.2.2.2.2.2.2⟩
  refine cl_X7_104 (pc := 6) (k := 0) (n := 0) (S := []) Xc hP4.o (c_figures hP4 hph6 (spelP H (sByt i) (true, p)) hsp_.2 ⟨rfl, rfl⟩) (dT hX7_tellsHere 4 rfl) rfl (Nat.le_of_ble_eq_true rfl) (Nat.le_of_ble_eq_true rfl) (Nat.le_of_ble_eq_true rfl) rfl (Nat.le_of_ble_eq_true rfl) (fun r7 σ8 hq9 => ?_)
  obtain ⟨r7e, hP10, ho11⟩ := hq9
  have r7e := r7e.symm; subst r7e
  rw [fP_2] at hP10
  have hfg_ := figP_go hp.2.2.1 hsp_.2
  have hfg1_ : p ≤ (mFig H (sByt i) p).1.2 := Nat.le_trans hsp1_ hfg_.1
  have hfg2_ : (mFig H (sByt i) p).1.2 ≤ nt := hfg_.2.1
  have hP10 : PX7 σ8 m (fP F (mFig H (sByt i) p).1) T A := hP10
  refine e_val (y := nI (mFig H (sByt i) p).2) rfl ?_
  refine e_istore_n (L' := [(3, .int (nI ((mFig H (sByt i) p).2))), (0, .ref m), (1, .int (nI wh)), (2, .ref (gK G i))]) (pc := 9) Xc (dT hX7_tellsHere 5 rfl) (by decide) rfl ?_
  refine e_aload_n (pc := 10) Xc (dT hX7_tellsHere 6 rfl) 1 rfl ?_
  refine gf_X7_60 (pc := 11) Xc (dT hX7_tellsHere 7 rfl) hP10.o rfl ?_
  refine e_val (y := bI (!(mFig H (sByt i) p).1.1)) rfl ?_
  refine e_if_ne (tgt := 29) (pc := 14) Xc (dT hX7_tellsHere 8 rfl) rfl (fun c14 => ?_) (fun c14 => ?_)
  · skip
    refine e_vret (pc := 29) Xc hQ (dT hX7_tellsHere 17 rfl) (Nat.le_refl _) (Nat.le_refl _) ?_
    have hok_ : (tellP H (sByt i) p).1.1 = false := by
      cases e_ : (mFig H (sByt i) p).1.1
      · exact e_
      · rw [e_] at c14; exact absurd rfl c14
    refine ⟨?_, (ho5.tr ho11)⟩
    rw [if_neg (by rw [hok_]; decide), upA_id]
    exact hP10
  · skip
    refine e_aload_n (pc := 17) Xc (dT hX7_tellsHere 9 rfl) 1 rfl ?_
    refine gf_X7_9 (pc := 18) Xc (dT hX7_tellsHere 10 rfl) hP10.o rfl ?_
    refine e_iload_n (pc := 21) Xc (dT hX7_tellsHere 11 rfl) 2 rfl ?_
    refine e_aload_n (pc := 22) Xc (dT hX7_tellsHere 12 rfl) 1 rfl ?_
    refine gf_X7_81 (pc := 23) Xc (dT hX7_tellsHere 13 rfl) hP10.o rfl ?_
    refine e_val (y := F 5) rfl ?_
    refine e_val (y := nI a) hp.2.2.2.2.2.1 ?_
    refine e_iaddN (a := wh) (b := a) (pc := 26) Xc (dT hX7_tellsHere 14 rfl) ?_
    refine e_iload_n (pc := 27) Xc (dT hX7_tellsHere 15 rfl) 0 rfl ?_
    refine e_iastN (pc := 28) Xc (dT hX7_tellsHere 16 rfl) hP10.a1 rfl (wh + a) rfl (by omega) (by decide) ?_
    refine Ev.gen (fun z => PX7 z m (fP F (mFig H (sByt i) p).1) T (upA A 1 (upd (A 1) (wh + a) (nI ((mFig H (sByt i) p).2))))) (hP10.wa1 (g := (upd (A 1) (wh + a) (nI ((mFig H (sByt i) p).2))))) Off.set (fun σ12 hP13 ho14 => ?_)
    refine e_vret (pc := 29) Xc hQ (dT hX7_tellsHere 17 rfl) (Nat.le_refl _) (Nat.le_refl _) ?_
    have hok_ : (tellP H (sByt i) p).1.1 = true := by
      cases e_ : (mFig H (sByt i) p).1.1
      · rw [e_] at c14; exact absurd c14 (by decide)
      · exact e_
    refine ⟨?_, ((ho5.tr ho11).tr ho14)⟩
    rw [if_pos hok_]
    exact hP13
set_option maxRecDepth 100000 in
set_option maxHeartbeats 4000000 in
theorem c_much {G : xG} {σ : xS} {m : Nat} {F : Nat → Int32} {T : Nat → Nat} {A : Nat → Nat → Int32} (hP : PX7 σ m F T A) {H : Nat → Int32} {nt a n0 : Nat} (hp : PH (A 1) F H nt a n0) (p : Nat) (hs : p ≤ nt) (hF : F 6 = nI p ∧ F 8 = 0) (i : Nat) (hi : i < 10) (kind : Int32) (hn : n0 ≤ p) (h9 : F 9 = 0) : CV G yX7_much cX7_much 4 none 23 0 0 [.ref m, .int kind, .ref (gK G i)] σ (fun σ1 => PX7 σ1 m (fP F ((muchP H (sByt i) p).1, (muchP H (sByt i) p).2.1)) T (upA A 1 (wrL a (A 1) ((muchP H (sByt i) p).2.2.map encR ++ (if (muchP H (sByt i) p).1 = true then [kind - nI (mFig H (sByt i) p).2] else [])))) ∧ Off m σ σ1) := by
  refine Met.ofX (by decide +kernel) (Nat.le_of_ble_eq_true rfl) (fun μ Xc hQ hnm => ?_)
  have Xc : xC G μ cX7_much 4 RX7 none 23 0 0 := Xc
  have hnt_ := hp.1
  have ha5_ := hp.2.1
  show Ev G μ 4 0 0 0 [(0, .ref m), (1, .int kind), (2, .ref (gK G i))] [] σ
  refine e_aload_n (pc := 0) Xc (dT hX7_much 0 rfl) 0 rfl ?_
  refine e_aload_n (pc := 1) Xc (dT hX7_much 1 rfl) 2 rfl ?_
  refine cl_X7_110 (pc := 2) (k := 0) (n := 0) (S := []) Xc hP.o (c_spells hP hp (true, p) hs ⟨hF.1, hF.2⟩ i hi) (dT hX7_much 2 rfl) rfl (Nat.le_of_ble_eq_true rfl) (Nat.le_of_ble_eq_true rfl) (Nat.le_of_ble_eq_true rfl) rfl (Nat.le_of_ble_eq_true rfl) (fun σ2 hq3 => ?_)
  obtain ⟨hP4, ho5⟩ := hq3
  have hsp_ := spelP_go hp.2.2.1 (sByt i) (true, p) (s_ne i hi) hs
  have hsp1_ : p ≤ (spelP H (sByt i) (true, p)).2 := hsp_.1
  refine e_aload_n (pc := 5) Xc (dT hX7_much 3 rfl) 0 rfl ?_
  have hph6 : PH (A 1) (fP F (spelP H (sByt i) (true, p))) H nt a n0 := ⟨hp.1, hp.2.1, hp.2.2.1, hp.2.2.2.1, hp.2.2.2.2.1, hp.2.2.2.2.2.1, hp.2.2.2.2.2.2⟩
  refine cl_X7_104 (pc := 6) (k := 0) (n := 0) (S := []) Xc hP4.o (c_figures hP4 hph6 (spelP H (sByt i) (true, p)) hsp_.2 ⟨rfl, rfl⟩) (dT hX7_much 4 rfl) rfl (Nat.le_of_ble_eq_true rfl) (Nat.le_of_ble_eq_true rfl) (Nat.le_of_ble_eq_true rfl) rfl (Nat.le_of_ble_eq_true rfl) (fun r7 σ8 hq9 => ?_)
  obtain ⟨r7e, hP10, ho11⟩ := hq9
  have r7e := r7e.symm; subst r7e
  rw [fP_2] at hP10
  have hfg_ := figP_go hp.2.2.1 hsp_.2
  have hfg1_ : p ≤ (mFig H (sByt i) p).1.2 := Nat.le_trans hsp1_ hfg_.1
  have hfg2_ : (mFig H (sByt i) p).1.2 ≤ nt := hfg_.2.1
  have hP10 : PX7 σ8 m (fP F (mFig H (sByt i) p).1) T A := hP10
  refine e_val (y := nI (mFig H (sByt i) p).2) rfl ?_
  refine e_istore_n (L' := [(3, .int (nI ((mFig H (sByt i) p).2))), (0, .ref m), (1, .int kind), (2, .ref (gK G i))]) (pc := 9) Xc (dT hX7_much 5 rfl) (by decide) rfl ?_
  refine e_aload_n (pc := 10) Xc (dT hX7_much 6 rfl) 1 rfl ?_
  refine e_bipush (v := 32) (pc := 11) Xc (dT hX7_much 7 rfl) rfl ?_
  have hph12 : PH (A 1) (fP F (mFig H (sByt i) p).1) H nt a n0 := ⟨hp.1, hp.2.1, hp.2.2.1, hp.2.2.2.1, hp.2.2.2.2.1, hp.2.2.2.2.2.1, hp.2.2.2.2.2.2⟩
  refine cl_X7_77 (pc := 13) (k := 0) (n := 0) (S := []) Xc hP10.o (c_must hP10 hph12 (mFig H (sByt i) p).1 hfg2_ ⟨rfl, rfl⟩ 32) (dT hX7_much 8 rfl) rfl (Nat.le_of_ble_eq_true rfl) (Nat.le_of_ble_eq_true rfl) (Nat.le_of_ble_eq_true rfl) rfl (Nat.le_of_ble_eq_true rfl) (fun σ14 hq15 => ?_)
  obtain ⟨hP16, ho17⟩ := hq15
  rw [fP_2] at hP16
  have hmu_ := mustP_go hp.2.2.1 (c := 32) (by decide) (s := (mFig H (sByt i) p).1) hfg2_
  refine e_aload_n (pc := 16) Xc (dT hX7_much 9 rfl) 1 rfl ?_
  have hph18 : PH (A 1) (fP F (mustP H 32 (mFig H (sByt i) p).1)) H nt a n0 := ⟨hp.1, hp.2.1, hp.2.2.1, hp.2.2.2.1, hp.2.2.2.2.1, hp.2.2.2.2.2.1, hp.2.2.2.2.2.2⟩
  refine cl_X7_93 (pc := 17) (k := 0) (n := 0) (S := []) Xc hP16.o (c_some5 hP16 hph18 (mustP H 32 (mFig H (sByt i) p).1) hmu_.2 ⟨rfl, rfl⟩ (by omega) h9) (dT hX7_much 10 rfl) rfl (Nat.le_of_ble_eq_true rfl) (Nat.le_of_ble_eq_true rfl) (Nat.le_of_ble_eq_true rfl) rfl (Nat.le_of_ble_eq_true rfl) (fun σ20 hq21 => ?_)
  obtain ⟨hP22, ho23⟩ := hq21
  have hP22 : PX7 σ20 m (fP (fP F (mustP H 32 (mFig H (sByt i) p).1)) ((muchP H (sByt i) p).1, (muchP H (sByt i) p).2.1)) T (upA A 1 (wrL a (A 1) ((muchP H (sByt i) p).2.2.map encR))) := hP22
  rw [fP_2] at hP22
  obtain ⟨hg1_, hg2_, hg3_, hg4_⟩ := muchP_go hp.2.2.1 (s_ne i hi) hs
  have hll_ : ((muchP H (sByt i) p).2.2.map encR).length = (muchP H (sByt i) p).2.2.length := List.length_map _
  refine e_aload_n (pc := 20) Xc (dT hX7_much 11 rfl) 1 rfl ?_
  refine e_iload_n (pc := 21) Xc (dT hX7_much 12 rfl) 2 rfl ?_
  refine e_iload_n (pc := 22) Xc (dT hX7_much 13 rfl) 0 rfl ?_
  refine e_isub (pc := 23) Xc (dT hX7_much 14 rfl) ?_
  have hph24 : PH (wrL a (A 1) ((muchP H (sByt i) p).2.2.map encR)) (fP F ((muchP H (sByt i) p).1, (muchP H (sByt i) p).2.1)) H nt a (n0 + ((muchP H (sByt i) p).2.2.map encR).length) := ⟨hp.1, hp.2.1, hp.2.2.1, fun q hq => (wrL_lo (by omega) _ _).trans (hp.2.2.2.1 q hq), hp.2.2.2.2.1, hp.2.2.2.2.2.1, wrL_n _ _ _ hp.2.2.2.2.2.2⟩
  refine cl_X7_90 (pc := 24) (k := 0) (n := 0) (S := []) Xc hP22.o (c_emits hP22 hph24 ((muchP H (sByt i) p).1, (muchP H (sByt i) p).2.1) hg3_ ⟨rfl, rfl⟩ (by omega) (kind - (nI ((mFig H (sByt i) p).2)))) (dT hX7_much 15 rfl) rfl (Nat.le_of_ble_eq_true rfl) (Nat.le_of_ble_eq_true rfl) (Nat.le_of_ble_eq_true rfl) rfl (Nat.le_of_ble_eq_true rfl) (fun σ26 hq27 => ?_)
  obtain ⟨hP28, ho29⟩ := hq27
  have hP28 : PX7 σ26 m (fP F ((muchP H (sByt i) p).1, (muchP H (sByt i) p).2.1)) T (upA (upA A 1 (wrL a (A 1) ((muchP H (sByt i) p).2.2.map encR))) 1 (wrL a (wrL a (A 1) ((muchP H (sByt i) p).2.2.map encR)) (if ((muchP H (sByt i) p).1, (muchP H (sByt i) p).2.1).1 = true then [kind - (nI ((mFig H (sByt i) p).2))] else []))) := hP28
  rw [upA_2, wrL_app] at hP28
  refine e_vret (pc := 27) Xc hQ (dT hX7_much 16 rfl) (Nat.le_refl _) (Nat.le_refl _) ?_
  exact ⟨hP28, ((((ho5.tr ho11).tr ho17).tr ho23).tr ho29)⟩
set_option maxRecDepth 100000 in
set_option maxHeartbeats 4000000 in
theorem c_clauseHere {G : xG} {σ : xS} {m : Nat} {F : Nat → Int32} {T : Nat → Nat} {A : Nat → Nat → Int32} (hP : PX7 σ m F T A) {H : Nat → Int32} {nt a : Nat} {t : xT} (hp : PH (A 1) F H nt a (t.2.2.flatMap flR).length) (p : Nat) (hs : p ≤ nt) (hF : F 6 = nI p ∧ F 8 = 0) (h9 : F 9 = 0) (hRT : RTn (A 1) a t) (hn : (t.2.2.flatMap flR).length ≤ p) : CV G yX7_clauseHere cX7_clauseHere 1 none 24 0 0 [.ref m] σ (fun σ1 => ∃ X1, PX7 σ1 m (fP F ((clauP H p t).1, (clauP H p t).2.1)) T (upA A 1 X1) ∧ clOK H nt a p (A 1) X1 (clauP H p t) ∧ Off m σ σ1) := by
  refine Met.ofX (by decide +kernel) (Nat.le_of_ble_eq_true rfl) (fun μ Xc hQ hnm => ?_)
  have Xc : xC G μ cX7_clauseHere 1 RX7 none 24 0 0 := Xc
  have hnt_ := hp.1
  have ha5_ := hp.2.1
  show Ev G μ 1 0 0 0 [(0, .ref m)] [] σ
  refine e_aload_n (pc := 0) Xc (dT hX7_clauseHere 0 rfl) 0 rfl ?_
  refine cl_X7_64 (pc := 1) (k := 0) (n := 0) (S := []) Xc hP.o (c_here hP hp (true, p) hs hF) (dT hX7_clauseHere 1 rfl) rfl (Nat.le_of_ble_eq_true rfl) (Nat.le_of_ble_eq_true rfl) (Nat.le_of_ble_eq_true rfl) rfl (Nat.le_of_ble_eq_true rfl) (fun r1 σ2 hq3 => ?_)
  obtain ⟨r1e, r1s⟩ := hq3
  have r1e := r1e.symm; subst r1e; have r1s := r1s.symm; subst r1s
  refine e_val (y := H p) rfl ?_
  by_cases sw4_0 : H p = 98
  · skip
    refine e_val (y := 98) sw4_0 ?_
    refine e_lookup (x := 98) (off := 79) (tgt := 83) (pc := 4) Xc (dT hX7_clauseHere 2 rfl) (by decide) (by decide) rfl ?_
    refine e_aload_n (pc := 83) Xc (dT hX7_clauseHere 18 rfl) 0 rfl ?_
    refine e_sipush (v := -200) (pc := 84) Xc (dT hX7_clauseHere 19 rfl) rfl ?_
    refine e_ldcS (i := 9) (pc := 87) Xc (dT hX7_clauseHere 20 rfl) (by decide) rfl rfl ?_
    refine cl_X7_124 (pc := 89) (k := 0) (n := 0) (S := []) Xc hP.o (c_much hP hp p hs hF 9 (by decide) (-200) hn h9) (dT hX7_clauseHere 21 rfl) rfl (Nat.le_of_ble_eq_true rfl) (Nat.le_of_ble_eq_true rfl) (Nat.le_of_ble_eq_true rfl) rfl (Nat.le_of_ble_eq_true rfl) (fun σ5 hq6 => ?_)
    obtain ⟨hP7, ho8⟩ := hq6
    refine e_goto (tgt := 100) (pc := 92) Xc (dT hX7_clauseHere 22 rfl) rfl ?_
    refine e_vret (pc := 100) Xc hQ (dT hX7_clauseHere 26 rfl) (Nat.le_refl _) (Nat.le_refl _) ?_
    rw [clau_98 sw4_0]
    exact ⟨_, hP7, feel_ok hp.2.2.1 hp.1 (s_ne 9 (by decide)) hs hRT hp.2.1 hn rfl, ho8⟩
  by_cases sw4_1 : H p = 103
  · skip
    refine e_val (y := 103) sw4_1 ?_
    refine e_lookup (x := 103) (off := 44) (tgt := 48) (pc := 4) Xc (dT hX7_clauseHere 2 rfl) (by decide) (by decide) rfl ?_
    refine e_aload_n (pc := 48) Xc (dT hX7_clauseHere 3 rfl) 0 rfl ?_
    refine e_sipush (v := 194) (pc := 49) Xc (dT hX7_clauseHere 4 rfl) rfl ?_
    refine e_ldcS (i := 6) (pc := 52) Xc (dT hX7_clauseHere 5 rfl) (by decide) rfl rfl ?_
    refine cl_X7_116 (pc := 54) (k := 0) (n := 0) (S := []) Xc hP.o (c_tellsHere hP hp p hs hF 6 (by decide) 194 (by omega)) (dT hX7_clauseHere 6 rfl) rfl (Nat.le_of_ble_eq_true rfl) (Nat.le_of_ble_eq_true rfl) (Nat.le_of_ble_eq_true rfl) rfl (Nat.le_of_ble_eq_true rfl) (fun σ10 hq11 => ?_)
    obtain ⟨hP12, ho13⟩ := hq11
    refine e_goto (tgt := 100) (pc := 57) Xc (dT hX7_clauseHere 7 rfl) rfl ?_
    refine e_vret (pc := 100) Xc hQ (dT hX7_clauseHere 26 rfl) (Nat.le_refl _) (Nat.le_refl _) ?_
    rw [clau_103 sw4_0 sw4_1]
    exact ⟨_, hP12, gap_ok hp.2.2.1 (s_ne 6 (by decide)) hs hRT hp.2.1 hn, ho13⟩
  by_cases sw4_2 : H p = 108
  · skip
    refine e_val (y := 108) sw4_2 ?_
    refine e_lookup (x := 108) (off := 68) (tgt := 72) (pc := 4) Xc (dT hX7_clauseHere 2 rfl) (by decide) (by decide) rfl ?_
    refine e_aload_n (pc := 72) Xc (dT hX7_clauseHere 13 rfl) 0 rfl ?_
    refine e_bipush (v := -10) (pc := 73) Xc (dT hX7_clauseHere 14 rfl) rfl ?_
    refine e_ldcS (i := 8) (pc := 75) Xc (dT hX7_clauseHere 15 rfl) (by decide) rfl rfl ?_
    refine cl_X7_124 (pc := 77) (k := 0) (n := 0) (S := []) Xc hP.o (c_much hP hp p hs hF 8 (by decide) (-10) hn h9) (dT hX7_clauseHere 16 rfl) rfl (Nat.le_of_ble_eq_true rfl) (Nat.le_of_ble_eq_true rfl) (Nat.le_of_ble_eq_true rfl) rfl (Nat.le_of_ble_eq_true rfl) (fun σ15 hq16 => ?_)
    obtain ⟨hP17, ho18⟩ := hq16
    refine e_goto (tgt := 100) (pc := 80) Xc (dT hX7_clauseHere 17 rfl) rfl ?_
    refine e_vret (pc := 100) Xc hQ (dT hX7_clauseHere 26 rfl) (Nat.le_refl _) (Nat.le_refl _) ?_
    rw [clau_108 sw4_0 sw4_1 sw4_2]
    exact ⟨_, hP17, feel_ok hp.2.2.1 hp.1 (s_ne 8 (by decide)) hs hRT hp.2.1 hn rfl, ho18⟩
  by_cases sw4_3 : H p = 112
  · skip
    refine e_val (y := 112) sw4_3 ?_
    refine e_lookup (x := 112) (off := 56) (tgt := 60) (pc := 4) Xc (dT hX7_clauseHere 2 rfl) (by decide) (by decide) rfl ?_
    refine e_aload_n (pc := 60) Xc (dT hX7_clauseHere 8 rfl) 0 rfl ?_
    refine e_sipush (v := 199) (pc := 61) Xc (dT hX7_clauseHere 9 rfl) rfl ?_
    refine e_ldcS (i := 7) (pc := 64) Xc (dT hX7_clauseHere 10 rfl) (by decide) rfl rfl ?_
    refine cl_X7_116 (pc := 66) (k := 0) (n := 0) (S := []) Xc hP.o (c_tellsHere hP hp p hs hF 7 (by decide) 199 (by omega)) (dT hX7_clauseHere 11 rfl) rfl (Nat.le_of_ble_eq_true rfl) (Nat.le_of_ble_eq_true rfl) (Nat.le_of_ble_eq_true rfl) rfl (Nat.le_of_ble_eq_true rfl) (fun σ20 hq21 => ?_)
    obtain ⟨hP22, ho23⟩ := hq21
    refine e_goto (tgt := 100) (pc := 69) Xc (dT hX7_clauseHere 12 rfl) rfl ?_
    refine e_vret (pc := 100) Xc hQ (dT hX7_clauseHere 26 rfl) (Nat.le_refl _) (Nat.le_refl _) ?_
    rw [clau_112 sw4_0 sw4_1 sw4_2 sw4_3]
    exact ⟨_, hP22, paste_ok hp.2.2.1 (s_ne 7 (by decide)) hs hRT hp.2.1 hn, ho23⟩
  have so4_0 := lv_neT sw4_0 (a := 98) rfl
  have so4_1 := lv_neT sw4_1 (a := 103) rfl
  have so4_2 := lv_neT sw4_2 (a := 108) rfl
  have so4_3 := lv_neT sw4_3 (a := 112) rfl
  refine e_lookup (off := 91) (tgt := 95) (pc := 4) Xc (dT hX7_clauseHere 2 rfl) (by decide) (by exact (lv_osw (a := 98) sw4_0 rfl).trans ((lv_osw (a := 103) sw4_1 rfl).trans ((lv_osw (a := 108) sw4_2 rfl).trans ((lv_osw (a := 112) sw4_3 rfl).trans (rfl))))) rfl ?_
  refine e_aload_n (pc := 95) Xc (dT hX7_clauseHere 23 rfl) 0 rfl ?_
  refine e_iconst (v := 1) (pc := 96) Xc (dT hX7_clauseHere 24 rfl) rfl ?_
  refine pf_X7_60 (fs' := olX7 m (upd F 8 1) T) (pc := 97) Xc (dT hX7_clauseHere 25 rfl) (Or.inr rfl) hP.o (Nat.le_of_ble_eq_true rfl) rfl ?_
  refine Ev.gen (fun z => PX7 z m (upd F 8 1) T A) (hP.wf8 (x := 1)) Off.set (fun σ24 hP25 ho26 => ?_)
  refine e_vret (pc := 100) Xc hQ (dT hX7_clauseHere 26 rfl) (Nat.le_refl _) (Nat.le_refl _) ?_
  rw [clau_no sw4_0 sw4_1 sw4_2 sw4_3]
  refine ⟨A 1, ?_, ⟨SBa.rf, fun q => Bool.noConfusion q, Nat.le_refl _, hs⟩, ho26⟩
  rw [upA_id]
  show PX7 _ m (fP F (false, p)) T A
  rw [show fP F (false, p) = (upd F 8 1) from F_ext hF.1.symm rfl rfl (fun j q6 q8 q9 => by simp only [fP, upd, if_neg q6, if_neg q8, if_neg q9])]
  exact hP25
set_option maxRecDepth 100000 in
set_option maxHeartbeats 4000000 in
theorem p_town {G : xG} {σ : xS} {m : Nat} {X Y bd : Nat → Int32} {hi rn : Int32} (hM : MK σ m X Y bd hi rn) {nr nb ns np nn nt na dy : Nat} {t : xT} (hK : OK X nr nb t ns np nn nt na dy)   : CI G yX7_town cX7_town 2 (some .int) 25 0 0 [.ref m] σ (fun z σ1 => (na = 5 ∧ z = -4 ∧ MK σ1 m X Y bd hi rn ∧ Off m σ σ1) ∨ (na < 5 ∧ ∃ X1, MK σ1 m X1 Y bd hi rn ∧ TWR X X1 nt na z ∧ Off m σ σ1)) := by
  refine Met.ofX (by decide +kernel) (Nat.le_of_ble_eq_true rfl) (fun μ Xc hQ hnm => ?_)
  have Xc : xC G μ cX7_town 2 RX7 (some .int) 25 0 0 := Xc
  obtain ⟨F, T, A, hP, e1, e2, e3, e4, e5⟩ := hM
  subst e1 e2 e3 e4 e5
  obtain ⟨hG, hT, hS, hPl, hNo, hTa, hA, hJ, hR, hD⟩ := id hK
  have hr4 := hG.r4
  have hb7 := hG.b7
  have hs6 := hS.1
  have hp8 := hPl.1
  have hn8 := hNo.1
  have ht100 := hTa.1
  have ha5 := hA.1
  have hd9 := hD.1
  show Ev G μ 2 0 0 0 [(0, .ref m)] [] σ
  refine e_aload_n (pc := 0) Xc (dT hX7_town 0 rfl) 0 rfl ?_
  refine gf_X7_9 (pc := 1) Xc (dT hX7_town 1 rfl) hP.o rfl ?_
  refine e_bipush (v := 14) (pc := 4) Xc (dT hX7_town 2 rfl) rfl ?_
  refine e_ialdN (pc := 6) Xc (dT hX7_town 3 rfl) hP.a1 (by decide) rfl 14 rfl (by omega) (by decide) ?_
  refine e_val (y := nI na) hA.2.1 ?_
  refine e_iconst (v := 5) (pc := 7) Xc (dT hX7_town 4 rfl) rfl ?_
  refine e_icmp_neN (x := na) (y := 5) (tgt := 14) (pc := 8) Xc (dT hX7_town 5 rfl) rfl (by omega) (by omega) (fun c8 => ?_) (fun c8 => ?_)
  · skip
    refine e_aload_n (pc := 14) Xc (dT hX7_town 8 rfl) 0 rfl ?_
    refine e_aload_n (pc := 15) Xc (dT hX7_town 9 rfl) 0 rfl ?_
    refine gf_X7_9 (pc := 16) Xc (dT hX7_town 10 rfl) hP.o rfl ?_
    refine e_bipush (v := 14) (pc := 19) Xc (dT hX7_town 11 rfl) rfl ?_
    refine e_ialdN (pc := 21) Xc (dT hX7_town 12 rfl) hP.a1 (by decide) rfl 14 rfl (by omega) (by decide) ?_
    refine e_val (y := nI na) hA.2.1 ?_
    refine pf_X7_81 (fs' := olX7 m (upd F 5 (nI na)) T) (pc := 22) Xc (dT hX7_town 13 rfl) hP.o (Nat.le_of_ble_eq_true rfl) rfl ?_
    refine Ev.gen (fun z => PX7 z m (upd F 5 (nI na)) T A) (hP.wf5 (x := nI na)) Off.set (fun σ1 hP2 ho3 => ?_)
    refine e_aload_n (pc := 25) Xc (dT hX7_town 14 rfl) 0 rfl ?_
    refine e_aload_n (pc := 26) Xc (dT hX7_town 15 rfl) 0 rfl ?_
    refine gf_X7_9 (pc := 27) Xc (dT hX7_town 16 rfl) hP2.o rfl ?_
    refine e_bipush (v := 18) (pc := 30) Xc (dT hX7_town 17 rfl) rfl ?_
    refine e_ialdN (pc := 32) Xc (dT hX7_town 18 rfl) hP2.a1 (by decide) rfl 18 rfl (by omega) (by decide) ?_
    refine e_val (y := nI nt) hTa.2.1 ?_
    refine pf_X7_57 (fs' := olX7 m (upd (upd F 5 (nI na)) 7 (nI nt)) T) (pc := 33) Xc (dT hX7_town 19 rfl) hP2.o (Nat.le_of_ble_eq_true rfl) rfl ?_
    refine Ev.gen (fun z => PX7 z m (upd (upd F 5 (nI na)) 7 (nI nt)) T A) (hP2.wf7 (x := nI nt)) Off.set (fun σ4 hP5 ho6 => ?_)
    refine e_aload_n (pc := 36) Xc (dT hX7_town 20 rfl) 0 rfl ?_
    refine gf_X7_9 (pc := 37) Xc (dT hX7_town 21 rfl) hP5.o rfl ?_
    refine e_bipush (v := 18) (pc := 40) Xc (dT hX7_town 22 rfl) rfl ?_
    refine e_iconst (v := 0) (pc := 42) Xc (dT hX7_town 23 rfl) rfl ?_
    refine e_iastN (pc := 43) Xc (dT hX7_town 24 rfl) hP5.a1 rfl 18 rfl (by omega) (by decide) ?_
    refine Ev.gen (fun z => PX7 z m (upd (upd F 5 (nI na)) 7 (nI nt)) T (upA A 1 (upd (A 1) 18 0))) (hP5.wa1 (g := (upd (A 1) 18 0))) Off.set (fun σ7 hP8 ho9 => ?_)
    refine e_aload_n (pc := 44) Xc (dT hX7_town 25 rfl) 0 rfl ?_
    refine gf_X7_9 (pc := 45) Xc (dT hX7_town 26 rfl) hP8.o rfl ?_
    refine e_sipush (v := 194) (pc := 48) Xc (dT hX7_town 27 rfl) rfl ?_
    refine e_aload_n (pc := 51) Xc (dT hX7_town 28 rfl) 0 rfl ?_
    refine gf_X7_81 (pc := 52) Xc (dT hX7_town 29 rfl) hP8.o rfl ?_
    refine e_val (y := nI na) rfl ?_
    refine e_iaddN (a := 194) (b := na) (pc := 55) Xc (dT hX7_town 30 rfl) ?_
    refine e_iconst (v := 1) (pc := 56) Xc (dT hX7_town 31 rfl) rfl ?_
    refine e_iastN (pc := 57) Xc (dT hX7_town 32 rfl) hP8.a1 rfl (194 + na) rfl (by omega) (by decide) ?_
    refine Ev.gen (fun z => PX7 z m (upd (upd F 5 (nI na)) 7 (nI nt)) T (upA (upA A 1 (upd (A 1) 18 0)) 1 (upd (upd (A 1) 18 0) (194 + na) 1))) (hP8.wa1 (g := (upd (upd (A 1) 18 0) (194 + na) 1))) Off.set (fun σ10 hP11 ho12 => ?_)
    have hP11 : PX7 σ10 m (upd (upd F 5 (nI na)) 7 (nI nt)) T (upA A 1 (upd (upd (A 1) 18 0) (194 + na) 1)) := by rw [upA_2] at hP11; exact hP11
    refine e_aload_n (pc := 58) Xc (dT hX7_town 33 rfl) 0 rfl ?_
    refine gf_X7_9 (pc := 59) Xc (dT hX7_town 34 rfl) hP11.o rfl ?_
    refine e_sipush (v := 199) (pc := 62) Xc (dT hX7_town 35 rfl) rfl ?_
    refine e_aload_n (pc := 65) Xc (dT hX7_town 36 rfl) 0 rfl ?_
    refine gf_X7_81 (pc := 66) Xc (dT hX7_town 37 rfl) hP11.o rfl ?_
    refine e_val (y := nI na) rfl ?_
    refine e_iaddN (a := 199) (b := na) (pc := 69) Xc (dT hX7_town 38 rfl) ?_
    refine e_iconst (v := 5) (pc := 70) Xc (dT hX7_town 39 rfl) rfl ?_
    refine e_iastN (pc := 71) Xc (dT hX7_town 40 rfl) hP11.a1 rfl (199 + na) rfl (by omega) (by decide) ?_
    refine Ev.gen (fun z => PX7 z m (upd (upd F 5 (nI na)) 7 (nI nt)) T (upA (upA A 1 (upd (upd (A 1) 18 0) (194 + na) 1)) 1 (upd (upd (upd (A 1) 18 0) (194 + na) 1) (199 + na) 5))) (hP11.wa1 (g := (upd (upd (upd (A 1) 18 0) (194 + na) 1) (199 + na) 5))) Off.set (fun σ13 hP14 ho15 => ?_)
    have hP14 : PX7 σ13 m (upd (upd F 5 (nI na)) 7 (nI nt)) T (upA A 1 (upd (upd (upd (A 1) 18 0) (194 + na) 1) (199 + na) 5)) := by rw [upA_2] at hP14; exact hP14
    refine e_aload_n (pc := 72) Xc (dT hX7_town 41 rfl) 0 rfl ?_
    refine gf_X7_9 (pc := 73) Xc (dT hX7_town 42 rfl) hP14.o rfl ?_
    refine e_sipush (v := 204) (pc := 76) Xc (dT hX7_town 43 rfl) rfl ?_
    refine e_aload_n (pc := 79) Xc (dT hX7_town 44 rfl) 0 rfl ?_
    refine gf_X7_81 (pc := 80) Xc (dT hX7_town 45 rfl) hP14.o rfl ?_
    refine e_val (y := nI na) rfl ?_
    refine e_iaddN (a := 204) (b := na) (pc := 83) Xc (dT hX7_town 46 rfl) ?_
    refine e_iconst (v := 0) (pc := 84) Xc (dT hX7_town 47 rfl) rfl ?_
    refine e_iastN (pc := 85) Xc (dT hX7_town 48 rfl) hP14.a1 rfl (204 + na) rfl (by omega) (by decide) ?_
    refine Ev.gen (fun z => PX7 z m (upd (upd F 5 (nI na)) 7 (nI nt)) T (upA (upA A 1 (upd (upd (upd (A 1) 18 0) (194 + na) 1) (199 + na) 5)) 1 (upd (upd (upd (upd (A 1) 18 0) (194 + na) 1) (199 + na) 5) (204 + na) 0))) (hP14.wa1 (g := (upd (upd (upd (upd (A 1) 18 0) (194 + na) 1) (199 + na) 5) (204 + na) 0))) Off.set (fun σ16 hP17 ho18 => ?_)
    refine e_aload_n (pc := 86) Xc (dT hX7_town 49 rfl) 0 rfl ?_
    refine e_iconst (v := 0) (pc := 87) Xc (dT hX7_town 50 rfl) rfl ?_
    refine pf_X7_54 (fs' := olX7 m (upd (upd (upd F 5 (nI na)) 7 (nI nt)) 6 0) T) (pc := 88) Xc (dT hX7_town 51 rfl) hP17.o (Nat.le_of_ble_eq_true rfl) rfl ?_
    refine Ev.gen (fun z => PX7 z m (upd (upd (upd F 5 (nI na)) 7 (nI nt)) 6 0) T (upA (upA A 1 (upd (upd (upd (A 1) 18 0) (194 + na) 1) (199 + na) 5)) 1 (upd (upd (upd (upd (A 1) 18 0) (194 + na) 1) (199 + na) 5) (204 + na) 0))) (hP17.wf6 (x := 0)) Off.set (fun σ19 hP20 ho21 => ?_)
    refine e_aload_n (pc := 91) Xc (dT hX7_town 52 rfl) 0 rfl ?_
    refine e_iconst (v := 0) (pc := 92) Xc (dT hX7_town 53 rfl) rfl ?_
    refine pf_X7_60 (fs' := olX7 m (upd (upd (upd (upd F 5 (nI na)) 7 (nI nt)) 6 0) 8 0) T) (pc := 93) Xc (dT hX7_town 54 rfl) (Or.inl rfl) hP20.o (Nat.le_of_ble_eq_true rfl) rfl ?_
    refine Ev.gen (fun z => PX7 z m (upd (upd (upd (upd F 5 (nI na)) 7 (nI nt)) 6 0) 8 0) T (upA (upA A 1 (upd (upd (upd (A 1) 18 0) (194 + na) 1) (199 + na) 5)) 1 (upd (upd (upd (upd (A 1) 18 0) (194 + na) 1) (199 + na) 5) (204 + na) 0))) (hP20.wf8 (x := 0)) Off.set (fun σ22 hP23 ho24 => ?_)
    refine e_aload_n (pc := 96) Xc (dT hX7_town 55 rfl) 0 rfl ?_
    refine e_iconst (v := 0) (pc := 97) Xc (dT hX7_town 56 rfl) rfl ?_
    refine pf_X7_84 (fs' := olX7 m (upd (upd (upd (upd (upd F 5 (nI na)) 7 (nI nt)) 6 0) 8 0) 9 0) T) (pc := 98) Xc (dT hX7_town 57 rfl) hP23.o (Nat.le_of_ble_eq_true rfl) rfl ?_
    refine Ev.gen (fun z => PX7 z m (upd (upd (upd (upd (upd F 5 (nI na)) 7 (nI nt)) 6 0) 8 0) 9 0) T (upA (upA A 1 (upd (upd (upd (A 1) 18 0) (194 + na) 1) (199 + na) 5)) 1 (upd (upd (upd (upd (A 1) 18 0) (194 + na) 1) (199 + na) 5) (204 + na) 0))) (hP23.wf9 (x := 0)) Off.set (fun σ25 hP26 ho27 => ?_)
    refine e_iconst (v := 1) (pc := 101) Xc (dT hX7_town 58 rfl) rfl ?_
    refine e_istore_n (L' := [(1, .int 1), (0, .ref m)]) (pc := 102) Xc (dT hX7_town 59 rfl) (by decide) rfl ?_
    refine e_aload_n (pc := 103) Xc (dT hX7_town 60 rfl) 1 rfl ?_
    have hna_ : na < 5 := by omega
    have hP0_ : PX7 σ25 m (upd (upd (upd (upd (upd F 5 (nI na)) 7 (nI nt)) 6 0) 8 0) 9 0) T (upA A 1 (tow0X (A 1) na)) := hP26
    have hRT0_ := tow0_rt (X := A 1) hna_
    have hph0_ : PH (tow0X (A 1) na) (upd (upd (upd (upd (upd F 5 (nI na)) 7 (nI nt)) 6 0) 8 0) 9 0) (tapeH (A 1) nt) nt na (tow0.2.2.flatMap flR).length := ⟨hTa.1, hna_, tape_end, fun q hq => (tow0_n (slot_lo (by omega)) (by omega)).trans (tape_at hq).symm, rfl, rfl, hRT0_.2.2.2.2.1⟩
    refine cl_X7_129 (pc := 104) (k := 0) (n := 0) (S := []) Xc hP0_.o (c_clauseHere hP0_ (t := tow0) hph0_ 0 (Nat.zero_le _) ⟨rfl, rfl⟩ rfl hRT0_ (Nat.zero_le _)) (dT hX7_town 61 rfl) rfl (Nat.le_of_ble_eq_true rfl) (Nat.le_of_ble_eq_true rfl) (Nat.le_of_ble_eq_true rfl) rfl (Nat.le_of_ble_eq_true rfl) (fun σ29 hq30 => ?_)
    obtain ⟨X2_, hP31, hcl_, ho32⟩ := hq30
    have hP31 : PX7 σ29 m (fP (upd (upd (upd (upd (upd F 5 (nI na)) 7 (nI nt)) 6 0) 8 0) 9 0) ((clauP (tapeH (A 1) nt) 0 tow0).1, (clauP (tapeH (A 1) nt) 0 tow0).2.1)) T (upA (upA A 1 (tow0X (A 1) na)) 1 X2_) := hP31
    rw [upA_2] at hP31
    have lp107 : ∀ (n107 : Nat) (n_ k_ : Nat) (ok_ : Bool) (p_ : Nat) (t_ : xT) (X_ : Nat → Int32) (σ2 : xS), 10 - n_ < n107 → (n_ + k_ = 10) → (lpC (tapeH (A 1) nt) k_ (ok_, p_, t_) = towP (tapeH (A 1) nt)) → (SBa na (tow0X (A 1) na) X_) → (ok_ = true → RTn X_ na t_ ∧ (t_.2.2.flatMap flR).length ≤ p_) → (p_ ≤ nt) → (PX7 σ2 m (fP (upd (upd (upd (upd (upd F 5 (nI na)) 7 (nI nt)) 6 0) 8 0) 9 0) (ok_, p_)) T (upA A 1 X_)) → (Off m σ σ2) → Ev G μ 2 0 0 107 [(0, .ref m), (1, .int (nI n_))] [] σ2 := by
      intro n107
      induction n107 with
      | zero => intro n_ k_ ok_ p_ t_ X_ σ2 hn; exact absurd hn (Nat.not_lt_zero _)
      | succ n107 ih107 =>
        intro n_ k_ ok_ p_ t_ X_ σ2 hn107 hnk_ hR_ hSB_ hrt_ hpn_ hp2 ho2
        refine e_aload_n (pc := 107) Xc (dT hX7_town 62 rfl) 0 rfl ?_
        refine gf_X7_60 (pc := 108) Xc (dT hX7_town 63 rfl) hp2.o rfl ?_
        refine e_val (y := bI (!ok_)) rfl ?_
        refine e_if_ne (tgt := 149) (pc := 111) Xc (dT hX7_town 64 rfl) rfl (fun c111 => ?_) (fun c111 => ?_)
        · skip
          have hE_ : (ok_, p_, t_) = towP (tapeH (A 1) nt) := by rw [← hR_]; exact (lpC_x (fun q => by have q1 : ok_ = true := q.1; rw [q1] at c111; exact c111 rfl) _).symm
          refine e_aload_n (pc := 149) Xc (dT hX7_town 82 rfl) 0 rfl ?_
          refine gf_X7_60 (pc := 150) Xc (dT hX7_town 83 rfl) hp2.o rfl ?_
          refine e_val (y := bI (!ok_)) rfl ?_
          refine e_if_ne (tgt := 167) (pc := 153) Xc (dT hX7_town 84 rfl) rfl (fun c153 => ?_) (fun c153 => ?_)
          · skip
            refine e_bipush (v := -10) (pc := 167) Xc (dT hX7_town 90 rfl) rfl ?_
            refine e_aload_n (pc := 169) Xc (dT hX7_town 91 rfl) 0 rfl ?_
            refine gf_X7_54 (pc := 170) Xc (dT hX7_town 92 rfl) hp2.o rfl ?_
            refine e_val (y := nI p_) rfl ?_
            refine e_isub (pc := 173) Xc (dT hX7_town 93 rfl) ?_
            refine e_iret (pc := 174) Xc hQ (dT hX7_town 94 rfl) (Nat.le_refl _) (Nat.le_refl _) ?_
            exact Or.inr ⟨hna_, X_, ⟨_, _, _, hp2, rfl, rfl, rfl, rfl, rfl⟩, ⟨((hSB_ 18 (slot_lo (by decide))).trans ((upd_n (by omega)).trans ((upd_n (by omega)).trans ((upd_n (by omega)).trans upd_s)))), fun j h1 h2 h3 h4 => (hSB_ j h1).trans (tow0_n h1 h2), Or.inr ⟨(fun q => by rw [townOk, ← hE_] at q; exact c111 (by have q1 : ok_ = true := q.1; rw [q1]; rfl)), by rw [← hE_], (hSB_ 14 (slot_lo (by decide))).trans (tow0_n (slot_lo (by decide)) (by decide)), (hSB_ 19 (slot_lo (by decide))).trans (tow0_n (slot_lo (by decide)) (by decide))⟩⟩, ho2⟩
          · skip
            exact absurd c153 c111
        · skip
          have hok_ : ok_ = true := by cases ok_; exact absurd c111 (by decide); rfl
          subst hok_
          obtain ⟨hrt1_, hrt2_⟩ := hrt_ rfl
          have hphl_ : PH X_ (fP (upd (upd (upd (upd (upd F 5 (nI na)) 7 (nI nt)) 6 0) 8 0) 9 0) (true, p_)) (tapeH (A 1) nt) nt na (t_.2.2.flatMap flR).length := ⟨hTa.1, hna_, tape_end, fun q hq => ((hSB_ _ (slot_lo (by omega))).trans (tow0_n (slot_lo (by omega)) (by omega))).trans (tape_at hq).symm, rfl, rfl, hrt1_.2.2.2.2.1⟩
          refine e_iload_n (pc := 114) Xc (dT hX7_town 65 rfl) 1 rfl ?_
          refine e_bipush (v := 10) (pc := 115) Xc (dT hX7_town 66 rfl) rfl ?_
          refine e_icmp_geN (x := n_) (y := 10) (tgt := 149) (pc := 117) Xc (dT hX7_town 67 rfl) rfl (by omega) (by omega) (fun c117 => ?_) (fun c117 => ?_)
          · skip
            have hk0_ : k_ = 0 := by omega
            subst hk0_
            have hE_ : (true, p_, t_) = towP (tapeH (A 1) nt) := hR_
            refine e_aload_n (pc := 149) Xc (dT hX7_town 82 rfl) 0 rfl ?_
            refine gf_X7_60 (pc := 150) Xc (dT hX7_town 83 rfl) hp2.o rfl ?_
            refine e_val (y := bI (!true)) rfl ?_
            refine e_if_ne (tgt := 167) (pc := 153) Xc (dT hX7_town 84 rfl) rfl (fun c153 => ?_) (fun c153 => ?_)
            · skip
              exact absurd rfl c153
            · skip
              refine e_aload_n (pc := 156) Xc (dT hX7_town 85 rfl) 0 rfl ?_
              refine gf_X7_54 (pc := 157) Xc (dT hX7_town 86 rfl) hp2.o rfl ?_
              refine e_val (y := nI p_) rfl ?_
              refine e_aload_n (pc := 160) Xc (dT hX7_town 87 rfl) 0 rfl ?_
              refine gf_X7_57 (pc := 161) Xc (dT hX7_town 88 rfl) hp2.o rfl ?_
              refine e_val (y := nI nt) rfl ?_
              refine e_icmp_eqN (x := p_) (y := nt) (tgt := 175) (pc := 164) Xc (dT hX7_town 89 rfl) rfl (by omega) (by omega) (fun c164 => ?_) (fun c164 => ?_)
              · skip
                refine e_aload_n (pc := 175) Xc (dT hX7_town 95 rfl) 0 rfl ?_
                refine gf_X7_9 (pc := 176) Xc (dT hX7_town 96 rfl) hp2.o rfl ?_
                refine e_bipush (v := 14) (pc := 179) Xc (dT hX7_town 97 rfl) rfl ?_
                refine e_dup2 (pc := 181) Xc (dT hX7_town 98 rfl) rfl rfl ?_
                refine e_ialdN (pc := 182) Xc (dT hX7_town 99 rfl) hp2.a1 (by decide) rfl 14 rfl (by omega) (by decide) ?_
                refine e_val (y := X_ 14) rfl ?_
                refine e_val (y := nI na) (((hSB_ 14 (slot_lo (by decide))).trans (tow0_n (slot_lo (by decide)) (by decide))).trans hA.2.1) ?_
                refine e_iconst (v := 1) (pc := 183) Xc (dT hX7_town 100 rfl) rfl ?_
                refine e_iaddN (a := na) (b := 1) (pc := 184) Xc (dT hX7_town 101 rfl) ?_
                refine e_iastN (pc := 185) Xc (dT hX7_town 102 rfl) hp2.a1 rfl 14 rfl (by omega) (by decide) ?_
                refine Ev.gen (fun z => PX7 z m (fP (upd (upd (upd (upd (upd F 5 (nI na)) 7 (nI nt)) 6 0) 8 0) 9 0) (true, p_)) T (upA (upA A 1 X_) 1 (upd X_ 14 (nI (na + 1))))) (hp2.wa1 (g := (upd X_ 14 (nI (na + 1))))) Off.set (fun σ33 hP34 ho35 => ?_)
                have hP34 : PX7 σ33 m (fP (upd (upd (upd (upd (upd F 5 (nI na)) 7 (nI nt)) 6 0) 8 0) 9 0) (true, p_)) T (upA A 1 (upd X_ 14 (nI (na + 1)))) := by rw [upA_2] at hP34; exact hP34
                refine e_aload_n (pc := 186) Xc (dT hX7_town 103 rfl) 0 rfl ?_
                refine gf_X7_9 (pc := 187) Xc (dT hX7_town 104 rfl) hP34.o rfl ?_
                refine e_bipush (v := 19) (pc := 190) Xc (dT hX7_town 105 rfl) rfl ?_
                refine e_aload_n (pc := 192) Xc (dT hX7_town 106 rfl) 0 rfl ?_
                refine gf_X7_81 (pc := 193) Xc (dT hX7_town 107 rfl) hP34.o rfl ?_
                refine e_val (y := nI na) rfl ?_
                refine e_iastN (pc := 196) Xc (dT hX7_town 108 rfl) hP34.a1 rfl 19 rfl (by omega) (by decide) ?_
                refine Ev.gen (fun z => PX7 z m (fP (upd (upd (upd (upd (upd F 5 (nI na)) 7 (nI nt)) 6 0) 8 0) 9 0) (true, p_)) T (upA (upA A 1 (upd X_ 14 (nI (na + 1)))) 1 (upd (upd X_ 14 (nI (na + 1))) 19 (nI na)))) (hP34.wa1 (g := (upd (upd X_ 14 (nI (na + 1))) 19 (nI na)))) Off.set (fun σ36 hP37 ho38 => ?_)
                have hP37 : PX7 σ36 m (fP (upd (upd (upd (upd (upd F 5 (nI na)) 7 (nI nt)) 6 0) 8 0) 9 0) (true, p_)) T (upA A 1 (upd (upd X_ 14 (nI (na + 1))) 19 (nI na))) := by rw [upA_2] at hP37; exact hP37
                refine e_aload_n (pc := 197) Xc (dT hX7_town 109 rfl) 0 rfl ?_
                refine gf_X7_81 (pc := 198) Xc (dT hX7_town 110 rfl) hP37.o rfl ?_
                refine e_val (y := nI na) rfl ?_
                refine e_iret (pc := 201) Xc hQ (dT hX7_town 111 rfl) (Nat.le_refl _) (Nat.le_refl _) ?_
                refine Or.inr ⟨hna_, upd (upd X_ 14 (nI (na + 1))) 19 (nI na), ⟨_, _, _, hP37, rfl, rfl, rfl, rfl, rfl⟩, ⟨?_, fun j h1 h2 h3 h4 => ?_, Or.inl ⟨?_, rfl, ?_, upd_s, ?_⟩⟩, ((ho2.tr ho35).tr ho38)⟩
                · rw [upd_n (by decide), upd_n (by decide)]; exact ((hSB_ 18 (slot_lo (by decide))).trans ((upd_n (by omega)).trans ((upd_n (by omega)).trans ((upd_n (by omega)).trans upd_s))))
                · rw [upd_n h4, upd_n h3]; exact (hSB_ j h1).trans (tow0_n h1 h2)
                · rw [townOk, ← hE_]; exact ⟨rfl, c164⟩
                · rw [upd_n (by decide), upd_s]
                · rw [← hE_]; exact hrt1_.cg (fun k hk => by rw [upd_n (by omega), upd_n (by omega)])
              · skip
                refine e_bipush (v := -10) (pc := 167) Xc (dT hX7_town 90 rfl) rfl ?_
                refine e_aload_n (pc := 169) Xc (dT hX7_town 91 rfl) 0 rfl ?_
                refine gf_X7_54 (pc := 170) Xc (dT hX7_town 92 rfl) hp2.o rfl ?_
                refine e_val (y := nI p_) rfl ?_
                refine e_isub (pc := 173) Xc (dT hX7_town 93 rfl) ?_
                refine e_iret (pc := 174) Xc hQ (dT hX7_town 94 rfl) (Nat.le_refl _) (Nat.le_refl _) ?_
                exact Or.inr ⟨hna_, X_, ⟨_, _, _, hp2, rfl, rfl, rfl, rfl, rfl⟩, ⟨((hSB_ 18 (slot_lo (by decide))).trans ((upd_n (by omega)).trans ((upd_n (by omega)).trans ((upd_n (by omega)).trans upd_s)))), fun j h1 h2 h3 h4 => (hSB_ j h1).trans (tow0_n h1 h2), Or.inr ⟨(fun q => by rw [townOk, ← hE_] at q; exact c164 q.2), by rw [← hE_], (hSB_ 14 (slot_lo (by decide))).trans (tow0_n (slot_lo (by decide)) (by decide)), (hSB_ 19 (slot_lo (by decide))).trans (tow0_n (slot_lo (by decide)) (by decide))⟩⟩, ho2⟩
          · skip
            refine e_aload_n (pc := 120) Xc (dT hX7_town 68 rfl) 0 rfl ?_
            refine cl_X7_64 (pc := 121) (k := 0) (n := 0) (S := []) Xc hp2.o (c_here hp2 hphl_ (true, p_) hpn_ ⟨rfl, rfl⟩) (dT hX7_town 69 rfl) rfl (Nat.le_of_ble_eq_true rfl) (Nat.le_of_ble_eq_true rfl) (Nat.le_of_ble_eq_true rfl) rfl (Nat.le_of_ble_eq_true rfl) (fun r39 σ40 hq41 => ?_)
            obtain ⟨r39e, r39s⟩ := hq41
            have r39e := r39e.symm; subst r39e; have r39s := r39s.symm; subst r39s
            refine e_val (y := (tapeH (A 1) nt) p_) rfl ?_
            refine e_bipush (v := 59) (pc := 124) Xc (dT hX7_town 70 rfl) rfl ?_
            refine e_icmp_ne (tgt := 149) (pc := 126) Xc (dT hX7_town 71 rfl) rfl (fun c126 => ?_) (fun c126 => ?_)
            · skip
              have hE_ : (true, p_, t_) = towP (tapeH (A 1) nt) := by rw [← hR_]; exact (lpC_x (fun q => c126 q.2) _).symm
              refine e_aload_n (pc := 149) Xc (dT hX7_town 82 rfl) 0 rfl ?_
              refine gf_X7_60 (pc := 150) Xc (dT hX7_town 83 rfl) hp2.o rfl ?_
              refine e_val (y := bI (!true)) rfl ?_
              refine e_if_ne (tgt := 167) (pc := 153) Xc (dT hX7_town 84 rfl) rfl (fun c153 => ?_) (fun c153 => ?_)
              · skip
                exact absurd rfl c153
              · skip
                refine e_aload_n (pc := 156) Xc (dT hX7_town 85 rfl) 0 rfl ?_
                refine gf_X7_54 (pc := 157) Xc (dT hX7_town 86 rfl) hp2.o rfl ?_
                refine e_val (y := nI p_) rfl ?_
                refine e_aload_n (pc := 160) Xc (dT hX7_town 87 rfl) 0 rfl ?_
                refine gf_X7_57 (pc := 161) Xc (dT hX7_town 88 rfl) hp2.o rfl ?_
                refine e_val (y := nI nt) rfl ?_
                refine e_icmp_eqN (x := p_) (y := nt) (tgt := 175) (pc := 164) Xc (dT hX7_town 89 rfl) rfl (by omega) (by omega) (fun c164 => ?_) (fun c164 => ?_)
                · skip
                  refine e_aload_n (pc := 175) Xc (dT hX7_town 95 rfl) 0 rfl ?_
                  refine gf_X7_9 (pc := 176) Xc (dT hX7_town 96 rfl) hp2.o rfl ?_
                  refine e_bipush (v := 14) (pc := 179) Xc (dT hX7_town 97 rfl) rfl ?_
                  refine e_dup2 (pc := 181) Xc (dT hX7_town 98 rfl) rfl rfl ?_
                  refine e_ialdN (pc := 182) Xc (dT hX7_town 99 rfl) hp2.a1 (by decide) rfl 14 rfl (by omega) (by decide) ?_
                  refine e_val (y := X_ 14) rfl ?_
                  refine e_val (y := nI na) (((hSB_ 14 (slot_lo (by decide))).trans (tow0_n (slot_lo (by decide)) (by decide))).trans hA.2.1) ?_
                  refine e_iconst (v := 1) (pc := 183) Xc (dT hX7_town 100 rfl) rfl ?_
                  refine e_iaddN (a := na) (b := 1) (pc := 184) Xc (dT hX7_town 101 rfl) ?_
                  refine e_iastN (pc := 185) Xc (dT hX7_town 102 rfl) hp2.a1 rfl 14 rfl (by omega) (by decide) ?_
                  refine Ev.gen (fun z => PX7 z m (fP (upd (upd (upd (upd (upd F 5 (nI na)) 7 (nI nt)) 6 0) 8 0) 9 0) (true, p_)) T (upA (upA A 1 X_) 1 (upd X_ 14 (nI (na + 1))))) (hp2.wa1 (g := (upd X_ 14 (nI (na + 1))))) Off.set (fun σ42 hP43 ho44 => ?_)
                  have hP43 : PX7 σ42 m (fP (upd (upd (upd (upd (upd F 5 (nI na)) 7 (nI nt)) 6 0) 8 0) 9 0) (true, p_)) T (upA A 1 (upd X_ 14 (nI (na + 1)))) := by rw [upA_2] at hP43; exact hP43
                  refine e_aload_n (pc := 186) Xc (dT hX7_town 103 rfl) 0 rfl ?_
                  refine gf_X7_9 (pc := 187) Xc (dT hX7_town 104 rfl) hP43.o rfl ?_
                  refine e_bipush (v := 19) (pc := 190) Xc (dT hX7_town 105 rfl) rfl ?_
                  refine e_aload_n (pc := 192) Xc (dT hX7_town 106 rfl) 0 rfl ?_
                  refine gf_X7_81 (pc := 193) Xc (dT hX7_town 107 rfl) hP43.o rfl ?_
                  refine e_val (y := nI na) rfl ?_
                  refine e_iastN (pc := 196) Xc (dT hX7_town 108 rfl) hP43.a1 rfl 19 rfl (by omega) (by decide) ?_
                  refine Ev.gen (fun z => PX7 z m (fP (upd (upd (upd (upd (upd F 5 (nI na)) 7 (nI nt)) 6 0) 8 0) 9 0) (true, p_)) T (upA (upA A 1 (upd X_ 14 (nI (na + 1)))) 1 (upd (upd X_ 14 (nI (na + 1))) 19 (nI na)))) (hP43.wa1 (g := (upd (upd X_ 14 (nI (na + 1))) 19 (nI na)))) Off.set (fun σ45 hP46 ho47 => ?_)
                  have hP46 : PX7 σ45 m (fP (upd (upd (upd (upd (upd F 5 (nI na)) 7 (nI nt)) 6 0) 8 0) 9 0) (true, p_)) T (upA A 1 (upd (upd X_ 14 (nI (na + 1))) 19 (nI na))) := by rw [upA_2] at hP46; exact hP46
                  refine e_aload_n (pc := 197) Xc (dT hX7_town 109 rfl) 0 rfl ?_
                  refine gf_X7_81 (pc := 198) Xc (dT hX7_town 110 rfl) hP46.o rfl ?_
                  refine e_val (y := nI na) rfl ?_
                  refine e_iret (pc := 201) Xc hQ (dT hX7_town 111 rfl) (Nat.le_refl _) (Nat.le_refl _) ?_
                  refine Or.inr ⟨hna_, upd (upd X_ 14 (nI (na + 1))) 19 (nI na), ⟨_, _, _, hP46, rfl, rfl, rfl, rfl, rfl⟩, ⟨?_, fun j h1 h2 h3 h4 => ?_, Or.inl ⟨?_, rfl, ?_, upd_s, ?_⟩⟩, ((ho2.tr ho44).tr ho47)⟩
                  · rw [upd_n (by decide), upd_n (by decide)]; exact ((hSB_ 18 (slot_lo (by decide))).trans ((upd_n (by omega)).trans ((upd_n (by omega)).trans ((upd_n (by omega)).trans upd_s))))
                  · rw [upd_n h4, upd_n h3]; exact (hSB_ j h1).trans (tow0_n h1 h2)
                  · rw [townOk, ← hE_]; exact ⟨rfl, c164⟩
                  · rw [upd_n (by decide), upd_s]
                  · rw [← hE_]; exact hrt1_.cg (fun k hk => by rw [upd_n (by omega), upd_n (by omega)])
                · skip
                  refine e_bipush (v := -10) (pc := 167) Xc (dT hX7_town 90 rfl) rfl ?_
                  refine e_aload_n (pc := 169) Xc (dT hX7_town 91 rfl) 0 rfl ?_
                  refine gf_X7_54 (pc := 170) Xc (dT hX7_town 92 rfl) hp2.o rfl ?_
                  refine e_val (y := nI p_) rfl ?_
                  refine e_isub (pc := 173) Xc (dT hX7_town 93 rfl) ?_
                  refine e_iret (pc := 174) Xc hQ (dT hX7_town 94 rfl) (Nat.le_refl _) (Nat.le_refl _) ?_
                  exact Or.inr ⟨hna_, X_, ⟨_, _, _, hp2, rfl, rfl, rfl, rfl, rfl⟩, ⟨((hSB_ 18 (slot_lo (by decide))).trans ((upd_n (by omega)).trans ((upd_n (by omega)).trans ((upd_n (by omega)).trans upd_s)))), fun j h1 h2 h3 h4 => (hSB_ j h1).trans (tow0_n h1 h2), Or.inr ⟨(fun q => by rw [townOk, ← hE_] at q; exact c164 q.2), by rw [← hE_], (hSB_ 14 (slot_lo (by decide))).trans (tow0_n (slot_lo (by decide)) (by decide)), (hSB_ 19 (slot_lo (by decide))).trans (tow0_n (slot_lo (by decide)) (by decide))⟩⟩, ho2⟩
            · skip
              have hlt_ := tape_end.lt c126 (by decide)
              obtain ⟨k_, rfl⟩ : ∃ k, k_ = k + 1 := ⟨k_ - 1, by omega⟩
              refine e_aload_n (pc := 129) Xc (dT hX7_town 72 rfl) 0 rfl ?_
              refine e_dup (pc := 130) Xc (dT hX7_town 73 rfl) rfl ?_
              refine gf_X7_54 (pc := 131) Xc (dT hX7_town 74 rfl) hp2.o rfl ?_
              refine e_val (y := nI p_) rfl ?_
              refine e_iconst (v := 1) (pc := 134) Xc (dT hX7_town 75 rfl) rfl ?_
              refine e_iaddN (a := p_) (b := 1) (pc := 135) Xc (dT hX7_town 76 rfl) ?_
              refine pf_X7_54 (fs' := olX7 m (upd (fP (upd (upd (upd (upd (upd F 5 (nI na)) 7 (nI nt)) 6 0) 8 0) 9 0) (true, p_)) 6 (nI (p_ + 1))) T) (pc := 136) Xc (dT hX7_town 77 rfl) hp2.o (Nat.le_of_ble_eq_true rfl) rfl ?_
              refine Ev.gen (fun z => PX7 z m (upd (fP (upd (upd (upd (upd (upd F 5 (nI na)) 7 (nI nt)) 6 0) 8 0) 9 0) (true, p_)) 6 (nI (p_ + 1))) T (upA A 1 X_)) (hp2.wf6 (x := nI (p_ + 1))) Off.set (fun σ48 hP49 ho50 => ?_)
              refine e_aload_n (pc := 139) Xc (dT hX7_town 78 rfl) 0 rfl ?_
              refine cl_X7_129 (pc := 140) (k := 0) (n := 0) (S := []) Xc hP49.o (c_clauseHere hP49 (t := t_) ⟨hphl_.1, hphl_.2.1, hphl_.2.2.1, hphl_.2.2.2.1, rfl, rfl, hphl_.2.2.2.2.2.2⟩ (p_ + 1) (by omega) ⟨rfl, rfl⟩ rfl hrt1_ (by omega)) (dT hX7_town 79 rfl) rfl (Nat.le_of_ble_eq_true rfl) (Nat.le_of_ble_eq_true rfl) (Nat.le_of_ble_eq_true rfl) rfl (Nat.le_of_ble_eq_true rfl) (fun σ52 hq53 => ?_)
              obtain ⟨X3_, hP54, hcl_, ho55⟩ := hq53
              have hP54 : PX7 σ52 m (fP (upd (fP (upd (upd (upd (upd (upd F 5 (nI na)) 7 (nI nt)) 6 0) 8 0) 9 0) (true, p_)) 6 (nI (p_ + 1))) ((clauP (tapeH (A 1) nt) (p_ + 1) t_).1, (clauP (tapeH (A 1) nt) (p_ + 1) t_).2.1)) T (upA (upA A 1 X_) 1 X3_) := hP54
              rw [upA_2, show fP (upd (fP (upd (upd (upd (upd (upd F 5 (nI na)) 7 (nI nt)) 6 0) 8 0) 9 0) (true, p_)) 6 (nI (p_ + 1))) ((clauP (tapeH (A 1) nt) (p_ + 1) t_).1, (clauP (tapeH (A 1) nt) (p_ + 1) t_).2.1) = (fP (upd (upd (upd (upd (upd F 5 (nI na)) 7 (nI nt)) 6 0) 8 0) 9 0) ((clauP (tapeH (A 1) nt) (p_ + 1) t_).1, (clauP (tapeH (A 1) nt) (p_ + 1) t_).2.1)) from F_ext rfl rfl rfl (fun j q6 q8 q9 => by simp only [fP, upd, if_neg q6, if_neg q8, if_neg q9])] at hP54
              refine e_iincN (a := n_) (b := 1) (L' := [(1, .int (nI (n_ + 1))), (0, .ref m)]) (pc := 143) Xc (dT hX7_town 80 rfl) 1 rfl rfl (by decide) rfl ?_
              refine e_goto (tgt := 107) (pc := 146) Xc (dT hX7_town 81 rfl) rfl ?_
              refine Ev.pick (L' := [(0, .ref m), (1, .int (nI (n_ + 1)))]) [1, 0] rfl ?_
              exact ih107 (n_ + 1) k_ ((clauP (tapeH (A 1) nt) (p_ + 1) t_).1) ((clauP (tapeH (A 1) nt) (p_ + 1) t_).2.1) ((clauP (tapeH (A 1) nt) (p_ + 1) t_).2.2) X3_ σ52 (by omega) (by omega) ((lpC_s c126).symm.trans hR_) (hSB_.tr hcl_.1) hcl_.2.1 hcl_.2.2.2 hP54 ((ho2.tr ho50).tr ho55)
    refine Ev.pick (L' := [(0, .ref m), (1, .int 1)]) [1, 0] rfl ?_
    exact lp107 ((10 - 1) + 1) 1 9 ((clauP (tapeH (A 1) nt) 0 tow0).1) ((clauP (tapeH (A 1) nt) 0 tow0).2.1) ((clauP (tapeH (A 1) nt) 0 tow0).2.2) X2_ σ29 (Nat.lt_succ_self _) rfl rfl hcl_.1 hcl_.2.1 hcl_.2.2.2 hP31 (((((((((ho3.tr ho6).tr ho9).tr ho12).tr ho15).tr ho18).tr ho21).tr ho24).tr ho27).tr ho32)
  · skip
    refine e_bipush (v := -4) (pc := 11) Xc (dT hX7_town 6 rfl) rfl ?_
    refine e_iret (pc := 13) Xc hQ (dT hX7_town 7 rfl) (Nat.le_refl _) (Nat.le_refl _) ?_
    exact Or.inl ⟨c8, rfl, ⟨_, _, _, hP, rfl, rfl, rfl, rfl, rfl⟩, Off.rf⟩
