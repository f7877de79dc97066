set_option maxRecDepth 100000 in
set_option maxHeartbeats 4000000 in
theorem c0_rd0 {G : xG} {σ : xS} {ac k : Nat} {u w : Int32} {s : actS} (hAX : AX σ ac k u w s) (hSA : PSA G σ) (hna : gA G ≠ ac) (hno : gO G ≠ ac) (hk6 : k ≤ 6) (hs : s.1 ≤ 19) (x : Int32) (dd : Nat) (hdd : dd ≤ 20) : CI G yX0_run cX0_run 7 (some .int) 2 0 0 [.ref ac, .int 0, .int 0, .int x, .int (nI dd)] σ (fun z σ1 => z = (plR u s x).1 ∧ AX σ1 ac k u w (plR u s x).2 ∧ Off ac σ σ1) := by
  refine Met.ofX (by decide +kernel) (Nat.le_of_ble_eq_true rfl) (fun μ Xc hQ hnm => ?_)
  have Xc : xC G μ cX0_run 7 RX0 (some .int) 2 0 0 := Xc
  obtain ⟨F, T, A, hP, hF1, hF2, hF3, hF4, hA⟩ := id hAX
  show Ev G μ 7 0 0 0 [(0, .ref ac), (1, .int 0), (2, .int 0), (3, .int x), (4, .int (nI dd))] [] σ
  refine e_iload (pc := 0) Xc (dT hX0_run 0 rfl) 4 rfl ?_
  refine e_bipush (v := 20) (pc := 2) Xc (dT hX0_run 1 rfl) rfl ?_
  refine e_icmp_leN (x := dd) (y := 20) (tgt := 9) (pc := 4) Xc (dT hX0_run 2 rfl) rfl (by omega) (by omega) (fun c4 => ?_) (fun c4 => ?_)
  · skip
    refine e_iload (pc := 9) Xc (dT hX0_run 5 rfl) 4 rfl ?_
    refine e_iconst (v := 1) (pc := 11) Xc (dT hX0_run 6 rfl) rfl ?_
    refine e_iaddN (a := dd) (b := 1) (pc := 12) Xc (dT hX0_run 7 rfl) ?_
    refine e_istore (L' := [(5, .int (nI (dd + 1))), (0, .ref ac), (1, .int 0), (2, .int 0), (3, .int x), (4, .int (nI dd))]) (pc := 13) Xc (dT hX0_run 8 rfl) (by decide) rfl ?_
    refine e_iload_n (pc := 15) Xc (dT hX0_run 9 rfl) 2 rfl ?_
    refine e_iload_n (pc := 16) Xc (dT hX0_run 10 rfl) 3 rfl ?_
    refine cl_X0_32 (pc := 17) (k := 0) (n := 0) (S := []) Xc (c0_b00 hSA) (dT hX0_run 11 rfl) rfl (Nat.le_of_ble_eq_true rfl) (Nat.le_of_ble_eq_true rfl) (Nat.le_of_ble_eq_true rfl) rfl (Nat.le_of_ble_eq_true rfl) (fun r1 σ2 hq3 => ?_)
    obtain ⟨r1e, r1s⟩ := hq3
    have r1e := r1e.symm; subst r1e; have r1s := r1s.symm; subst r1s
    refine e_istore (L' := [(6, .int 1), (5, .int (nI (dd + 1))), (0, .ref ac), (1, .int 0), (2, .int 0), (3, .int x), (4, .int (nI dd))]) (pc := 20) Xc (dT hX0_run 12 rfl) (by decide) rfl ?_
    refine e_aload_n (pc := 22) Xc (dT hX0_run 13 rfl) 2 rfl ?_
    refine gf_X0_9 (pc := 23) Xc (dT hX0_run 14 rfl) hP.o rfl ?_
    refine e_aload_n (pc := 26) Xc (dT hX0_run 15 rfl) 2 rfl ?_
    refine gf_X0_15 (pc := 27) Xc (dT hX0_run 16 rfl) hP.o rfl ?_
    refine e_val (y := nI s.1) hF1 ?_
    refine e_iload (pc := 30) Xc (dT hX0_run 17 rfl) 0 rfl ?_
    refine cl_X0_36 (pc := 32) (k := 0) (n := 0) (S := []) Xc (c_put hP.a1 (by decide) s.1 (by omega) 1) (dT hX0_run 18 rfl) rfl (Nat.le_of_ble_eq_true rfl) (Nat.le_of_ble_eq_true rfl) (Nat.le_of_ble_eq_true rfl) rfl (Nat.le_of_ble_eq_true rfl) (fun σ5 hq6 => ?_)
    subst hq6
    refine Ev.gen (fun z => PX0 z ac F T (upA A 1 (upd (A 1) s.1 1))) (hP.wa1 (g := (upd (A 1) s.1 1))) Off.set (fun σ7 hP8 ho9 => ?_)
    refine e_aload_n (pc := 35) Xc (dT hX0_run 19 rfl) 2 rfl ?_
    refine e_dup (pc := 36) Xc (dT hX0_run 20 rfl) rfl ?_
    refine gf_X0_15 (pc := 37) Xc (dT hX0_run 21 rfl) hP8.o rfl ?_
    refine e_val (y := nI s.1) hF1 ?_
    refine e_iconst (v := 1) (pc := 40) Xc (dT hX0_run 22 rfl) rfl ?_
    refine e_iaddN (a := s.1) (b := 1) (pc := 41) Xc (dT hX0_run 23 rfl) ?_
    refine pf_X0_15 (fs' := olX0 ac (upd F 1 (nI (s.1 + 1))) T) (pc := 42) Xc (dT hX0_run 24 rfl) hP8.o (Nat.le_of_ble_eq_true rfl) rfl ?_
    refine Ev.gen (fun z => PX0 z ac (upd F 1 (nI (s.1 + 1))) T (upA A 1 (upd (A 1) s.1 1))) (hP8.wf1 (x := nI (s.1 + 1))) Off.set (fun σ10 hP11 ho12 => ?_)
    have hAX13 : AX σ10 ac k u w (rbS s 1) := AX.body 1 hP11 (by omega) hF2 hF3 hF4 hA
    have hr_ : (rbS s 1).1 = s.1 + 1 := rfl
    refine e_iload (pc := 45) Xc (dT hX0_run 25 rfl) 0 rfl ?_
    refine e_lookup (x := 1) (off := 197) (tgt := 244) (pc := 47) Xc (dT hX0_run 26 rfl) (by decide) (by decide) rfl ?_
    refine e_iload_n (pc := 244) Xc (dT hX0_run 111 rfl) 5 rfl ?_
    refine e_aload_n (pc := 245) Xc (dT hX0_run 112 rfl) 2 rfl ?_
    refine gf_X0_19 (pc := 246) Xc (dT hX0_run 113 rfl) hP11.o rfl ?_
    refine e_val (y := F 2) rfl ?_
    refine e_val (y := u) hF2 ?_
    refine e_iadd (pc := 249) Xc (dT hX0_run 114 rfl) ?_
    refine e_iret (pc := 250) Xc hQ (dT hX0_run 115 rfl) (Nat.le_refl _) (Nat.le_refl _) ?_
    exact ⟨rfl, hAX13, (ho9.tr ho12)⟩
  · skip
    exact absurd c4 (by omega)
set_option maxRecDepth 100000 in
set_option maxHeartbeats 4000000 in
theorem c0_rd2 {G : xG} {σ : xS} {ac k : Nat} {u w : Int32} {s : actS} (hAX : AX σ ac k u w s) (hSA : PSA G σ) (hna : gA G ≠ ac) (hno : gO G ≠ ac) (hk6 : k ≤ 6) (hs : s.1 ≤ 19) (x : Int32) (dd : Nat) (hdd : dd ≤ 20) : CI G yX0_run cX0_run 7 (some .int) 2 0 0 [.ref ac, .int 0, .int 2, .int x, .int (nI dd)] σ (fun z σ1 => z = (plR u s x).1 ∧ AX σ1 ac k u w (plR u s x).2 ∧ Off ac σ σ1) := by
  refine Met.ofX (by decide +kernel) (Nat.le_of_ble_eq_true rfl) (fun μ Xc hQ hnm => ?_)
  have Xc : xC G μ cX0_run 7 RX0 (some .int) 2 0 0 := Xc
  obtain ⟨F, T, A, hP, hF1, hF2, hF3, hF4, hA⟩ := id hAX
  show Ev G μ 7 0 0 0 [(0, .ref ac), (1, .int 0), (2, .int 2), (3, .int x), (4, .int (nI dd))] [] σ
  refine e_iload (pc := 0) Xc (dT hX0_run 0 rfl) 4 rfl ?_
  refine e_bipush (v := 20) (pc := 2) Xc (dT hX0_run 1 rfl) rfl ?_
  refine e_icmp_leN (x := dd) (y := 20) (tgt := 9) (pc := 4) Xc (dT hX0_run 2 rfl) rfl (by omega) (by omega) (fun c4 => ?_) (fun c4 => ?_)
  · skip
    refine e_iload (pc := 9) Xc (dT hX0_run 5 rfl) 4 rfl ?_
    refine e_iconst (v := 1) (pc := 11) Xc (dT hX0_run 6 rfl) rfl ?_
    refine e_iaddN (a := dd) (b := 1) (pc := 12) Xc (dT hX0_run 7 rfl) ?_
    refine e_istore (L' := [(5, .int (nI (dd + 1))), (0, .ref ac), (1, .int 0), (2, .int 2), (3, .int x), (4, .int (nI dd))]) (pc := 13) Xc (dT hX0_run 8 rfl) (by decide) rfl ?_
    refine e_iload_n (pc := 15) Xc (dT hX0_run 9 rfl) 2 rfl ?_
    refine e_iload_n (pc := 16) Xc (dT hX0_run 10 rfl) 3 rfl ?_
    refine cl_X0_32 (pc := 17) (k := 0) (n := 0) (S := []) Xc (c0_b02 hSA) (dT hX0_run 11 rfl) rfl (Nat.le_of_ble_eq_true rfl) (Nat.le_of_ble_eq_true rfl) (Nat.le_of_ble_eq_true rfl) rfl (Nat.le_of_ble_eq_true rfl) (fun r1 σ2 hq3 => ?_)
    obtain ⟨r1e, r1s⟩ := hq3
    have r1e := r1e.symm; subst r1e; have r1s := r1s.symm; subst r1s
    refine e_istore (L' := [(6, .int 1), (5, .int (nI (dd + 1))), (0, .ref ac), (1, .int 0), (2, .int 2), (3, .int x), (4, .int (nI dd))]) (pc := 20) Xc (dT hX0_run 12 rfl) (by decide) rfl ?_
    refine e_aload_n (pc := 22) Xc (dT hX0_run 13 rfl) 2 rfl ?_
    refine gf_X0_9 (pc := 23) Xc (dT hX0_run 14 rfl) hP.o rfl ?_
    refine e_aload_n (pc := 26) Xc (dT hX0_run 15 rfl) 2 rfl ?_
    refine gf_X0_15 (pc := 27) Xc (dT hX0_run 16 rfl) hP.o rfl ?_
    refine e_val (y := nI s.1) hF1 ?_
    refine e_iload (pc := 30) Xc (dT hX0_run 17 rfl) 0 rfl ?_
    refine cl_X0_36 (pc := 32) (k := 0) (n := 0) (S := []) Xc (c_put hP.a1 (by decide) s.1 (by omega) 1) (dT hX0_run 18 rfl) rfl (Nat.le_of_ble_eq_true rfl) (Nat.le_of_ble_eq_true rfl) (Nat.le_of_ble_eq_true rfl) rfl (Nat.le_of_ble_eq_true rfl) (fun σ5 hq6 => ?_)
    subst hq6
    refine Ev.gen (fun z => PX0 z ac F T (upA A 1 (upd (A 1) s.1 1))) (hP.wa1 (g := (upd (A 1) s.1 1))) Off.set (fun σ7 hP8 ho9 => ?_)
    refine e_aload_n (pc := 35) Xc (dT hX0_run 19 rfl) 2 rfl ?_
    refine e_dup (pc := 36) Xc (dT hX0_run 20 rfl) rfl ?_
    refine gf_X0_15 (pc := 37) Xc (dT hX0_run 21 rfl) hP8.o rfl ?_
    refine e_val (y := nI s.1) hF1 ?_
    refine e_iconst (v := 1) (pc := 40) Xc (dT hX0_run 22 rfl) rfl ?_
    refine e_iaddN (a := s.1) (b := 1) (pc := 41) Xc (dT hX0_run 23 rfl) ?_
    refine pf_X0_15 (fs' := olX0 ac (upd F 1 (nI (s.1 + 1))) T) (pc := 42) Xc (dT hX0_run 24 rfl) hP8.o (Nat.le_of_ble_eq_true rfl) rfl ?_
    refine Ev.gen (fun z => PX0 z ac (upd F 1 (nI (s.1 + 1))) T (upA A 1 (upd (A 1) s.1 1))) (hP8.wf1 (x := nI (s.1 + 1))) Off.set (fun σ10 hP11 ho12 => ?_)
    have hAX13 : AX σ10 ac k u w (rbS s 1) := AX.body 1 hP11 (by omega) hF2 hF3 hF4 hA
    have hr_ : (rbS s 1).1 = s.1 + 1 := rfl
    refine e_iload (pc := 45) Xc (dT hX0_run 25 rfl) 0 rfl ?_
    refine e_lookup (x := 1) (off := 197) (tgt := 244) (pc := 47) Xc (dT hX0_run 26 rfl) (by decide) (by decide) rfl ?_
    refine e_iload_n (pc := 244) Xc (dT hX0_run 111 rfl) 5 rfl ?_
    refine e_aload_n (pc := 245) Xc (dT hX0_run 112 rfl) 2 rfl ?_
    refine gf_X0_19 (pc := 246) Xc (dT hX0_run 113 rfl) hP11.o rfl ?_
    refine e_val (y := F 2) rfl ?_
    refine e_val (y := u) hF2 ?_
    refine e_iadd (pc := 249) Xc (dT hX0_run 114 rfl) ?_
    refine e_iret (pc := 250) Xc hQ (dT hX0_run 115 rfl) (Nat.le_refl _) (Nat.le_refl _) ?_
    exact ⟨rfl, hAX13, (ho9.tr ho12)⟩
  · skip
    exact absurd c4 (by omega)
set_option maxRecDepth 100000 in
set_option maxHeartbeats 4000000 in
theorem c0_rdk0 {G : xG} {σ : xS} {ac : Nat} {u w : Int32} {s : actS} (hAX : AX σ ac 0 u w s) (hSA : PSA G σ) (hna : gA G ≠ ac) (hno : gO G ≠ ac) (hs : s.1 ≤ 18) (x : Int32) (dd : Nat) (hdd : dd ≤ 19) : CI G yX0_run cX0_run 7 (some .int) 3 0 0 [.ref ac, .int 0, .int 0, .int x, .int (nI dd)] σ (fun z σ1 => z = (rdA (nI 0) u s x).1 ∧ AX σ1 ac 0 u w (rdA (nI 0) u s x).2 ∧ Off ac σ σ1) := by
  refine Met.ofX (by decide +kernel) (Nat.le_of_ble_eq_true rfl) (fun μ Xc hQ hnm => ?_)
  have Xc : xC G μ cX0_run 7 RX0 (some .int) 3 0 0 := Xc
  obtain ⟨F, T, A, hP, hF1, hF2, hF3, hF4, hA⟩ := id hAX
  show Ev G μ 7 0 0 0 [(0, .ref ac), (1, .int 0), (2, .int 0), (3, .int x), (4, .int (nI dd))] [] σ
  refine e_iload (pc := 0) Xc (dT hX0_run 0 rfl) 4 rfl ?_
  refine e_bipush (v := 20) (pc := 2) Xc (dT hX0_run 1 rfl) rfl ?_
  refine e_icmp_leN (x := dd) (y := 20) (tgt := 9) (pc := 4) Xc (dT hX0_run 2 rfl) rfl (by omega) (by omega) (fun c4 => ?_) (fun c4 => ?_)
  · skip
    refine e_iload (pc := 9) Xc (dT hX0_run 5 rfl) 4 rfl ?_
    refine e_iconst (v := 1) (pc := 11) Xc (dT hX0_run 6 rfl) rfl ?_
    refine e_iaddN (a := dd) (b := 1) (pc := 12) Xc (dT hX0_run 7 rfl) ?_
    refine e_istore (L' := [(5, .int (nI (dd + 1))), (0, .ref ac), (1, .int 0), (2, .int 0), (3, .int x), (4, .int (nI dd))]) (pc := 13) Xc (dT hX0_run 8 rfl) (by decide) rfl ?_
    refine e_iload_n (pc := 15) Xc (dT hX0_run 9 rfl) 2 rfl ?_
    refine e_iload_n (pc := 16) Xc (dT hX0_run 10 rfl) 3 rfl ?_
    refine cl_X0_32 (pc := 17) (k := 0) (n := 0) (S := []) Xc (c0_b00 hSA) (dT hX0_run 11 rfl) rfl (Nat.le_of_ble_eq_true rfl) (Nat.le_of_ble_eq_true rfl) (Nat.le_of_ble_eq_true rfl) rfl (Nat.le_of_ble_eq_true rfl) (fun r1 σ2 hq3 => ?_)
    obtain ⟨r1e, r1s⟩ := hq3
    have r1e := r1e.symm; subst r1e; have r1s := r1s.symm; subst r1s
    refine e_istore (L' := [(6, .int 1), (5, .int (nI (dd + 1))), (0, .ref ac), (1, .int 0), (2, .int 0), (3, .int x), (4, .int (nI dd))]) (pc := 20) Xc (dT hX0_run 12 rfl) (by decide) rfl ?_
    refine e_aload_n (pc := 22) Xc (dT hX0_run 13 rfl) 2 rfl ?_
    refine gf_X0_9 (pc := 23) Xc (dT hX0_run 14 rfl) hP.o rfl ?_
    refine e_aload_n (pc := 26) Xc (dT hX0_run 15 rfl) 2 rfl ?_
    refine gf_X0_15 (pc := 27) Xc (dT hX0_run 16 rfl) hP.o rfl ?_
    refine e_val (y := nI s.1) hF1 ?_
    refine e_iload (pc := 30) Xc (dT hX0_run 17 rfl) 0 rfl ?_
    refine cl_X0_36 (pc := 32) (k := 0) (n := 0) (S := []) Xc (c_put hP.a1 (by decide) s.1 (by omega) 1) (dT hX0_run 18 rfl) rfl (Nat.le_of_ble_eq_true rfl) (Nat.le_of_ble_eq_true rfl) (Nat.le_of_ble_eq_true rfl) rfl (Nat.le_of_ble_eq_true rfl) (fun σ5 hq6 => ?_)
    subst hq6
    refine Ev.gen (fun z => PX0 z ac F T (upA A 1 (upd (A 1) s.1 1))) (hP.wa1 (g := (upd (A 1) s.1 1))) Off.set (fun σ7 hP8 ho9 => ?_)
    refine e_aload_n (pc := 35) Xc (dT hX0_run 19 rfl) 2 rfl ?_
    refine e_dup (pc := 36) Xc (dT hX0_run 20 rfl) rfl ?_
    refine gf_X0_15 (pc := 37) Xc (dT hX0_run 21 rfl) hP8.o rfl ?_
    refine e_val (y := nI s.1) hF1 ?_
    refine e_iconst (v := 1) (pc := 40) Xc (dT hX0_run 22 rfl) rfl ?_
    refine e_iaddN (a := s.1) (b := 1) (pc := 41) Xc (dT hX0_run 23 rfl) ?_
    refine pf_X0_15 (fs' := olX0 ac (upd F 1 (nI (s.1 + 1))) T) (pc := 42) Xc (dT hX0_run 24 rfl) hP8.o (Nat.le_of_ble_eq_true rfl) rfl ?_
    refine Ev.gen (fun z => PX0 z ac (upd F 1 (nI (s.1 + 1))) T (upA A 1 (upd (A 1) s.1 1))) (hP8.wf1 (x := nI (s.1 + 1))) Off.set (fun σ10 hP11 ho12 => ?_)
    have hAX13 : AX σ10 ac 0 u w (rbS s 1) := AX.body 1 hP11 (by omega) hF2 hF3 hF4 hA
    have hr_ : (rbS s 1).1 = s.1 + 1 := rfl
    refine e_iload (pc := 45) Xc (dT hX0_run 25 rfl) 0 rfl ?_
    refine e_lookup (x := 1) (off := 197) (tgt := 244) (pc := 47) Xc (dT hX0_run 26 rfl) (by decide) (by decide) rfl ?_
    refine e_iload_n (pc := 244) Xc (dT hX0_run 111 rfl) 5 rfl ?_
    refine e_aload_n (pc := 245) Xc (dT hX0_run 112 rfl) 2 rfl ?_
    refine gf_X0_19 (pc := 246) Xc (dT hX0_run 113 rfl) hP11.o rfl ?_
    refine e_val (y := F 2) rfl ?_
    refine e_val (y := u) hF2 ?_
    refine e_iadd (pc := 249) Xc (dT hX0_run 114 rfl) ?_
    refine e_iret (pc := 250) Xc hQ (dT hX0_run 115 rfl) (Nat.le_refl _) (Nat.le_refl _) ?_
    rw [rdA_k0]
    exact ⟨rfl, hAX13, (ho9.tr ho12)⟩
  · skip
    exact absurd c4 (by omega)
set_option maxRecDepth 100000 in
set_option maxHeartbeats 4000000 in
theorem c0_rdk1 {G : xG} {σ : xS} {ac : Nat} {u w : Int32} {s : actS} (hAX : AX σ ac 1 u w s) (hSA : PSA G σ) (hna : gA G ≠ ac) (hno : gO G ≠ ac) (hs : s.1 ≤ 18) (x : Int32) (dd : Nat) (hdd : dd ≤ 19) : CI G yX0_run cX0_run 7 (some .int) 3 0 0 [.ref ac, .int 0, .int 1, .int x, .int (nI dd)] σ (fun z σ1 => z = (rdA (nI 1) u s x).1 ∧ AX σ1 ac 1 u w (rdA (nI 1) u s x).2 ∧ Off ac σ σ1) := by
  refine Met.ofX (by decide +kernel) (Nat.le_of_ble_eq_true rfl) (fun μ Xc hQ hnm => ?_)
  have Xc : xC G μ cX0_run 7 RX0 (some .int) 3 0 0 := Xc
  obtain ⟨F, T, A, hP, hF1, hF2, hF3, hF4, hA⟩ := id hAX
  show Ev G μ 7 0 0 0 [(0, .ref ac), (1, .int 0), (2, .int 1), (3, .int x), (4, .int (nI dd))] [] σ
  refine e_iload (pc := 0) Xc (dT hX0_run 0 rfl) 4 rfl ?_
  refine e_bipush (v := 20) (pc := 2) Xc (dT hX0_run 1 rfl) rfl ?_
  refine e_icmp_leN (x := dd) (y := 20) (tgt := 9) (pc := 4) Xc (dT hX0_run 2 rfl) rfl (by omega) (by omega) (fun c4 => ?_) (fun c4 => ?_)
  · skip
    refine e_iload (pc := 9) Xc (dT hX0_run 5 rfl) 4 rfl ?_
    refine e_iconst (v := 1) (pc := 11) Xc (dT hX0_run 6 rfl) rfl ?_
    refine e_iaddN (a := dd) (b := 1) (pc := 12) Xc (dT hX0_run 7 rfl) ?_
    refine e_istore (L' := [(5, .int (nI (dd + 1))), (0, .ref ac), (1, .int 0), (2, .int 1), (3, .int x), (4, .int (nI dd))]) (pc := 13) Xc (dT hX0_run 8 rfl) (by decide) rfl ?_
    refine e_iload_n (pc := 15) Xc (dT hX0_run 9 rfl) 2 rfl ?_
    refine e_iload_n (pc := 16) Xc (dT hX0_run 10 rfl) 3 rfl ?_
    refine cl_X0_32 (pc := 17) (k := 0) (n := 0) (S := []) Xc (c0_b01 hSA) (dT hX0_run 11 rfl) rfl (Nat.le_of_ble_eq_true rfl) (Nat.le_of_ble_eq_true rfl) (Nat.le_of_ble_eq_true rfl) rfl (Nat.le_of_ble_eq_true rfl) (fun r1 σ2 hq3 => ?_)
    obtain ⟨r1e, r1s⟩ := hq3
    have r1e := r1e.symm; subst r1e; have r1s := r1s.symm; subst r1s
    refine e_istore (L' := [(6, .int 11), (5, .int (nI (dd + 1))), (0, .ref ac), (1, .int 0), (2, .int 1), (3, .int x), (4, .int (nI dd))]) (pc := 20) Xc (dT hX0_run 12 rfl) (by decide) rfl ?_
    refine e_aload_n (pc := 22) Xc (dT hX0_run 13 rfl) 2 rfl ?_
    refine gf_X0_9 (pc := 23) Xc (dT hX0_run 14 rfl) hP.o rfl ?_
    refine e_aload_n (pc := 26) Xc (dT hX0_run 15 rfl) 2 rfl ?_
    refine gf_X0_15 (pc := 27) Xc (dT hX0_run 16 rfl) hP.o rfl ?_
    refine e_val (y := nI s.1) hF1 ?_
    refine e_iload (pc := 30) Xc (dT hX0_run 17 rfl) 0 rfl ?_
    refine cl_X0_36 (pc := 32) (k := 0) (n := 0) (S := []) Xc (c_put hP.a1 (by decide) s.1 (by omega) 11) (dT hX0_run 18 rfl) rfl (Nat.le_of_ble_eq_true rfl) (Nat.le_of_ble_eq_true rfl) (Nat.le_of_ble_eq_true rfl) rfl (Nat.le_of_ble_eq_true rfl) (fun σ5 hq6 => ?_)
    subst hq6
    refine Ev.gen (fun z => PX0 z ac F T (upA A 1 (upd (A 1) s.1 11))) (hP.wa1 (g := (upd (A 1) s.1 11))) Off.set (fun σ7 hP8 ho9 => ?_)
    refine e_aload_n (pc := 35) Xc (dT hX0_run 19 rfl) 2 rfl ?_
    refine e_dup (pc := 36) Xc (dT hX0_run 20 rfl) rfl ?_
    refine gf_X0_15 (pc := 37) Xc (dT hX0_run 21 rfl) hP8.o rfl ?_
    refine e_val (y := nI s.1) hF1 ?_
    refine e_iconst (v := 1) (pc := 40) Xc (dT hX0_run 22 rfl) rfl ?_
    refine e_iaddN (a := s.1) (b := 1) (pc := 41) Xc (dT hX0_run 23 rfl) ?_
    refine pf_X0_15 (fs' := olX0 ac (upd F 1 (nI (s.1 + 1))) T) (pc := 42) Xc (dT hX0_run 24 rfl) hP8.o (Nat.le_of_ble_eq_true rfl) rfl ?_
    refine Ev.gen (fun z => PX0 z ac (upd F 1 (nI (s.1 + 1))) T (upA A 1 (upd (A 1) s.1 11))) (hP8.wf1 (x := nI (s.1 + 1))) Off.set (fun σ10 hP11 ho12 => ?_)
    have hAX13 : AX σ10 ac 1 u w (rbS s 11) := AX.body 11 hP11 (by omega) hF2 hF3 hF4 hA
    have hr_ : (rbS s 11).1 = s.1 + 1 := rfl
    refine e_iload (pc := 45) Xc (dT hX0_run 25 rfl) 0 rfl ?_
    refine e_lookup (x := 11) (off := 106) (tgt := 153) (pc := 47) Xc (dT hX0_run 26 rfl) (by decide) (by decide) rfl ?_
    refine e_aload_n (pc := 153) Xc (dT hX0_run 48 rfl) 2 rfl ?_
    refine e_iconst (v := 0) (pc := 154) Xc (dT hX0_run 49 rfl) rfl ?_
    refine e_iconst (v := 0) (pc := 155) Xc (dT hX0_run 50 rfl) rfl ?_
    refine e_iload_n (pc := 156) Xc (dT hX0_run 51 rfl) 5 rfl ?_
    refine e_iconst (v := 3) (pc := 157) Xc (dT hX0_run 52 rfl) rfl ?_
    refine e_imul (pc := 158) Xc (dT hX0_run 53 rfl) ?_
    refine e_iload (pc := 159) Xc (dT hX0_run 54 rfl) 1 rfl ?_
    refine cl_X0_28 (pc := 161) (k := 0) (n := 0) (S := []) Xc (c0_rd0 hAX13 (hSA.off (ho9.tr ho12) hna hno) hna hno (by decide) (by omega) (x * 3) (dd + 1) (by omega)) (dT hX0_run 55 rfl) rfl (Nat.le_of_ble_eq_true rfl) (Nat.le_of_ble_eq_true rfl) (Nat.le_of_ble_eq_true rfl) rfl (Nat.le_of_ble_eq_true rfl) (fun r14 σ15 hq16 => ?_)
    obtain ⟨r14e, hAX17, ho18⟩ := hq16
    have r14e := r14e.symm; subst r14e
    obtain ⟨F19, T19, A19, hP19, hF119, hF219, hF319, hF419, hA19⟩ := id hAX17
    refine e_iret (pc := 164) Xc hQ (dT hX0_run 56 rfl) (Nat.le_refl _) (Nat.le_refl _) ?_
    rw [rdA_k1]
    exact ⟨rfl, hAX17, ((ho9.tr ho12).tr ho18)⟩
  · skip
    exact absurd c4 (by omega)
set_option maxRecDepth 100000 in
set_option maxHeartbeats 4000000 in
theorem c0_rdk2 {G : xG} {σ : xS} {ac : Nat} {u w : Int32} {s : actS} (hAX : AX σ ac 2 u w s) (hSA : PSA G σ) (hna : gA G ≠ ac) (hno : gO G ≠ ac) (hs : s.1 ≤ 18) (x : Int32) (dd : Nat) (hdd : dd ≤ 19) : CI G yX0_run cX0_run 7 (some .int) 3 0 0 [.ref ac, .int 0, .int 2, .int x, .int (nI dd)] σ (fun z σ1 => z = (rdA (nI 2) u s x).1 ∧ AX σ1 ac 2 u w (rdA (nI 2) u s x).2 ∧ Off ac σ σ1) := by
  refine Met.ofX (by decide +kernel) (Nat.le_of_ble_eq_true rfl) (fun μ Xc hQ hnm => ?_)
  have Xc : xC G μ cX0_run 7 RX0 (some .int) 3 0 0 := Xc
  obtain ⟨F, T, A, hP, hF1, hF2, hF3, hF4, hA⟩ := id hAX
  show Ev G μ 7 0 0 0 [(0, .ref ac), (1, .int 0), (2, .int 2), (3, .int x), (4, .int (nI dd))] [] σ
  refine e_iload (pc := 0) Xc (dT hX0_run 0 rfl) 4 rfl ?_
  refine e_bipush (v := 20) (pc := 2) Xc (dT hX0_run 1 rfl) rfl ?_
  refine e_icmp_leN (x := dd) (y := 20) (tgt := 9) (pc := 4) Xc (dT hX0_run 2 rfl) rfl (by omega) (by omega) (fun c4 => ?_) (fun c4 => ?_)
  · skip
    refine e_iload (pc := 9) Xc (dT hX0_run 5 rfl) 4 rfl ?_
    refine e_iconst (v := 1) (pc := 11) Xc (dT hX0_run 6 rfl) rfl ?_
    refine e_iaddN (a := dd) (b := 1) (pc := 12) Xc (dT hX0_run 7 rfl) ?_
    refine e_istore (L' := [(5, .int (nI (dd + 1))), (0, .ref ac), (1, .int 0), (2, .int 2), (3, .int x), (4, .int (nI dd))]) (pc := 13) Xc (dT hX0_run 8 rfl) (by decide) rfl ?_
    refine e_iload_n (pc := 15) Xc (dT hX0_run 9 rfl) 2 rfl ?_
    refine e_iload_n (pc := 16) Xc (dT hX0_run 10 rfl) 3 rfl ?_
    refine cl_X0_32 (pc := 17) (k := 0) (n := 0) (S := []) Xc (c0_b02 hSA) (dT hX0_run 11 rfl) rfl (Nat.le_of_ble_eq_true rfl) (Nat.le_of_ble_eq_true rfl) (Nat.le_of_ble_eq_true rfl) rfl (Nat.le_of_ble_eq_true rfl) (fun r1 σ2 hq3 => ?_)
    obtain ⟨r1e, r1s⟩ := hq3
    have r1e := r1e.symm; subst r1e; have r1s := r1s.symm; subst r1s
    refine e_istore (L' := [(6, .int 1), (5, .int (nI (dd + 1))), (0, .ref ac), (1, .int 0), (2, .int 2), (3, .int x), (4, .int (nI dd))]) (pc := 20) Xc (dT hX0_run 12 rfl) (by decide) rfl ?_
    refine e_aload_n (pc := 22) Xc (dT hX0_run 13 rfl) 2 rfl ?_
    refine gf_X0_9 (pc := 23) Xc (dT hX0_run 14 rfl) hP.o rfl ?_
    refine e_aload_n (pc := 26) Xc (dT hX0_run 15 rfl) 2 rfl ?_
    refine gf_X0_15 (pc := 27) Xc (dT hX0_run 16 rfl) hP.o rfl ?_
    refine e_val (y := nI s.1) hF1 ?_
    refine e_iload (pc := 30) Xc (dT hX0_run 17 rfl) 0 rfl ?_
    refine cl_X0_36 (pc := 32) (k := 0) (n := 0) (S := []) Xc (c_put hP.a1 (by decide) s.1 (by omega) 1) (dT hX0_run 18 rfl) rfl (Nat.le_of_ble_eq_true rfl) (Nat.le_of_ble_eq_true rfl) (Nat.le_of_ble_eq_true rfl) rfl (Nat.le_of_ble_eq_true rfl) (fun σ5 hq6 => ?_)
    subst hq6
    refine Ev.gen (fun z => PX0 z ac F T (upA A 1 (upd (A 1) s.1 1))) (hP.wa1 (g := (upd (A 1) s.1 1))) Off.set (fun σ7 hP8 ho9 => ?_)
    refine e_aload_n (pc := 35) Xc (dT hX0_run 19 rfl) 2 rfl ?_
    refine e_dup (pc := 36) Xc (dT hX0_run 20 rfl) rfl ?_
    refine gf_X0_15 (pc := 37) Xc (dT hX0_run 21 rfl) hP8.o rfl ?_
    refine e_val (y := nI s.1) hF1 ?_
    refine e_iconst (v := 1) (pc := 40) Xc (dT hX0_run 22 rfl) rfl ?_
    refine e_iaddN (a := s.1) (b := 1) (pc := 41) Xc (dT hX0_run 23 rfl) ?_
    refine pf_X0_15 (fs' := olX0 ac (upd F 1 (nI (s.1 + 1))) T) (pc := 42) Xc (dT hX0_run 24 rfl) hP8.o (Nat.le_of_ble_eq_true rfl) rfl ?_
    refine Ev.gen (fun z => PX0 z ac (upd F 1 (nI (s.1 + 1))) T (upA A 1 (upd (A 1) s.1 1))) (hP8.wf1 (x := nI (s.1 + 1))) Off.set (fun σ10 hP11 ho12 => ?_)
    have hAX13 : AX σ10 ac 2 u w (rbS s 1) := AX.body 1 hP11 (by omega) hF2 hF3 hF4 hA
    have hr_ : (rbS s 1).1 = s.1 + 1 := rfl
    refine e_iload (pc := 45) Xc (dT hX0_run 25 rfl) 0 rfl ?_
    refine e_lookup (x := 1) (off := 197) (tgt := 244) (pc := 47) Xc (dT hX0_run 26 rfl) (by decide) (by decide) rfl ?_
    refine e_iload_n (pc := 244) Xc (dT hX0_run 111 rfl) 5 rfl ?_
    refine e_aload_n (pc := 245) Xc (dT hX0_run 112 rfl) 2 rfl ?_
    refine gf_X0_19 (pc := 246) Xc (dT hX0_run 113 rfl) hP11.o rfl ?_
    refine e_val (y := F 2) rfl ?_
    refine e_val (y := u) hF2 ?_
    refine e_iadd (pc := 249) Xc (dT hX0_run 114 rfl) ?_
    refine e_iret (pc := 250) Xc hQ (dT hX0_run 115 rfl) (Nat.le_refl _) (Nat.le_refl _) ?_
    rw [rdA_k2]
    exact ⟨rfl, hAX13, (ho9.tr ho12)⟩
  · skip
    exact absurd c4 (by omega)
set_option maxRecDepth 100000 in
set_option maxHeartbeats 4000000 in
theorem c0_rdk3 {G : xG} {σ : xS} {ac : Nat} {u w : Int32} {s : actS} (hAX : AX σ ac 3 u w s) (hSA : PSA G σ) (hna : gA G ≠ ac) (hno : gO G ≠ ac) (hs : s.1 ≤ 18) (x : Int32) (dd : Nat) (hdd : dd ≤ 19) : CI G yX0_run cX0_run 7 (some .int) 3 0 0 [.ref ac, .int 0, .int 3, .int x, .int (nI dd)] σ (fun z σ1 => z = (rdA (nI 3) u s x).1 ∧ AX σ1 ac 3 u w (rdA (nI 3) u s x).2 ∧ Off ac σ σ1) := by
  refine Met.ofX (by decide +kernel) (Nat.le_of_ble_eq_true rfl) (fun μ Xc hQ hnm => ?_)
  have Xc : xC G μ cX0_run 7 RX0 (some .int) 3 0 0 := Xc
  obtain ⟨F, T, A, hP, hF1, hF2, hF3, hF4, hA⟩ := id hAX
  show Ev G μ 7 0 0 0 [(0, .ref ac), (1, .int 0), (2, .int 3), (3, .int x), (4, .int (nI dd))] [] σ
  refine e_iload (pc := 0) Xc (dT hX0_run 0 rfl) 4 rfl ?_
  refine e_bipush (v := 20) (pc := 2) Xc (dT hX0_run 1 rfl) rfl ?_
  refine e_icmp_leN (x := dd) (y := 20) (tgt := 9) (pc := 4) Xc (dT hX0_run 2 rfl) rfl (by omega) (by omega) (fun c4 => ?_) (fun c4 => ?_)
  · skip
    refine e_iload (pc := 9) Xc (dT hX0_run 5 rfl) 4 rfl ?_
    refine e_iconst (v := 1) (pc := 11) Xc (dT hX0_run 6 rfl) rfl ?_
    refine e_iaddN (a := dd) (b := 1) (pc := 12) Xc (dT hX0_run 7 rfl) ?_
    refine e_istore (L' := [(5, .int (nI (dd + 1))), (0, .ref ac), (1, .int 0), (2, .int 3), (3, .int x), (4, .int (nI dd))]) (pc := 13) Xc (dT hX0_run 8 rfl) (by decide) rfl ?_
    refine e_iload_n (pc := 15) Xc (dT hX0_run 9 rfl) 2 rfl ?_
    refine e_iload_n (pc := 16) Xc (dT hX0_run 10 rfl) 3 rfl ?_
    refine cl_X0_32 (pc := 17) (k := 0) (n := 0) (S := []) Xc (c0_b03 hSA) (dT hX0_run 11 rfl) rfl (Nat.le_of_ble_eq_true rfl) (Nat.le_of_ble_eq_true rfl) (Nat.le_of_ble_eq_true rfl) rfl (Nat.le_of_ble_eq_true rfl) (fun r1 σ2 hq3 => ?_)
    obtain ⟨r1e, r1s⟩ := hq3
    have r1e := r1e.symm; subst r1e; have r1s := r1s.symm; subst r1s
    refine e_istore (L' := [(6, .int 1), (5, .int (nI (dd + 1))), (0, .ref ac), (1, .int 0), (2, .int 3), (3, .int x), (4, .int (nI dd))]) (pc := 20) Xc (dT hX0_run 12 rfl) (by decide) rfl ?_
    refine e_aload_n (pc := 22) Xc (dT hX0_run 13 rfl) 2 rfl ?_
    refine gf_X0_9 (pc := 23) Xc (dT hX0_run 14 rfl) hP.o rfl ?_
    refine e_aload_n (pc := 26) Xc (dT hX0_run 15 rfl) 2 rfl ?_
    refine gf_X0_15 (pc := 27) Xc (dT hX0_run 16 rfl) hP.o rfl ?_
    refine e_val (y := nI s.1) hF1 ?_
    refine e_iload (pc := 30) Xc (dT hX0_run 17 rfl) 0 rfl ?_
    refine cl_X0_36 (pc := 32) (k := 0) (n := 0) (S := []) Xc (c_put hP.a1 (by decide) s.1 (by omega) 1) (dT hX0_run 18 rfl) rfl (Nat.le_of_ble_eq_true rfl) (Nat.le_of_ble_eq_true rfl) (Nat.le_of_ble_eq_true rfl) rfl (Nat.le_of_ble_eq_true rfl) (fun σ5 hq6 => ?_)
    subst hq6
    refine Ev.gen (fun z => PX0 z ac F T (upA A 1 (upd (A 1) s.1 1))) (hP.wa1 (g := (upd (A 1) s.1 1))) Off.set (fun σ7 hP8 ho9 => ?_)
    refine e_aload_n (pc := 35) Xc (dT hX0_run 19 rfl) 2 rfl ?_
    refine e_dup (pc := 36) Xc (dT hX0_run 20 rfl) rfl ?_
    refine gf_X0_15 (pc := 37) Xc (dT hX0_run 21 rfl) hP8.o rfl ?_
    refine e_val (y := nI s.1) hF1 ?_
    refine e_iconst (v := 1) (pc := 40) Xc (dT hX0_run 22 rfl) rfl ?_
    refine e_iaddN (a := s.1) (b := 1) (pc := 41) Xc (dT hX0_run 23 rfl) ?_
    refine pf_X0_15 (fs' := olX0 ac (upd F 1 (nI (s.1 + 1))) T) (pc := 42) Xc (dT hX0_run 24 rfl) hP8.o (Nat.le_of_ble_eq_true rfl) rfl ?_
    refine Ev.gen (fun z => PX0 z ac (upd F 1 (nI (s.1 + 1))) T (upA A 1 (upd (A 1) s.1 1))) (hP8.wf1 (x := nI (s.1 + 1))) Off.set (fun σ10 hP11 ho12 => ?_)
    have hAX13 : AX σ10 ac 3 u w (rbS s 1) := AX.body 1 hP11 (by omega) hF2 hF3 hF4 hA
    have hr_ : (rbS s 1).1 = s.1 + 1 := rfl
    refine e_iload (pc := 45) Xc (dT hX0_run 25 rfl) 0 rfl ?_
    refine e_lookup (x := 1) (off := 197) (tgt := 244) (pc := 47) Xc (dT hX0_run 26 rfl) (by decide) (by decide) rfl ?_
    refine e_iload_n (pc := 244) Xc (dT hX0_run 111 rfl) 5 rfl ?_
    refine e_aload_n (pc := 245) Xc (dT hX0_run 112 rfl) 2 rfl ?_
    refine gf_X0_19 (pc := 246) Xc (dT hX0_run 113 rfl) hP11.o rfl ?_
    refine e_val (y := F 2) rfl ?_
    refine e_val (y := u) hF2 ?_
    refine e_iadd (pc := 249) Xc (dT hX0_run 114 rfl) ?_
    refine e_iret (pc := 250) Xc hQ (dT hX0_run 115 rfl) (Nat.le_refl _) (Nat.le_refl _) ?_
    rw [rdA_k3]
    exact ⟨rfl, hAX13, (ho9.tr ho12)⟩
  · skip
    exact absurd c4 (by omega)
set_option maxRecDepth 100000 in
set_option maxHeartbeats 4000000 in
theorem c0_rdk4 {G : xG} {σ : xS} {ac : Nat} {u w : Int32} {s : actS} (hAX : AX σ ac 4 u w s) (hSA : PSA G σ) (hna : gA G ≠ ac) (hno : gO G ≠ ac) (hs : s.1 ≤ 18) (x : Int32) (dd : Nat) (hdd : dd ≤ 19) : CI G yX0_run cX0_run 7 (some .int) 3 0 0 [.ref ac, .int 0, .int 4, .int x, .int (nI dd)] σ (fun z σ1 => z = (rdA (nI 4) u s x).1 ∧ AX σ1 ac 4 u w (rdA (nI 4) u s x).2 ∧ Off ac σ σ1) := by
  refine Met.ofX (by decide +kernel) (Nat.le_of_ble_eq_true rfl) (fun μ Xc hQ hnm => ?_)
  have Xc : xC G μ cX0_run 7 RX0 (some .int) 3 0 0 := Xc
  obtain ⟨F, T, A, hP, hF1, hF2, hF3, hF4, hA⟩ := id hAX
  show Ev G μ 7 0 0 0 [(0, .ref ac), (1, .int 0), (2, .int 4), (3, .int x), (4, .int (nI dd))] [] σ
  refine e_iload (pc := 0) Xc (dT hX0_run 0 rfl) 4 rfl ?_
  refine e_bipush (v := 20) (pc := 2) Xc (dT hX0_run 1 rfl) rfl ?_
  refine e_icmp_leN (x := dd) (y := 20) (tgt := 9) (pc := 4) Xc (dT hX0_run 2 rfl) rfl (by omega) (by omega) (fun c4 => ?_) (fun c4 => ?_)
  · skip
    refine e_iload (pc := 9) Xc (dT hX0_run 5 rfl) 4 rfl ?_
    refine e_iconst (v := 1) (pc := 11) Xc (dT hX0_run 6 rfl) rfl ?_
    refine e_iaddN (a := dd) (b := 1) (pc := 12) Xc (dT hX0_run 7 rfl) ?_
    refine e_istore (L' := [(5, .int (nI (dd + 1))), (0, .ref ac), (1, .int 0), (2, .int 4), (3, .int x), (4, .int (nI dd))]) (pc := 13) Xc (dT hX0_run 8 rfl) (by decide) rfl ?_
    refine e_iload_n (pc := 15) Xc (dT hX0_run 9 rfl) 2 rfl ?_
    refine e_iload_n (pc := 16) Xc (dT hX0_run 10 rfl) 3 rfl ?_
    refine cl_X0_32 (pc := 17) (k := 0) (n := 0) (S := []) Xc (c0_b04 hSA) (dT hX0_run 11 rfl) rfl (Nat.le_of_ble_eq_true rfl) (Nat.le_of_ble_eq_true rfl) (Nat.le_of_ble_eq_true rfl) rfl (Nat.le_of_ble_eq_true rfl) (fun r1 σ2 hq3 => ?_)
    obtain ⟨r1e, r1s⟩ := hq3
    have r1e := r1e.symm; subst r1e; have r1s := r1s.symm; subst r1s
    refine e_istore (L' := [(6, .int 11), (5, .int (nI (dd + 1))), (0, .ref ac), (1, .int 0), (2, .int 4), (3, .int x), (4, .int (nI dd))]) (pc := 20) Xc (dT hX0_run 12 rfl) (by decide) rfl ?_
    refine e_aload_n (pc := 22) Xc (dT hX0_run 13 rfl) 2 rfl ?_
    refine gf_X0_9 (pc := 23) Xc (dT hX0_run 14 rfl) hP.o rfl ?_
    refine e_aload_n (pc := 26) Xc (dT hX0_run 15 rfl) 2 rfl ?_
    refine gf_X0_15 (pc := 27) Xc (dT hX0_run 16 rfl) hP.o rfl ?_
    refine e_val (y := nI s.1) hF1 ?_
    refine e_iload (pc := 30) Xc (dT hX0_run 17 rfl) 0 rfl ?_
    refine cl_X0_36 (pc := 32) (k := 0) (n := 0) (S := []) Xc (c_put hP.a1 (by decide) s.1 (by omega) 11) (dT hX0_run 18 rfl) rfl (Nat.le_of_ble_eq_true rfl) (Nat.le_of_ble_eq_true rfl) (Nat.le_of_ble_eq_true rfl) rfl (Nat.le_of_ble_eq_true rfl) (fun σ5 hq6 => ?_)
    subst hq6
    refine Ev.gen (fun z => PX0 z ac F T (upA A 1 (upd (A 1) s.1 11))) (hP.wa1 (g := (upd (A 1) s.1 11))) Off.set (fun σ7 hP8 ho9 => ?_)
    refine e_aload_n (pc := 35) Xc (dT hX0_run 19 rfl) 2 rfl ?_
    refine e_dup (pc := 36) Xc (dT hX0_run 20 rfl) rfl ?_
    refine gf_X0_15 (pc := 37) Xc (dT hX0_run 21 rfl) hP8.o rfl ?_
    refine e_val (y := nI s.1) hF1 ?_
    refine e_iconst (v := 1) (pc := 40) Xc (dT hX0_run 22 rfl) rfl ?_
    refine e_iaddN (a := s.1) (b := 1) (pc := 41) Xc (dT hX0_run 23 rfl) ?_
    refine pf_X0_15 (fs' := olX0 ac (upd F 1 (nI (s.1 + 1))) T) (pc := 42) Xc (dT hX0_run 24 rfl) hP8.o (Nat.le_of_ble_eq_true rfl) rfl ?_
    refine Ev.gen (fun z => PX0 z ac (upd F 1 (nI (s.1 + 1))) T (upA A 1 (upd (A 1) s.1 11))) (hP8.wf1 (x := nI (s.1 + 1))) Off.set (fun σ10 hP11 ho12 => ?_)
    have hAX13 : AX σ10 ac 4 u w (rbS s 11) := AX.body 11 hP11 (by omega) hF2 hF3 hF4 hA
    have hr_ : (rbS s 11).1 = s.1 + 1 := rfl
    refine e_iload (pc := 45) Xc (dT hX0_run 25 rfl) 0 rfl ?_
    refine e_lookup (x := 11) (off := 106) (tgt := 153) (pc := 47) Xc (dT hX0_run 26 rfl) (by decide) (by decide) rfl ?_
    refine e_aload_n (pc := 153) Xc (dT hX0_run 48 rfl) 2 rfl ?_
    refine e_iconst (v := 0) (pc := 154) Xc (dT hX0_run 49 rfl) rfl ?_
    refine e_iconst (v := 0) (pc := 155) Xc (dT hX0_run 50 rfl) rfl ?_
    refine e_iload_n (pc := 156) Xc (dT hX0_run 51 rfl) 5 rfl ?_
    refine e_iconst (v := 3) (pc := 157) Xc (dT hX0_run 52 rfl) rfl ?_
    refine e_imul (pc := 158) Xc (dT hX0_run 53 rfl) ?_
    refine e_iload (pc := 159) Xc (dT hX0_run 54 rfl) 1 rfl ?_
    refine cl_X0_28 (pc := 161) (k := 0) (n := 0) (S := []) Xc (c0_rd0 hAX13 (hSA.off (ho9.tr ho12) hna hno) hna hno (by decide) (by omega) (x * 3) (dd + 1) (by omega)) (dT hX0_run 55 rfl) rfl (Nat.le_of_ble_eq_true rfl) (Nat.le_of_ble_eq_true rfl) (Nat.le_of_ble_eq_true rfl) rfl (Nat.le_of_ble_eq_true rfl) (fun r14 σ15 hq16 => ?_)
    obtain ⟨r14e, hAX17, ho18⟩ := hq16
    have r14e := r14e.symm; subst r14e
    obtain ⟨F19, T19, A19, hP19, hF119, hF219, hF319, hF419, hA19⟩ := id hAX17
    refine e_iret (pc := 164) Xc hQ (dT hX0_run 56 rfl) (Nat.le_refl _) (Nat.le_refl _) ?_
    rw [rdA_k4]
    exact ⟨rfl, hAX17, ((ho9.tr ho12).tr ho18)⟩
  · skip
    exact absurd c4 (by omega)
set_option maxRecDepth 100000 in
set_option maxHeartbeats 4000000 in
theorem c0_rdk5 {G : xG} {σ : xS} {ac : Nat} {u w : Int32} {s : actS} (hAX : AX σ ac 5 u w s) (hSA : PSA G σ) (hna : gA G ≠ ac) (hno : gO G ≠ ac) (hs : s.1 ≤ 18) (x : Int32) (dd : Nat) (hdd : dd ≤ 19) : CI G yX0_run cX0_run 7 (some .int) 3 0 0 [.ref ac, .int 0, .int 5, .int x, .int (nI dd)] σ (fun z σ1 => z = (rdA (nI 5) u s x).1 ∧ AX σ1 ac 5 u w (rdA (nI 5) u s x).2 ∧ Off ac σ σ1) := by
  refine Met.ofX (by decide +kernel) (Nat.le_of_ble_eq_true rfl) (fun μ Xc hQ hnm => ?_)
  have Xc : xC G μ cX0_run 7 RX0 (some .int) 3 0 0 := Xc
  obtain ⟨F, T, A, hP, hF1, hF2, hF3, hF4, hA⟩ := id hAX
  show Ev G μ 7 0 0 0 [(0, .ref ac), (1, .int 0), (2, .int 5), (3, .int x), (4, .int (nI dd))] [] σ
  refine e_iload (pc := 0) Xc (dT hX0_run 0 rfl) 4 rfl ?_
  refine e_bipush (v := 20) (pc := 2) Xc (dT hX0_run 1 rfl) rfl ?_
  refine e_icmp_leN (x := dd) (y := 20) (tgt := 9) (pc := 4) Xc (dT hX0_run 2 rfl) rfl (by omega) (by omega) (fun c4 => ?_) (fun c4 => ?_)
  · skip
    refine e_iload (pc := 9) Xc (dT hX0_run 5 rfl) 4 rfl ?_
    refine e_iconst (v := 1) (pc := 11) Xc (dT hX0_run 6 rfl) rfl ?_
    refine e_iaddN (a := dd) (b := 1) (pc := 12) Xc (dT hX0_run 7 rfl) ?_
    refine e_istore (L' := [(5, .int (nI (dd + 1))), (0, .ref ac), (1, .int 0), (2, .int 5), (3, .int x), (4, .int (nI dd))]) (pc := 13) Xc (dT hX0_run 8 rfl) (by decide) rfl ?_
    refine e_iload_n (pc := 15) Xc (dT hX0_run 9 rfl) 2 rfl ?_
    refine e_iload_n (pc := 16) Xc (dT hX0_run 10 rfl) 3 rfl ?_
    refine cl_X0_32 (pc := 17) (k := 0) (n := 0) (S := []) Xc (c0_b05 hSA) (dT hX0_run 11 rfl) rfl (Nat.le_of_ble_eq_true rfl) (Nat.le_of_ble_eq_true rfl) (Nat.le_of_ble_eq_true rfl) rfl (Nat.le_of_ble_eq_true rfl) (fun r1 σ2 hq3 => ?_)
    obtain ⟨r1e, r1s⟩ := hq3
    have r1e := r1e.symm; subst r1e; have r1s := r1s.symm; subst r1s
    refine e_istore (L' := [(6, .int 51), (5, .int (nI (dd + 1))), (0, .ref ac), (1, .int 0), (2, .int 5), (3, .int x), (4, .int (nI dd))]) (pc := 20) Xc (dT hX0_run 12 rfl) (by decide) rfl ?_
    refine e_aload_n (pc := 22) Xc (dT hX0_run 13 rfl) 2 rfl ?_
    refine gf_X0_9 (pc := 23) Xc (dT hX0_run 14 rfl) hP.o rfl ?_
    refine e_aload_n (pc := 26) Xc (dT hX0_run 15 rfl) 2 rfl ?_
    refine gf_X0_15 (pc := 27) Xc (dT hX0_run 16 rfl) hP.o rfl ?_
    refine e_val (y := nI s.1) hF1 ?_
    refine e_iload (pc := 30) Xc (dT hX0_run 17 rfl) 0 rfl ?_
    refine cl_X0_36 (pc := 32) (k := 0) (n := 0) (S := []) Xc (c_put hP.a1 (by decide) s.1 (by omega) 51) (dT hX0_run 18 rfl) rfl (Nat.le_of_ble_eq_true rfl) (Nat.le_of_ble_eq_true rfl) (Nat.le_of_ble_eq_true rfl) rfl (Nat.le_of_ble_eq_true rfl) (fun σ5 hq6 => ?_)
    subst hq6
    refine Ev.gen (fun z => PX0 z ac F T (upA A 1 (upd (A 1) s.1 51))) (hP.wa1 (g := (upd (A 1) s.1 51))) Off.set (fun σ7 hP8 ho9 => ?_)
    refine e_aload_n (pc := 35) Xc (dT hX0_run 19 rfl) 2 rfl ?_
    refine e_dup (pc := 36) Xc (dT hX0_run 20 rfl) rfl ?_
    refine gf_X0_15 (pc := 37) Xc (dT hX0_run 21 rfl) hP8.o rfl ?_
    refine e_val (y := nI s.1) hF1 ?_
    refine e_iconst (v := 1) (pc := 40) Xc (dT hX0_run 22 rfl) rfl ?_
    refine e_iaddN (a := s.1) (b := 1) (pc := 41) Xc (dT hX0_run 23 rfl) ?_
    refine pf_X0_15 (fs' := olX0 ac (upd F 1 (nI (s.1 + 1))) T) (pc := 42) Xc (dT hX0_run 24 rfl) hP8.o (Nat.le_of_ble_eq_true rfl) rfl ?_
    refine Ev.gen (fun z => PX0 z ac (upd F 1 (nI (s.1 + 1))) T (upA A 1 (upd (A 1) s.1 51))) (hP8.wf1 (x := nI (s.1 + 1))) Off.set (fun σ10 hP11 ho12 => ?_)
    have hAX13 : AX σ10 ac 5 u w (rbS s 51) := AX.body 51 hP11 (by omega) hF2 hF3 hF4 hA
    have hr_ : (rbS s 51).1 = s.1 + 1 := rfl
    refine e_iload (pc := 45) Xc (dT hX0_run 25 rfl) 0 rfl ?_
    refine e_lookup (x := 51) (off := 167) (tgt := 214) (pc := 47) Xc (dT hX0_run 26 rfl) (by decide) (by decide) rfl ?_
    refine e_aload_n (pc := 214) Xc (dT hX0_run 91 rfl) 2 rfl ?_
    refine e_iconst (v := 0) (pc := 215) Xc (dT hX0_run 92 rfl) rfl ?_
    refine e_iconst (v := 2) (pc := 216) Xc (dT hX0_run 93 rfl) rfl ?_
    refine e_iload_n (pc := 217) Xc (dT hX0_run 94 rfl) 5 rfl ?_
    refine e_iload (pc := 218) Xc (dT hX0_run 95 rfl) 1 rfl ?_
    refine cl_X0_28 (pc := 220) (k := 0) (n := 0) (S := []) Xc (c0_rd2 hAX13 (hSA.off (ho9.tr ho12) hna hno) hna hno (by decide) (by omega) x (dd + 1) (by omega)) (dT hX0_run 96 rfl) rfl (Nat.le_of_ble_eq_true rfl) (Nat.le_of_ble_eq_true rfl) (Nat.le_of_ble_eq_true rfl) rfl (Nat.le_of_ble_eq_true rfl) (fun r14 σ15 hq16 => ?_)
    obtain ⟨r14e, hAX17, ho18⟩ := hq16
    have r14e := r14e.symm; subst r14e
    obtain ⟨F19, T19, A19, hP19, hF119, hF219, hF319, hF419, hA19⟩ := id hAX17
    refine e_aload_n (pc := 223) Xc (dT hX0_run 97 rfl) 2 rfl ?_
    refine gf_X0_19 (pc := 224) Xc (dT hX0_run 98 rfl) hP19.o rfl ?_
    refine e_val (y := u) hF219 ?_
    refine e_ixor (pc := 227) Xc (dT hX0_run 99 rfl) ?_
    refine e_iret (pc := 228) Xc hQ (dT hX0_run 100 rfl) (Nat.le_refl _) (Nat.le_refl _) ?_
    rw [rdA_k5]
    exact ⟨rfl, hAX17, ((ho9.tr ho12).tr ho18)⟩
  · skip
    exact absurd c4 (by omega)
set_option maxRecDepth 100000 in
set_option maxHeartbeats 4000000 in
theorem c0_rdk6 {G : xG} {σ : xS} {ac : Nat} {u w : Int32} {s : actS} (hAX : AX σ ac 6 u w s) (hSA : PSA G σ) (hna : gA G ≠ ac) (hno : gO G ≠ ac) (hs : s.1 ≤ 18) (x : Int32) (dd : Nat) (hdd : dd ≤ 19) : CI G yX0_run cX0_run 7 (some .int) 3 0 0 [.ref ac, .int 0, .int 6, .int x, .int (nI dd)] σ (fun z σ1 => z = (rdA (nI 6) u s x).1 ∧ AX σ1 ac 6 u w (rdA (nI 6) u s x).2 ∧ Off ac σ σ1) := by
  refine Met.ofX (by decide +kernel) (Nat.le_of_ble_eq_true rfl) (fun μ Xc hQ hnm => ?_)
  have Xc : xC G μ cX0_run 7 RX0 (some .int) 3 0 0 := Xc
  obtain ⟨F, T, A, hP, hF1, hF2, hF3, hF4, hA⟩ := id hAX
  show Ev G μ 7 0 0 0 [(0, .ref ac), (1, .int 0), (2, .int 6), (3, .int x), (4, .int (nI dd))] [] σ
  refine e_iload (pc := 0) Xc (dT hX0_run 0 rfl) 4 rfl ?_
  refine e_bipush (v := 20) (pc := 2) Xc (dT hX0_run 1 rfl) rfl ?_
  refine e_icmp_leN (x := dd) (y := 20) (tgt := 9) (pc := 4) Xc (dT hX0_run 2 rfl) rfl (by omega) (by omega) (fun c4 => ?_) (fun c4 => ?_)
  · skip
    refine e_iload (pc := 9) Xc (dT hX0_run 5 rfl) 4 rfl ?_
    refine e_iconst (v := 1) (pc := 11) Xc (dT hX0_run 6 rfl) rfl ?_
    refine e_iaddN (a := dd) (b := 1) (pc := 12) Xc (dT hX0_run 7 rfl) ?_
    refine e_istore (L' := [(5, .int (nI (dd + 1))), (0, .ref ac), (1, .int 0), (2, .int 6), (3, .int x), (4, .int (nI dd))]) (pc := 13) Xc (dT hX0_run 8 rfl) (by decide) rfl ?_
    refine e_iload_n (pc := 15) Xc (dT hX0_run 9 rfl) 2 rfl ?_
    refine e_iload_n (pc := 16) Xc (dT hX0_run 10 rfl) 3 rfl ?_
    refine cl_X0_32 (pc := 17) (k := 0) (n := 0) (S := []) Xc (c0_b06 hSA) (dT hX0_run 11 rfl) rfl (Nat.le_of_ble_eq_true rfl) (Nat.le_of_ble_eq_true rfl) (Nat.le_of_ble_eq_true rfl) rfl (Nat.le_of_ble_eq_true rfl) (fun r1 σ2 hq3 => ?_)
    obtain ⟨r1e, r1s⟩ := hq3
    have r1e := r1e.symm; subst r1e; have r1s := r1s.symm; subst r1s
    refine e_istore (L' := [(6, .int 1), (5, .int (nI (dd + 1))), (0, .ref ac), (1, .int 0), (2, .int 6), (3, .int x), (4, .int (nI dd))]) (pc := 20) Xc (dT hX0_run 12 rfl) (by decide) rfl ?_
    refine e_aload_n (pc := 22) Xc (dT hX0_run 13 rfl) 2 rfl ?_
    refine gf_X0_9 (pc := 23) Xc (dT hX0_run 14 rfl) hP.o rfl ?_
    refine e_aload_n (pc := 26) Xc (dT hX0_run 15 rfl) 2 rfl ?_
    refine gf_X0_15 (pc := 27) Xc (dT hX0_run 16 rfl) hP.o rfl ?_
    refine e_val (y := nI s.1) hF1 ?_
    refine e_iload (pc := 30) Xc (dT hX0_run 17 rfl) 0 rfl ?_
    refine cl_X0_36 (pc := 32) (k := 0) (n := 0) (S := []) Xc (c_put hP.a1 (by decide) s.1 (by omega) 1) (dT hX0_run 18 rfl) rfl (Nat.le_of_ble_eq_true rfl) (Nat.le_of_ble_eq_true rfl) (Nat.le_of_ble_eq_true rfl) rfl (Nat.le_of_ble_eq_true rfl) (fun σ5 hq6 => ?_)
    subst hq6
    refine Ev.gen (fun z => PX0 z ac F T (upA A 1 (upd (A 1) s.1 1))) (hP.wa1 (g := (upd (A 1) s.1 1))) Off.set (fun σ7 hP8 ho9 => ?_)
    refine e_aload_n (pc := 35) Xc (dT hX0_run 19 rfl) 2 rfl ?_
    refine e_dup (pc := 36) Xc (dT hX0_run 20 rfl) rfl ?_
    refine gf_X0_15 (pc := 37) Xc (dT hX0_run 21 rfl) hP8.o rfl ?_
    refine e_val (y := nI s.1) hF1 ?_
    refine e_iconst (v := 1) (pc := 40) Xc (dT hX0_run 22 rfl) rfl ?_
    refine e_iaddN (a := s.1) (b := 1) (pc := 41) Xc (dT hX0_run 23 rfl) ?_
    refine pf_X0_15 (fs' := olX0 ac (upd F 1 (nI (s.1 + 1))) T) (pc := 42) Xc (dT hX0_run 24 rfl) hP8.o (Nat.le_of_ble_eq_true rfl) rfl ?_
    refine Ev.gen (fun z => PX0 z ac (upd F 1 (nI (s.1 + 1))) T (upA A 1 (upd (A 1) s.1 1))) (hP8.wf1 (x := nI (s.1 + 1))) Off.set (fun σ10 hP11 ho12 => ?_)
    have hAX13 : AX σ10 ac 6 u w (rbS s 1) := AX.body 1 hP11 (by omega) hF2 hF3 hF4 hA
    have hr_ : (rbS s 1).1 = s.1 + 1 := rfl
    refine e_iload (pc := 45) Xc (dT hX0_run 25 rfl) 0 rfl ?_
    refine e_lookup (x := 1) (off := 197) (tgt := 244) (pc := 47) Xc (dT hX0_run 26 rfl) (by decide) (by decide) rfl ?_
    refine e_iload_n (pc := 244) Xc (dT hX0_run 111 rfl) 5 rfl ?_
    refine e_aload_n (pc := 245) Xc (dT hX0_run 112 rfl) 2 rfl ?_
    refine gf_X0_19 (pc := 246) Xc (dT hX0_run 113 rfl) hP11.o rfl ?_
    refine e_val (y := F 2) rfl ?_
    refine e_val (y := u) hF2 ?_
    refine e_iadd (pc := 249) Xc (dT hX0_run 114 rfl) ?_
    refine e_iret (pc := 250) Xc hQ (dT hX0_run 115 rfl) (Nat.le_refl _) (Nat.le_refl _) ?_
    rw [rdA_k6]
    exact ⟨rfl, hAX13, (ho9.tr ho12)⟩
  · skip
    exact absurd c4 (by omega)
theorem c0_rd {G : xG} {σ : xS} {ac k : Nat} {u w : Int32} {s : actS} (hAX : AX σ ac k u w s) (hSA : PSA G σ) (hna : gA G ≠ ac) (hno : gO G ≠ ac) (hk6 : k ≤ 6) (hs : s.1 ≤ 18) (x : Int32) (dd : Nat) (hdd : dd ≤ 19) : CI G yX0_run cX0_run 7 (some .int) 3 0 0 [.ref ac, .int 0, .int (nI k), .int x, .int (nI dd)] σ (fun z σ1 => z = (rdA (nI k) u s x).1 ∧ AX σ1 ac k u w (rdA (nI k) u s x).2 ∧ Off ac σ σ1) := by
  have hc_ : k = 0 ∨ k = 1 ∨ k = 2 ∨ k = 3 ∨ k = 4 ∨ k = 5 ∨ k = 6 := by omega
  rcases hc_ with rfl | rfl | rfl | rfl | rfl | rfl | rfl
  · exact c0_rdk0 hAX hSA hna hno hs x dd hdd
  · exact c0_rdk1 hAX hSA hna hno hs x dd hdd
  · exact c0_rdk2 hAX hSA hna hno hs x dd hdd
  · exact c0_rdk3 hAX hSA hna hno hs x dd hdd
  · exact c0_rdk4 hAX hSA hna hno hs x dd hdd
  · exact c0_rdk5 hAX hSA hna hno hs x dd hdd
  · exact c0_rdk6 hAX hSA hna hno hs x dd hdd
set_option maxRecDepth 100000 in
set_option maxHeartbeats 4000000 in
theorem c0_br0 {G : xG} {σ : xS} {ac k : Nat} {u w : Int32} {s : actS} (hAX : AX σ ac k u w s) (hSA : PSA G σ) (hna : gA G ≠ ac) (hno : gO G ≠ ac) (hk6 : k ≤ 6) (hs : s.1 ≤ 17) (x : Int32) (dd : Nat) (hdd : dd ≤ 18) : CI G yX0_run cX0_run 7 (some .int) 4 0 0 [.ref ac, .int 1, .int 0, .int x, .int (nI dd)] σ (fun z σ1 => z = (plB (nI k) u w s x).1 ∧ AX σ1 ac k u w (plB (nI k) u w s x).2 ∧ Off ac σ σ1) := by
  refine Met.ofX (by decide +kernel) (Nat.le_of_ble_eq_true rfl) (fun μ Xc hQ hnm => ?_)
  have Xc : xC G μ cX0_run 7 RX0 (some .int) 4 0 0 := Xc
  obtain ⟨F, T, A, hP, hF1, hF2, hF3, hF4, hA⟩ := id hAX
  show Ev G μ 7 0 0 0 [(0, .ref ac), (1, .int 1), (2, .int 0), (3, .int x), (4, .int (nI dd))] [] σ
  refine e_iload (pc := 0) Xc (dT hX0_run 0 rfl) 4 rfl ?_
  refine e_bipush (v := 20) (pc := 2) Xc (dT hX0_run 1 rfl) rfl ?_
  refine e_icmp_leN (x := dd) (y := 20) (tgt := 9) (pc := 4) Xc (dT hX0_run 2 rfl) rfl (by omega) (by omega) (fun c4 => ?_) (fun c4 => ?_)
  · skip
    refine e_iload (pc := 9) Xc (dT hX0_run 5 rfl) 4 rfl ?_
    refine e_iconst (v := 1) (pc := 11) Xc (dT hX0_run 6 rfl) rfl ?_
    refine e_iaddN (a := dd) (b := 1) (pc := 12) Xc (dT hX0_run 7 rfl) ?_
    refine e_istore (L' := [(5, .int (nI (dd + 1))), (0, .ref ac), (1, .int 1), (2, .int 0), (3, .int x), (4, .int (nI dd))]) (pc := 13) Xc (dT hX0_run 8 rfl) (by decide) rfl ?_
    refine e_iload_n (pc := 15) Xc (dT hX0_run 9 rfl) 2 rfl ?_
    refine e_iload_n (pc := 16) Xc (dT hX0_run 10 rfl) 3 rfl ?_
    refine cl_X0_32 (pc := 17) (k := 0) (n := 0) (S := []) Xc (c0_b10 hSA) (dT hX0_run 11 rfl) rfl (Nat.le_of_ble_eq_true rfl) (Nat.le_of_ble_eq_true rfl) (Nat.le_of_ble_eq_true rfl) rfl (Nat.le_of_ble_eq_true rfl) (fun r1 σ2 hq3 => ?_)
    obtain ⟨r1e, r1s⟩ := hq3
    have r1e := r1e.symm; subst r1e; have r1s := r1s.symm; subst r1s
    refine e_istore (L' := [(6, .int 2), (5, .int (nI (dd + 1))), (0, .ref ac), (1, .int 1), (2, .int 0), (3, .int x), (4, .int (nI dd))]) (pc := 20) Xc (dT hX0_run 12 rfl) (by decide) rfl ?_
    refine e_aload_n (pc := 22) Xc (dT hX0_run 13 rfl) 2 rfl ?_
    refine gf_X0_9 (pc := 23) Xc (dT hX0_run 14 rfl) hP.o rfl ?_
    refine e_aload_n (pc := 26) Xc (dT hX0_run 15 rfl) 2 rfl ?_
    refine gf_X0_15 (pc := 27) Xc (dT hX0_run 16 rfl) hP.o rfl ?_
    refine e_val (y := nI s.1) hF1 ?_
    refine e_iload (pc := 30) Xc (dT hX0_run 17 rfl) 0 rfl ?_
    refine cl_X0_36 (pc := 32) (k := 0) (n := 0) (S := []) Xc (c_put hP.a1 (by decide) s.1 (by omega) 2) (dT hX0_run 18 rfl) rfl (Nat.le_of_ble_eq_true rfl) (Nat.le_of_ble_eq_true rfl) (Nat.le_of_ble_eq_true rfl) rfl (Nat.le_of_ble_eq_true rfl) (fun σ5 hq6 => ?_)
    subst hq6
    refine Ev.gen (fun z => PX0 z ac F T (upA A 1 (upd (A 1) s.1 2))) (hP.wa1 (g := (upd (A 1) s.1 2))) Off.set (fun σ7 hP8 ho9 => ?_)
    refine e_aload_n (pc := 35) Xc (dT hX0_run 19 rfl) 2 rfl ?_
    refine e_dup (pc := 36) Xc (dT hX0_run 20 rfl) rfl ?_
    refine gf_X0_15 (pc := 37) Xc (dT hX0_run 21 rfl) hP8.o rfl ?_
    refine e_val (y := nI s.1) hF1 ?_
    refine e_iconst (v := 1) (pc := 40) Xc (dT hX0_run 22 rfl) rfl ?_
    refine e_iaddN (a := s.1) (b := 1) (pc := 41) Xc (dT hX0_run 23 rfl) ?_
    refine pf_X0_15 (fs' := olX0 ac (upd F 1 (nI (s.1 + 1))) T) (pc := 42) Xc (dT hX0_run 24 rfl) hP8.o (Nat.le_of_ble_eq_true rfl) rfl ?_
    refine Ev.gen (fun z => PX0 z ac (upd F 1 (nI (s.1 + 1))) T (upA A 1 (upd (A 1) s.1 2))) (hP8.wf1 (x := nI (s.1 + 1))) Off.set (fun σ10 hP11 ho12 => ?_)
    have hAX13 : AX σ10 ac k u w (rbS s 2) := AX.body 2 hP11 (by omega) hF2 hF3 hF4 hA
    have hr_ : (rbS s 2).1 = s.1 + 1 := rfl
    refine e_iload (pc := 45) Xc (dT hX0_run 25 rfl) 0 rfl ?_
    refine e_lookup (x := 2) (off := 73) (tgt := 120) (pc := 47) Xc (dT hX0_run 26 rfl) (by decide) (by decide) rfl ?_
    refine e_aload_n (pc := 120) Xc (dT hX0_run 27 rfl) 2 rfl ?_
    refine e_iconst (v := 0) (pc := 121) Xc (dT hX0_run 28 rfl) rfl ?_
    refine e_aload_n (pc := 122) Xc (dT hX0_run 29 rfl) 2 rfl ?_
    refine gf_X0_22 (pc := 123) Xc (dT hX0_run 30 rfl) hP11.o rfl ?_
    refine e_val (y := F 3) rfl ?_
    refine e_val (y := nI k) hF3 ?_
    refine e_iload_n (pc := 126) Xc (dT hX0_run 31 rfl) 5 rfl ?_
    refine e_iload (pc := 127) Xc (dT hX0_run 32 rfl) 1 rfl ?_
    refine cl_X0_28 (pc := 129) (k := 0) (n := 0) (S := []) Xc (c0_rd hAX13 (hSA.off (ho9.tr ho12) hna hno) hna hno hk6 (by omega) x (dd + 1) (by omega)) (dT hX0_run 33 rfl) rfl (Nat.le_of_ble_eq_true rfl) (Nat.le_of_ble_eq_true rfl) (Nat.le_of_ble_eq_true rfl) rfl (Nat.le_of_ble_eq_true rfl) (fun r14 σ15 hq16 => ?_)
    obtain ⟨r14e, hAX17, ho18⟩ := hq16
    have r14e := r14e.symm; subst r14e
    obtain ⟨F19, T19, A19, hP19, hF119, hF219, hF319, hF419, hA19⟩ := id hAX17
    have hb19_ := rdA_n (k := (nI k)) (u := u) (s := (rbS s 2)) (x := x)
    refine e_aload_n (pc := 132) Xc (dT hX0_run 34 rfl) 2 rfl ?_
    refine gf_X0_25 (pc := 133) Xc (dT hX0_run 35 rfl) hP19.o rfl ?_
    refine e_val (y := w) hF419 ?_
    refine e_isub (pc := 136) Xc (dT hX0_run 36 rfl) ?_
    refine e_iret (pc := 137) Xc hQ (dT hX0_run 37 rfl) (Nat.le_refl _) (Nat.le_refl _) ?_
    exact ⟨rfl, hAX17, ((ho9.tr ho12).tr ho18)⟩
  · skip
    exact absurd c4 (by omega)
set_option maxRecDepth 100000 in
set_option maxHeartbeats 4000000 in
theorem c0_br3 {G : xG} {σ : xS} {ac k : Nat} {u w : Int32} {s : actS} (hAX : AX σ ac k u w s) (hSA : PSA G σ) (hna : gA G ≠ ac) (hno : gO G ≠ ac) (hk6 : k ≤ 6) (hs : s.1 ≤ 17) (x : Int32) (dd : Nat) (hdd : dd ≤ 18) : CI G yX0_run cX0_run 7 (some .int) 4 0 0 [.ref ac, .int 1, .int 3, .int x, .int (nI dd)] σ (fun z σ1 => z = (plB (nI k) u w s x).1 ∧ AX σ1 ac k u w (plB (nI k) u w s x).2 ∧ Off ac σ σ1) := by
  refine Met.ofX (by decide +kernel) (Nat.le_of_ble_eq_true rfl) (fun μ Xc hQ hnm => ?_)
  have Xc : xC G μ cX0_run 7 RX0 (some .int) 4 0 0 := Xc
  obtain ⟨F, T, A, hP, hF1, hF2, hF3, hF4, hA⟩ := id hAX
  show Ev G μ 7 0 0 0 [(0, .ref ac), (1, .int 1), (2, .int 3), (3, .int x), (4, .int (nI dd))] [] σ
  refine e_iload (pc := 0) Xc (dT hX0_run 0 rfl) 4 rfl ?_
  refine e_bipush (v := 20) (pc := 2) Xc (dT hX0_run 1 rfl) rfl ?_
  refine e_icmp_leN (x := dd) (y := 20) (tgt := 9) (pc := 4) Xc (dT hX0_run 2 rfl) rfl (by omega) (by omega) (fun c4 => ?_) (fun c4 => ?_)
  · skip
    refine e_iload (pc := 9) Xc (dT hX0_run 5 rfl) 4 rfl ?_
    refine e_iconst (v := 1) (pc := 11) Xc (dT hX0_run 6 rfl) rfl ?_
    refine e_iaddN (a := dd) (b := 1) (pc := 12) Xc (dT hX0_run 7 rfl) ?_
    refine e_istore (L' := [(5, .int (nI (dd + 1))), (0, .ref ac), (1, .int 1), (2, .int 3), (3, .int x), (4, .int (nI dd))]) (pc := 13) Xc (dT hX0_run 8 rfl) (by decide) rfl ?_
    refine e_iload_n (pc := 15) Xc (dT hX0_run 9 rfl) 2 rfl ?_
    refine e_iload_n (pc := 16) Xc (dT hX0_run 10 rfl) 3 rfl ?_
    refine cl_X0_32 (pc := 17) (k := 0) (n := 0) (S := []) Xc (c0_b13 hSA) (dT hX0_run 11 rfl) rfl (Nat.le_of_ble_eq_true rfl) (Nat.le_of_ble_eq_true rfl) (Nat.le_of_ble_eq_true rfl) rfl (Nat.le_of_ble_eq_true rfl) (fun r1 σ2 hq3 => ?_)
    obtain ⟨r1e, r1s⟩ := hq3
    have r1e := r1e.symm; subst r1e; have r1s := r1s.symm; subst r1s
    refine e_istore (L' := [(6, .int 2), (5, .int (nI (dd + 1))), (0, .ref ac), (1, .int 1), (2, .int 3), (3, .int x), (4, .int (nI dd))]) (pc := 20) Xc (dT hX0_run 12 rfl) (by decide) rfl ?_
    refine e_aload_n (pc := 22) Xc (dT hX0_run 13 rfl) 2 rfl ?_
    refine gf_X0_9 (pc := 23) Xc (dT hX0_run 14 rfl) hP.o rfl ?_
    refine e_aload_n (pc := 26) Xc (dT hX0_run 15 rfl) 2 rfl ?_
    refine gf_X0_15 (pc := 27) Xc (dT hX0_run 16 rfl) hP.o rfl ?_
    refine e_val (y := nI s.1) hF1 ?_
    refine e_iload (pc := 30) Xc (dT hX0_run 17 rfl) 0 rfl ?_
    refine cl_X0_36 (pc := 32) (k := 0) (n := 0) (S := []) Xc (c_put hP.a1 (by decide) s.1 (by omega) 2) (dT hX0_run 18 rfl) rfl (Nat.le_of_ble_eq_true rfl) (Nat.le_of_ble_eq_true rfl) (Nat.le_of_ble_eq_true rfl) rfl (Nat.le_of_ble_eq_true rfl) (fun σ5 hq6 => ?_)
    subst hq6
    refine Ev.gen (fun z => PX0 z ac F T (upA A 1 (upd (A 1) s.1 2))) (hP.wa1 (g := (upd (A 1) s.1 2))) Off.set (fun σ7 hP8 ho9 => ?_)
    refine e_aload_n (pc := 35) Xc (dT hX0_run 19 rfl) 2 rfl ?_
    refine e_dup (pc := 36) Xc (dT hX0_run 20 rfl) rfl ?_
    refine gf_X0_15 (pc := 37) Xc (dT hX0_run 21 rfl) hP8.o rfl ?_
    refine e_val (y := nI s.1) hF1 ?_
    refine e_iconst (v := 1) (pc := 40) Xc (dT hX0_run 22 rfl) rfl ?_
    refine e_iaddN (a := s.1) (b := 1) (pc := 41) Xc (dT hX0_run 23 rfl) ?_
    refine pf_X0_15 (fs' := olX0 ac (upd F 1 (nI (s.1 + 1))) T) (pc := 42) Xc (dT hX0_run 24 rfl) hP8.o (Nat.le_of_ble_eq_true rfl) rfl ?_
    refine Ev.gen (fun z => PX0 z ac (upd F 1 (nI (s.1 + 1))) T (upA A 1 (upd (A 1) s.1 2))) (hP8.wf1 (x := nI (s.1 + 1))) Off.set (fun σ10 hP11 ho12 => ?_)
    have hAX13 : AX σ10 ac k u w (rbS s 2) := AX.body 2 hP11 (by omega) hF2 hF3 hF4 hA
    have hr_ : (rbS s 2).1 = s.1 + 1 := rfl
    refine e_iload (pc := 45) Xc (dT hX0_run 25 rfl) 0 rfl ?_
    refine e_lookup (x := 2) (off := 73) (tgt := 120) (pc := 47) Xc (dT hX0_run 26 rfl) (by decide) (by decide) rfl ?_
    refine e_aload_n (pc := 120) Xc (dT hX0_run 27 rfl) 2 rfl ?_
    refine e_iconst (v := 0) (pc := 121) Xc (dT hX0_run 28 rfl) rfl ?_
    refine e_aload_n (pc := 122) Xc (dT hX0_run 29 rfl) 2 rfl ?_
    refine gf_X0_22 (pc := 123) Xc (dT hX0_run 30 rfl) hP11.o rfl ?_
    refine e_val (y := F 3) rfl ?_
    refine e_val (y := nI k) hF3 ?_
    refine e_iload_n (pc := 126) Xc (dT hX0_run 31 rfl) 5 rfl ?_
    refine e_iload (pc := 127) Xc (dT hX0_run 32 rfl) 1 rfl ?_
    refine cl_X0_28 (pc := 129) (k := 0) (n := 0) (S := []) Xc (c0_rd hAX13 (hSA.off (ho9.tr ho12) hna hno) hna hno hk6 (by omega) x (dd + 1) (by omega)) (dT hX0_run 33 rfl) rfl (Nat.le_of_ble_eq_true rfl) (Nat.le_of_ble_eq_true rfl) (Nat.le_of_ble_eq_true rfl) rfl (Nat.le_of_ble_eq_true rfl) (fun r14 σ15 hq16 => ?_)
    obtain ⟨r14e, hAX17, ho18⟩ := hq16
    have r14e := r14e.symm; subst r14e
    obtain ⟨F19, T19, A19, hP19, hF119, hF219, hF319, hF419, hA19⟩ := id hAX17
    have hb19_ := rdA_n (k := (nI k)) (u := u) (s := (rbS s 2)) (x := x)
    refine e_aload_n (pc := 132) Xc (dT hX0_run 34 rfl) 2 rfl ?_
    refine gf_X0_25 (pc := 133) Xc (dT hX0_run 35 rfl) hP19.o rfl ?_
    refine e_val (y := w) hF419 ?_
    refine e_isub (pc := 136) Xc (dT hX0_run 36 rfl) ?_
    refine e_iret (pc := 137) Xc hQ (dT hX0_run 37 rfl) (Nat.le_refl _) (Nat.le_refl _) ?_
    exact ⟨rfl, hAX17, ((ho9.tr ho12).tr ho18)⟩
  · skip
    exact absurd c4 (by omega)
set_option maxRecDepth 100000 in
set_option maxHeartbeats 4000000 in
theorem c0_brk0 {G : xG} {σ : xS} {ac : Nat} {u w : Int32} {s : actS} (hAX : AX σ ac 0 u w s) (hSA : PSA G σ) (hna : gA G ≠ ac) (hno : gO G ≠ ac) (hs : s.1 ≤ 16) (x : Int32) (dd : Nat) (hdd : dd ≤ 17) : CI G yX0_run cX0_run 7 (some .int) 5 0 0 [.ref ac, .int 1, .int 0, .int x, .int (nI dd)] σ (fun z σ1 => z = (brA (nI 0) u w s x).1 ∧ AX σ1 ac 0 u w (brA (nI 0) u w s x).2 ∧ Off ac σ σ1) := by
  refine Met.ofX (by decide +kernel) (Nat.le_of_ble_eq_true rfl) (fun μ Xc hQ hnm => ?_)
  have Xc : xC G μ cX0_run 7 RX0 (some .int) 5 0 0 := Xc
  obtain ⟨F, T, A, hP, hF1, hF2, hF3, hF4, hA⟩ := id hAX
  show Ev G μ 7 0 0 0 [(0, .ref ac), (1, .int 1), (2, .int 0), (3, .int x), (4, .int (nI dd))] [] σ
  refine e_iload (pc := 0) Xc (dT hX0_run 0 rfl) 4 rfl ?_
  refine e_bipush (v := 20) (pc := 2) Xc (dT hX0_run 1 rfl) rfl ?_
  refine e_icmp_leN (x := dd) (y := 20) (tgt := 9) (pc := 4) Xc (dT hX0_run 2 rfl) rfl (by omega) (by omega) (fun c4 => ?_) (fun c4 => ?_)
  · skip
    refine e_iload (pc := 9) Xc (dT hX0_run 5 rfl) 4 rfl ?_
    refine e_iconst (v := 1) (pc := 11) Xc (dT hX0_run 6 rfl) rfl ?_
    refine e_iaddN (a := dd) (b := 1) (pc := 12) Xc (dT hX0_run 7 rfl) ?_
    refine e_istore (L' := [(5, .int (nI (dd + 1))), (0, .ref ac), (1, .int 1), (2, .int 0), (3, .int x), (4, .int (nI dd))]) (pc := 13) Xc (dT hX0_run 8 rfl) (by decide) rfl ?_
    refine e_iload_n (pc := 15) Xc (dT hX0_run 9 rfl) 2 rfl ?_
    refine e_iload_n (pc := 16) Xc (dT hX0_run 10 rfl) 3 rfl ?_
    refine cl_X0_32 (pc := 17) (k := 0) (n := 0) (S := []) Xc (c0_b10 hSA) (dT hX0_run 11 rfl) rfl (Nat.le_of_ble_eq_true rfl) (Nat.le_of_ble_eq_true rfl) (Nat.le_of_ble_eq_true rfl) rfl (Nat.le_of_ble_eq_true rfl) (fun r1 σ2 hq3 => ?_)
    obtain ⟨r1e, r1s⟩ := hq3
    have r1e := r1e.symm; subst r1e; have r1s := r1s.symm; subst r1s
    refine e_istore (L' := [(6, .int 2), (5, .int (nI (dd + 1))), (0, .ref ac), (1, .int 1), (2, .int 0), (3, .int x), (4, .int (nI dd))]) (pc := 20) Xc (dT hX0_run 12 rfl) (by decide) rfl ?_
    refine e_aload_n (pc := 22) Xc (dT hX0_run 13 rfl) 2 rfl ?_
    refine gf_X0_9 (pc := 23) Xc (dT hX0_run 14 rfl) hP.o rfl ?_
    refine e_aload_n (pc := 26) Xc (dT hX0_run 15 rfl) 2 rfl ?_
    refine gf_X0_15 (pc := 27) Xc (dT hX0_run 16 rfl) hP.o rfl ?_
    refine e_val (y := nI s.1) hF1 ?_
    refine e_iload (pc := 30) Xc (dT hX0_run 17 rfl) 0 rfl ?_
    refine cl_X0_36 (pc := 32) (k := 0) (n := 0) (S := []) Xc (c_put hP.a1 (by decide) s.1 (by omega) 2) (dT hX0_run 18 rfl) rfl (Nat.le_of_ble_eq_true rfl) (Nat.le_of_ble_eq_true rfl) (Nat.le_of_ble_eq_true rfl) rfl (Nat.le_of_ble_eq_true rfl) (fun σ5 hq6 => ?_)
    subst hq6
    refine Ev.gen (fun z => PX0 z ac F T (upA A 1 (upd (A 1) s.1 2))) (hP.wa1 (g := (upd (A 1) s.1 2))) Off.set (fun σ7 hP8 ho9 => ?_)
    refine e_aload_n (pc := 35) Xc (dT hX0_run 19 rfl) 2 rfl ?_
    refine e_dup (pc := 36) Xc (dT hX0_run 20 rfl) rfl ?_
    refine gf_X0_15 (pc := 37) Xc (dT hX0_run 21 rfl) hP8.o rfl ?_
    refine e_val (y := nI s.1) hF1 ?_
    refine e_iconst (v := 1) (pc := 40) Xc (dT hX0_run 22 rfl) rfl ?_
    refine e_iaddN (a := s.1) (b := 1) (pc := 41) Xc (dT hX0_run 23 rfl) ?_
    refine pf_X0_15 (fs' := olX0 ac (upd F 1 (nI (s.1 + 1))) T) (pc := 42) Xc (dT hX0_run 24 rfl) hP8.o (Nat.le_of_ble_eq_true rfl) rfl ?_
    refine Ev.gen (fun z => PX0 z ac (upd F 1 (nI (s.1 + 1))) T (upA A 1 (upd (A 1) s.1 2))) (hP8.wf1 (x := nI (s.1 + 1))) Off.set (fun σ10 hP11 ho12 => ?_)
    have hAX13 : AX σ10 ac 0 u w (rbS s 2) := AX.body 2 hP11 (by omega) hF2 hF3 hF4 hA
    have hr_ : (rbS s 2).1 = s.1 + 1 := rfl
    refine e_iload (pc := 45) Xc (dT hX0_run 25 rfl) 0 rfl ?_
    refine e_lookup (x := 2) (off := 73) (tgt := 120) (pc := 47) Xc (dT hX0_run 26 rfl) (by decide) (by decide) rfl ?_
    refine e_aload_n (pc := 120) Xc (dT hX0_run 27 rfl) 2 rfl ?_
    refine e_iconst (v := 0) (pc := 121) Xc (dT hX0_run 28 rfl) rfl ?_
    refine e_aload_n (pc := 122) Xc (dT hX0_run 29 rfl) 2 rfl ?_
    refine gf_X0_22 (pc := 123) Xc (dT hX0_run 30 rfl) hP11.o rfl ?_
    refine e_val (y := F 3) rfl ?_
    refine e_val (y := 0) hF3 ?_
    refine e_iload_n (pc := 126) Xc (dT hX0_run 31 rfl) 5 rfl ?_
    refine e_iload (pc := 127) Xc (dT hX0_run 32 rfl) 1 rfl ?_
    refine cl_X0_28 (pc := 129) (k := 0) (n := 0) (S := []) Xc (c0_rd hAX13 (hSA.off (ho9.tr ho12) hna hno) hna hno (by decide) (by omega) x (dd + 1) (by omega)) (dT hX0_run 33 rfl) rfl (Nat.le_of_ble_eq_true rfl) (Nat.le_of_ble_eq_true rfl) (Nat.le_of_ble_eq_true rfl) rfl (Nat.le_of_ble_eq_true rfl) (fun r14 σ15 hq16 => ?_)
    obtain ⟨r14e, hAX17, ho18⟩ := hq16
    have r14e := r14e.symm; subst r14e
    obtain ⟨F19, T19, A19, hP19, hF119, hF219, hF319, hF419, hA19⟩ := id hAX17
    have hb19_ := rdA_n (k := (nI 0)) (u := u) (s := (rbS s 2)) (x := x)
    refine e_aload_n (pc := 132) Xc (dT hX0_run 34 rfl) 2 rfl ?_
    refine gf_X0_25 (pc := 133) Xc (dT hX0_run 35 rfl) hP19.o rfl ?_
    refine e_val (y := w) hF419 ?_
    refine e_isub (pc := 136) Xc (dT hX0_run 36 rfl) ?_
    refine e_iret (pc := 137) Xc hQ (dT hX0_run 37 rfl) (Nat.le_refl _) (Nat.le_refl _) ?_
    rw [brA_k0]
    exact ⟨rfl, hAX17, ((ho9.tr ho12).tr ho18)⟩
  · skip
    exact absurd c4 (by omega)
set_option maxRecDepth 100000 in
set_option maxHeartbeats 4000000 in
theorem c0_brk1 {G : xG} {σ : xS} {ac : Nat} {u w : Int32} {s : actS} (hAX : AX σ ac 1 u w s) (hSA : PSA G σ) (hna : gA G ≠ ac) (hno : gO G ≠ ac) (hs : s.1 ≤ 16) (x : Int32) (dd : Nat) (hdd : dd ≤ 17) : CI G yX0_run cX0_run 7 (some .int) 5 0 0 [.ref ac, .int 1, .int 1, .int x, .int (nI dd)] σ (fun z σ1 => z = (brA (nI 1) u w s x).1 ∧ AX σ1 ac 1 u w (brA (nI 1) u w s x).2 ∧ Off ac σ σ1) := by
  refine Met.ofX (by decide +kernel) (Nat.le_of_ble_eq_true rfl) (fun μ Xc hQ hnm => ?_)
  have Xc : xC G μ cX0_run 7 RX0 (some .int) 5 0 0 := Xc
  obtain ⟨F, T, A, hP, hF1, hF2, hF3, hF4, hA⟩ := id hAX
  show Ev G μ 7 0 0 0 [(0, .ref ac), (1, .int 1), (2, .int 1), (3, .int x), (4, .int (nI dd))] [] σ
  refine e_iload (pc := 0) Xc (dT hX0_run 0 rfl) 4 rfl ?_
  refine e_bipush (v := 20) (pc := 2) Xc (dT hX0_run 1 rfl) rfl ?_
  refine e_icmp_leN (x := dd) (y := 20) (tgt := 9) (pc := 4) Xc (dT hX0_run 2 rfl) rfl (by omega) (by omega) (fun c4 => ?_) (fun c4 => ?_)
  · skip
    refine e_iload (pc := 9) Xc (dT hX0_run 5 rfl) 4 rfl ?_
    refine e_iconst (v := 1) (pc := 11) Xc (dT hX0_run 6 rfl) rfl ?_
    refine e_iaddN (a := dd) (b := 1) (pc := 12) Xc (dT hX0_run 7 rfl) ?_
    refine e_istore (L' := [(5, .int (nI (dd + 1))), (0, .ref ac), (1, .int 1), (2, .int 1), (3, .int x), (4, .int (nI dd))]) (pc := 13) Xc (dT hX0_run 8 rfl) (by decide) rfl ?_
    refine e_iload_n (pc := 15) Xc (dT hX0_run 9 rfl) 2 rfl ?_
    refine e_iload_n (pc := 16) Xc (dT hX0_run 10 rfl) 3 rfl ?_
    refine cl_X0_32 (pc := 17) (k := 0) (n := 0) (S := []) Xc (c0_b11 hSA) (dT hX0_run 11 rfl) rfl (Nat.le_of_ble_eq_true rfl) (Nat.le_of_ble_eq_true rfl) (Nat.le_of_ble_eq_true rfl) rfl (Nat.le_of_ble_eq_true rfl) (fun r1 σ2 hq3 => ?_)
    obtain ⟨r1e, r1s⟩ := hq3
    have r1e := r1e.symm; subst r1e; have r1s := r1s.symm; subst r1s
    refine e_istore (L' := [(6, .int 2), (5, .int (nI (dd + 1))), (0, .ref ac), (1, .int 1), (2, .int 1), (3, .int x), (4, .int (nI dd))]) (pc := 20) Xc (dT hX0_run 12 rfl) (by decide) rfl ?_
    refine e_aload_n (pc := 22) Xc (dT hX0_run 13 rfl) 2 rfl ?_
    refine gf_X0_9 (pc := 23) Xc (dT hX0_run 14 rfl) hP.o rfl ?_
    refine e_aload_n (pc := 26) Xc (dT hX0_run 15 rfl) 2 rfl ?_
    refine gf_X0_15 (pc := 27) Xc (dT hX0_run 16 rfl) hP.o rfl ?_
    refine e_val (y := nI s.1) hF1 ?_
    refine e_iload (pc := 30) Xc (dT hX0_run 17 rfl) 0 rfl ?_
    refine cl_X0_36 (pc := 32) (k := 0) (n := 0) (S := []) Xc (c_put hP.a1 (by decide) s.1 (by omega) 2) (dT hX0_run 18 rfl) rfl (Nat.le_of_ble_eq_true rfl) (Nat.le_of_ble_eq_true rfl) (Nat.le_of_ble_eq_true rfl) rfl (Nat.le_of_ble_eq_true rfl) (fun σ5 hq6 => ?_)
    subst hq6
    refine Ev.gen (fun z => PX0 z ac F T (upA A 1 (upd (A 1) s.1 2))) (hP.wa1 (g := (upd (A 1) s.1 2))) Off.set (fun σ7 hP8 ho9 => ?_)
    refine e_aload_n (pc := 35) Xc (dT hX0_run 19 rfl) 2 rfl ?_
    refine e_dup (pc := 36) Xc (dT hX0_run 20 rfl) rfl ?_
    refine gf_X0_15 (pc := 37) Xc (dT hX0_run 21 rfl) hP8.o rfl ?_
    refine e_val (y := nI s.1) hF1 ?_
    refine e_iconst (v := 1) (pc := 40) Xc (dT hX0_run 22 rfl) rfl ?_
    refine e_iaddN (a := s.1) (b := 1) (pc := 41) Xc (dT hX0_run 23 rfl) ?_
    refine pf_X0_15 (fs' := olX0 ac (upd F 1 (nI (s.1 + 1))) T) (pc := 42) Xc (dT hX0_run 24 rfl) hP8.o (Nat.le_of_ble_eq_true rfl) rfl ?_
    refine Ev.gen (fun z => PX0 z ac (upd F 1 (nI (s.1 + 1))) T (upA A 1 (upd (A 1) s.1 2))) (hP8.wf1 (x := nI (s.1 + 1))) Off.set (fun σ10 hP11 ho12 => ?_)
    have hAX13 : AX σ10 ac 1 u w (rbS s 2) := AX.body 2 hP11 (by omega) hF2 hF3 hF4 hA
    have hr_ : (rbS s 2).1 = s.1 + 1 := rfl
    refine e_iload (pc := 45) Xc (dT hX0_run 25 rfl) 0 rfl ?_
    refine e_lookup (x := 2) (off := 73) (tgt := 120) (pc := 47) Xc (dT hX0_run 26 rfl) (by decide) (by decide) rfl ?_
    refine e_aload_n (pc := 120) Xc (dT hX0_run 27 rfl) 2 rfl ?_
    refine e_iconst (v := 0) (pc := 121) Xc (dT hX0_run 28 rfl) rfl ?_
    refine e_aload_n (pc := 122) Xc (dT hX0_run 29 rfl) 2 rfl ?_
    refine gf_X0_22 (pc := 123) Xc (dT hX0_run 30 rfl) hP11.o rfl ?_
    refine e_val (y := F 3) rfl ?_
    refine e_val (y := 1) hF3 ?_
    refine e_iload_n (pc := 126) Xc (dT hX0_run 31 rfl) 5 rfl ?_
    refine e_iload (pc := 127) Xc (dT hX0_run 32 rfl) 1 rfl ?_
    refine cl_X0_28 (pc := 129) (k := 0) (n := 0) (S := []) Xc (c0_rd hAX13 (hSA.off (ho9.tr ho12) hna hno) hna hno (by decide) (by omega) x (dd + 1) (by omega)) (dT hX0_run 33 rfl) rfl (Nat.le_of_ble_eq_true rfl) (Nat.le_of_ble_eq_true rfl) (Nat.le_of_ble_eq_true rfl) rfl (Nat.le_of_ble_eq_true rfl) (fun r14 σ15 hq16 => ?_)
    obtain ⟨r14e, hAX17, ho18⟩ := hq16
    have r14e := r14e.symm; subst r14e
    obtain ⟨F19, T19, A19, hP19, hF119, hF219, hF319, hF419, hA19⟩ := id hAX17
    have hb19_ := rdA_n (k := (nI 1)) (u := u) (s := (rbS s 2)) (x := x)
    refine e_aload_n (pc := 132) Xc (dT hX0_run 34 rfl) 2 rfl ?_
    refine gf_X0_25 (pc := 133) Xc (dT hX0_run 35 rfl) hP19.o rfl ?_
    refine e_val (y := w) hF419 ?_
    refine e_isub (pc := 136) Xc (dT hX0_run 36 rfl) ?_
    refine e_iret (pc := 137) Xc hQ (dT hX0_run 37 rfl) (Nat.le_refl _) (Nat.le_refl _) ?_
    rw [brA_k1]
    exact ⟨rfl, hAX17, ((ho9.tr ho12).tr ho18)⟩
  · skip
    exact absurd c4 (by omega)
set_option maxRecDepth 100000 in
set_option maxHeartbeats 4000000 in
theorem c0_brk2 {G : xG} {σ : xS} {ac : Nat} {u w : Int32} {s : actS} (hAX : AX σ ac 2 u w s) (hSA : PSA G σ) (hna : gA G ≠ ac) (hno : gO G ≠ ac) (hs : s.1 ≤ 16) (x : Int32) (dd : Nat) (hdd : dd ≤ 17) : CI G yX0_run cX0_run 7 (some .int) 5 0 0 [.ref ac, .int 1, .int 2, .int x, .int (nI dd)] σ (fun z σ1 => z = (brA (nI 2) u w s x).1 ∧ AX σ1 ac 2 u w (brA (nI 2) u w s x).2 ∧ Off ac σ σ1) := by
  refine Met.ofX (by decide +kernel) (Nat.le_of_ble_eq_true rfl) (fun μ Xc hQ hnm => ?_)
  have Xc : xC G μ cX0_run 7 RX0 (some .int) 5 0 0 := Xc
  obtain ⟨F, T, A, hP, hF1, hF2, hF3, hF4, hA⟩ := id hAX
  show Ev G μ 7 0 0 0 [(0, .ref ac), (1, .int 1), (2, .int 2), (3, .int x), (4, .int (nI dd))] [] σ
  refine e_iload (pc := 0) Xc (dT hX0_run 0 rfl) 4 rfl ?_
  refine e_bipush (v := 20) (pc := 2) Xc (dT hX0_run 1 rfl) rfl ?_
  refine e_icmp_leN (x := dd) (y := 20) (tgt := 9) (pc := 4) Xc (dT hX0_run 2 rfl) rfl (by omega) (by omega) (fun c4 => ?_) (fun c4 => ?_)
  · skip
    refine e_iload (pc := 9) Xc (dT hX0_run 5 rfl) 4 rfl ?_
    refine e_iconst (v := 1) (pc := 11) Xc (dT hX0_run 6 rfl) rfl ?_
    refine e_iaddN (a := dd) (b := 1) (pc := 12) Xc (dT hX0_run 7 rfl) ?_
    refine e_istore (L' := [(5, .int (nI (dd + 1))), (0, .ref ac), (1, .int 1), (2, .int 2), (3, .int x), (4, .int (nI dd))]) (pc := 13) Xc (dT hX0_run 8 rfl) (by decide) rfl ?_
    refine e_iload_n (pc := 15) Xc (dT hX0_run 9 rfl) 2 rfl ?_
    refine e_iload_n (pc := 16) Xc (dT hX0_run 10 rfl) 3 rfl ?_
    refine cl_X0_32 (pc := 17) (k := 0) (n := 0) (S := []) Xc (c0_b12 hSA) (dT hX0_run 11 rfl) rfl (Nat.le_of_ble_eq_true rfl) (Nat.le_of_ble_eq_true rfl) (Nat.le_of_ble_eq_true rfl) rfl (Nat.le_of_ble_eq_true rfl) (fun r1 σ2 hq3 => ?_)
    obtain ⟨r1e, r1s⟩ := hq3
    have r1e := r1e.symm; subst r1e; have r1s := r1s.symm; subst r1s
    refine e_istore (L' := [(6, .int 21), (5, .int (nI (dd + 1))), (0, .ref ac), (1, .int 1), (2, .int 2), (3, .int x), (4, .int (nI dd))]) (pc := 20) Xc (dT hX0_run 12 rfl) (by decide) rfl ?_
    refine e_aload_n (pc := 22) Xc (dT hX0_run 13 rfl) 2 rfl ?_
    refine gf_X0_9 (pc := 23) Xc (dT hX0_run 14 rfl) hP.o rfl ?_
    refine e_aload_n (pc := 26) Xc (dT hX0_run 15 rfl) 2 rfl ?_
    refine gf_X0_15 (pc := 27) Xc (dT hX0_run 16 rfl) hP.o rfl ?_
    refine e_val (y := nI s.1) hF1 ?_
    refine e_iload (pc := 30) Xc (dT hX0_run 17 rfl) 0 rfl ?_
    refine cl_X0_36 (pc := 32) (k := 0) (n := 0) (S := []) Xc (c_put hP.a1 (by decide) s.1 (by omega) 21) (dT hX0_run 18 rfl) rfl (Nat.le_of_ble_eq_true rfl) (Nat.le_of_ble_eq_true rfl) (Nat.le_of_ble_eq_true rfl) rfl (Nat.le_of_ble_eq_true rfl) (fun σ5 hq6 => ?_)
    subst hq6
    refine Ev.gen (fun z => PX0 z ac F T (upA A 1 (upd (A 1) s.1 21))) (hP.wa1 (g := (upd (A 1) s.1 21))) Off.set (fun σ7 hP8 ho9 => ?_)
    refine e_aload_n (pc := 35) Xc (dT hX0_run 19 rfl) 2 rfl ?_
    refine e_dup (pc := 36) Xc (dT hX0_run 20 rfl) rfl ?_
    refine gf_X0_15 (pc := 37) Xc (dT hX0_run 21 rfl) hP8.o rfl ?_
    refine e_val (y := nI s.1) hF1 ?_
    refine e_iconst (v := 1) (pc := 40) Xc (dT hX0_run 22 rfl) rfl ?_
    refine e_iaddN (a := s.1) (b := 1) (pc := 41) Xc (dT hX0_run 23 rfl) ?_
    refine pf_X0_15 (fs' := olX0 ac (upd F 1 (nI (s.1 + 1))) T) (pc := 42) Xc (dT hX0_run 24 rfl) hP8.o (Nat.le_of_ble_eq_true rfl) rfl ?_
    refine Ev.gen (fun z => PX0 z ac (upd F 1 (nI (s.1 + 1))) T (upA A 1 (upd (A 1) s.1 21))) (hP8.wf1 (x := nI (s.1 + 1))) Off.set (fun σ10 hP11 ho12 => ?_)
    have hAX13 : AX σ10 ac 2 u w (rbS s 21) := AX.body 21 hP11 (by omega) hF2 hF3 hF4 hA
    have hr_ : (rbS s 21).1 = s.1 + 1 := rfl
    refine e_iload (pc := 45) Xc (dT hX0_run 25 rfl) 0 rfl ?_
    refine e_lookup (x := 21) (off := 118) (tgt := 165) (pc := 47) Xc (dT hX0_run 26 rfl) (by decide) (by decide) rfl ?_
    refine e_aload_n (pc := 165) Xc (dT hX0_run 57 rfl) 2 rfl ?_
    refine e_iconst (v := 1) (pc := 166) Xc (dT hX0_run 58 rfl) rfl ?_
    refine e_iconst (v := 0) (pc := 167) Xc (dT hX0_run 59 rfl) rfl ?_
    refine e_iload_n (pc := 168) Xc (dT hX0_run 60 rfl) 5 rfl ?_
    refine e_iload (pc := 169) Xc (dT hX0_run 61 rfl) 1 rfl ?_
    refine cl_X0_28 (pc := 171) (k := 0) (n := 0) (S := []) Xc (c0_br0 hAX13 (hSA.off (ho9.tr ho12) hna hno) hna hno (by decide) (by omega) x (dd + 1) (by omega)) (dT hX0_run 62 rfl) rfl (Nat.le_of_ble_eq_true rfl) (Nat.le_of_ble_eq_true rfl) (Nat.le_of_ble_eq_true rfl) rfl (Nat.le_of_ble_eq_true rfl) (fun r14 σ15 hq16 => ?_)
    obtain ⟨r14e, hAX17, ho18⟩ := hq16
    have r14e := r14e.symm; subst r14e
    obtain ⟨F19, T19, A19, hP19, hF119, hF219, hF319, hF419, hA19⟩ := id hAX17
    have hb19_ := plB_n (k := (nI 2)) (u := u) (w := w) (s := (rbS s 21)) (x := x)
    refine e_ineg (pc := 174) Xc (dT hX0_run 63 rfl) ?_
    refine e_iret (pc := 175) Xc hQ (dT hX0_run 64 rfl) (Nat.le_refl _) (Nat.le_refl _) ?_
    rw [brA_k2]
    exact ⟨rfl, hAX17, ((ho9.tr ho12).tr ho18)⟩
  · skip
    exact absurd c4 (by omega)
set_option maxRecDepth 100000 in
set_option maxHeartbeats 4000000 in
theorem c0_brk3 {G : xG} {σ : xS} {ac : Nat} {u w : Int32} {s : actS} (hAX : AX σ ac 3 u w s) (hSA : PSA G σ) (hna : gA G ≠ ac) (hno : gO G ≠ ac) (hs : s.1 ≤ 16) (x : Int32) (dd : Nat) (hdd : dd ≤ 17) : CI G yX0_run cX0_run 7 (some .int) 5 0 0 [.ref ac, .int 1, .int 3, .int x, .int (nI dd)] σ (fun z σ1 => z = (brA (nI 3) u w s x).1 ∧ AX σ1 ac 3 u w (brA (nI 3) u w s x).2 ∧ Off ac σ σ1) := by
  refine Met.ofX (by decide +kernel) (Nat.le_of_ble_eq_true rfl) (fun μ Xc hQ hnm => ?_)
  have Xc : xC G μ cX0_run 7 RX0 (some .int) 5 0 0 := Xc
  obtain ⟨F, T, A, hP, hF1, hF2, hF3, hF4, hA⟩ := id hAX
  show Ev G μ 7 0 0 0 [(0, .ref ac), (1, .int 1), (2, .int 3), (3, .int x), (4, .int (nI dd))] [] σ
  refine e_iload (pc := 0) Xc (dT hX0_run 0 rfl) 4 rfl ?_
  refine e_bipush (v := 20) (pc := 2) Xc (dT hX0_run 1 rfl) rfl ?_
  refine e_icmp_leN (x := dd) (y := 20) (tgt := 9) (pc := 4) Xc (dT hX0_run 2 rfl) rfl (by omega) (by omega) (fun c4 => ?_) (fun c4 => ?_)
  · skip
    refine e_iload (pc := 9) Xc (dT hX0_run 5 rfl) 4 rfl ?_
    refine e_iconst (v := 1) (pc := 11) Xc (dT hX0_run 6 rfl) rfl ?_
    refine e_iaddN (a := dd) (b := 1) (pc := 12) Xc (dT hX0_run 7 rfl) ?_
    refine e_istore (L' := [(5, .int (nI (dd + 1))), (0, .ref ac), (1, .int 1), (2, .int 3), (3, .int x), (4, .int (nI dd))]) (pc := 13) Xc (dT hX0_run 8 rfl) (by decide) rfl ?_
    refine e_iload_n (pc := 15) Xc (dT hX0_run 9 rfl) 2 rfl ?_
    refine e_iload_n (pc := 16) Xc (dT hX0_run 10 rfl) 3 rfl ?_
    refine cl_X0_32 (pc := 17) (k := 0) (n := 0) (S := []) Xc (c0_b13 hSA) (dT hX0_run 11 rfl) rfl (Nat.le_of_ble_eq_true rfl) (Nat.le_of_ble_eq_true rfl) (Nat.le_of_ble_eq_true rfl) rfl (Nat.le_of_ble_eq_true rfl) (fun r1 σ2 hq3 => ?_)
    obtain ⟨r1e, r1s⟩ := hq3
    have r1e := r1e.symm; subst r1e; have r1s := r1s.symm; subst r1s
    refine e_istore (L' := [(6, .int 2), (5, .int (nI (dd + 1))), (0, .ref ac), (1, .int 1), (2, .int 3), (3, .int x), (4, .int (nI dd))]) (pc := 20) Xc (dT hX0_run 12 rfl) (by decide) rfl ?_
    refine e_aload_n (pc := 22) Xc (dT hX0_run 13 rfl) 2 rfl ?_
    refine gf_X0_9 (pc := 23) Xc (dT hX0_run 14 rfl) hP.o rfl ?_
    refine e_aload_n (pc := 26) Xc (dT hX0_run 15 rfl) 2 rfl ?_
    refine gf_X0_15 (pc := 27) Xc (dT hX0_run 16 rfl) hP.o rfl ?_
    refine e_val (y := nI s.1) hF1 ?_
    refine e_iload (pc := 30) Xc (dT hX0_run 17 rfl) 0 rfl ?_
    refine cl_X0_36 (pc := 32) (k := 0) (n := 0) (S := []) Xc (c_put hP.a1 (by decide) s.1 (by omega) 2) (dT hX0_run 18 rfl) rfl (Nat.le_of_ble_eq_true rfl) (Nat.le_of_ble_eq_true rfl) (Nat.le_of_ble_eq_true rfl) rfl (Nat.le_of_ble_eq_true rfl) (fun σ5 hq6 => ?_)
    subst hq6
    refine Ev.gen (fun z => PX0 z ac F T (upA A 1 (upd (A 1) s.1 2))) (hP.wa1 (g := (upd (A 1) s.1 2))) Off.set (fun σ7 hP8 ho9 => ?_)
    refine e_aload_n (pc := 35) Xc (dT hX0_run 19 rfl) 2 rfl ?_
    refine e_dup (pc := 36) Xc (dT hX0_run 20 rfl) rfl ?_
    refine gf_X0_15 (pc := 37) Xc (dT hX0_run 21 rfl) hP8.o rfl ?_
    refine e_val (y := nI s.1) hF1 ?_
    refine e_iconst (v := 1) (pc := 40) Xc (dT hX0_run 22 rfl) rfl ?_
    refine e_iaddN (a := s.1) (b := 1) (pc := 41) Xc (dT hX0_run 23 rfl) ?_
    refine pf_X0_15 (fs' := olX0 ac (upd F 1 (nI (s.1 + 1))) T) (pc := 42) Xc (dT hX0_run 24 rfl) hP8.o (Nat.le_of_ble_eq_true rfl) rfl ?_
    refine Ev.gen (fun z => PX0 z ac (upd F 1 (nI (s.1 + 1))) T (upA A 1 (upd (A 1) s.1 2))) (hP8.wf1 (x := nI (s.1 + 1))) Off.set (fun σ10 hP11 ho12 => ?_)
    have hAX13 : AX σ10 ac 3 u w (rbS s 2) := AX.body 2 hP11 (by omega) hF2 hF3 hF4 hA
    have hr_ : (rbS s 2).1 = s.1 + 1 := rfl
    refine e_iload (pc := 45) Xc (dT hX0_run 25 rfl) 0 rfl ?_
    refine e_lookup (x := 2) (off := 73) (tgt := 120) (pc := 47) Xc (dT hX0_run 26 rfl) (by decide) (by decide) rfl ?_
    refine e_aload_n (pc := 120) Xc (dT hX0_run 27 rfl) 2 rfl ?_
    refine e_iconst (v := 0) (pc := 121) Xc (dT hX0_run 28 rfl) rfl ?_
    refine e_aload_n (pc := 122) Xc (dT hX0_run 29 rfl) 2 rfl ?_
    refine gf_X0_22 (pc := 123) Xc (dT hX0_run 30 rfl) hP11.o rfl ?_
    refine e_val (y := F 3) rfl ?_
    refine e_val (y := 3) hF3 ?_
    refine e_iload_n (pc := 126) Xc (dT hX0_run 31 rfl) 5 rfl ?_
    refine e_iload (pc := 127) Xc (dT hX0_run 32 rfl) 1 rfl ?_
    refine cl_X0_28 (pc := 129) (k := 0) (n := 0) (S := []) Xc (c0_rd hAX13 (hSA.off (ho9.tr ho12) hna hno) hna hno (by decide) (by omega) x (dd + 1) (by omega)) (dT hX0_run 33 rfl) rfl (Nat.le_of_ble_eq_true rfl) (Nat.le_of_ble_eq_true rfl) (Nat.le_of_ble_eq_true rfl) rfl (Nat.le_of_ble_eq_true rfl) (fun r14 σ15 hq16 => ?_)
    obtain ⟨r14e, hAX17, ho18⟩ := hq16
    have r14e := r14e.symm; subst r14e
    obtain ⟨F19, T19, A19, hP19, hF119, hF219, hF319, hF419, hA19⟩ := id hAX17
    have hb19_ := rdA_n (k := (nI 3)) (u := u) (s := (rbS s 2)) (x := x)
    refine e_aload_n (pc := 132) Xc (dT hX0_run 34 rfl) 2 rfl ?_
    refine gf_X0_25 (pc := 133) Xc (dT hX0_run 35 rfl) hP19.o rfl ?_
    refine e_val (y := w) hF419 ?_
    refine e_isub (pc := 136) Xc (dT hX0_run 36 rfl) ?_
    refine e_iret (pc := 137) Xc hQ (dT hX0_run 37 rfl) (Nat.le_refl _) (Nat.le_refl _) ?_
    rw [brA_k3]
    exact ⟨rfl, hAX17, ((ho9.tr ho12).tr ho18)⟩
  · skip
    exact absurd c4 (by omega)
set_option maxRecDepth 100000 in
set_option maxHeartbeats 4000000 in
theorem c0_brk4 {G : xG} {σ : xS} {ac : Nat} {u w : Int32} {s : actS} (hAX : AX σ ac 4 u w s) (hSA : PSA G σ) (hna : gA G ≠ ac) (hno : gO G ≠ ac) (hs : s.1 ≤ 16) (x : Int32) (dd : Nat) (hdd : dd ≤ 17) : CI G yX0_run cX0_run 7 (some .int) 5 0 0 [.ref ac, .int 1, .int 4, .int x, .int (nI dd)] σ (fun z σ1 => z = (brA (nI 4) u w s x).1 ∧ AX σ1 ac 4 u w (brA (nI 4) u w s x).2 ∧ Off ac σ σ1) := by
  refine Met.ofX (by decide +kernel) (Nat.le_of_ble_eq_true rfl) (fun μ Xc hQ hnm => ?_)
  have Xc : xC G μ cX0_run 7 RX0 (some .int) 5 0 0 := Xc
  obtain ⟨F, T, A, hP, hF1, hF2, hF3, hF4, hA⟩ := id hAX
  show Ev G μ 7 0 0 0 [(0, .ref ac), (1, .int 1), (2, .int 4), (3, .int x), (4, .int (nI dd))] [] σ
  refine e_iload (pc := 0) Xc (dT hX0_run 0 rfl) 4 rfl ?_
  refine e_bipush (v := 20) (pc := 2) Xc (dT hX0_run 1 rfl) rfl ?_
  refine e_icmp_leN (x := dd) (y := 20) (tgt := 9) (pc := 4) Xc (dT hX0_run 2 rfl) rfl (by omega) (by omega) (fun c4 => ?_) (fun c4 => ?_)
  · skip
    refine e_iload (pc := 9) Xc (dT hX0_run 5 rfl) 4 rfl ?_
    refine e_iconst (v := 1) (pc := 11) Xc (dT hX0_run 6 rfl) rfl ?_
    refine e_iaddN (a := dd) (b := 1) (pc := 12) Xc (dT hX0_run 7 rfl) ?_
    refine e_istore (L' := [(5, .int (nI (dd + 1))), (0, .ref ac), (1, .int 1), (2, .int 4), (3, .int x), (4, .int (nI dd))]) (pc := 13) Xc (dT hX0_run 8 rfl) (by decide) rfl ?_
    refine e_iload_n (pc := 15) Xc (dT hX0_run 9 rfl) 2 rfl ?_
    refine e_iload_n (pc := 16) Xc (dT hX0_run 10 rfl) 3 rfl ?_
    refine cl_X0_32 (pc := 17) (k := 0) (n := 0) (S := []) Xc (c0_b14 hSA) (dT hX0_run 11 rfl) rfl (Nat.le_of_ble_eq_true rfl) (Nat.le_of_ble_eq_true rfl) (Nat.le_of_ble_eq_true rfl) rfl (Nat.le_of_ble_eq_true rfl) (fun r1 σ2 hq3 => ?_)
    obtain ⟨r1e, r1s⟩ := hq3
    have r1e := r1e.symm; subst r1e; have r1s := r1s.symm; subst r1s
    refine e_istore (L' := [(6, .int 2), (5, .int (nI (dd + 1))), (0, .ref ac), (1, .int 1), (2, .int 4), (3, .int x), (4, .int (nI dd))]) (pc := 20) Xc (dT hX0_run 12 rfl) (by decide) rfl ?_
    refine e_aload_n (pc := 22) Xc (dT hX0_run 13 rfl) 2 rfl ?_
    refine gf_X0_9 (pc := 23) Xc (dT hX0_run 14 rfl) hP.o rfl ?_
    refine e_aload_n (pc := 26) Xc (dT hX0_run 15 rfl) 2 rfl ?_
    refine gf_X0_15 (pc := 27) Xc (dT hX0_run 16 rfl) hP.o rfl ?_
    refine e_val (y := nI s.1) hF1 ?_
    refine e_iload (pc := 30) Xc (dT hX0_run 17 rfl) 0 rfl ?_
    refine cl_X0_36 (pc := 32) (k := 0) (n := 0) (S := []) Xc (c_put hP.a1 (by decide) s.1 (by omega) 2) (dT hX0_run 18 rfl) rfl (Nat.le_of_ble_eq_true rfl) (Nat.le_of_ble_eq_true rfl) (Nat.le_of_ble_eq_true rfl) rfl (Nat.le_of_ble_eq_true rfl) (fun σ5 hq6 => ?_)
    subst hq6
    refine Ev.gen (fun z => PX0 z ac F T (upA A 1 (upd (A 1) s.1 2))) (hP.wa1 (g := (upd (A 1) s.1 2))) Off.set (fun σ7 hP8 ho9 => ?_)
    refine e_aload_n (pc := 35) Xc (dT hX0_run 19 rfl) 2 rfl ?_
    refine e_dup (pc := 36) Xc (dT hX0_run 20 rfl) rfl ?_
    refine gf_X0_15 (pc := 37) Xc (dT hX0_run 21 rfl) hP8.o rfl ?_
    refine e_val (y := nI s.1) hF1 ?_
    refine e_iconst (v := 1) (pc := 40) Xc (dT hX0_run 22 rfl) rfl ?_
    refine e_iaddN (a := s.1) (b := 1) (pc := 41) Xc (dT hX0_run 23 rfl) ?_
    refine pf_X0_15 (fs' := olX0 ac (upd F 1 (nI (s.1 + 1))) T) (pc := 42) Xc (dT hX0_run 24 rfl) hP8.o (Nat.le_of_ble_eq_true rfl) rfl ?_
    refine Ev.gen (fun z => PX0 z ac (upd F 1 (nI (s.1 + 1))) T (upA A 1 (upd (A 1) s.1 2))) (hP8.wf1 (x := nI (s.1 + 1))) Off.set (fun σ10 hP11 ho12 => ?_)
    have hAX13 : AX σ10 ac 4 u w (rbS s 2) := AX.body 2 hP11 (by omega) hF2 hF3 hF4 hA
    have hr_ : (rbS s 2).1 = s.1 + 1 := rfl
    refine e_iload (pc := 45) Xc (dT hX0_run 25 rfl) 0 rfl ?_
    refine e_lookup (x := 2) (off := 73) (tgt := 120) (pc := 47) Xc (dT hX0_run 26 rfl) (by decide) (by decide) rfl ?_
    refine e_aload_n (pc := 120) Xc (dT hX0_run 27 rfl) 2 rfl ?_
    refine e_iconst (v := 0) (pc := 121) Xc (dT hX0_run 28 rfl) rfl ?_
    refine e_aload_n (pc := 122) Xc (dT hX0_run 29 rfl) 2 rfl ?_
    refine gf_X0_22 (pc := 123) Xc (dT hX0_run 30 rfl) hP11.o rfl ?_
    refine e_val (y := F 3) rfl ?_
    refine e_val (y := 4) hF3 ?_
    refine e_iload_n (pc := 126) Xc (dT hX0_run 31 rfl) 5 rfl ?_
    refine e_iload (pc := 127) Xc (dT hX0_run 32 rfl) 1 rfl ?_
    refine cl_X0_28 (pc := 129) (k := 0) (n := 0) (S := []) Xc (c0_rd hAX13 (hSA.off (ho9.tr ho12) hna hno) hna hno (by decide) (by omega) x (dd + 1) (by omega)) (dT hX0_run 33 rfl) rfl (Nat.le_of_ble_eq_true rfl) (Nat.le_of_ble_eq_true rfl) (Nat.le_of_ble_eq_true rfl) rfl (Nat.le_of_ble_eq_true rfl) (fun r14 σ15 hq16 => ?_)
    obtain ⟨r14e, hAX17, ho18⟩ := hq16
    have r14e := r14e.symm; subst r14e
    obtain ⟨F19, T19, A19, hP19, hF119, hF219, hF319, hF419, hA19⟩ := id hAX17
    have hb19_ := rdA_n (k := (nI 4)) (u := u) (s := (rbS s 2)) (x := x)
    refine e_aload_n (pc := 132) Xc (dT hX0_run 34 rfl) 2 rfl ?_
    refine gf_X0_25 (pc := 133) Xc (dT hX0_run 35 rfl) hP19.o rfl ?_
    refine e_val (y := w) hF419 ?_
    refine e_isub (pc := 136) Xc (dT hX0_run 36 rfl) ?_
    refine e_iret (pc := 137) Xc hQ (dT hX0_run 37 rfl) (Nat.le_refl _) (Nat.le_refl _) ?_
    rw [brA_k4]
    exact ⟨rfl, hAX17, ((ho9.tr ho12).tr ho18)⟩
  · skip
    exact absurd c4 (by omega)
set_option maxRecDepth 100000 in
set_option maxHeartbeats 4000000 in
theorem c0_brk5 {G : xG} {σ : xS} {ac : Nat} {u w : Int32} {s : actS} (hAX : AX σ ac 5 u w s) (hSA : PSA G σ) (hna : gA G ≠ ac) (hno : gO G ≠ ac) (hs : s.1 ≤ 16) (x : Int32) (dd : Nat) (hdd : dd ≤ 17) : CI G yX0_run cX0_run 7 (some .int) 5 0 0 [.ref ac, .int 1, .int 5, .int x, .int (nI dd)] σ (fun z σ1 => z = (brA (nI 5) u w s x).1 ∧ AX σ1 ac 5 u w (brA (nI 5) u w s x).2 ∧ Off ac σ σ1) := by
  refine Met.ofX (by decide +kernel) (Nat.le_of_ble_eq_true rfl) (fun μ Xc hQ hnm => ?_)
  have Xc : xC G μ cX0_run 7 RX0 (some .int) 5 0 0 := Xc
  obtain ⟨F, T, A, hP, hF1, hF2, hF3, hF4, hA⟩ := id hAX
  show Ev G μ 7 0 0 0 [(0, .ref ac), (1, .int 1), (2, .int 5), (3, .int x), (4, .int (nI dd))] [] σ
  refine e_iload (pc := 0) Xc (dT hX0_run 0 rfl) 4 rfl ?_
  refine e_bipush (v := 20) (pc := 2) Xc (dT hX0_run 1 rfl) rfl ?_
  refine e_icmp_leN (x := dd) (y := 20) (tgt := 9) (pc := 4) Xc (dT hX0_run 2 rfl) rfl (by omega) (by omega) (fun c4 => ?_) (fun c4 => ?_)
  · skip
    refine e_iload (pc := 9) Xc (dT hX0_run 5 rfl) 4 rfl ?_
    refine e_iconst (v := 1) (pc := 11) Xc (dT hX0_run 6 rfl) rfl ?_
    refine e_iaddN (a := dd) (b := 1) (pc := 12) Xc (dT hX0_run 7 rfl) ?_
    refine e_istore (L' := [(5, .int (nI (dd + 1))), (0, .ref ac), (1, .int 1), (2, .int 5), (3, .int x), (4, .int (nI dd))]) (pc := 13) Xc (dT hX0_run 8 rfl) (by decide) rfl ?_
    refine e_iload_n (pc := 15) Xc (dT hX0_run 9 rfl) 2 rfl ?_
    refine e_iload_n (pc := 16) Xc (dT hX0_run 10 rfl) 3 rfl ?_
    refine cl_X0_32 (pc := 17) (k := 0) (n := 0) (S := []) Xc (c0_b15 hSA) (dT hX0_run 11 rfl) rfl (Nat.le_of_ble_eq_true rfl) (Nat.le_of_ble_eq_true rfl) (Nat.le_of_ble_eq_true rfl) rfl (Nat.le_of_ble_eq_true rfl) (fun r1 σ2 hq3 => ?_)
    obtain ⟨r1e, r1s⟩ := hq3
    have r1e := r1e.symm; subst r1e; have r1s := r1s.symm; subst r1s
    refine e_istore (L' := [(6, .int 21), (5, .int (nI (dd + 1))), (0, .ref ac), (1, .int 1), (2, .int 5), (3, .int x), (4, .int (nI dd))]) (pc := 20) Xc (dT hX0_run 12 rfl) (by decide) rfl ?_
    refine e_aload_n (pc := 22) Xc (dT hX0_run 13 rfl) 2 rfl ?_
    refine gf_X0_9 (pc := 23) Xc (dT hX0_run 14 rfl) hP.o rfl ?_
    refine e_aload_n (pc := 26) Xc (dT hX0_run 15 rfl) 2 rfl ?_
    refine gf_X0_15 (pc := 27) Xc (dT hX0_run 16 rfl) hP.o rfl ?_
    refine e_val (y := nI s.1) hF1 ?_
    refine e_iload (pc := 30) Xc (dT hX0_run 17 rfl) 0 rfl ?_
    refine cl_X0_36 (pc := 32) (k := 0) (n := 0) (S := []) Xc (c_put hP.a1 (by decide) s.1 (by omega) 21) (dT hX0_run 18 rfl) rfl (Nat.le_of_ble_eq_true rfl) (Nat.le_of_ble_eq_true rfl) (Nat.le_of_ble_eq_true rfl) rfl (Nat.le_of_ble_eq_true rfl) (fun σ5 hq6 => ?_)
    subst hq6
    refine Ev.gen (fun z => PX0 z ac F T (upA A 1 (upd (A 1) s.1 21))) (hP.wa1 (g := (upd (A 1) s.1 21))) Off.set (fun σ7 hP8 ho9 => ?_)
    refine e_aload_n (pc := 35) Xc (dT hX0_run 19 rfl) 2 rfl ?_
    refine e_dup (pc := 36) Xc (dT hX0_run 20 rfl) rfl ?_
    refine gf_X0_15 (pc := 37) Xc (dT hX0_run 21 rfl) hP8.o rfl ?_
    refine e_val (y := nI s.1) hF1 ?_
    refine e_iconst (v := 1) (pc := 40) Xc (dT hX0_run 22 rfl) rfl ?_
    refine e_iaddN (a := s.1) (b := 1) (pc := 41) Xc (dT hX0_run 23 rfl) ?_
    refine pf_X0_15 (fs' := olX0 ac (upd F 1 (nI (s.1 + 1))) T) (pc := 42) Xc (dT hX0_run 24 rfl) hP8.o (Nat.le_of_ble_eq_true rfl) rfl ?_
    refine Ev.gen (fun z => PX0 z ac (upd F 1 (nI (s.1 + 1))) T (upA A 1 (upd (A 1) s.1 21))) (hP8.wf1 (x := nI (s.1 + 1))) Off.set (fun σ10 hP11 ho12 => ?_)
    have hAX13 : AX σ10 ac 5 u w (rbS s 21) := AX.body 21 hP11 (by omega) hF2 hF3 hF4 hA
    have hr_ : (rbS s 21).1 = s.1 + 1 := rfl
    refine e_iload (pc := 45) Xc (dT hX0_run 25 rfl) 0 rfl ?_
    refine e_lookup (x := 21) (off := 118) (tgt := 165) (pc := 47) Xc (dT hX0_run 26 rfl) (by decide) (by decide) rfl ?_
    refine e_aload_n (pc := 165) Xc (dT hX0_run 57 rfl) 2 rfl ?_
    refine e_iconst (v := 1) (pc := 166) Xc (dT hX0_run 58 rfl) rfl ?_
    refine e_iconst (v := 0) (pc := 167) Xc (dT hX0_run 59 rfl) rfl ?_
    refine e_iload_n (pc := 168) Xc (dT hX0_run 60 rfl) 5 rfl ?_
    refine e_iload (pc := 169) Xc (dT hX0_run 61 rfl) 1 rfl ?_
    refine cl_X0_28 (pc := 171) (k := 0) (n := 0) (S := []) Xc (c0_br0 hAX13 (hSA.off (ho9.tr ho12) hna hno) hna hno (by decide) (by omega) x (dd + 1) (by omega)) (dT hX0_run 62 rfl) rfl (Nat.le_of_ble_eq_true rfl) (Nat.le_of_ble_eq_true rfl) (Nat.le_of_ble_eq_true rfl) rfl (Nat.le_of_ble_eq_true rfl) (fun r14 σ15 hq16 => ?_)
    obtain ⟨r14e, hAX17, ho18⟩ := hq16
    have r14e := r14e.symm; subst r14e
    obtain ⟨F19, T19, A19, hP19, hF119, hF219, hF319, hF419, hA19⟩ := id hAX17
    have hb19_ := plB_n (k := (nI 5)) (u := u) (w := w) (s := (rbS s 21)) (x := x)
    refine e_ineg (pc := 174) Xc (dT hX0_run 63 rfl) ?_
    refine e_iret (pc := 175) Xc hQ (dT hX0_run 64 rfl) (Nat.le_refl _) (Nat.le_refl _) ?_
    rw [brA_k5]
    exact ⟨rfl, hAX17, ((ho9.tr ho12).tr ho18)⟩
  · skip
    exact absurd c4 (by omega)
set_option maxRecDepth 100000 in
set_option maxHeartbeats 4000000 in
theorem c0_brk6 {G : xG} {σ : xS} {ac : Nat} {u w : Int32} {s : actS} (hAX : AX σ ac 6 u w s) (hSA : PSA G σ) (hna : gA G ≠ ac) (hno : gO G ≠ ac) (hs : s.1 ≤ 16) (x : Int32) (dd : Nat) (hdd : dd ≤ 17) : CI G yX0_run cX0_run 7 (some .int) 5 0 0 [.ref ac, .int 1, .int 6, .int x, .int (nI dd)] σ (fun z σ1 => z = (brA (nI 6) u w s x).1 ∧ AX σ1 ac 6 u w (brA (nI 6) u w s x).2 ∧ Off ac σ σ1) := by
  refine Met.ofX (by decide +kernel) (Nat.le_of_ble_eq_true rfl) (fun μ Xc hQ hnm => ?_)
  have Xc : xC G μ cX0_run 7 RX0 (some .int) 5 0 0 := Xc
  obtain ⟨F, T, A, hP, hF1, hF2, hF3, hF4, hA⟩ := id hAX
  show Ev G μ 7 0 0 0 [(0, .ref ac), (1, .int 1), (2, .int 6), (3, .int x), (4, .int (nI dd))] [] σ
  refine e_iload (pc := 0) Xc (dT hX0_run 0 rfl) 4 rfl ?_
  refine e_bipush (v := 20) (pc := 2) Xc (dT hX0_run 1 rfl) rfl ?_
  refine e_icmp_leN (x := dd) (y := 20) (tgt := 9) (pc := 4) Xc (dT hX0_run 2 rfl) rfl (by omega) (by omega) (fun c4 => ?_) (fun c4 => ?_)
  · skip
    refine e_iload (pc := 9) Xc (dT hX0_run 5 rfl) 4 rfl ?_
    refine e_iconst (v := 1) (pc := 11) Xc (dT hX0_run 6 rfl) rfl ?_
    refine e_iaddN (a := dd) (b := 1) (pc := 12) Xc (dT hX0_run 7 rfl) ?_
    refine e_istore (L' := [(5, .int (nI (dd + 1))), (0, .ref ac), (1, .int 1), (2, .int 6), (3, .int x), (4, .int (nI dd))]) (pc := 13) Xc (dT hX0_run 8 rfl) (by decide) rfl ?_
    refine e_iload_n (pc := 15) Xc (dT hX0_run 9 rfl) 2 rfl ?_
    refine e_iload_n (pc := 16) Xc (dT hX0_run 10 rfl) 3 rfl ?_
    refine cl_X0_32 (pc := 17) (k := 0) (n := 0) (S := []) Xc (c0_b16 hSA) (dT hX0_run 11 rfl) rfl (Nat.le_of_ble_eq_true rfl) (Nat.le_of_ble_eq_true rfl) (Nat.le_of_ble_eq_true rfl) rfl (Nat.le_of_ble_eq_true rfl) (fun r1 σ2 hq3 => ?_)
    obtain ⟨r1e, r1s⟩ := hq3
    have r1e := r1e.symm; subst r1e; have r1s := r1s.symm; subst r1s
    refine e_istore (L' := [(6, .int 61), (5, .int (nI (dd + 1))), (0, .ref ac), (1, .int 1), (2, .int 6), (3, .int x), (4, .int (nI dd))]) (pc := 20) Xc (dT hX0_run 12 rfl) (by decide) rfl ?_
    refine e_aload_n (pc := 22) Xc (dT hX0_run 13 rfl) 2 rfl ?_
    refine gf_X0_9 (pc := 23) Xc (dT hX0_run 14 rfl) hP.o rfl ?_
    refine e_aload_n (pc := 26) Xc (dT hX0_run 15 rfl) 2 rfl ?_
    refine gf_X0_15 (pc := 27) Xc (dT hX0_run 16 rfl) hP.o rfl ?_
    refine e_val (y := nI s.1) hF1 ?_
    refine e_iload (pc := 30) Xc (dT hX0_run 17 rfl) 0 rfl ?_
    refine cl_X0_36 (pc := 32) (k := 0) (n := 0) (S := []) Xc (c_put hP.a1 (by decide) s.1 (by omega) 61) (dT hX0_run 18 rfl) rfl (Nat.le_of_ble_eq_true rfl) (Nat.le_of_ble_eq_true rfl) (Nat.le_of_ble_eq_true rfl) rfl (Nat.le_of_ble_eq_true rfl) (fun σ5 hq6 => ?_)
    subst hq6
    refine Ev.gen (fun z => PX0 z ac F T (upA A 1 (upd (A 1) s.1 61))) (hP.wa1 (g := (upd (A 1) s.1 61))) Off.set (fun σ7 hP8 ho9 => ?_)
    refine e_aload_n (pc := 35) Xc (dT hX0_run 19 rfl) 2 rfl ?_
    refine e_dup (pc := 36) Xc (dT hX0_run 20 rfl) rfl ?_
    refine gf_X0_15 (pc := 37) Xc (dT hX0_run 21 rfl) hP8.o rfl ?_
    refine e_val (y := nI s.1) hF1 ?_
    refine e_iconst (v := 1) (pc := 40) Xc (dT hX0_run 22 rfl) rfl ?_
    refine e_iaddN (a := s.1) (b := 1) (pc := 41) Xc (dT hX0_run 23 rfl) ?_
    refine pf_X0_15 (fs' := olX0 ac (upd F 1 (nI (s.1 + 1))) T) (pc := 42) Xc (dT hX0_run 24 rfl) hP8.o (Nat.le_of_ble_eq_true rfl) rfl ?_
    refine Ev.gen (fun z => PX0 z ac (upd F 1 (nI (s.1 + 1))) T (upA A 1 (upd (A 1) s.1 61))) (hP8.wf1 (x := nI (s.1 + 1))) Off.set (fun σ10 hP11 ho12 => ?_)
    have hAX13 : AX σ10 ac 6 u w (rbS s 61) := AX.body 61 hP11 (by omega) hF2 hF3 hF4 hA
    have hr_ : (rbS s 61).1 = s.1 + 1 := rfl
    refine e_iload (pc := 45) Xc (dT hX0_run 25 rfl) 0 rfl ?_
    refine e_lookup (x := 61) (off := 182) (tgt := 229) (pc := 47) Xc (dT hX0_run 26 rfl) (by decide) (by decide) rfl ?_
    refine e_aload_n (pc := 229) Xc (dT hX0_run 101 rfl) 2 rfl ?_
    refine e_iconst (v := 1) (pc := 230) Xc (dT hX0_run 102 rfl) rfl ?_
    refine e_iconst (v := 3) (pc := 231) Xc (dT hX0_run 103 rfl) rfl ?_
    refine e_iload_n (pc := 232) Xc (dT hX0_run 104 rfl) 5 rfl ?_
    refine e_iload (pc := 233) Xc (dT hX0_run 105 rfl) 1 rfl ?_
    refine cl_X0_28 (pc := 235) (k := 0) (n := 0) (S := []) Xc (c0_br3 hAX13 (hSA.off (ho9.tr ho12) hna hno) hna hno (by decide) (by omega) x (dd + 1) (by omega)) (dT hX0_run 106 rfl) rfl (Nat.le_of_ble_eq_true rfl) (Nat.le_of_ble_eq_true rfl) (Nat.le_of_ble_eq_true rfl) rfl (Nat.le_of_ble_eq_true rfl) (fun r14 σ15 hq16 => ?_)
    obtain ⟨r14e, hAX17, ho18⟩ := hq16
    have r14e := r14e.symm; subst r14e
    obtain ⟨F19, T19, A19, hP19, hF119, hF219, hF319, hF419, hA19⟩ := id hAX17
    have hb19_ := plB_n (k := (nI 6)) (u := u) (w := w) (s := (rbS s 61)) (x := x)
    refine e_aload_n (pc := 238) Xc (dT hX0_run 107 rfl) 2 rfl ?_
    refine gf_X0_25 (pc := 239) Xc (dT hX0_run 108 rfl) hP19.o rfl ?_
    refine e_val (y := w) hF419 ?_
    refine e_iadd (pc := 242) Xc (dT hX0_run 109 rfl) ?_
    refine e_iret (pc := 243) Xc hQ (dT hX0_run 110 rfl) (Nat.le_refl _) (Nat.le_refl _) ?_
    rw [brA_k6]
    exact ⟨rfl, hAX17, ((ho9.tr ho12).tr ho18)⟩
  · skip
    exact absurd c4 (by omega)
theorem c0_br {G : xG} {σ : xS} {ac k : Nat} {u w : Int32} {s : actS} (hAX : AX σ ac k u w s) (hSA : PSA G σ) (hna : gA G ≠ ac) (hno : gO G ≠ ac) (hk6 : k ≤ 6) (hs : s.1 ≤ 16) (x : Int32) (dd : Nat) (hdd : dd ≤ 17) : CI G yX0_run cX0_run 7 (some .int) 5 0 0 [.ref ac, .int 1, .int (nI k), .int x, .int (nI dd)] σ (fun z σ1 => z = (brA (nI k) u w s x).1 ∧ AX σ1 ac k u w (brA (nI k) u w s x).2 ∧ Off ac σ σ1) := by
  have hc_ : k = 0 ∨ k = 1 ∨ k = 2 ∨ k = 3 ∨ k = 4 ∨ k = 5 ∨ k = 6 := by omega
  rcases hc_ with rfl | rfl | rfl | rfl | rfl | rfl | rfl
  · exact c0_brk0 hAX hSA hna hno hs x dd hdd
  · exact c0_brk1 hAX hSA hna hno hs x dd hdd
  · exact c0_brk2 hAX hSA hna hno hs x dd hdd
  · exact c0_brk3 hAX hSA hna hno hs x dd hdd
  · exact c0_brk4 hAX hSA hna hno hs x dd hdd
  · exact c0_brk5 hAX hSA hna hno hs x dd hdd
  · exact c0_brk6 hAX hSA hna hno hs x dd hdd
set_option maxRecDepth 100000 in
set_option maxHeartbeats 4000000 in
theorem c0_te0 {G : xG} {σ : xS} {ac k : Nat} {u w : Int32} {s : actS} (hAX : AX σ ac k u w s) (hSA : PSA G σ) (hna : gA G ≠ ac) (hno : gO G ≠ ac) (hk6 : k ≤ 6) (hs : s.1 ≤ 15) (x : Int32) (dd : Nat) (hdd : dd ≤ 16) : CI G yX0_run cX0_run 7 (some .int) 6 0 0 [.ref ac, .int 2, .int 0, .int x, .int (nI dd)] σ (fun z σ1 => z = (plTe (nI k) u w s x).1 ∧ AX σ1 ac k u w (plTe (nI k) u w s x).2 ∧ Off ac σ σ1) := by
  refine Met.ofX (by decide +kernel) (Nat.le_of_ble_eq_true rfl) (fun μ Xc hQ hnm => ?_)
  have Xc : xC G μ cX0_run 7 RX0 (some .int) 6 0 0 := Xc
  obtain ⟨F, T, A, hP, hF1, hF2, hF3, hF4, hA⟩ := id hAX
  show Ev G μ 7 0 0 0 [(0, .ref ac), (1, .int 2), (2, .int 0), (3, .int x), (4, .int (nI dd))] [] σ
  refine e_iload (pc := 0) Xc (dT hX0_run 0 rfl) 4 rfl ?_
  refine e_bipush (v := 20) (pc := 2) Xc (dT hX0_run 1 rfl) rfl ?_
  refine e_icmp_leN (x := dd) (y := 20) (tgt := 9) (pc := 4) Xc (dT hX0_run 2 rfl) rfl (by omega) (by omega) (fun c4 => ?_) (fun c4 => ?_)
  · skip
    refine e_iload (pc := 9) Xc (dT hX0_run 5 rfl) 4 rfl ?_
    refine e_iconst (v := 1) (pc := 11) Xc (dT hX0_run 6 rfl) rfl ?_
    refine e_iaddN (a := dd) (b := 1) (pc := 12) Xc (dT hX0_run 7 rfl) ?_
    refine e_istore (L' := [(5, .int (nI (dd + 1))), (0, .ref ac), (1, .int 2), (2, .int 0), (3, .int x), (4, .int (nI dd))]) (pc := 13) Xc (dT hX0_run 8 rfl) (by decide) rfl ?_
    refine e_iload_n (pc := 15) Xc (dT hX0_run 9 rfl) 2 rfl ?_
    refine e_iload_n (pc := 16) Xc (dT hX0_run 10 rfl) 3 rfl ?_
    refine cl_X0_32 (pc := 17) (k := 0) (n := 0) (S := []) Xc (c0_b20 hSA) (dT hX0_run 11 rfl) rfl (Nat.le_of_ble_eq_true rfl) (Nat.le_of_ble_eq_true rfl) (Nat.le_of_ble_eq_true rfl) rfl (Nat.le_of_ble_eq_true rfl) (fun r1 σ2 hq3 => ?_)
    obtain ⟨r1e, r1s⟩ := hq3
    have r1e := r1e.symm; subst r1e; have r1s := r1s.symm; subst r1s
    refine e_istore (L' := [(6, .int 3), (5, .int (nI (dd + 1))), (0, .ref ac), (1, .int 2), (2, .int 0), (3, .int x), (4, .int (nI dd))]) (pc := 20) Xc (dT hX0_run 12 rfl) (by decide) rfl ?_
    refine e_aload_n (pc := 22) Xc (dT hX0_run 13 rfl) 2 rfl ?_
    refine gf_X0_9 (pc := 23) Xc (dT hX0_run 14 rfl) hP.o rfl ?_
    refine e_aload_n (pc := 26) Xc (dT hX0_run 15 rfl) 2 rfl ?_
    refine gf_X0_15 (pc := 27) Xc (dT hX0_run 16 rfl) hP.o rfl ?_
    refine e_val (y := nI s.1) hF1 ?_
    refine e_iload (pc := 30) Xc (dT hX0_run 17 rfl) 0 rfl ?_
    refine cl_X0_36 (pc := 32) (k := 0) (n := 0) (S := []) Xc (c_put hP.a1 (by decide) s.1 (by omega) 3) (dT hX0_run 18 rfl) rfl (Nat.le_of_ble_eq_true rfl) (Nat.le_of_ble_eq_true rfl) (Nat.le_of_ble_eq_true rfl) rfl (Nat.le_of_ble_eq_true rfl) (fun σ5 hq6 => ?_)
    subst hq6
    refine Ev.gen (fun z => PX0 z ac F T (upA A 1 (upd (A 1) s.1 3))) (hP.wa1 (g := (upd (A 1) s.1 3))) Off.set (fun σ7 hP8 ho9 => ?_)
    refine e_aload_n (pc := 35) Xc (dT hX0_run 19 rfl) 2 rfl ?_
    refine e_dup (pc := 36) Xc (dT hX0_run 20 rfl) rfl ?_
    refine gf_X0_15 (pc := 37) Xc (dT hX0_run 21 rfl) hP8.o rfl ?_
    refine e_val (y := nI s.1) hF1 ?_
    refine e_iconst (v := 1) (pc := 40) Xc (dT hX0_run 22 rfl) rfl ?_
    refine e_iaddN (a := s.1) (b := 1) (pc := 41) Xc (dT hX0_run 23 rfl) ?_
    refine pf_X0_15 (fs' := olX0 ac (upd F 1 (nI (s.1 + 1))) T) (pc := 42) Xc (dT hX0_run 24 rfl) hP8.o (Nat.le_of_ble_eq_true rfl) rfl ?_
    refine Ev.gen (fun z => PX0 z ac (upd F 1 (nI (s.1 + 1))) T (upA A 1 (upd (A 1) s.1 3))) (hP8.wf1 (x := nI (s.1 + 1))) Off.set (fun σ10 hP11 ho12 => ?_)
    have hAX13 : AX σ10 ac k u w (rbS s 3) := AX.body 3 hP11 (by omega) hF2 hF3 hF4 hA
    have hr_ : (rbS s 3).1 = s.1 + 1 := rfl
    refine e_iload (pc := 45) Xc (dT hX0_run 25 rfl) 0 rfl ?_
    refine e_lookup (x := 3) (off := 91) (tgt := 138) (pc := 47) Xc (dT hX0_run 26 rfl) (by decide) (by decide) rfl ?_
    refine e_aload_n (pc := 138) Xc (dT hX0_run 38 rfl) 2 rfl ?_
    refine e_iconst (v := 1) (pc := 139) Xc (dT hX0_run 39 rfl) rfl ?_
    refine e_aload_n (pc := 140) Xc (dT hX0_run 40 rfl) 2 rfl ?_
    refine gf_X0_22 (pc := 141) Xc (dT hX0_run 41 rfl) hP11.o rfl ?_
    refine e_val (y := F 3) rfl ?_
    refine e_val (y := nI k) hF3 ?_
    refine e_iload_n (pc := 144) Xc (dT hX0_run 42 rfl) 5 rfl ?_
    refine e_iload (pc := 145) Xc (dT hX0_run 43 rfl) 1 rfl ?_
    refine cl_X0_28 (pc := 147) (k := 0) (n := 0) (S := []) Xc (c0_br hAX13 (hSA.off (ho9.tr ho12) hna hno) hna hno hk6 (by omega) x (dd + 1) (by omega)) (dT hX0_run 44 rfl) rfl (Nat.le_of_ble_eq_true rfl) (Nat.le_of_ble_eq_true rfl) (Nat.le_of_ble_eq_true rfl) rfl (Nat.le_of_ble_eq_true rfl) (fun r14 σ15 hq16 => ?_)
    obtain ⟨r14e, hAX17, ho18⟩ := hq16
    have r14e := r14e.symm; subst r14e
    obtain ⟨F19, T19, A19, hP19, hF119, hF219, hF319, hF419, hA19⟩ := id hAX17
    have hb19_ := brA_n (k := (nI k)) (u := u) (w := w) (s := (rbS s 3)) (x := x)
    refine e_iconst (v := 2) (pc := 150) Xc (dT hX0_run 45 rfl) rfl ?_
    refine e_imul (pc := 151) Xc (dT hX0_run 46 rfl) ?_
    refine e_iret (pc := 152) Xc hQ (dT hX0_run 47 rfl) (Nat.le_refl _) (Nat.le_refl _) ?_
    exact ⟨rfl, hAX17, ((ho9.tr ho12).tr ho18)⟩
  · skip
    exact absurd c4 (by omega)
set_option maxRecDepth 100000 in
set_option maxHeartbeats 4000000 in
theorem c0_te1 {G : xG} {σ : xS} {ac k : Nat} {u w : Int32} {s : actS} (hAX : AX σ ac k u w s) (hSA : PSA G σ) (hna : gA G ≠ ac) (hno : gO G ≠ ac) (hk6 : k ≤ 6) (hs : s.1 ≤ 15) (x : Int32) (dd : Nat) (hdd : dd ≤ 16) : CI G yX0_run cX0_run 7 (some .int) 6 0 0 [.ref ac, .int 2, .int 1, .int x, .int (nI dd)] σ (fun z σ1 => z = (plTe (nI k) u w s x).1 ∧ AX σ1 ac k u w (plTe (nI k) u w s x).2 ∧ Off ac σ σ1) := by
  refine Met.ofX (by decide +kernel) (Nat.le_of_ble_eq_true rfl) (fun μ Xc hQ hnm => ?_)
  have Xc : xC G μ cX0_run 7 RX0 (some .int) 6 0 0 := Xc
  obtain ⟨F, T, A, hP, hF1, hF2, hF3, hF4, hA⟩ := id hAX
  show Ev G μ 7 0 0 0 [(0, .ref ac), (1, .int 2), (2, .int 1), (3, .int x), (4, .int (nI dd))] [] σ
  refine e_iload (pc := 0) Xc (dT hX0_run 0 rfl) 4 rfl ?_
  refine e_bipush (v := 20) (pc := 2) Xc (dT hX0_run 1 rfl) rfl ?_
  refine e_icmp_leN (x := dd) (y := 20) (tgt := 9) (pc := 4) Xc (dT hX0_run 2 rfl) rfl (by omega) (by omega) (fun c4 => ?_) (fun c4 => ?_)
  · skip
    refine e_iload (pc := 9) Xc (dT hX0_run 5 rfl) 4 rfl ?_
    refine e_iconst (v := 1) (pc := 11) Xc (dT hX0_run 6 rfl) rfl ?_
    refine e_iaddN (a := dd) (b := 1) (pc := 12) Xc (dT hX0_run 7 rfl) ?_
    refine e_istore (L' := [(5, .int (nI (dd + 1))), (0, .ref ac), (1, .int 2), (2, .int 1), (3, .int x), (4, .int (nI dd))]) (pc := 13) Xc (dT hX0_run 8 rfl) (by decide) rfl ?_
    refine e_iload_n (pc := 15) Xc (dT hX0_run 9 rfl) 2 rfl ?_
    refine e_iload_n (pc := 16) Xc (dT hX0_run 10 rfl) 3 rfl ?_
    refine cl_X0_32 (pc := 17) (k := 0) (n := 0) (S := []) Xc (c0_b21 hSA) (dT hX0_run 11 rfl) rfl (Nat.le_of_ble_eq_true rfl) (Nat.le_of_ble_eq_true rfl) (Nat.le_of_ble_eq_true rfl) rfl (Nat.le_of_ble_eq_true rfl) (fun r1 σ2 hq3 => ?_)
    obtain ⟨r1e, r1s⟩ := hq3
    have r1e := r1e.symm; subst r1e; have r1s := r1s.symm; subst r1s
    refine e_istore (L' := [(6, .int 3), (5, .int (nI (dd + 1))), (0, .ref ac), (1, .int 2), (2, .int 1), (3, .int x), (4, .int (nI dd))]) (pc := 20) Xc (dT hX0_run 12 rfl) (by decide) rfl ?_
    refine e_aload_n (pc := 22) Xc (dT hX0_run 13 rfl) 2 rfl ?_
    refine gf_X0_9 (pc := 23) Xc (dT hX0_run 14 rfl) hP.o rfl ?_
    refine e_aload_n (pc := 26) Xc (dT hX0_run 15 rfl) 2 rfl ?_
    refine gf_X0_15 (pc := 27) Xc (dT hX0_run 16 rfl) hP.o rfl ?_
    refine e_val (y := nI s.1) hF1 ?_
    refine e_iload (pc := 30) Xc (dT hX0_run 17 rfl) 0 rfl ?_
    refine cl_X0_36 (pc := 32) (k := 0) (n := 0) (S := []) Xc (c_put hP.a1 (by decide) s.1 (by omega) 3) (dT hX0_run 18 rfl) rfl (Nat.le_of_ble_eq_true rfl) (Nat.le_of_ble_eq_true rfl) (Nat.le_of_ble_eq_true rfl) rfl (Nat.le_of_ble_eq_true rfl) (fun σ5 hq6 => ?_)
    subst hq6
    refine Ev.gen (fun z => PX0 z ac F T (upA A 1 (upd (A 1) s.1 3))) (hP.wa1 (g := (upd (A 1) s.1 3))) Off.set (fun σ7 hP8 ho9 => ?_)
    refine e_aload_n (pc := 35) Xc (dT hX0_run 19 rfl) 2 rfl ?_
    refine e_dup (pc := 36) Xc (dT hX0_run 20 rfl) rfl ?_
    refine gf_X0_15 (pc := 37) Xc (dT hX0_run 21 rfl) hP8.o rfl ?_
    refine e_val (y := nI s.1) hF1 ?_
    refine e_iconst (v := 1) (pc := 40) Xc (dT hX0_run 22 rfl) rfl ?_
    refine e_iaddN (a := s.1) (b := 1) (pc := 41) Xc (dT hX0_run 23 rfl) ?_
    refine pf_X0_15 (fs' := olX0 ac (upd F 1 (nI (s.1 + 1))) T) (pc := 42) Xc (dT hX0_run 24 rfl) hP8.o (Nat.le_of_ble_eq_true rfl) rfl ?_
    refine Ev.gen (fun z => PX0 z ac (upd F 1 (nI (s.1 + 1))) T (upA A 1 (upd (A 1) s.1 3))) (hP8.wf1 (x := nI (s.1 + 1))) Off.set (fun σ10 hP11 ho12 => ?_)
    have hAX13 : AX σ10 ac k u w (rbS s 3) := AX.body 3 hP11 (by omega) hF2 hF3 hF4 hA
    have hr_ : (rbS s 3).1 = s.1 + 1 := rfl
    refine e_iload (pc := 45) Xc (dT hX0_run 25 rfl) 0 rfl ?_
    refine e_lookup (x := 3) (off := 91) (tgt := 138) (pc := 47) Xc (dT hX0_run 26 rfl) (by decide) (by decide) rfl ?_
    refine e_aload_n (pc := 138) Xc (dT hX0_run 38 rfl) 2 rfl ?_
    refine e_iconst (v := 1) (pc := 139) Xc (dT hX0_run 39 rfl) rfl ?_
    refine e_aload_n (pc := 140) Xc (dT hX0_run 40 rfl) 2 rfl ?_
    refine gf_X0_22 (pc := 141) Xc (dT hX0_run 41 rfl) hP11.o rfl ?_
    refine e_val (y := F 3) rfl ?_
    refine e_val (y := nI k) hF3 ?_
    refine e_iload_n (pc := 144) Xc (dT hX0_run 42 rfl) 5 rfl ?_
    refine e_iload (pc := 145) Xc (dT hX0_run 43 rfl) 1 rfl ?_
    refine cl_X0_28 (pc := 147) (k := 0) (n := 0) (S := []) Xc (c0_br hAX13 (hSA.off (ho9.tr ho12) hna hno) hna hno hk6 (by omega) x (dd + 1) (by omega)) (dT hX0_run 44 rfl) rfl (Nat.le_of_ble_eq_true rfl) (Nat.le_of_ble_eq_true rfl) (Nat.le_of_ble_eq_true rfl) rfl (Nat.le_of_ble_eq_true rfl) (fun r14 σ15 hq16 => ?_)
    obtain ⟨r14e, hAX17, ho18⟩ := hq16
    have r14e := r14e.symm; subst r14e
    obtain ⟨F19, T19, A19, hP19, hF119, hF219, hF319, hF419, hA19⟩ := id hAX17
    have hb19_ := brA_n (k := (nI k)) (u := u) (w := w) (s := (rbS s 3)) (x := x)
    refine e_iconst (v := 2) (pc := 150) Xc (dT hX0_run 45 rfl) rfl ?_
    refine e_imul (pc := 151) Xc (dT hX0_run 46 rfl) ?_
    refine e_iret (pc := 152) Xc hQ (dT hX0_run 47 rfl) (Nat.le_refl _) (Nat.le_refl _) ?_
    exact ⟨rfl, hAX17, ((ho9.tr ho12).tr ho18)⟩
  · skip
    exact absurd c4 (by omega)
set_option maxRecDepth 100000 in
set_option maxHeartbeats 4000000 in
theorem c0_tek0 {G : xG} {σ : xS} {ac : Nat} {u w : Int32} {s : actS} (hAX : AX σ ac 0 u w s) (hSA : PSA G σ) (hna : gA G ≠ ac) (hno : gO G ≠ ac) (hs : s.1 ≤ 12) (x : Int32) (dd : Nat) (hdd : dd ≤ 15) : CI G yX0_run cX0_run 7 (some .int) 7 0 0 [.ref ac, .int 2, .int 0, .int x, .int (nI dd)] σ (fun z σ1 => z = (teA (nI 0) u w s x).1 ∧ AX σ1 ac 0 u w (teA (nI 0) u w s x).2 ∧ Off ac σ σ1) := by
  refine Met.ofX (by decide +kernel) (Nat.le_of_ble_eq_true rfl) (fun μ Xc hQ hnm => ?_)
  have Xc : xC G μ cX0_run 7 RX0 (some .int) 7 0 0 := Xc
  obtain ⟨F, T, A, hP, hF1, hF2, hF3, hF4, hA⟩ := id hAX
  show Ev G μ 7 0 0 0 [(0, .ref ac), (1, .int 2), (2, .int 0), (3, .int x), (4, .int (nI dd))] [] σ
  refine e_iload (pc := 0) Xc (dT hX0_run 0 rfl) 4 rfl ?_
  refine e_bipush (v := 20) (pc := 2) Xc (dT hX0_run 1 rfl) rfl ?_
  refine e_icmp_leN (x := dd) (y := 20) (tgt := 9) (pc := 4) Xc (dT hX0_run 2 rfl) rfl (by omega) (by omega) (fun c4 => ?_) (fun c4 => ?_)
  · skip
    refine e_iload (pc := 9) Xc (dT hX0_run 5 rfl) 4 rfl ?_
    refine e_iconst (v := 1) (pc := 11) Xc (dT hX0_run 6 rfl) rfl ?_
    refine e_iaddN (a := dd) (b := 1) (pc := 12) Xc (dT hX0_run 7 rfl) ?_
    refine e_istore (L' := [(5, .int (nI (dd + 1))), (0, .ref ac), (1, .int 2), (2, .int 0), (3, .int x), (4, .int (nI dd))]) (pc := 13) Xc (dT hX0_run 8 rfl) (by decide) rfl ?_
    refine e_iload_n (pc := 15) Xc (dT hX0_run 9 rfl) 2 rfl ?_
    refine e_iload_n (pc := 16) Xc (dT hX0_run 10 rfl) 3 rfl ?_
    refine cl_X0_32 (pc := 17) (k := 0) (n := 0) (S := []) Xc (c0_b20 hSA) (dT hX0_run 11 rfl) rfl (Nat.le_of_ble_eq_true rfl) (Nat.le_of_ble_eq_true rfl) (Nat.le_of_ble_eq_true rfl) rfl (Nat.le_of_ble_eq_true rfl) (fun r1 σ2 hq3 => ?_)
    obtain ⟨r1e, r1s⟩ := hq3
    have r1e := r1e.symm; subst r1e; have r1s := r1s.symm; subst r1s
    refine e_istore (L' := [(6, .int 3), (5, .int (nI (dd + 1))), (0, .ref ac), (1, .int 2), (2, .int 0), (3, .int x), (4, .int (nI dd))]) (pc := 20) Xc (dT hX0_run 12 rfl) (by decide) rfl ?_
    refine e_aload_n (pc := 22) Xc (dT hX0_run 13 rfl) 2 rfl ?_
    refine gf_X0_9 (pc := 23) Xc (dT hX0_run 14 rfl) hP.o rfl ?_
    refine e_aload_n (pc := 26) Xc (dT hX0_run 15 rfl) 2 rfl ?_
    refine gf_X0_15 (pc := 27) Xc (dT hX0_run 16 rfl) hP.o rfl ?_
    refine e_val (y := nI s.1) hF1 ?_
    refine e_iload (pc := 30) Xc (dT hX0_run 17 rfl) 0 rfl ?_
    refine cl_X0_36 (pc := 32) (k := 0) (n := 0) (S := []) Xc (c_put hP.a1 (by decide) s.1 (by omega) 3) (dT hX0_run 18 rfl) rfl (Nat.le_of_ble_eq_true rfl) (Nat.le_of_ble_eq_true rfl) (Nat.le_of_ble_eq_true rfl) rfl (Nat.le_of_ble_eq_true rfl) (fun σ5 hq6 => ?_)
    subst hq6
    refine Ev.gen (fun z => PX0 z ac F T (upA A 1 (upd (A 1) s.1 3))) (hP.wa1 (g := (upd (A 1) s.1 3))) Off.set (fun σ7 hP8 ho9 => ?_)
    refine e_aload_n (pc := 35) Xc (dT hX0_run 19 rfl) 2 rfl ?_
    refine e_dup (pc := 36) Xc (dT hX0_run 20 rfl) rfl ?_
    refine gf_X0_15 (pc := 37) Xc (dT hX0_run 21 rfl) hP8.o rfl ?_
    refine e_val (y := nI s.1) hF1 ?_
    refine e_iconst (v := 1) (pc := 40) Xc (dT hX0_run 22 rfl) rfl ?_
    refine e_iaddN (a := s.1) (b := 1) (pc := 41) Xc (dT hX0_run 23 rfl) ?_
    refine pf_X0_15 (fs' := olX0 ac (upd F 1 (nI (s.1 + 1))) T) (pc := 42) Xc (dT hX0_run 24 rfl) hP8.o (Nat.le_of_ble_eq_true rfl) rfl ?_
    refine Ev.gen (fun z => PX0 z ac (upd F 1 (nI (s.1 + 1))) T (upA A 1 (upd (A 1) s.1 3))) (hP8.wf1 (x := nI (s.1 + 1))) Off.set (fun σ10 hP11 ho12 => ?_)
    have hAX13 : AX σ10 ac 0 u w (rbS s 3) := AX.body 3 hP11 (by omega) hF2 hF3 hF4 hA
    have hr_ : (rbS s 3).1 = s.1 + 1 := rfl
    refine e_iload (pc := 45) Xc (dT hX0_run 25 rfl) 0 rfl ?_
    refine e_lookup (x := 3) (off := 91) (tgt := 138) (pc := 47) Xc (dT hX0_run 26 rfl) (by decide) (by decide) rfl ?_
    refine e_aload_n (pc := 138) Xc (dT hX0_run 38 rfl) 2 rfl ?_
    refine e_iconst (v := 1) (pc := 139) Xc (dT hX0_run 39 rfl) rfl ?_
    refine e_aload_n (pc := 140) Xc (dT hX0_run 40 rfl) 2 rfl ?_
    refine gf_X0_22 (pc := 141) Xc (dT hX0_run 41 rfl) hP11.o rfl ?_
    refine e_val (y := F 3) rfl ?_
    refine e_val (y := 0) hF3 ?_
    refine e_iload_n (pc := 144) Xc (dT hX0_run 42 rfl) 5 rfl ?_
    refine e_iload (pc := 145) Xc (dT hX0_run 43 rfl) 1 rfl ?_
    refine cl_X0_28 (pc := 147) (k := 0) (n := 0) (S := []) Xc (c0_br hAX13 (hSA.off (ho9.tr ho12) hna hno) hna hno (by decide) (by omega) x (dd + 1) (by omega)) (dT hX0_run 44 rfl) rfl (Nat.le_of_ble_eq_true rfl) (Nat.le_of_ble_eq_true rfl) (Nat.le_of_ble_eq_true rfl) rfl (Nat.le_of_ble_eq_true rfl) (fun r14 σ15 hq16 => ?_)
    obtain ⟨r14e, hAX17, ho18⟩ := hq16
    have r14e := r14e.symm; subst r14e
    obtain ⟨F19, T19, A19, hP19, hF119, hF219, hF319, hF419, hA19⟩ := id hAX17
    have hb19_ := brA_n (k := (nI 0)) (u := u) (w := w) (s := (rbS s 3)) (x := x)
    refine e_iconst (v := 2) (pc := 150) Xc (dT hX0_run 45 rfl) rfl ?_
    refine e_imul (pc := 151) Xc (dT hX0_run 46 rfl) ?_
    refine e_iret (pc := 152) Xc hQ (dT hX0_run 47 rfl) (Nat.le_refl _) (Nat.le_refl _) ?_
    rw [teA_k0]
    exact ⟨rfl, hAX17, ((ho9.tr ho12).tr ho18)⟩
  · skip
    exact absurd c4 (by omega)
set_option maxRecDepth 100000 in
set_option maxHeartbeats 4000000 in
theorem c0_tek1 {G : xG} {σ : xS} {ac : Nat} {u w : Int32} {s : actS} (hAX : AX σ ac 1 u w s) (hSA : PSA G σ) (hna : gA G ≠ ac) (hno : gO G ≠ ac) (hs : s.1 ≤ 12) (x : Int32) (dd : Nat) (hdd : dd ≤ 15) : CI G yX0_run cX0_run 7 (some .int) 7 0 0 [.ref ac, .int 2, .int 1, .int x, .int (nI dd)] σ (fun z σ1 => z = (teA (nI 1) u w s x).1 ∧ AX σ1 ac 1 u w (teA (nI 1) u w s x).2 ∧ Off ac σ σ1) := by
  refine Met.ofX (by decide +kernel) (Nat.le_of_ble_eq_true rfl) (fun μ Xc hQ hnm => ?_)
  have Xc : xC G μ cX0_run 7 RX0 (some .int) 7 0 0 := Xc
  obtain ⟨F, T, A, hP, hF1, hF2, hF3, hF4, hA⟩ := id hAX
  show Ev G μ 7 0 0 0 [(0, .ref ac), (1, .int 2), (2, .int 1), (3, .int x), (4, .int (nI dd))] [] σ
  refine e_iload (pc := 0) Xc (dT hX0_run 0 rfl) 4 rfl ?_
  refine e_bipush (v := 20) (pc := 2) Xc (dT hX0_run 1 rfl) rfl ?_
  refine e_icmp_leN (x := dd) (y := 20) (tgt := 9) (pc := 4) Xc (dT hX0_run 2 rfl) rfl (by omega) (by omega) (fun c4 => ?_) (fun c4 => ?_)
  · skip
    refine e_iload (pc := 9) Xc (dT hX0_run 5 rfl) 4 rfl ?_
    refine e_iconst (v := 1) (pc := 11) Xc (dT hX0_run 6 rfl) rfl ?_
    refine e_iaddN (a := dd) (b := 1) (pc := 12) Xc (dT hX0_run 7 rfl) ?_
    refine e_istore (L' := [(5, .int (nI (dd + 1))), (0, .ref ac), (1, .int 2), (2, .int 1), (3, .int x), (4, .int (nI dd))]) (pc := 13) Xc (dT hX0_run 8 rfl) (by decide) rfl ?_
    refine e_iload_n (pc := 15) Xc (dT hX0_run 9 rfl) 2 rfl ?_
    refine e_iload_n (pc := 16) Xc (dT hX0_run 10 rfl) 3 rfl ?_
    refine cl_X0_32 (pc := 17) (k := 0) (n := 0) (S := []) Xc (c0_b21 hSA) (dT hX0_run 11 rfl) rfl (Nat.le_of_ble_eq_true rfl) (Nat.le_of_ble_eq_true rfl) (Nat.le_of_ble_eq_true rfl) rfl (Nat.le_of_ble_eq_true rfl) (fun r1 σ2 hq3 => ?_)
    obtain ⟨r1e, r1s⟩ := hq3
    have r1e := r1e.symm; subst r1e; have r1s := r1s.symm; subst r1s
    refine e_istore (L' := [(6, .int 3), (5, .int (nI (dd + 1))), (0, .ref ac), (1, .int 2), (2, .int 1), (3, .int x), (4, .int (nI dd))]) (pc := 20) Xc (dT hX0_run 12 rfl) (by decide) rfl ?_
    refine e_aload_n (pc := 22) Xc (dT hX0_run 13 rfl) 2 rfl ?_
    refine gf_X0_9 (pc := 23) Xc (dT hX0_run 14 rfl) hP.o rfl ?_
    refine e_aload_n (pc := 26) Xc (dT hX0_run 15 rfl) 2 rfl ?_
    refine gf_X0_15 (pc := 27) Xc (dT hX0_run 16 rfl) hP.o rfl ?_
    refine e_val (y := nI s.1) hF1 ?_
    refine e_iload (pc := 30) Xc (dT hX0_run 17 rfl) 0 rfl ?_
    refine cl_X0_36 (pc := 32) (k := 0) (n := 0) (S := []) Xc (c_put hP.a1 (by decide) s.1 (by omega) 3) (dT hX0_run 18 rfl) rfl (Nat.le_of_ble_eq_true rfl) (Nat.le_of_ble_eq_true rfl) (Nat.le_of_ble_eq_true rfl) rfl (Nat.le_of_ble_eq_true rfl) (fun σ5 hq6 => ?_)
    subst hq6
    refine Ev.gen (fun z => PX0 z ac F T (upA A 1 (upd (A 1) s.1 3))) (hP.wa1 (g := (upd (A 1) s.1 3))) Off.set (fun σ7 hP8 ho9 => ?_)
    refine e_aload_n (pc := 35) Xc (dT hX0_run 19 rfl) 2 rfl ?_
    refine e_dup (pc := 36) Xc (dT hX0_run 20 rfl) rfl ?_
    refine gf_X0_15 (pc := 37) Xc (dT hX0_run 21 rfl) hP8.o rfl ?_
    refine e_val (y := nI s.1) hF1 ?_
    refine e_iconst (v := 1) (pc := 40) Xc (dT hX0_run 22 rfl) rfl ?_
    refine e_iaddN (a := s.1) (b := 1) (pc := 41) Xc (dT hX0_run 23 rfl) ?_
    refine pf_X0_15 (fs' := olX0 ac (upd F 1 (nI (s.1 + 1))) T) (pc := 42) Xc (dT hX0_run 24 rfl) hP8.o (Nat.le_of_ble_eq_true rfl) rfl ?_
    refine Ev.gen (fun z => PX0 z ac (upd F 1 (nI (s.1 + 1))) T (upA A 1 (upd (A 1) s.1 3))) (hP8.wf1 (x := nI (s.1 + 1))) Off.set (fun σ10 hP11 ho12 => ?_)
    have hAX13 : AX σ10 ac 1 u w (rbS s 3) := AX.body 3 hP11 (by omega) hF2 hF3 hF4 hA
    have hr_ : (rbS s 3).1 = s.1 + 1 := rfl
    refine e_iload (pc := 45) Xc (dT hX0_run 25 rfl) 0 rfl ?_
    refine e_lookup (x := 3) (off := 91) (tgt := 138) (pc := 47) Xc (dT hX0_run 26 rfl) (by decide) (by decide) rfl ?_
    refine e_aload_n (pc := 138) Xc (dT hX0_run 38 rfl) 2 rfl ?_
    refine e_iconst (v := 1) (pc := 139) Xc (dT hX0_run 39 rfl) rfl ?_
    refine e_aload_n (pc := 140) Xc (dT hX0_run 40 rfl) 2 rfl ?_
    refine gf_X0_22 (pc := 141) Xc (dT hX0_run 41 rfl) hP11.o rfl ?_
    refine e_val (y := F 3) rfl ?_
    refine e_val (y := 1) hF3 ?_
    refine e_iload_n (pc := 144) Xc (dT hX0_run 42 rfl) 5 rfl ?_
    refine e_iload (pc := 145) Xc (dT hX0_run 43 rfl) 1 rfl ?_
    refine cl_X0_28 (pc := 147) (k := 0) (n := 0) (S := []) Xc (c0_br hAX13 (hSA.off (ho9.tr ho12) hna hno) hna hno (by decide) (by omega) x (dd + 1) (by omega)) (dT hX0_run 44 rfl) rfl (Nat.le_of_ble_eq_true rfl) (Nat.le_of_ble_eq_true rfl) (Nat.le_of_ble_eq_true rfl) rfl (Nat.le_of_ble_eq_true rfl) (fun r14 σ15 hq16 => ?_)
    obtain ⟨r14e, hAX17, ho18⟩ := hq16
    have r14e := r14e.symm; subst r14e
    obtain ⟨F19, T19, A19, hP19, hF119, hF219, hF319, hF419, hA19⟩ := id hAX17
    have hb19_ := brA_n (k := (nI 1)) (u := u) (w := w) (s := (rbS s 3)) (x := x)
    refine e_iconst (v := 2) (pc := 150) Xc (dT hX0_run 45 rfl) rfl ?_
    refine e_imul (pc := 151) Xc (dT hX0_run 46 rfl) ?_
    refine e_iret (pc := 152) Xc hQ (dT hX0_run 47 rfl) (Nat.le_refl _) (Nat.le_refl _) ?_
    rw [teA_k1]
    exact ⟨rfl, hAX17, ((ho9.tr ho12).tr ho18)⟩
  · skip
    exact absurd c4 (by omega)
set_option maxRecDepth 100000 in
set_option maxHeartbeats 4000000 in
theorem c0_tek2 {G : xG} {σ : xS} {ac : Nat} {u w : Int32} {s : actS} (hAX : AX σ ac 2 u w s) (hSA : PSA G σ) (hna : gA G ≠ ac) (hno : gO G ≠ ac) (hs : s.1 ≤ 12) (x : Int32) (dd : Nat) (hdd : dd ≤ 15) : CI G yX0_run cX0_run 7 (some .int) 7 0 0 [.ref ac, .int 2, .int 2, .int x, .int (nI dd)] σ (fun z σ1 => z = (teA (nI 2) u w s x).1 ∧ AX σ1 ac 2 u w (teA (nI 2) u w s x).2 ∧ Off ac σ σ1) := by
  refine Met.ofX (by decide +kernel) (Nat.le_of_ble_eq_true rfl) (fun μ Xc hQ hnm => ?_)
  have Xc : xC G μ cX0_run 7 RX0 (some .int) 7 0 0 := Xc
  obtain ⟨F, T, A, hP, hF1, hF2, hF3, hF4, hA⟩ := id hAX
  show Ev G μ 7 0 0 0 [(0, .ref ac), (1, .int 2), (2, .int 2), (3, .int x), (4, .int (nI dd))] [] σ
  refine e_iload (pc := 0) Xc (dT hX0_run 0 rfl) 4 rfl ?_
  refine e_bipush (v := 20) (pc := 2) Xc (dT hX0_run 1 rfl) rfl ?_
  refine e_icmp_leN (x := dd) (y := 20) (tgt := 9) (pc := 4) Xc (dT hX0_run 2 rfl) rfl (by omega) (by omega) (fun c4 => ?_) (fun c4 => ?_)
  · skip
    refine e_iload (pc := 9) Xc (dT hX0_run 5 rfl) 4 rfl ?_
    refine e_iconst (v := 1) (pc := 11) Xc (dT hX0_run 6 rfl) rfl ?_
    refine e_iaddN (a := dd) (b := 1) (pc := 12) Xc (dT hX0_run 7 rfl) ?_
    refine e_istore (L' := [(5, .int (nI (dd + 1))), (0, .ref ac), (1, .int 2), (2, .int 2), (3, .int x), (4, .int (nI dd))]) (pc := 13) Xc (dT hX0_run 8 rfl) (by decide) rfl ?_
    refine e_iload_n (pc := 15) Xc (dT hX0_run 9 rfl) 2 rfl ?_
    refine e_iload_n (pc := 16) Xc (dT hX0_run 10 rfl) 3 rfl ?_
    refine cl_X0_32 (pc := 17) (k := 0) (n := 0) (S := []) Xc (c0_b22 hSA) (dT hX0_run 11 rfl) rfl (Nat.le_of_ble_eq_true rfl) (Nat.le_of_ble_eq_true rfl) (Nat.le_of_ble_eq_true rfl) rfl (Nat.le_of_ble_eq_true rfl) (fun r1 σ2 hq3 => ?_)
    obtain ⟨r1e, r1s⟩ := hq3
    have r1e := r1e.symm; subst r1e; have r1s := r1s.symm; subst r1s
    refine e_istore (L' := [(6, .int 3), (5, .int (nI (dd + 1))), (0, .ref ac), (1, .int 2), (2, .int 2), (3, .int x), (4, .int (nI dd))]) (pc := 20) Xc (dT hX0_run 12 rfl) (by decide) rfl ?_
    refine e_aload_n (pc := 22) Xc (dT hX0_run 13 rfl) 2 rfl ?_
    refine gf_X0_9 (pc := 23) Xc (dT hX0_run 14 rfl) hP.o rfl ?_
    refine e_aload_n (pc := 26) Xc (dT hX0_run 15 rfl) 2 rfl ?_
    refine gf_X0_15 (pc := 27) Xc (dT hX0_run 16 rfl) hP.o rfl ?_
    refine e_val (y := nI s.1) hF1 ?_
    refine e_iload (pc := 30) Xc (dT hX0_run 17 rfl) 0 rfl ?_
    refine cl_X0_36 (pc := 32) (k := 0) (n := 0) (S := []) Xc (c_put hP.a1 (by decide) s.1 (by omega) 3) (dT hX0_run 18 rfl) rfl (Nat.le_of_ble_eq_true rfl) (Nat.le_of_ble_eq_true rfl) (Nat.le_of_ble_eq_true rfl) rfl (Nat.le_of_ble_eq_true rfl) (fun σ5 hq6 => ?_)
    subst hq6
    refine Ev.gen (fun z => PX0 z ac F T (upA A 1 (upd (A 1) s.1 3))) (hP.wa1 (g := (upd (A 1) s.1 3))) Off.set (fun σ7 hP8 ho9 => ?_)
    refine e_aload_n (pc := 35) Xc (dT hX0_run 19 rfl) 2 rfl ?_
    refine e_dup (pc := 36) Xc (dT hX0_run 20 rfl) rfl ?_
    refine gf_X0_15 (pc := 37) Xc (dT hX0_run 21 rfl) hP8.o rfl ?_
    refine e_val (y := nI s.1) hF1 ?_
    refine e_iconst (v := 1) (pc := 40) Xc (dT hX0_run 22 rfl) rfl ?_
    refine e_iaddN (a := s.1) (b := 1) (pc := 41) Xc (dT hX0_run 23 rfl) ?_
    refine pf_X0_15 (fs' := olX0 ac (upd F 1 (nI (s.1 + 1))) T) (pc := 42) Xc (dT hX0_run 24 rfl) hP8.o (Nat.le_of_ble_eq_true rfl) rfl ?_
    refine Ev.gen (fun z => PX0 z ac (upd F 1 (nI (s.1 + 1))) T (upA A 1 (upd (A 1) s.1 3))) (hP8.wf1 (x := nI (s.1 + 1))) Off.set (fun σ10 hP11 ho12 => ?_)
    have hAX13 : AX σ10 ac 2 u w (rbS s 3) := AX.body 3 hP11 (by omega) hF2 hF3 hF4 hA
    have hr_ : (rbS s 3).1 = s.1 + 1 := rfl
    refine e_iload (pc := 45) Xc (dT hX0_run 25 rfl) 0 rfl ?_
    refine e_lookup (x := 3) (off := 91) (tgt := 138) (pc := 47) Xc (dT hX0_run 26 rfl) (by decide) (by decide) rfl ?_
    refine e_aload_n (pc := 138) Xc (dT hX0_run 38 rfl) 2 rfl ?_
    refine e_iconst (v := 1) (pc := 139) Xc (dT hX0_run 39 rfl) rfl ?_
    refine e_aload_n (pc := 140) Xc (dT hX0_run 40 rfl) 2 rfl ?_
    refine gf_X0_22 (pc := 141) Xc (dT hX0_run 41 rfl) hP11.o rfl ?_
    refine e_val (y := F 3) rfl ?_
    refine e_val (y := 2) hF3 ?_
    refine e_iload_n (pc := 144) Xc (dT hX0_run 42 rfl) 5 rfl ?_
    refine e_iload (pc := 145) Xc (dT hX0_run 43 rfl) 1 rfl ?_
    refine cl_X0_28 (pc := 147) (k := 0) (n := 0) (S := []) Xc (c0_br hAX13 (hSA.off (ho9.tr ho12) hna hno) hna hno (by decide) (by omega) x (dd + 1) (by omega)) (dT hX0_run 44 rfl) rfl (Nat.le_of_ble_eq_true rfl) (Nat.le_of_ble_eq_true rfl) (Nat.le_of_ble_eq_true rfl) rfl (Nat.le_of_ble_eq_true rfl) (fun r14 σ15 hq16 => ?_)
    obtain ⟨r14e, hAX17, ho18⟩ := hq16
    have r14e := r14e.symm; subst r14e
    obtain ⟨F19, T19, A19, hP19, hF119, hF219, hF319, hF419, hA19⟩ := id hAX17
    have hb19_ := brA_n (k := (nI 2)) (u := u) (w := w) (s := (rbS s 3)) (x := x)
    refine e_iconst (v := 2) (pc := 150) Xc (dT hX0_run 45 rfl) rfl ?_
    refine e_imul (pc := 151) Xc (dT hX0_run 46 rfl) ?_
    refine e_iret (pc := 152) Xc hQ (dT hX0_run 47 rfl) (Nat.le_refl _) (Nat.le_refl _) ?_
    rw [teA_k2]
    exact ⟨rfl, hAX17, ((ho9.tr ho12).tr ho18)⟩
  · skip
    exact absurd c4 (by omega)
set_option maxRecDepth 100000 in
set_option maxHeartbeats 4000000 in
theorem c0_tek3 {G : xG} {σ : xS} {ac : Nat} {u w : Int32} {s : actS} (hAX : AX σ ac 3 u w s) (hSA : PSA G σ) (hna : gA G ≠ ac) (hno : gO G ≠ ac) (hs : s.1 ≤ 12) (x : Int32) (dd : Nat) (hdd : dd ≤ 15) : CI G yX0_run cX0_run 7 (some .int) 7 0 0 [.ref ac, .int 2, .int 3, .int x, .int (nI dd)] σ (fun z σ1 => z = (teA (nI 3) u w s x).1 ∧ AX σ1 ac 3 u w (teA (nI 3) u w s x).2 ∧ Off ac σ σ1) := by
  refine Met.ofX (by decide +kernel) (Nat.le_of_ble_eq_true rfl) (fun μ Xc hQ hnm => ?_)
  have Xc : xC G μ cX0_run 7 RX0 (some .int) 7 0 0 := Xc
  obtain ⟨F, T, A, hP, hF1, hF2, hF3, hF4, hA⟩ := id hAX
  show Ev G μ 7 0 0 0 [(0, .ref ac), (1, .int 2), (2, .int 3), (3, .int x), (4, .int (nI dd))] [] σ
  refine e_iload (pc := 0) Xc (dT hX0_run 0 rfl) 4 rfl ?_
  refine e_bipush (v := 20) (pc := 2) Xc (dT hX0_run 1 rfl) rfl ?_
  refine e_icmp_leN (x := dd) (y := 20) (tgt := 9) (pc := 4) Xc (dT hX0_run 2 rfl) rfl (by omega) (by omega) (fun c4 => ?_) (fun c4 => ?_)
  · skip
    refine e_iload (pc := 9) Xc (dT hX0_run 5 rfl) 4 rfl ?_
    refine e_iconst (v := 1) (pc := 11) Xc (dT hX0_run 6 rfl) rfl ?_
    refine e_iaddN (a := dd) (b := 1) (pc := 12) Xc (dT hX0_run 7 rfl) ?_
    refine e_istore (L' := [(5, .int (nI (dd + 1))), (0, .ref ac), (1, .int 2), (2, .int 3), (3, .int x), (4, .int (nI dd))]) (pc := 13) Xc (dT hX0_run 8 rfl) (by decide) rfl ?_
    refine e_iload_n (pc := 15) Xc (dT hX0_run 9 rfl) 2 rfl ?_
    refine e_iload_n (pc := 16) Xc (dT hX0_run 10 rfl) 3 rfl ?_
    refine cl_X0_32 (pc := 17) (k := 0) (n := 0) (S := []) Xc (c0_b23 hSA) (dT hX0_run 11 rfl) rfl (Nat.le_of_ble_eq_true rfl) (Nat.le_of_ble_eq_true rfl) (Nat.le_of_ble_eq_true rfl) rfl (Nat.le_of_ble_eq_true rfl) (fun r1 σ2 hq3 => ?_)
    obtain ⟨r1e, r1s⟩ := hq3
    have r1e := r1e.symm; subst r1e; have r1s := r1s.symm; subst r1s
    refine e_istore (L' := [(6, .int 31), (5, .int (nI (dd + 1))), (0, .ref ac), (1, .int 2), (2, .int 3), (3, .int x), (4, .int (nI dd))]) (pc := 20) Xc (dT hX0_run 12 rfl) (by decide) rfl ?_
    refine e_aload_n (pc := 22) Xc (dT hX0_run 13 rfl) 2 rfl ?_
    refine gf_X0_9 (pc := 23) Xc (dT hX0_run 14 rfl) hP.o rfl ?_
    refine e_aload_n (pc := 26) Xc (dT hX0_run 15 rfl) 2 rfl ?_
    refine gf_X0_15 (pc := 27) Xc (dT hX0_run 16 rfl) hP.o rfl ?_
    refine e_val (y := nI s.1) hF1 ?_
    refine e_iload (pc := 30) Xc (dT hX0_run 17 rfl) 0 rfl ?_
    refine cl_X0_36 (pc := 32) (k := 0) (n := 0) (S := []) Xc (c_put hP.a1 (by decide) s.1 (by omega) 31) (dT hX0_run 18 rfl) rfl (Nat.le_of_ble_eq_true rfl) (Nat.le_of_ble_eq_true rfl) (Nat.le_of_ble_eq_true rfl) rfl (Nat.le_of_ble_eq_true rfl) (fun σ5 hq6 => ?_)
    subst hq6
    refine Ev.gen (fun z => PX0 z ac F T (upA A 1 (upd (A 1) s.1 31))) (hP.wa1 (g := (upd (A 1) s.1 31))) Off.set (fun σ7 hP8 ho9 => ?_)
    refine e_aload_n (pc := 35) Xc (dT hX0_run 19 rfl) 2 rfl ?_
    refine e_dup (pc := 36) Xc (dT hX0_run 20 rfl) rfl ?_
    refine gf_X0_15 (pc := 37) Xc (dT hX0_run 21 rfl) hP8.o rfl ?_
    refine e_val (y := nI s.1) hF1 ?_
    refine e_iconst (v := 1) (pc := 40) Xc (dT hX0_run 22 rfl) rfl ?_
    refine e_iaddN (a := s.1) (b := 1) (pc := 41) Xc (dT hX0_run 23 rfl) ?_
    refine pf_X0_15 (fs' := olX0 ac (upd F 1 (nI (s.1 + 1))) T) (pc := 42) Xc (dT hX0_run 24 rfl) hP8.o (Nat.le_of_ble_eq_true rfl) rfl ?_
    refine Ev.gen (fun z => PX0 z ac (upd F 1 (nI (s.1 + 1))) T (upA A 1 (upd (A 1) s.1 31))) (hP8.wf1 (x := nI (s.1 + 1))) Off.set (fun σ10 hP11 ho12 => ?_)
    have hAX13 : AX σ10 ac 3 u w (rbS s 31) := AX.body 31 hP11 (by omega) hF2 hF3 hF4 hA
    have hr_ : (rbS s 31).1 = s.1 + 1 := rfl
    refine e_iload (pc := 45) Xc (dT hX0_run 25 rfl) 0 rfl ?_
    refine e_lookup (x := 31) (off := 129) (tgt := 176) (pc := 47) Xc (dT hX0_run 26 rfl) (by decide) (by decide) rfl ?_
    refine e_aload_n (pc := 176) Xc (dT hX0_run 65 rfl) 2 rfl ?_
    refine e_iconst (v := 2) (pc := 177) Xc (dT hX0_run 66 rfl) rfl ?_
    refine e_iconst (v := 0) (pc := 178) Xc (dT hX0_run 67 rfl) rfl ?_
    refine e_iload_n (pc := 179) Xc (dT hX0_run 68 rfl) 5 rfl ?_
    refine e_iload (pc := 180) Xc (dT hX0_run 69 rfl) 1 rfl ?_
    refine cl_X0_28 (pc := 182) (k := 0) (n := 0) (S := []) Xc (c0_te0 hAX13 (hSA.off (ho9.tr ho12) hna hno) hna hno (by decide) (by omega) x (dd + 1) (by omega)) (dT hX0_run 70 rfl) rfl (Nat.le_of_ble_eq_true rfl) (Nat.le_of_ble_eq_true rfl) (Nat.le_of_ble_eq_true rfl) rfl (Nat.le_of_ble_eq_true rfl) (fun r14 σ15 hq16 => ?_)
    obtain ⟨r14e, hAX17, ho18⟩ := hq16
    have r14e := r14e.symm; subst r14e
    obtain ⟨F19, T19, A19, hP19, hF119, hF219, hF319, hF419, hA19⟩ := id hAX17
    have hb19_ := plTe_n (k := (nI 3)) (u := u) (w := w) (s := (rbS s 31)) (x := x)
    refine e_bipush (v := 7) (pc := 185) Xc (dT hX0_run 71 rfl) rfl ?_
    refine e_ixor (pc := 187) Xc (dT hX0_run 72 rfl) ?_
    refine e_iret (pc := 188) Xc hQ (dT hX0_run 73 rfl) (Nat.le_refl _) (Nat.le_refl _) ?_
    rw [teA_k3]
    exact ⟨rfl, hAX17, ((ho9.tr ho12).tr ho18)⟩
  · skip
    exact absurd c4 (by omega)
set_option maxRecDepth 100000 in
set_option maxHeartbeats 4000000 in
theorem c0_tek4 {G : xG} {σ : xS} {ac : Nat} {u w : Int32} {s : actS} (hAX : AX σ ac 4 u w s) (hSA : PSA G σ) (hna : gA G ≠ ac) (hno : gO G ≠ ac) (hs : s.1 ≤ 12) (x : Int32) (dd : Nat) (hdd : dd ≤ 15) : CI G yX0_run cX0_run 7 (some .int) 7 0 0 [.ref ac, .int 2, .int 4, .int x, .int (nI dd)] σ (fun z σ1 => z = (teA (nI 4) u w s x).1 ∧ AX σ1 ac 4 u w (teA (nI 4) u w s x).2 ∧ Off ac σ σ1) := by
  refine Met.ofX (by decide +kernel) (Nat.le_of_ble_eq_true rfl) (fun μ Xc hQ hnm => ?_)
  have Xc : xC G μ cX0_run 7 RX0 (some .int) 7 0 0 := Xc
  obtain ⟨F, T, A, hP, hF1, hF2, hF3, hF4, hA⟩ := id hAX
  show Ev G μ 7 0 0 0 [(0, .ref ac), (1, .int 2), (2, .int 4), (3, .int x), (4, .int (nI dd))] [] σ
  refine e_iload (pc := 0) Xc (dT hX0_run 0 rfl) 4 rfl ?_
  refine e_bipush (v := 20) (pc := 2) Xc (dT hX0_run 1 rfl) rfl ?_
  refine e_icmp_leN (x := dd) (y := 20) (tgt := 9) (pc := 4) Xc (dT hX0_run 2 rfl) rfl (by omega) (by omega) (fun c4 => ?_) (fun c4 => ?_)
  · skip
    refine e_iload (pc := 9) Xc (dT hX0_run 5 rfl) 4 rfl ?_
    refine e_iconst (v := 1) (pc := 11) Xc (dT hX0_run 6 rfl) rfl ?_
    refine e_iaddN (a := dd) (b := 1) (pc := 12) Xc (dT hX0_run 7 rfl) ?_
    refine e_istore (L' := [(5, .int (nI (dd + 1))), (0, .ref ac), (1, .int 2), (2, .int 4), (3, .int x), (4, .int (nI dd))]) (pc := 13) Xc (dT hX0_run 8 rfl) (by decide) rfl ?_
    refine e_iload_n (pc := 15) Xc (dT hX0_run 9 rfl) 2 rfl ?_
    refine e_iload_n (pc := 16) Xc (dT hX0_run 10 rfl) 3 rfl ?_
    refine cl_X0_32 (pc := 17) (k := 0) (n := 0) (S := []) Xc (c0_b24 hSA) (dT hX0_run 11 rfl) rfl (Nat.le_of_ble_eq_true rfl) (Nat.le_of_ble_eq_true rfl) (Nat.le_of_ble_eq_true rfl) rfl (Nat.le_of_ble_eq_true rfl) (fun r1 σ2 hq3 => ?_)
    obtain ⟨r1e, r1s⟩ := hq3
    have r1e := r1e.symm; subst r1e; have r1s := r1s.symm; subst r1s
    refine e_istore (L' := [(6, .int 41), (5, .int (nI (dd + 1))), (0, .ref ac), (1, .int 2), (2, .int 4), (3, .int x), (4, .int (nI dd))]) (pc := 20) Xc (dT hX0_run 12 rfl) (by decide) rfl ?_
    refine e_aload_n (pc := 22) Xc (dT hX0_run 13 rfl) 2 rfl ?_
    refine gf_X0_9 (pc := 23) Xc (dT hX0_run 14 rfl) hP.o rfl ?_
    refine e_aload_n (pc := 26) Xc (dT hX0_run 15 rfl) 2 rfl ?_
    refine gf_X0_15 (pc := 27) Xc (dT hX0_run 16 rfl) hP.o rfl ?_
    refine e_val (y := nI s.1) hF1 ?_
    refine e_iload (pc := 30) Xc (dT hX0_run 17 rfl) 0 rfl ?_
    refine cl_X0_36 (pc := 32) (k := 0) (n := 0) (S := []) Xc (c_put hP.a1 (by decide) s.1 (by omega) 41) (dT hX0_run 18 rfl) rfl (Nat.le_of_ble_eq_true rfl) (Nat.le_of_ble_eq_true rfl) (Nat.le_of_ble_eq_true rfl) rfl (Nat.le_of_ble_eq_true rfl) (fun σ5 hq6 => ?_)
    subst hq6
    refine Ev.gen (fun z => PX0 z ac F T (upA A 1 (upd (A 1) s.1 41))) (hP.wa1 (g := (upd (A 1) s.1 41))) Off.set (fun σ7 hP8 ho9 => ?_)
    refine e_aload_n (pc := 35) Xc (dT hX0_run 19 rfl) 2 rfl ?_
    refine e_dup (pc := 36) Xc (dT hX0_run 20 rfl) rfl ?_
    refine gf_X0_15 (pc := 37) Xc (dT hX0_run 21 rfl) hP8.o rfl ?_
    refine e_val (y := nI s.1) hF1 ?_
    refine e_iconst (v := 1) (pc := 40) Xc (dT hX0_run 22 rfl) rfl ?_
    refine e_iaddN (a := s.1) (b := 1) (pc := 41) Xc (dT hX0_run 23 rfl) ?_
    refine pf_X0_15 (fs' := olX0 ac (upd F 1 (nI (s.1 + 1))) T) (pc := 42) Xc (dT hX0_run 24 rfl) hP8.o (Nat.le_of_ble_eq_true rfl) rfl ?_
    refine Ev.gen (fun z => PX0 z ac (upd F 1 (nI (s.1 + 1))) T (upA A 1 (upd (A 1) s.1 41))) (hP8.wf1 (x := nI (s.1 + 1))) Off.set (fun σ10 hP11 ho12 => ?_)
    have hAX13 : AX σ10 ac 4 u w (rbS s 41) := AX.body 41 hP11 (by omega) hF2 hF3 hF4 hA
    have hr_ : (rbS s 41).1 = s.1 + 1 := rfl
    refine e_iload (pc := 45) Xc (dT hX0_run 25 rfl) 0 rfl ?_
    refine e_lookup (x := 41) (off := 142) (tgt := 189) (pc := 47) Xc (dT hX0_run 26 rfl) (by decide) (by decide) rfl ?_
    refine e_aload_n (pc := 189) Xc (dT hX0_run 74 rfl) 2 rfl ?_
    refine e_iconst (v := 2) (pc := 190) Xc (dT hX0_run 75 rfl) rfl ?_
    refine e_iconst (v := 1) (pc := 191) Xc (dT hX0_run 76 rfl) rfl ?_
    refine e_iload_n (pc := 192) Xc (dT hX0_run 77 rfl) 5 rfl ?_
    refine e_iconst (v := 1) (pc := 193) Xc (dT hX0_run 78 rfl) rfl ?_
    refine e_isub (pc := 194) Xc (dT hX0_run 79 rfl) ?_
    refine e_iload (pc := 195) Xc (dT hX0_run 80 rfl) 1 rfl ?_
    refine cl_X0_28 (pc := 197) (k := 0) (n := 0) (S := []) Xc (c0_te1 hAX13 (hSA.off (ho9.tr ho12) hna hno) hna hno (by decide) (by omega) (x - 1) (dd + 1) (by omega)) (dT hX0_run 81 rfl) rfl (Nat.le_of_ble_eq_true rfl) (Nat.le_of_ble_eq_true rfl) (Nat.le_of_ble_eq_true rfl) rfl (Nat.le_of_ble_eq_true rfl) (fun r14 σ15 hq16 => ?_)
    obtain ⟨r14e, hAX17, ho18⟩ := hq16
    have r14e := r14e.symm; subst r14e
    obtain ⟨F19, T19, A19, hP19, hF119, hF219, hF319, hF419, hA19⟩ := id hAX17
    have hb19_ := plTe_n (k := (nI 4)) (u := u) (w := w) (s := (rbS s 41)) (x := x - 1)
    refine e_aload_n (pc := 200) Xc (dT hX0_run 82 rfl) 2 rfl ?_
    refine e_iconst (v := 0) (pc := 201) Xc (dT hX0_run 83 rfl) rfl ?_
    refine e_aload_n (pc := 202) Xc (dT hX0_run 84 rfl) 2 rfl ?_
    refine gf_X0_22 (pc := 203) Xc (dT hX0_run 85 rfl) hP19.o rfl ?_
    refine e_val (y := 4) hF319 ?_
    refine e_iconst (v := 2) (pc := 206) Xc (dT hX0_run 86 rfl) rfl ?_
    refine e_iload (pc := 207) Xc (dT hX0_run 87 rfl) 1 rfl ?_
    refine cl_X0_28 (pc := 209) (k := 0) (n := 0) (S := [.int ((plTe (nI 4) u w (rbS s 41) (x - 1)).1)]) Xc (c0_rd hAX17 (hSA.off ((ho9.tr ho12).tr ho18) hna hno) hna hno (by decide) (by omega) 2 (dd + 1) (by omega)) (dT hX0_run 88 rfl) rfl (Nat.le_of_ble_eq_true rfl) (Nat.le_of_ble_eq_true rfl) (Nat.le_of_ble_eq_true rfl) rfl (Nat.le_of_ble_eq_true rfl) (fun r20 σ21 hq22 => ?_)
    obtain ⟨r20e, hAX23, ho24⟩ := hq22
    have r20e := r20e.symm; subst r20e
    obtain ⟨F25, T25, A25, hP25, hF125, hF225, hF325, hF425, hA25⟩ := id hAX23
    have hb25_ := rdA_n (k := (nI 4)) (u := u) (s := (plTe (nI 4) u w (rbS s 41) (x - 1)).2) (x := 2)
    refine e_iadd (pc := 212) Xc (dT hX0_run 89 rfl) ?_
    refine e_iret (pc := 213) Xc hQ (dT hX0_run 90 rfl) (Nat.le_refl _) (Nat.le_refl _) ?_
    rw [teA_k4]
    exact ⟨rfl, hAX23, (((ho9.tr ho12).tr ho18).tr ho24)⟩
  · skip
    exact absurd c4 (by omega)
set_option maxRecDepth 100000 in
set_option maxHeartbeats 4000000 in
theorem c0_tek5 {G : xG} {σ : xS} {ac : Nat} {u w : Int32} {s : actS} (hAX : AX σ ac 5 u w s) (hSA : PSA G σ) (hna : gA G ≠ ac) (hno : gO G ≠ ac) (hs : s.1 ≤ 12) (x : Int32) (dd : Nat) (hdd : dd ≤ 15) : CI G yX0_run cX0_run 7 (some .int) 7 0 0 [.ref ac, .int 2, .int 5, .int x, .int (nI dd)] σ (fun z σ1 => z = (teA (nI 5) u w s x).1 ∧ AX σ1 ac 5 u w (teA (nI 5) u w s x).2 ∧ Off ac σ σ1) := by
  refine Met.ofX (by decide +kernel) (Nat.le_of_ble_eq_true rfl) (fun μ Xc hQ hnm => ?_)
  have Xc : xC G μ cX0_run 7 RX0 (some .int) 7 0 0 := Xc
  obtain ⟨F, T, A, hP, hF1, hF2, hF3, hF4, hA⟩ := id hAX
  show Ev G μ 7 0 0 0 [(0, .ref ac), (1, .int 2), (2, .int 5), (3, .int x), (4, .int (nI dd))] [] σ
  refine e_iload (pc := 0) Xc (dT hX0_run 0 rfl) 4 rfl ?_
  refine e_bipush (v := 20) (pc := 2) Xc (dT hX0_run 1 rfl) rfl ?_
  refine e_icmp_leN (x := dd) (y := 20) (tgt := 9) (pc := 4) Xc (dT hX0_run 2 rfl) rfl (by omega) (by omega) (fun c4 => ?_) (fun c4 => ?_)
  · skip
    refine e_iload (pc := 9) Xc (dT hX0_run 5 rfl) 4 rfl ?_
    refine e_iconst (v := 1) (pc := 11) Xc (dT hX0_run 6 rfl) rfl ?_
    refine e_iaddN (a := dd) (b := 1) (pc := 12) Xc (dT hX0_run 7 rfl) ?_
    refine e_istore (L' := [(5, .int (nI (dd + 1))), (0, .ref ac), (1, .int 2), (2, .int 5), (3, .int x), (4, .int (nI dd))]) (pc := 13) Xc (dT hX0_run 8 rfl) (by decide) rfl ?_
    refine e_iload_n (pc := 15) Xc (dT hX0_run 9 rfl) 2 rfl ?_
    refine e_iload_n (pc := 16) Xc (dT hX0_run 10 rfl) 3 rfl ?_
    refine cl_X0_32 (pc := 17) (k := 0) (n := 0) (S := []) Xc (c0_b25 hSA) (dT hX0_run 11 rfl) rfl (Nat.le_of_ble_eq_true rfl) (Nat.le_of_ble_eq_true rfl) (Nat.le_of_ble_eq_true rfl) rfl (Nat.le_of_ble_eq_true rfl) (fun r1 σ2 hq3 => ?_)
    obtain ⟨r1e, r1s⟩ := hq3
    have r1e := r1e.symm; subst r1e; have r1s := r1s.symm; subst r1s
    refine e_istore (L' := [(6, .int 3), (5, .int (nI (dd + 1))), (0, .ref ac), (1, .int 2), (2, .int 5), (3, .int x), (4, .int (nI dd))]) (pc := 20) Xc (dT hX0_run 12 rfl) (by decide) rfl ?_
    refine e_aload_n (pc := 22) Xc (dT hX0_run 13 rfl) 2 rfl ?_
    refine gf_X0_9 (pc := 23) Xc (dT hX0_run 14 rfl) hP.o rfl ?_
    refine e_aload_n (pc := 26) Xc (dT hX0_run 15 rfl) 2 rfl ?_
    refine gf_X0_15 (pc := 27) Xc (dT hX0_run 16 rfl) hP.o rfl ?_
    refine e_val (y := nI s.1) hF1 ?_
    refine e_iload (pc := 30) Xc (dT hX0_run 17 rfl) 0 rfl ?_
    refine cl_X0_36 (pc := 32) (k := 0) (n := 0) (S := []) Xc (c_put hP.a1 (by decide) s.1 (by omega) 3) (dT hX0_run 18 rfl) rfl (Nat.le_of_ble_eq_true rfl) (Nat.le_of_ble_eq_true rfl) (Nat.le_of_ble_eq_true rfl) rfl (Nat.le_of_ble_eq_true rfl) (fun σ5 hq6 => ?_)
    subst hq6
    refine Ev.gen (fun z => PX0 z ac F T (upA A 1 (upd (A 1) s.1 3))) (hP.wa1 (g := (upd (A 1) s.1 3))) Off.set (fun σ7 hP8 ho9 => ?_)
    refine e_aload_n (pc := 35) Xc (dT hX0_run 19 rfl) 2 rfl ?_
    refine e_dup (pc := 36) Xc (dT hX0_run 20 rfl) rfl ?_
    refine gf_X0_15 (pc := 37) Xc (dT hX0_run 21 rfl) hP8.o rfl ?_
    refine e_val (y := nI s.1) hF1 ?_
    refine e_iconst (v := 1) (pc := 40) Xc (dT hX0_run 22 rfl) rfl ?_
    refine e_iaddN (a := s.1) (b := 1) (pc := 41) Xc (dT hX0_run 23 rfl) ?_
    refine pf_X0_15 (fs' := olX0 ac (upd F 1 (nI (s.1 + 1))) T) (pc := 42) Xc (dT hX0_run 24 rfl) hP8.o (Nat.le_of_ble_eq_true rfl) rfl ?_
    refine Ev.gen (fun z => PX0 z ac (upd F 1 (nI (s.1 + 1))) T (upA A 1 (upd (A 1) s.1 3))) (hP8.wf1 (x := nI (s.1 + 1))) Off.set (fun σ10 hP11 ho12 => ?_)
    have hAX13 : AX σ10 ac 5 u w (rbS s 3) := AX.body 3 hP11 (by omega) hF2 hF3 hF4 hA
    have hr_ : (rbS s 3).1 = s.1 + 1 := rfl
    refine e_iload (pc := 45) Xc (dT hX0_run 25 rfl) 0 rfl ?_
    refine e_lookup (x := 3) (off := 91) (tgt := 138) (pc := 47) Xc (dT hX0_run 26 rfl) (by decide) (by decide) rfl ?_
    refine e_aload_n (pc := 138) Xc (dT hX0_run 38 rfl) 2 rfl ?_
    refine e_iconst (v := 1) (pc := 139) Xc (dT hX0_run 39 rfl) rfl ?_
    refine e_aload_n (pc := 140) Xc (dT hX0_run 40 rfl) 2 rfl ?_
    refine gf_X0_22 (pc := 141) Xc (dT hX0_run 41 rfl) hP11.o rfl ?_
    refine e_val (y := F 3) rfl ?_
    refine e_val (y := 5) hF3 ?_
    refine e_iload_n (pc := 144) Xc (dT hX0_run 42 rfl) 5 rfl ?_
    refine e_iload (pc := 145) Xc (dT hX0_run 43 rfl) 1 rfl ?_
    refine cl_X0_28 (pc := 147) (k := 0) (n := 0) (S := []) Xc (c0_br hAX13 (hSA.off (ho9.tr ho12) hna hno) hna hno (by decide) (by omega) x (dd + 1) (by omega)) (dT hX0_run 44 rfl) rfl (Nat.le_of_ble_eq_true rfl) (Nat.le_of_ble_eq_true rfl) (Nat.le_of_ble_eq_true rfl) rfl (Nat.le_of_ble_eq_true rfl) (fun r14 σ15 hq16 => ?_)
    obtain ⟨r14e, hAX17, ho18⟩ := hq16
    have r14e := r14e.symm; subst r14e
    obtain ⟨F19, T19, A19, hP19, hF119, hF219, hF319, hF419, hA19⟩ := id hAX17
    have hb19_ := brA_n (k := (nI 5)) (u := u) (w := w) (s := (rbS s 3)) (x := x)
    refine e_iconst (v := 2) (pc := 150) Xc (dT hX0_run 45 rfl) rfl ?_
    refine e_imul (pc := 151) Xc (dT hX0_run 46 rfl) ?_
    refine e_iret (pc := 152) Xc hQ (dT hX0_run 47 rfl) (Nat.le_refl _) (Nat.le_refl _) ?_
    rw [teA_k5]
    exact ⟨rfl, hAX17, ((ho9.tr ho12).tr ho18)⟩
  · skip
    exact absurd c4 (by omega)
set_option maxRecDepth 100000 in
set_option maxHeartbeats 4000000 in
theorem c0_tek6 {G : xG} {σ : xS} {ac : Nat} {u w : Int32} {s : actS} (hAX : AX σ ac 6 u w s) (hSA : PSA G σ) (hna : gA G ≠ ac) (hno : gO G ≠ ac) (hs : s.1 ≤ 12) (x : Int32) (dd : Nat) (hdd : dd ≤ 15) : CI G yX0_run cX0_run 7 (some .int) 7 0 0 [.ref ac, .int 2, .int 6, .int x, .int (nI dd)] σ (fun z σ1 => z = (teA (nI 6) u w s x).1 ∧ AX σ1 ac 6 u w (teA (nI 6) u w s x).2 ∧ Off ac σ σ1) := by
  refine Met.ofX (by decide +kernel) (Nat.le_of_ble_eq_true rfl) (fun μ Xc hQ hnm => ?_)
  have Xc : xC G μ cX0_run 7 RX0 (some .int) 7 0 0 := Xc
  obtain ⟨F, T, A, hP, hF1, hF2, hF3, hF4, hA⟩ := id hAX
  show Ev G μ 7 0 0 0 [(0, .ref ac), (1, .int 2), (2, .int 6), (3, .int x), (4, .int (nI dd))] [] σ
  refine e_iload (pc := 0) Xc (dT hX0_run 0 rfl) 4 rfl ?_
  refine e_bipush (v := 20) (pc := 2) Xc (dT hX0_run 1 rfl) rfl ?_
  refine e_icmp_leN (x := dd) (y := 20) (tgt := 9) (pc := 4) Xc (dT hX0_run 2 rfl) rfl (by omega) (by omega) (fun c4 => ?_) (fun c4 => ?_)
  · skip
    refine e_iload (pc := 9) Xc (dT hX0_run 5 rfl) 4 rfl ?_
    refine e_iconst (v := 1) (pc := 11) Xc (dT hX0_run 6 rfl) rfl ?_
    refine e_iaddN (a := dd) (b := 1) (pc := 12) Xc (dT hX0_run 7 rfl) ?_
    refine e_istore (L' := [(5, .int (nI (dd + 1))), (0, .ref ac), (1, .int 2), (2, .int 6), (3, .int x), (4, .int (nI dd))]) (pc := 13) Xc (dT hX0_run 8 rfl) (by decide) rfl ?_
    refine e_iload_n (pc := 15) Xc (dT hX0_run 9 rfl) 2 rfl ?_
    refine e_iload_n (pc := 16) Xc (dT hX0_run 10 rfl) 3 rfl ?_
    refine cl_X0_32 (pc := 17) (k := 0) (n := 0) (S := []) Xc (c0_b26 hSA) (dT hX0_run 11 rfl) rfl (Nat.le_of_ble_eq_true rfl) (Nat.le_of_ble_eq_true rfl) (Nat.le_of_ble_eq_true rfl) rfl (Nat.le_of_ble_eq_true rfl) (fun r1 σ2 hq3 => ?_)
    obtain ⟨r1e, r1s⟩ := hq3
    have r1e := r1e.symm; subst r1e; have r1s := r1s.symm; subst r1s
    refine e_istore (L' := [(6, .int 31), (5, .int (nI (dd + 1))), (0, .ref ac), (1, .int 2), (2, .int 6), (3, .int x), (4, .int (nI dd))]) (pc := 20) Xc (dT hX0_run 12 rfl) (by decide) rfl ?_
    refine e_aload_n (pc := 22) Xc (dT hX0_run 13 rfl) 2 rfl ?_
    refine gf_X0_9 (pc := 23) Xc (dT hX0_run 14 rfl) hP.o rfl ?_
    refine e_aload_n (pc := 26) Xc (dT hX0_run 15 rfl) 2 rfl ?_
    refine gf_X0_15 (pc := 27) Xc (dT hX0_run 16 rfl) hP.o rfl ?_
    refine e_val (y := nI s.1) hF1 ?_
    refine e_iload (pc := 30) Xc (dT hX0_run 17 rfl) 0 rfl ?_
    refine cl_X0_36 (pc := 32) (k := 0) (n := 0) (S := []) Xc (c_put hP.a1 (by decide) s.1 (by omega) 31) (dT hX0_run 18 rfl) rfl (Nat.le_of_ble_eq_true rfl) (Nat.le_of_ble_eq_true rfl) (Nat.le_of_ble_eq_true rfl) rfl (Nat.le_of_ble_eq_true rfl) (fun σ5 hq6 => ?_)
    subst hq6
    refine Ev.gen (fun z => PX0 z ac F T (upA A 1 (upd (A 1) s.1 31))) (hP.wa1 (g := (upd (A 1) s.1 31))) Off.set (fun σ7 hP8 ho9 => ?_)
    refine e_aload_n (pc := 35) Xc (dT hX0_run 19 rfl) 2 rfl ?_
    refine e_dup (pc := 36) Xc (dT hX0_run 20 rfl) rfl ?_
    refine gf_X0_15 (pc := 37) Xc (dT hX0_run 21 rfl) hP8.o rfl ?_
    refine e_val (y := nI s.1) hF1 ?_
    refine e_iconst (v := 1) (pc := 40) Xc (dT hX0_run 22 rfl) rfl ?_
    refine e_iaddN (a := s.1) (b := 1) (pc := 41) Xc (dT hX0_run 23 rfl) ?_
    refine pf_X0_15 (fs' := olX0 ac (upd F 1 (nI (s.1 + 1))) T) (pc := 42) Xc (dT hX0_run 24 rfl) hP8.o (Nat.le_of_ble_eq_true rfl) rfl ?_
    refine Ev.gen (fun z => PX0 z ac (upd F 1 (nI (s.1 + 1))) T (upA A 1 (upd (A 1) s.1 31))) (hP8.wf1 (x := nI (s.1 + 1))) Off.set (fun σ10 hP11 ho12 => ?_)
    have hAX13 : AX σ10 ac 6 u w (rbS s 31) := AX.body 31 hP11 (by omega) hF2 hF3 hF4 hA
    have hr_ : (rbS s 31).1 = s.1 + 1 := rfl
    refine e_iload (pc := 45) Xc (dT hX0_run 25 rfl) 0 rfl ?_
    refine e_lookup (x := 31) (off := 129) (tgt := 176) (pc := 47) Xc (dT hX0_run 26 rfl) (by decide) (by decide) rfl ?_
    refine e_aload_n (pc := 176) Xc (dT hX0_run 65 rfl) 2 rfl ?_
    refine e_iconst (v := 2) (pc := 177) Xc (dT hX0_run 66 rfl) rfl ?_
    refine e_iconst (v := 0) (pc := 178) Xc (dT hX0_run 67 rfl) rfl ?_
    refine e_iload_n (pc := 179) Xc (dT hX0_run 68 rfl) 5 rfl ?_
    refine e_iload (pc := 180) Xc (dT hX0_run 69 rfl) 1 rfl ?_
    refine cl_X0_28 (pc := 182) (k := 0) (n := 0) (S := []) Xc (c0_te0 hAX13 (hSA.off (ho9.tr ho12) hna hno) hna hno (by decide) (by omega) x (dd + 1) (by omega)) (dT hX0_run 70 rfl) rfl (Nat.le_of_ble_eq_true rfl) (Nat.le_of_ble_eq_true rfl) (Nat.le_of_ble_eq_true rfl) rfl (Nat.le_of_ble_eq_true rfl) (fun r14 σ15 hq16 => ?_)
    obtain ⟨r14e, hAX17, ho18⟩ := hq16
    have r14e := r14e.symm; subst r14e
    obtain ⟨F19, T19, A19, hP19, hF119, hF219, hF319, hF419, hA19⟩ := id hAX17
    have hb19_ := plTe_n (k := (nI 6)) (u := u) (w := w) (s := (rbS s 31)) (x := x)
    refine e_bipush (v := 7) (pc := 185) Xc (dT hX0_run 71 rfl) rfl ?_
    refine e_ixor (pc := 187) Xc (dT hX0_run 72 rfl) ?_
    refine e_iret (pc := 188) Xc hQ (dT hX0_run 73 rfl) (Nat.le_refl _) (Nat.le_refl _) ?_
    rw [teA_k6]
    exact ⟨rfl, hAX17, ((ho9.tr ho12).tr ho18)⟩
  · skip
    exact absurd c4 (by omega)
theorem c0_te {G : xG} {σ : xS} {ac k : Nat} {u w : Int32} {s : actS} (hAX : AX σ ac k u w s) (hSA : PSA G σ) (hna : gA G ≠ ac) (hno : gO G ≠ ac) (hk6 : k ≤ 6) (hs : s.1 ≤ 12) (x : Int32) (dd : Nat) (hdd : dd ≤ 15) : CI G yX0_run cX0_run 7 (some .int) 7 0 0 [.ref ac, .int 2, .int (nI k), .int x, .int (nI dd)] σ (fun z σ1 => z = (teA (nI k) u w s x).1 ∧ AX σ1 ac k u w (teA (nI k) u w s x).2 ∧ Off ac σ σ1) := by
  have hc_ : k = 0 ∨ k = 1 ∨ k = 2 ∨ k = 3 ∨ k = 4 ∨ k = 5 ∨ k = 6 := by omega
  rcases hc_ with rfl | rfl | rfl | rfl | rfl | rfl | rfl
  · exact c0_tek0 hAX hSA hna hno hs x dd hdd
  · exact c0_tek1 hAX hSA hna hno hs x dd hdd
  · exact c0_tek2 hAX hSA hna hno hs x dd hdd
  · exact c0_tek3 hAX hSA hna hno hs x dd hdd
  · exact c0_tek4 hAX hSA hna hno hs x dd hdd
  · exact c0_tek5 hAX hSA hna hno hs x dd hdd
  · exact c0_tek6 hAX hSA hna hno hs x dd hdd
set_option maxRecDepth 100000 in
set_option maxHeartbeats 4000000 in
theorem c0_doneBy0 {G : xG} {σ : xS} {ac k rr : Nat} {g : Nat → Int32} {F : Nat → Int32} {T : Nat → Nat} {A : Nat → Nat → Int32} (hP : PX0 σ ac F T A) (hF1 : F 1 = 0) (hA : ∀ q, q < 20 → A 1 q = g q) (hSA : PSA G σ) (hna : gA G ≠ ac) (hno : gO G ≠ ac) (hk6 : k ≤ 6) (u w x : Int32) : CI G yX0_doneBy cX0_doneBy 6 (some .int) 8 0 0 [.ref ac, .int u, .int (nI k), .int w, .int 0, .int x] σ (fun z σ1 => z = (rdA (nI k) u (0, g) x).1 ∧ AX σ1 ac k u w (rdA (nI k) u (0, g) x).2 ∧ Off ac σ σ1) := by
  refine Met.ofX (by decide +kernel) (Nat.le_of_ble_eq_true rfl) (fun μ Xc hQ hnm => ?_)
  have Xc : xC G μ cX0_doneBy 6 RX0 (some .int) 8 0 0 := Xc
  show Ev G μ 6 0 0 0 [(0, .ref ac), (1, .int u), (2, .int (nI k)), (3, .int w), (4, .int 0), (5, .int x)] [] σ
  refine e_aload_n (pc := 0) Xc (dT hX0_doneBy 0 rfl) 0 rfl ?_
  refine e_iload_n (pc := 1) Xc (dT hX0_doneBy 1 rfl) 1 rfl ?_
  refine pf_X0_19 (fs' := olX0 ac (upd F 2 u) T) (pc := 2) Xc (dT hX0_doneBy 2 rfl) hP.o (Nat.le_of_ble_eq_true rfl) rfl ?_
  refine Ev.gen (fun z => PX0 z ac (upd F 2 u) T A) (hP.wf2 (x := u)) Off.set (fun σ1 hP2 ho3 => ?_)
  refine e_aload_n (pc := 5) Xc (dT hX0_doneBy 3 rfl) 0 rfl ?_
  refine e_iload_n (pc := 6) Xc (dT hX0_doneBy 4 rfl) 2 rfl ?_
  refine pf_X0_22 (fs' := olX0 ac (upd (upd F 2 u) 3 (nI k)) T) (pc := 7) Xc (dT hX0_doneBy 5 rfl) hP2.o (Nat.le_of_ble_eq_true rfl) rfl ?_
  refine Ev.gen (fun z => PX0 z ac (upd (upd F 2 u) 3 (nI k)) T A) (hP2.wf3 (x := nI k)) Off.set (fun σ4 hP5 ho6 => ?_)
  refine e_aload_n (pc := 10) Xc (dT hX0_doneBy 6 rfl) 0 rfl ?_
  refine e_iload_n (pc := 11) Xc (dT hX0_doneBy 7 rfl) 3 rfl ?_
  refine pf_X0_25 (fs' := olX0 ac (upd (upd (upd F 2 u) 3 (nI k)) 4 w) T) (pc := 12) Xc (dT hX0_doneBy 8 rfl) hP5.o (Nat.le_of_ble_eq_true rfl) rfl ?_
  refine Ev.gen (fun z => PX0 z ac (upd (upd (upd F 2 u) 3 (nI k)) 4 w) T A) (hP5.wf4 (x := w)) Off.set (fun σ7 hP8 ho9 => ?_)
  refine e_aload_n (pc := 15) Xc (dT hX0_doneBy 9 rfl) 0 rfl ?_
  have hAX10 : AX σ7 ac k u w (0, g) := ⟨_, _, _, hP8, ((upd_n (by decide)).trans ((upd_n (by decide)).trans (upd_n (by decide)))).trans hF1, (upd_n (by decide)).trans ((upd_n (by decide)).trans upd_s), (upd_n (by decide)).trans upd_s, upd_s, hA⟩
  refine e_iload (pc := 16) Xc (dT hX0_doneBy 10 rfl) 4 rfl ?_
  refine e_iload_n (pc := 18) Xc (dT hX0_doneBy 11 rfl) 2 rfl ?_
  refine e_iload (pc := 19) Xc (dT hX0_doneBy 12 rfl) 5 rfl ?_
  refine e_iconst (v := 0) (pc := 21) Xc (dT hX0_doneBy 13 rfl) rfl ?_
  refine cl_X0_28 (pc := 22) (k := 0) (n := 0) (S := []) Xc (c0_rd hAX10 (hSA.off ((ho3.tr ho6).tr ho9) hna hno) hna hno hk6 (Nat.zero_le _) x 0 (Nat.zero_le _)) (dT hX0_doneBy 14 rfl) rfl (Nat.le_of_ble_eq_true rfl) (Nat.le_of_ble_eq_true rfl) (Nat.le_of_ble_eq_true rfl) rfl (Nat.le_of_ble_eq_true rfl) (fun r11 σ12 hq13 => ?_)
  obtain ⟨r11e, r11h, r11o⟩ := hq13
  have r11e := r11e.symm; subst r11e
  refine e_iret (pc := 25) Xc hQ (dT hX0_doneBy 15 rfl) (Nat.le_refl _) (Nat.le_refl _) ?_
  exact ⟨rfl, r11h, (((ho3.tr ho6).tr ho9).tr r11o)⟩
set_option maxRecDepth 100000 in
set_option maxHeartbeats 4000000 in
theorem c0_doneBy1 {G : xG} {σ : xS} {ac k rr : Nat} {g : Nat → Int32} {F : Nat → Int32} {T : Nat → Nat} {A : Nat → Nat → Int32} (hP : PX0 σ ac F T A) (hF1 : F 1 = 0) (hA : ∀ q, q < 20 → A 1 q = g q) (hSA : PSA G σ) (hna : gA G ≠ ac) (hno : gO G ≠ ac) (hk6 : k ≤ 6) (u w x : Int32) : CI G yX0_doneBy cX0_doneBy 6 (some .int) 8 0 0 [.ref ac, .int u, .int (nI k), .int w, .int 1, .int x] σ (fun z σ1 => z = (brA (nI k) u w (0, g) x).1 ∧ AX σ1 ac k u w (brA (nI k) u w (0, g) x).2 ∧ Off ac σ σ1) := by
  refine Met.ofX (by decide +kernel) (Nat.le_of_ble_eq_true rfl) (fun μ Xc hQ hnm => ?_)
  have Xc : xC G μ cX0_doneBy 6 RX0 (some .int) 8 0 0 := Xc
  show Ev G μ 6 0 0 0 [(0, .ref ac), (1, .int u), (2, .int (nI k)), (3, .int w), (4, .int 1), (5, .int x)] [] σ
  refine e_aload_n (pc := 0) Xc (dT hX0_doneBy 0 rfl) 0 rfl ?_
  refine e_iload_n (pc := 1) Xc (dT hX0_doneBy 1 rfl) 1 rfl ?_
  refine pf_X0_19 (fs' := olX0 ac (upd F 2 u) T) (pc := 2) Xc (dT hX0_doneBy 2 rfl) hP.o (Nat.le_of_ble_eq_true rfl) rfl ?_
  refine Ev.gen (fun z => PX0 z ac (upd F 2 u) T A) (hP.wf2 (x := u)) Off.set (fun σ1 hP2 ho3 => ?_)
  refine e_aload_n (pc := 5) Xc (dT hX0_doneBy 3 rfl) 0 rfl ?_
  refine e_iload_n (pc := 6) Xc (dT hX0_doneBy 4 rfl) 2 rfl ?_
  refine pf_X0_22 (fs' := olX0 ac (upd (upd F 2 u) 3 (nI k)) T) (pc := 7) Xc (dT hX0_doneBy 5 rfl) hP2.o (Nat.le_of_ble_eq_true rfl) rfl ?_
  refine Ev.gen (fun z => PX0 z ac (upd (upd F 2 u) 3 (nI k)) T A) (hP2.wf3 (x := nI k)) Off.set (fun σ4 hP5 ho6 => ?_)
  refine e_aload_n (pc := 10) Xc (dT hX0_doneBy 6 rfl) 0 rfl ?_
  refine e_iload_n (pc := 11) Xc (dT hX0_doneBy 7 rfl) 3 rfl ?_
  refine pf_X0_25 (fs' := olX0 ac (upd (upd (upd F 2 u) 3 (nI k)) 4 w) T) (pc := 12) Xc (dT hX0_doneBy 8 rfl) hP5.o (Nat.le_of_ble_eq_true rfl) rfl ?_
  refine Ev.gen (fun z => PX0 z ac (upd (upd (upd F 2 u) 3 (nI k)) 4 w) T A) (hP5.wf4 (x := w)) Off.set (fun σ7 hP8 ho9 => ?_)
  refine e_aload_n (pc := 15) Xc (dT hX0_doneBy 9 rfl) 0 rfl ?_
  have hAX10 : AX σ7 ac k u w (0, g) := ⟨_, _, _, hP8, ((upd_n (by decide)).trans ((upd_n (by decide)).trans (upd_n (by decide)))).trans hF1, (upd_n (by decide)).trans ((upd_n (by decide)).trans upd_s), (upd_n (by decide)).trans upd_s, upd_s, hA⟩
  refine e_iload (pc := 16) Xc (dT hX0_doneBy 10 rfl) 4 rfl ?_
  refine e_iload_n (pc := 18) Xc (dT hX0_doneBy 11 rfl) 2 rfl ?_
  refine e_iload (pc := 19) Xc (dT hX0_doneBy 12 rfl) 5 rfl ?_
  refine e_iconst (v := 0) (pc := 21) Xc (dT hX0_doneBy 13 rfl) rfl ?_
  refine cl_X0_28 (pc := 22) (k := 0) (n := 0) (S := []) Xc (c0_br hAX10 (hSA.off ((ho3.tr ho6).tr ho9) hna hno) hna hno hk6 (Nat.zero_le _) x 0 (Nat.zero_le _)) (dT hX0_doneBy 14 rfl) rfl (Nat.le_of_ble_eq_true rfl) (Nat.le_of_ble_eq_true rfl) (Nat.le_of_ble_eq_true rfl) rfl (Nat.le_of_ble_eq_true rfl) (fun r11 σ12 hq13 => ?_)
  obtain ⟨r11e, r11h, r11o⟩ := hq13
  have r11e := r11e.symm; subst r11e
  refine e_iret (pc := 25) Xc hQ (dT hX0_doneBy 15 rfl) (Nat.le_refl _) (Nat.le_refl _) ?_
  exact ⟨rfl, r11h, (((ho3.tr ho6).tr ho9).tr r11o)⟩
set_option maxRecDepth 100000 in
set_option maxHeartbeats 4000000 in
theorem c0_doneBy2 {G : xG} {σ : xS} {ac k rr : Nat} {g : Nat → Int32} {F : Nat → Int32} {T : Nat → Nat} {A : Nat → Nat → Int32} (hP : PX0 σ ac F T A) (hF1 : F 1 = 0) (hA : ∀ q, q < 20 → A 1 q = g q) (hSA : PSA G σ) (hna : gA G ≠ ac) (hno : gO G ≠ ac) (hk6 : k ≤ 6) (u w x : Int32) : CI G yX0_doneBy cX0_doneBy 6 (some .int) 8 0 0 [.ref ac, .int u, .int (nI k), .int w, .int 2, .int x] σ (fun z σ1 => z = (teA (nI k) u w (0, g) x).1 ∧ AX σ1 ac k u w (teA (nI k) u w (0, g) x).2 ∧ Off ac σ σ1) := by
  refine Met.ofX (by decide +kernel) (Nat.le_of_ble_eq_true rfl) (fun μ Xc hQ hnm => ?_)
  have Xc : xC G μ cX0_doneBy 6 RX0 (some .int) 8 0 0 := Xc
  show Ev G μ 6 0 0 0 [(0, .ref ac), (1, .int u), (2, .int (nI k)), (3, .int w), (4, .int 2), (5, .int x)] [] σ
  refine e_aload_n (pc := 0) Xc (dT hX0_doneBy 0 rfl) 0 rfl ?_
  refine e_iload_n (pc := 1) Xc (dT hX0_doneBy 1 rfl) 1 rfl ?_
  refine pf_X0_19 (fs' := olX0 ac (upd F 2 u) T) (pc := 2) Xc (dT hX0_doneBy 2 rfl) hP.o (Nat.le_of_ble_eq_true rfl) rfl ?_
  refine Ev.gen (fun z => PX0 z ac (upd F 2 u) T A) (hP.wf2 (x := u)) Off.set (fun σ1 hP2 ho3 => ?_)
  refine e_aload_n (pc := 5) Xc (dT hX0_doneBy 3 rfl) 0 rfl ?_
  refine e_iload_n (pc := 6) Xc (dT hX0_doneBy 4 rfl) 2 rfl ?_
  refine pf_X0_22 (fs' := olX0 ac (upd (upd F 2 u) 3 (nI k)) T) (pc := 7) Xc (dT hX0_doneBy 5 rfl) hP2.o (Nat.le_of_ble_eq_true rfl) rfl ?_
  refine Ev.gen (fun z => PX0 z ac (upd (upd F 2 u) 3 (nI k)) T A) (hP2.wf3 (x := nI k)) Off.set (fun σ4 hP5 ho6 => ?_)
  refine e_aload_n (pc := 10) Xc (dT hX0_doneBy 6 rfl) 0 rfl ?_
  refine e_iload_n (pc := 11) Xc (dT hX0_doneBy 7 rfl) 3 rfl ?_
  refine pf_X0_25 (fs' := olX0 ac (upd (upd (upd F 2 u) 3 (nI k)) 4 w) T) (pc := 12) Xc (dT hX0_doneBy 8 rfl) hP5.o (Nat.le_of_ble_eq_true rfl) rfl ?_
  refine Ev.gen (fun z => PX0 z ac (upd (upd (upd F 2 u) 3 (nI k)) 4 w) T A) (hP5.wf4 (x := w)) Off.set (fun σ7 hP8 ho9 => ?_)
  refine e_aload_n (pc := 15) Xc (dT hX0_doneBy 9 rfl) 0 rfl ?_
  have hAX10 : AX σ7 ac k u w (0, g) := ⟨_, _, _, hP8, ((upd_n (by decide)).trans ((upd_n (by decide)).trans (upd_n (by decide)))).trans hF1, (upd_n (by decide)).trans ((upd_n (by decide)).trans upd_s), (upd_n (by decide)).trans upd_s, upd_s, hA⟩
  refine e_iload (pc := 16) Xc (dT hX0_doneBy 10 rfl) 4 rfl ?_
  refine e_iload_n (pc := 18) Xc (dT hX0_doneBy 11 rfl) 2 rfl ?_
  refine e_iload (pc := 19) Xc (dT hX0_doneBy 12 rfl) 5 rfl ?_
  refine e_iconst (v := 0) (pc := 21) Xc (dT hX0_doneBy 13 rfl) rfl ?_
  refine cl_X0_28 (pc := 22) (k := 0) (n := 0) (S := []) Xc (c0_te hAX10 (hSA.off ((ho3.tr ho6).tr ho9) hna hno) hna hno hk6 (Nat.zero_le _) x 0 (Nat.zero_le _)) (dT hX0_doneBy 14 rfl) rfl (Nat.le_of_ble_eq_true rfl) (Nat.le_of_ble_eq_true rfl) (Nat.le_of_ble_eq_true rfl) rfl (Nat.le_of_ble_eq_true rfl) (fun r11 σ12 hq13 => ?_)
  obtain ⟨r11e, r11h, r11o⟩ := hq13
  have r11e := r11e.symm; subst r11e
  refine e_iret (pc := 25) Xc hQ (dT hX0_doneBy 15 rfl) (Nat.le_refl _) (Nat.le_refl _) ?_
  exact ⟨rfl, r11h, (((ho3.tr ho6).tr ho9).tr r11o)⟩
