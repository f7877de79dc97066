set_option maxRecDepth 100000 in
set_option maxHeartbeats 4000000 in
theorem c5_enter {G : xG} {σ : xS} {w tw : Nat} {X : Nat → Int32} {nr nb : Nat} {t : xT} (hX : WX σ w tw X nr nb t 1024) (hn : nr < 4) (k v : Nat) (hk : k ≤ 6) (hv : v ≤ 9) : CV G yX5_enter cX5_enter 3 none 1 0 0 [.ref w, .int (nI k), .int (nI v)] σ (fun σ1 => WX σ1 w tw (upd (upd (upd (upd X (20 + nr) (nI k)) (24 + nr) (nI v)) (1 + nr) (-1)) 12 (nI (nr + 1))) (nr + 1) nb t 1024 ∧ Off w σ σ1) := by
  refine Met.ofX (by decide +kernel) (Nat.le_of_ble_eq_true rfl) (fun μ Xc hQ hnm => ?_)
  have Xc : xC G μ cX5_enter 3 RX5 none 1 0 0 := Xc
  obtain ⟨F, T, A, hB, htw⟩ := id hX
  obtain ⟨hP, hW, hTw, hne, hG, hT⟩ := id hB
  have hr4 := hG.r4
  have hb7 := hG.b7
  show Ev G μ 3 0 0 0 [(0, .ref w), (1, .int (nI k)), (2, .int (nI v))] [] σ
  refine e_aload_n (pc := 0) Xc (dT hX5_enter 0 rfl) 0 rfl ?_
  refine gf_X5_15 (pc := 1) Xc (dT hX5_enter 1 rfl) hP.o rfl ?_
  refine e_aload_n (pc := 4) Xc (dT hX5_enter 2 rfl) 0 rfl ?_
  refine gf_X5_40 (pc := 5) Xc (dT hX5_enter 3 rfl) hP.o rfl ?_
  refine e_val (y := nI nr) hW.2.2.2.2.2.2.1 ?_
  refine e_iload_n (pc := 8) Xc (dT hX5_enter 4 rfl) 1 rfl ?_
  refine cl_X5_60 (pc := 9) (k := 0) (n := 0) (S := []) Xc (c_put hP.a2 (by decide) nr (by omega) (nI k)) (dT hX5_enter 5 rfl) rfl (Nat.le_of_ble_eq_true rfl) (Nat.le_of_ble_eq_true rfl) (Nat.le_of_ble_eq_true rfl) rfl (Nat.le_of_ble_eq_true rfl) (fun σ2 hq3 => ?_)
  subst hq3
  refine Ev.gen (fun z => PX5 z w F T (upA A 2 (upd (A 2) nr (nI k)))) (hP.wa2 (g := (upd (A 2) nr (nI k)))) Off.set (fun σ4 hP5 ho6 => ?_)
  refine e_aload_n (pc := 12) Xc (dT hX5_enter 6 rfl) 0 rfl ?_
  refine gf_X5_18 (pc := 13) Xc (dT hX5_enter 7 rfl) hP5.o rfl ?_
  refine e_aload_n (pc := 16) Xc (dT hX5_enter 8 rfl) 0 rfl ?_
  refine gf_X5_40 (pc := 17) Xc (dT hX5_enter 9 rfl) hP5.o rfl ?_
  refine e_val (y := nI nr) hW.2.2.2.2.2.2.1 ?_
  refine e_iload_n (pc := 20) Xc (dT hX5_enter 10 rfl) 2 rfl ?_
  refine cl_X5_60 (pc := 21) (k := 0) (n := 0) (S := []) Xc (c_put hP5.a3 (by decide) nr (by omega) (nI v)) (dT hX5_enter 11 rfl) rfl (Nat.le_of_ble_eq_true rfl) (Nat.le_of_ble_eq_true rfl) (Nat.le_of_ble_eq_true rfl) rfl (Nat.le_of_ble_eq_true rfl) (fun σ8 hq9 => ?_)
  subst hq9
  refine Ev.gen (fun z => PX5 z w F T (upA (upA A 2 (upd (A 2) nr (nI k))) 3 (upd (A 3) nr (nI v)))) (hP5.wa3 (g := (upd (A 3) nr (nI v)))) Off.set (fun σ10 hP11 ho12 => ?_)
  refine e_aload_n (pc := 24) Xc (dT hX5_enter 12 rfl) 0 rfl ?_
  refine gf_X5_21 (pc := 25) Xc (dT hX5_enter 13 rfl) hP11.o rfl ?_
  refine e_aload_n (pc := 28) Xc (dT hX5_enter 14 rfl) 0 rfl ?_
  refine gf_X5_40 (pc := 29) Xc (dT hX5_enter 15 rfl) hP11.o rfl ?_
  refine e_val (y := nI nr) hW.2.2.2.2.2.2.1 ?_
  refine e_bipush (v := -5) (pc := 32) Xc (dT hX5_enter 16 rfl) rfl ?_
  refine cl_X5_60 (pc := 34) (k := 0) (n := 0) (S := []) Xc (c_put hP11.a4 (by decide) nr (by omega) (-5)) (dT hX5_enter 17 rfl) rfl (Nat.le_of_ble_eq_true rfl) (Nat.le_of_ble_eq_true rfl) (Nat.le_of_ble_eq_true rfl) rfl (Nat.le_of_ble_eq_true rfl) (fun σ14 hq15 => ?_)
  subst hq15
  refine Ev.gen (fun z => PX5 z w F T (upA (upA (upA A 2 (upd (A 2) nr (nI k))) 3 (upd (A 3) nr (nI v))) 4 (upd (A 4) nr (-5)))) (hP11.wa4 (g := (upd (A 4) nr (-5)))) Off.set (fun σ16 hP17 ho18 => ?_)
  refine e_aload_n (pc := 37) Xc (dT hX5_enter 18 rfl) 0 rfl ?_
  refine e_dup (pc := 38) Xc (dT hX5_enter 19 rfl) rfl ?_
  refine gf_X5_40 (pc := 39) Xc (dT hX5_enter 20 rfl) hP17.o rfl ?_
  refine e_val (y := nI nr) hW.2.2.2.2.2.2.1 ?_
  refine e_iconst (v := 1) (pc := 42) Xc (dT hX5_enter 21 rfl) rfl ?_
  refine e_iaddN (a := nr) (b := 1) (pc := 43) Xc (dT hX5_enter 22 rfl) ?_
  refine pf_X5_40 (fs' := olX5 w (upd F 9 (nI (nr + 1))) T) (pc := 44) Xc (dT hX5_enter 23 rfl) hP17.o (Nat.le_of_ble_eq_true rfl) rfl ?_
  refine Ev.gen (fun z => PX5 z w (upd F 9 (nI (nr + 1))) T (upA (upA (upA A 2 (upd (A 2) nr (nI k))) 3 (upd (A 3) nr (nI v))) 4 (upd (A 4) nr (-5)))) (hP17.wf9 (x := nI (nr + 1))) Off.set (fun σ19 hP20 ho21 => ?_)
  refine e_vret (pc := 47) Xc hQ (dT hX5_enter 24 rfl) (Nat.le_refl _) (Nat.le_refl _) ?_
  exact ⟨⟨_, T, _, ⟨hP20, hW.enter hn hb7, hTw.off (((ho6.tr ho12).tr ho18).tr ho21) (Ne.symm hne), hne, hG.enter hn hk hv, Hd_enter hT hn⟩, htw⟩, (((ho6.tr ho12).tr ho18).tr ho21)⟩
set_option maxRecDepth 100000 in
set_option maxHeartbeats 4000000 in
theorem c4_write {G : xG} {σ : xS} {tw : Nat} {F : Nat → Int32} {T : Nat → Nat} {A : Nat → Nat → Int32} (hP : PX4 σ tw F T A) (n : Nat) (hn : F 3 = nI n) (h100 : n < 100) (e : Int32) : CV G yX4_write cX4_write 2 none 1 0 0 [.ref tw, .int e] σ (fun σ1 => PX4 σ1 tw (upd F 3 (nI (n + 1))) T (upA A 1 (upd (A 1) n e)) ∧ Off tw σ σ1) := by
  refine Met.ofX (by decide +kernel) (Nat.le_of_ble_eq_true rfl) (fun μ Xc hQ hnm => ?_)
  have Xc : xC G μ cX4_write 2 RX4 none 1 0 0 := Xc
  show Ev G μ 2 0 0 0 [(0, .ref tw), (1, .int e)] [] σ
  refine e_aload_n (pc := 0) Xc (dT hX4_write 0 rfl) 0 rfl ?_
  refine gf_X4_9 (pc := 1) Xc (dT hX4_write 1 rfl) hP.o rfl ?_
  refine e_aload_n (pc := 4) Xc (dT hX4_write 2 rfl) 0 rfl ?_
  refine gf_X4_21 (pc := 5) Xc (dT hX4_write 3 rfl) hP.o rfl ?_
  refine e_val (y := nI n) hn ?_
  refine e_iload_n (pc := 8) Xc (dT hX4_write 4 rfl) 1 rfl ?_
  refine cl_X4_34 (pc := 9) (k := 0) (n := 0) (S := []) Xc (c_put hP.a1 (by decide) n (by omega) e) (dT hX4_write 5 rfl) rfl (Nat.le_of_ble_eq_true rfl) (Nat.le_of_ble_eq_true rfl) (Nat.le_of_ble_eq_true rfl) rfl (Nat.le_of_ble_eq_true rfl) (fun σ2 hq3 => ?_)
  subst hq3
  refine Ev.gen (fun z => PX4 z tw F T (upA A 1 (upd (A 1) n e))) (hP.wa1 (g := (upd (A 1) n e))) Off.set (fun σ4 hP5 ho6 => ?_)
  refine e_aload_n (pc := 12) Xc (dT hX4_write 6 rfl) 0 rfl ?_
  refine e_dup (pc := 13) Xc (dT hX4_write 7 rfl) rfl ?_
  refine gf_X4_21 (pc := 14) Xc (dT hX4_write 8 rfl) hP5.o rfl ?_
  refine e_val (y := nI n) hn ?_
  refine e_iconst (v := 1) (pc := 17) Xc (dT hX4_write 9 rfl) rfl ?_
  refine e_iaddN (a := n) (b := 1) (pc := 18) Xc (dT hX4_write 10 rfl) ?_
  refine pf_X4_21 (fs' := olX4 tw (upd F 3 (nI (n + 1))) T) (pc := 19) Xc (dT hX4_write 11 rfl) hP5.o (Nat.le_of_ble_eq_true rfl) rfl ?_
  refine Ev.gen (fun z => PX4 z tw (upd F 3 (nI (n + 1))) T (upA A 1 (upd (A 1) n e))) (hP5.wf3 (x := nI (n + 1))) Off.set (fun σ7 hP8 ho9 => ?_)
  refine e_vret (pc := 22) Xc hQ (dT hX4_write 12 rfl) (Nat.le_refl _) (Nat.le_refl _) ?_
  exact ⟨hP8, (ho6.tr ho9)⟩
set_option maxRecDepth 100000 in
set_option maxHeartbeats 4000000 in
theorem c4_endFeeling {G : xG} {σ : xS} {tw : Nat} {F : Nat → Int32} {T : Nat → Nat} {A : Nat → Nat → Int32} (hP : PX4 σ tw F T A) (f : Nat) (hf : F 4 = nI f) (h10 : f < 10) (v : Int32) : CV G yX4_endFeeling cX4_endFeeling 2 none 1 0 0 [.ref tw, .int v] σ (fun σ1 => PX4 σ1 tw (upd F 4 (nI (f + 1))) T (upA (upA A 2 (upd (A 2) f v)) 3 (upd (A 3) f (F 3))) ∧ Off tw σ σ1) := by
  refine Met.ofX (by decide +kernel) (Nat.le_of_ble_eq_true rfl) (fun μ Xc hQ hnm => ?_)
  have Xc : xC G μ cX4_endFeeling 2 RX4 none 1 0 0 := Xc
  show Ev G μ 2 0 0 0 [(0, .ref tw), (1, .int v)] [] σ
  refine e_aload_n (pc := 0) Xc (dT hX4_endFeeling 0 rfl) 0 rfl ?_
  refine gf_X4_15 (pc := 1) Xc (dT hX4_endFeeling 1 rfl) hP.o rfl ?_
  refine e_aload_n (pc := 4) Xc (dT hX4_endFeeling 2 rfl) 0 rfl ?_
  refine gf_X4_25 (pc := 5) Xc (dT hX4_endFeeling 3 rfl) hP.o rfl ?_
  refine e_val (y := nI f) hf ?_
  refine e_iload_n (pc := 8) Xc (dT hX4_endFeeling 4 rfl) 1 rfl ?_
  refine cl_X4_34 (pc := 9) (k := 0) (n := 0) (S := []) Xc (c_put hP.a2 (by decide) f (by omega) v) (dT hX4_endFeeling 5 rfl) rfl (Nat.le_of_ble_eq_true rfl) (Nat.le_of_ble_eq_true rfl) (Nat.le_of_ble_eq_true rfl) rfl (Nat.le_of_ble_eq_true rfl) (fun σ2 hq3 => ?_)
  subst hq3
  refine Ev.gen (fun z => PX4 z tw F T (upA A 2 (upd (A 2) f v))) (hP.wa2 (g := (upd (A 2) f v))) Off.set (fun σ4 hP5 ho6 => ?_)
  refine e_aload_n (pc := 12) Xc (dT hX4_endFeeling 6 rfl) 0 rfl ?_
  refine gf_X4_18 (pc := 13) Xc (dT hX4_endFeeling 7 rfl) hP5.o rfl ?_
  refine e_aload_n (pc := 16) Xc (dT hX4_endFeeling 8 rfl) 0 rfl ?_
  refine gf_X4_25 (pc := 17) Xc (dT hX4_endFeeling 9 rfl) hP5.o rfl ?_
  refine e_val (y := nI f) hf ?_
  refine e_aload_n (pc := 20) Xc (dT hX4_endFeeling 10 rfl) 0 rfl ?_
  refine gf_X4_21 (pc := 21) Xc (dT hX4_endFeeling 11 rfl) hP5.o rfl ?_
  refine cl_X4_34 (pc := 24) (k := 0) (n := 0) (S := []) Xc (c_put hP5.a3 (by decide) f (by omega) (F 3)) (dT hX4_endFeeling 12 rfl) rfl (Nat.le_of_ble_eq_true rfl) (Nat.le_of_ble_eq_true rfl) (Nat.le_of_ble_eq_true rfl) rfl (Nat.le_of_ble_eq_true rfl) (fun σ8 hq9 => ?_)
  subst hq9
  refine Ev.gen (fun z => PX4 z tw F T (upA (upA A 2 (upd (A 2) f v)) 3 (upd (A 3) f (F 3)))) (hP5.wa3 (g := (upd (A 3) f (F 3)))) Off.set (fun σ10 hP11 ho12 => ?_)
  refine e_aload_n (pc := 27) Xc (dT hX4_endFeeling 13 rfl) 0 rfl ?_
  refine e_dup (pc := 28) Xc (dT hX4_endFeeling 14 rfl) rfl ?_
  refine gf_X4_25 (pc := 29) Xc (dT hX4_endFeeling 15 rfl) hP11.o rfl ?_
  refine e_val (y := nI f) hf ?_
  refine e_iconst (v := 1) (pc := 32) Xc (dT hX4_endFeeling 16 rfl) rfl ?_
  refine e_iaddN (a := f) (b := 1) (pc := 33) Xc (dT hX4_endFeeling 17 rfl) ?_
  refine pf_X4_25 (fs' := olX4 tw (upd F 4 (nI (f + 1))) T) (pc := 34) Xc (dT hX4_endFeeling 18 rfl) hP11.o (Nat.le_of_ble_eq_true rfl) rfl ?_
  refine Ev.gen (fun z => PX4 z tw (upd F 4 (nI (f + 1))) T (upA (upA A 2 (upd (A 2) f v)) 3 (upd (A 3) f (F 3)))) (hP11.wf4 (x := nI (f + 1))) Off.set (fun σ13 hP14 ho15 => ?_)
  refine e_vret (pc := 37) Xc hQ (dT hX4_endFeeling 19 rfl) (Nat.le_refl _) (Nat.le_refl _) ?_
  exact ⟨hP14, ((ho6.tr ho12).tr ho15)⟩
set_option maxRecDepth 100000 in
set_option maxHeartbeats 4000000 in
theorem c4_test {G : xG} {σ : xS} (l s n : Nat) : CI G yX4_test cX4_test 3 (some .int) 0 0 0 [.int (nI l), .int (nI s), .int (nI n)] σ (fun z σ1 => z = nI ((l * 3 + s) * 100 + n) ∧ σ1 = σ) := by
  refine Met.ofX (by decide +kernel) (Nat.le_of_ble_eq_true rfl) (fun μ Xc hQ hnm => ?_)
  have Xc : xC G μ cX4_test 3 RX4 (some .int) 0 0 0 := Xc
  show Ev G μ 3 0 0 0 [(0, .int (nI l)), (1, .int (nI s)), (2, .int (nI n))] [] σ
  refine e_iload_n (pc := 0) Xc (dT hX4_test 0 rfl) 0 rfl ?_
  refine e_iconst (v := 3) (pc := 1) Xc (dT hX4_test 1 rfl) rfl ?_
  refine e_imulN (a := l) (b := 3) (pc := 2) Xc (dT hX4_test 2 rfl) ?_
  refine e_iload_n (pc := 3) Xc (dT hX4_test 3 rfl) 1 rfl ?_
  refine e_iaddN (a := l * 3) (b := s) (pc := 4) Xc (dT hX4_test 4 rfl) ?_
  refine e_bipush (v := 100) (pc := 5) Xc (dT hX4_test 5 rfl) rfl ?_
  refine e_imulN (a := (l * 3) + s) (b := 100) (pc := 7) Xc (dT hX4_test 6 rfl) ?_
  refine e_iload_n (pc := 8) Xc (dT hX4_test 7 rfl) 2 rfl ?_
  refine e_iaddN (a := ((l * 3) + s) * 100) (b := n) (pc := 9) Xc (dT hX4_test 8 rfl) ?_
  refine e_iret (pc := 10) Xc hQ (dT hX4_test 9 rfl) (Nat.le_refl _) (Nat.le_refl _) ?_
  exact ⟨rfl, rfl⟩
