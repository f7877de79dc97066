set_option maxRecDepth 100000 in
set_option maxHeartbeats 4000000 in
theorem kX0_init {G : xG} {σ : xS} {o : Nat} (h0 : σ.2 (o, 0) = some (.inr (0, DX0))) (hsz : σ.1 = o + 1) : CV G yX0_init cX0_init 1 none 1 1 20 [.ref o] σ (fun σ1 => PX0 σ1 o Z0 (fun _ => 0) Z1 ∧ σ1.1 = o + 2 ∧ ∀ q : Nat × Nat, q.1 < o → σ1.2 q = σ.2 q) := by
  refine Met.ofX (by decide +kernel) (Nat.le_of_ble_eq_true rfl) (fun μ Xc hQ hnm => ?_)
  have Xc : xC G μ cX0_init 1 RX0 none 1 1 20 := Xc
  show Ev G μ 1 0 0 0 [(0, .ref o)] [] σ
  refine e_aload_n (pc := 0) Xc (dT hX0_init 0 rfl) 0 rfl ?_
  refine e_objInit (pc := 1) Xc w_ml_X0_3 w_inst_objectInit w_code_objectInit (dT hX0_init 1 rfl) (Nat.le_of_ble_eq_true rfl) (Nat.le_of_ble_eq_true rfl) ?_
  refine Ev.ab (fun z => CQ σ z o 0 [.null, .int 0, .int 0, .int 0, .int 0] 0 tabX0 (o + 1)) (CQ.start h0 hsz) (fun σ1 hq1 => ?_)
  have hc1 := hq1
  refine e_aload_n (pc := 4) Xc (dT hX0_init 2 rfl) 0 rfl ?_
  refine e_bipush (v := 20) (pc := 5) Xc (dT hX0_init 3 rfl) rfl ?_
  refine e_newa (o := o) (i := 1) (t := 0) (N' := 20) (pc := 7) Xc (dT hX0_init 4 rfl) (Or.inl ⟨rfl, rfl⟩) w_arr_int (by decide) (by decide +kernel) (by decide) (Nat.le_of_ble_eq_true rfl) (Nat.le_of_ble_eq_true rfl) hc1.2.2.1.symm ?_
  refine Ev.ab (fun z => CQ σ z o 0 [.null, .int 0, .int 0, .int 0, .int 0] 1 tabX0 (o + 2)) (hc1.arr rfl rfl rfl) (fun σ2 hq2 => ?_)
  have hc2 := hq2
  refine pf_X0_9 (fs' := [.ref (o + 1), .int 0, .int 0, .int 0, .int 0]) (pc := 9) Xc hnm (dT hX0_init 5 rfl) hc2.1 (Nat.le_of_ble_eq_true rfl) rfl ?_
  refine Ev.ab (fun z => CQ σ z o 0 [.ref (o + 1), .int 0, .int 0, .int 0, .int 0] 1 tabX0 (o + 2)) hc2.fld (fun σ3 hq3 => ?_)
  have hc3 := hq3
  refine e_aload_n (pc := 12) Xc (dT hX0_init 6 rfl) 0 rfl ?_
  refine e_iconst (v := 0) (pc := 13) Xc (dT hX0_init 7 rfl) rfl ?_
  refine pf_X0_15 (fs' := [.ref (o + 1), .int 0, .int 0, .int 0, .int 0]) (pc := 14) Xc (dT hX0_init 8 rfl) hc3.1 (Nat.le_of_ble_eq_true rfl) rfl ?_
  refine Ev.ab (fun z => CQ σ z o 0 [.ref (o + 1), .int 0, .int 0, .int 0, .int 0] 1 tabX0 (o + 2)) hc3.fld (fun σ4 hq4 => ?_)
  have hc4 := hq4
  refine e_aload_n (pc := 17) Xc (dT hX0_init 9 rfl) 0 rfl ?_
  refine e_iconst (v := 0) (pc := 18) Xc (dT hX0_init 10 rfl) rfl ?_
  refine pf_X0_19 (fs' := [.ref (o + 1), .int 0, .int 0, .int 0, .int 0]) (pc := 19) Xc (dT hX0_init 11 rfl) hc4.1 (Nat.le_of_ble_eq_true rfl) rfl ?_
  refine Ev.ab (fun z => CQ σ z o 0 [.ref (o + 1), .int 0, .int 0, .int 0, .int 0] 1 tabX0 (o + 2)) hc4.fld (fun σ5 hq5 => ?_)
  have hc5 := hq5
  refine e_aload_n (pc := 22) Xc (dT hX0_init 12 rfl) 0 rfl ?_
  refine e_iconst (v := 0) (pc := 23) Xc (dT hX0_init 13 rfl) rfl ?_
  refine pf_X0_22 (fs' := [.ref (o + 1), .int 0, .int 0, .int 0, .int 0]) (pc := 24) Xc (dT hX0_init 14 rfl) hc5.1 (Nat.le_of_ble_eq_true rfl) rfl ?_
  refine Ev.ab (fun z => CQ σ z o 0 [.ref (o + 1), .int 0, .int 0, .int 0, .int 0] 1 tabX0 (o + 2)) hc5.fld (fun σ6 hq6 => ?_)
  have hc6 := hq6
  refine e_aload_n (pc := 27) Xc (dT hX0_init 15 rfl) 0 rfl ?_
  refine e_iconst (v := 0) (pc := 28) Xc (dT hX0_init 16 rfl) rfl ?_
  refine pf_X0_25 (fs' := [.ref (o + 1), .int 0, .int 0, .int 0, .int 0]) (pc := 29) Xc (dT hX0_init 17 rfl) hc6.1 (Nat.le_of_ble_eq_true rfl) rfl ?_
  refine Ev.ab (fun z => CQ σ z o 0 [.ref (o + 1), .int 0, .int 0, .int 0, .int 0] 1 tabX0 (o + 2)) hc6.fld (fun σ7 hq7 => ?_)
  have hc7 := hq7
  refine e_vret (pc := 32) Xc hQ (dT hX0_init 18 rfl) (Nat.le_of_ble_eq_true rfl) (Nat.le_of_ble_eq_true rfl) ?_
  exact ⟨⟨hc7.1, hc7.2.1 1 (by decide) (by decide)⟩, hc7.2.2.1, hc7.2.2.2⟩
set_option maxRecDepth 100000 in
set_option maxHeartbeats 4000000 in
theorem kX1_init {G : xG} {σ : xS} {o : Nat} (h0 : σ.2 (o, 0) = some (.inr (1, DX1))) (hsz : σ.1 = o + 1) : CV G yX1_init cX1_init 1 none 1 2 4936 [.ref o] σ (fun σ1 => PX1 σ1 o Z0 (fun _ => 0) Z1 ∧ σ1.1 = o + 3 ∧ ∀ q : Nat × Nat, q.1 < o → σ1.2 q = σ.2 q) := by
  refine Met.ofX (by decide +kernel) (Nat.le_of_ble_eq_true rfl) (fun μ Xc hQ hnm => ?_)
  have Xc : xC G μ cX1_init 1 RX1 none 1 2 4936 := Xc
  show Ev G μ 1 0 0 0 [(0, .ref o)] [] σ
  refine e_aload_n (pc := 0) Xc (dT hX1_init 0 rfl) 0 rfl ?_
  refine e_objInit (pc := 1) Xc w_ml_X1_3 w_inst_objectInit w_code_objectInit (dT hX1_init 1 rfl) (Nat.le_of_ble_eq_true rfl) (Nat.le_of_ble_eq_true rfl) ?_
  refine Ev.ab (fun z => CQ σ z o 1 [.null, .null, .int 0, .int 0] 0 tabX1 (o + 1)) (CQ.start h0 hsz) (fun σ1 hq1 => ?_)
  have hc1 := hq1
  refine e_aload_n (pc := 4) Xc (dT hX1_init 2 rfl) 0 rfl ?_
  refine e_sipush (v := 4096) (pc := 5) Xc (dT hX1_init 3 rfl) rfl ?_
  refine e_newa (o := o) (i := 1) (t := 0) (N' := 4096) (pc := 8) Xc (dT hX1_init 4 rfl) (Or.inl ⟨rfl, rfl⟩) w_arr_int (by decide) (by decide +kernel) (by decide) (Nat.le_of_ble_eq_true rfl) (Nat.le_of_ble_eq_true rfl) hc1.2.2.1.symm ?_
  refine Ev.ab (fun z => CQ σ z o 1 [.null, .null, .int 0, .int 0] 1 tabX1 (o + 2)) (hc1.arr rfl rfl rfl) (fun σ2 hq2 => ?_)
  have hc2 := hq2
  refine pf_X1_11 (fs' := [.ref (o + 1), .null, .int 0, .int 0]) (pc := 10) Xc hnm (dT hX1_init 5 rfl) hc2.1 (Nat.le_of_ble_eq_true rfl) rfl ?_
  refine Ev.ab (fun z => CQ σ z o 1 [.ref (o + 1), .null, .int 0, .int 0] 1 tabX1 (o + 2)) hc2.fld (fun σ3 hq3 => ?_)
  have hc3 := hq3
  refine e_aload_n (pc := 13) Xc (dT hX1_init 6 rfl) 0 rfl ?_
  refine e_sipush (v := 840) (pc := 14) Xc (dT hX1_init 7 rfl) rfl ?_
  refine e_newa (o := o) (i := 2) (t := 0) (N' := 840) (pc := 17) Xc (dT hX1_init 8 rfl) (Or.inl ⟨rfl, rfl⟩) w_arr_int (by decide) (by decide +kernel) (by decide) (Nat.le_of_ble_eq_true rfl) (Nat.le_of_ble_eq_true rfl) hc3.2.2.1.symm ?_
  refine Ev.ab (fun z => CQ σ z o 1 [.ref (o + 1), .null, .int 0, .int 0] 2 tabX1 (o + 3)) (hc3.arr rfl rfl rfl) (fun σ4 hq4 => ?_)
  have hc4 := hq4
  refine pf_X1_15 (fs' := [.ref (o + 1), .ref (o + 2), .int 0, .int 0]) (pc := 19) Xc hnm (dT hX1_init 9 rfl) hc4.1 (Nat.le_of_ble_eq_true rfl) rfl ?_
  refine Ev.ab (fun z => CQ σ z o 1 [.ref (o + 1), .ref (o + 2), .int 0, .int 0] 2 tabX1 (o + 3)) hc4.fld (fun σ5 hq5 => ?_)
  have hc5 := hq5
  refine e_aload_n (pc := 22) Xc (dT hX1_init 10 rfl) 0 rfl ?_
  refine e_iconst (v := 0) (pc := 23) Xc (dT hX1_init 11 rfl) rfl ?_
  refine pf_X1_18 (fs' := [.ref (o + 1), .ref (o + 2), .int 0, .int 0]) (pc := 24) Xc (dT hX1_init 12 rfl) hc5.1 (Nat.le_of_ble_eq_true rfl) rfl ?_
  refine Ev.ab (fun z => CQ σ z o 1 [.ref (o + 1), .ref (o + 2), .int 0, .int 0] 2 tabX1 (o + 3)) hc5.fld (fun σ6 hq6 => ?_)
  have hc6 := hq6
  refine e_aload_n (pc := 27) Xc (dT hX1_init 13 rfl) 0 rfl ?_
  refine e_iconst (v := 0) (pc := 28) Xc (dT hX1_init 14 rfl) rfl ?_
  refine pf_X1_22 (fs' := [.ref (o + 1), .ref (o + 2), .int 0, .int 0]) (pc := 29) Xc (dT hX1_init 15 rfl) hc6.1 (Nat.le_of_ble_eq_true rfl) rfl ?_
  refine Ev.ab (fun z => CQ σ z o 1 [.ref (o + 1), .ref (o + 2), .int 0, .int 0] 2 tabX1 (o + 3)) hc6.fld (fun σ7 hq7 => ?_)
  have hc7 := hq7
  refine e_vret (pc := 32) Xc hQ (dT hX1_init 16 rfl) (Nat.le_of_ble_eq_true rfl) (Nat.le_of_ble_eq_true rfl) ?_
  exact ⟨⟨hc7.1, hc7.2.1 1 (by decide) (by decide), hc7.2.1 2 (by decide) (by decide)⟩, hc7.2.2.1, hc7.2.2.2⟩
set_option maxRecDepth 100000 in
set_option maxHeartbeats 4000000 in
theorem kX2_init {G : xG} {σ : xS} {o : Nat} (h0 : σ.2 (o, 0) = some (.inr (2, DX2))) (hsz : σ.1 = o + 1) : CV G yX2_init cX2_init 1 none 1 8 150 [.ref o] σ (fun σ1 => PX2 σ1 o Z0 (fun _ => 0) Z1 ∧ σ1.1 = o + 9 ∧ ∀ q : Nat × Nat, q.1 < o → σ1.2 q = σ.2 q) := by
  refine Met.ofX (by decide +kernel) (Nat.le_of_ble_eq_true rfl) (fun μ Xc hQ hnm => ?_)
  have Xc : xC G μ cX2_init 1 RX2 none 1 8 150 := Xc
  show Ev G μ 1 0 0 0 [(0, .ref o)] [] σ
  refine e_aload_n (pc := 0) Xc (dT hX2_init 0 rfl) 0 rfl ?_
  refine e_objInit (pc := 1) Xc w_ml_X2_3 w_inst_objectInit w_code_objectInit (dT hX2_init 1 rfl) (Nat.le_of_ble_eq_true rfl) (Nat.le_of_ble_eq_true rfl) ?_
  refine Ev.ab (fun z => CQ σ z o 2 [.null, .null, .null, .null, .null, .null, .null, .null, .int 0, .int 0, .int 0, .int 0] 0 tabX2 (o + 1)) (CQ.start h0 hsz) (fun σ1 hq1 => ?_)
  have hc1 := hq1
  refine e_aload_n (pc := 4) Xc (dT hX2_init 2 rfl) 0 rfl ?_
  refine e_bipush (v := 100) (pc := 5) Xc (dT hX2_init 3 rfl) rfl ?_
  refine e_newa (o := o) (i := 1) (t := 0) (N' := 100) (pc := 7) Xc (dT hX2_init 4 rfl) (Or.inl ⟨rfl, rfl⟩) w_arr_int (by decide) (by decide +kernel) (by decide) (Nat.le_of_ble_eq_true rfl) (Nat.le_of_ble_eq_true rfl) hc1.2.2.1.symm ?_
  refine Ev.ab (fun z => CQ σ z o 2 [.null, .null, .null, .null, .null, .null, .null, .null, .int 0, .int 0, .int 0, .int 0] 1 tabX2 (o + 2)) (hc1.arr rfl rfl rfl) (fun σ2 hq2 => ?_)
  have hc2 := hq2
  refine pf_X2_9 (fs' := [.ref (o + 1), .null, .null, .null, .null, .null, .null, .null, .int 0, .int 0, .int 0, .int 0]) (pc := 9) Xc hnm (dT hX2_init 5 rfl) hc2.1 (Nat.le_of_ble_eq_true rfl) rfl ?_
  refine Ev.ab (fun z => CQ σ z o 2 [.ref (o + 1), .null, .null, .null, .null, .null, .null, .null, .int 0, .int 0, .int 0, .int 0] 1 tabX2 (o + 2)) hc2.fld (fun σ3 hq3 => ?_)
  have hc3 := hq3
  refine e_aload_n (pc := 12) Xc (dT hX2_init 6 rfl) 0 rfl ?_
  refine e_bipush (v := 6) (pc := 13) Xc (dT hX2_init 7 rfl) rfl ?_
  refine e_newa (o := o) (i := 2) (t := 0) (N' := 6) (pc := 15) Xc (dT hX2_init 8 rfl) (Or.inl ⟨rfl, rfl⟩) w_arr_int (by decide) (by decide +kernel) (by decide) (Nat.le_of_ble_eq_true rfl) (Nat.le_of_ble_eq_true rfl) hc3.2.2.1.symm ?_
  refine Ev.ab (fun z => CQ σ z o 2 [.ref (o + 1), .null, .null, .null, .null, .null, .null, .null, .int 0, .int 0, .int 0, .int 0] 2 tabX2 (o + 3)) (hc3.arr rfl rfl rfl) (fun σ4 hq4 => ?_)
  have hc4 := hq4
  refine pf_X2_15 (fs' := [.ref (o + 1), .ref (o + 2), .null, .null, .null, .null, .null, .null, .int 0, .int 0, .int 0, .int 0]) (pc := 17) Xc hnm (dT hX2_init 9 rfl) hc4.1 (Nat.le_of_ble_eq_true rfl) rfl ?_
  refine Ev.ab (fun z => CQ σ z o 2 [.ref (o + 1), .ref (o + 2), .null, .null, .null, .null, .null, .null, .int 0, .int 0, .int 0, .int 0] 2 tabX2 (o + 3)) hc4.fld (fun σ5 hq5 => ?_)
  have hc5 := hq5
  refine e_aload_n (pc := 20) Xc (dT hX2_init 10 rfl) 0 rfl ?_
  refine e_bipush (v := 6) (pc := 21) Xc (dT hX2_init 11 rfl) rfl ?_
  refine e_newa (o := o) (i := 3) (t := 0) (N' := 6) (pc := 23) Xc (dT hX2_init 12 rfl) (Or.inl ⟨rfl, rfl⟩) w_arr_int (by decide) (by decide +kernel) (by decide) (Nat.le_of_ble_eq_true rfl) (Nat.le_of_ble_eq_true rfl) hc5.2.2.1.symm ?_
  refine Ev.ab (fun z => CQ σ z o 2 [.ref (o + 1), .ref (o + 2), .null, .null, .null, .null, .null, .null, .int 0, .int 0, .int 0, .int 0] 3 tabX2 (o + 4)) (hc5.arr rfl rfl rfl) (fun σ6 hq6 => ?_)
  have hc6 := hq6
  refine pf_X2_18 (fs' := [.ref (o + 1), .ref (o + 2), .ref (o + 3), .null, .null, .null, .null, .null, .int 0, .int 0, .int 0, .int 0]) (pc := 25) Xc hnm (dT hX2_init 13 rfl) hc6.1 (Nat.le_of_ble_eq_true rfl) rfl ?_
  refine Ev.ab (fun z => CQ σ z o 2 [.ref (o + 1), .ref (o + 2), .ref (o + 3), .null, .null, .null, .null, .null, .int 0, .int 0, .int 0, .int 0] 3 tabX2 (o + 4)) hc6.fld (fun σ7 hq7 => ?_)
  have hc7 := hq7
  refine e_aload_n (pc := 28) Xc (dT hX2_init 14 rfl) 0 rfl ?_
  refine e_bipush (v := 6) (pc := 29) Xc (dT hX2_init 15 rfl) rfl ?_
  refine e_newa (o := o) (i := 4) (t := 0) (N' := 6) (pc := 31) Xc (dT hX2_init 16 rfl) (Or.inl ⟨rfl, rfl⟩) w_arr_int (by decide) (by decide +kernel) (by decide) (Nat.le_of_ble_eq_true rfl) (Nat.le_of_ble_eq_true rfl) hc7.2.2.1.symm ?_
  refine Ev.ab (fun z => CQ σ z o 2 [.ref (o + 1), .ref (o + 2), .ref (o + 3), .null, .null, .null, .null, .null, .int 0, .int 0, .int 0, .int 0] 4 tabX2 (o + 5)) (hc7.arr rfl rfl rfl) (fun σ8 hq8 => ?_)
  have hc8 := hq8
  refine pf_X2_21 (fs' := [.ref (o + 1), .ref (o + 2), .ref (o + 3), .ref (o + 4), .null, .null, .null, .null, .int 0, .int 0, .int 0, .int 0]) (pc := 33) Xc hnm (dT hX2_init 17 rfl) hc8.1 (Nat.le_of_ble_eq_true rfl) rfl ?_
  refine Ev.ab (fun z => CQ σ z o 2 [.ref (o + 1), .ref (o + 2), .ref (o + 3), .ref (o + 4), .null, .null, .null, .null, .int 0, .int 0, .int 0, .int 0] 4 tabX2 (o + 5)) hc8.fld (fun σ9 hq9 => ?_)
  have hc9 := hq9
  refine e_aload_n (pc := 36) Xc (dT hX2_init 18 rfl) 0 rfl ?_
  refine e_bipush (v := 8) (pc := 37) Xc (dT hX2_init 19 rfl) rfl ?_
  refine e_newa (o := o) (i := 5) (t := 0) (N' := 8) (pc := 39) Xc (dT hX2_init 20 rfl) (Or.inl ⟨rfl, rfl⟩) w_arr_int (by decide) (by decide +kernel) (by decide) (Nat.le_of_ble_eq_true rfl) (Nat.le_of_ble_eq_true rfl) hc9.2.2.1.symm ?_
  refine Ev.ab (fun z => CQ σ z o 2 [.ref (o + 1), .ref (o + 2), .ref (o + 3), .ref (o + 4), .null, .null, .null, .null, .int 0, .int 0, .int 0, .int 0] 5 tabX2 (o + 6)) (hc9.arr rfl rfl rfl) (fun σ10 hq10 => ?_)
  have hc10 := hq10
  refine pf_X2_24 (fs' := [.ref (o + 1), .ref (o + 2), .ref (o + 3), .ref (o + 4), .ref (o + 5), .null, .null, .null, .int 0, .int 0, .int 0, .int 0]) (pc := 41) Xc hnm (dT hX2_init 21 rfl) hc10.1 (Nat.le_of_ble_eq_true rfl) rfl ?_
  refine Ev.ab (fun z => CQ σ z o 2 [.ref (o + 1), .ref (o + 2), .ref (o + 3), .ref (o + 4), .ref (o + 5), .null, .null, .null, .int 0, .int 0, .int 0, .int 0] 5 tabX2 (o + 6)) hc10.fld (fun σ11 hq11 => ?_)
  have hc11 := hq11
  refine e_aload_n (pc := 44) Xc (dT hX2_init 22 rfl) 0 rfl ?_
  refine e_bipush (v := 8) (pc := 45) Xc (dT hX2_init 23 rfl) rfl ?_
  refine e_newa (o := o) (i := 6) (t := 0) (N' := 8) (pc := 47) Xc (dT hX2_init 24 rfl) (Or.inl ⟨rfl, rfl⟩) w_arr_int (by decide) (by decide +kernel) (by decide) (Nat.le_of_ble_eq_true rfl) (Nat.le_of_ble_eq_true rfl) hc11.2.2.1.symm ?_
  refine Ev.ab (fun z => CQ σ z o 2 [.ref (o + 1), .ref (o + 2), .ref (o + 3), .ref (o + 4), .ref (o + 5), .null, .null, .null, .int 0, .int 0, .int 0, .int 0] 6 tabX2 (o + 7)) (hc11.arr rfl rfl rfl) (fun σ12 hq12 => ?_)
  have hc12 := hq12
  refine pf_X2_27 (fs' := [.ref (o + 1), .ref (o + 2), .ref (o + 3), .ref (o + 4), .ref (o + 5), .ref (o + 6), .null, .null, .int 0, .int 0, .int 0, .int 0]) (pc := 49) Xc hnm (dT hX2_init 25 rfl) hc12.1 (Nat.le_of_ble_eq_true rfl) rfl ?_
  refine Ev.ab (fun z => CQ σ z o 2 [.ref (o + 1), .ref (o + 2), .ref (o + 3), .ref (o + 4), .ref (o + 5), .ref (o + 6), .null, .null, .int 0, .int 0, .int 0, .int 0] 6 tabX2 (o + 7)) hc12.fld (fun σ13 hq13 => ?_)
  have hc13 := hq13
  refine e_aload_n (pc := 52) Xc (dT hX2_init 26 rfl) 0 rfl ?_
  refine e_bipush (v := 8) (pc := 53) Xc (dT hX2_init 27 rfl) rfl ?_
  refine e_newa (o := o) (i := 7) (t := 0) (N' := 8) (pc := 55) Xc (dT hX2_init 28 rfl) (Or.inl ⟨rfl, rfl⟩) w_arr_int (by decide) (by decide +kernel) (by decide) (Nat.le_of_ble_eq_true rfl) (Nat.le_of_ble_eq_true rfl) hc13.2.2.1.symm ?_
  refine Ev.ab (fun z => CQ σ z o 2 [.ref (o + 1), .ref (o + 2), .ref (o + 3), .ref (o + 4), .ref (o + 5), .ref (o + 6), .null, .null, .int 0, .int 0, .int 0, .int 0] 7 tabX2 (o + 8)) (hc13.arr rfl rfl rfl) (fun σ14 hq14 => ?_)
  have hc14 := hq14
  refine pf_X2_30 (fs' := [.ref (o + 1), .ref (o + 2), .ref (o + 3), .ref (o + 4), .ref (o + 5), .ref (o + 6), .ref (o + 7), .null, .int 0, .int 0, .int 0, .int 0]) (pc := 57) Xc hnm (dT hX2_init 29 rfl) hc14.1 (Nat.le_of_ble_eq_true rfl) rfl ?_
  refine Ev.ab (fun z => CQ σ z o 2 [.ref (o + 1), .ref (o + 2), .ref (o + 3), .ref (o + 4), .ref (o + 5), .ref (o + 6), .ref (o + 7), .null, .int 0, .int 0, .int 0, .int 0] 7 tabX2 (o + 8)) hc14.fld (fun σ15 hq15 => ?_)
  have hc15 := hq15
  refine e_aload_n (pc := 60) Xc (dT hX2_init 30 rfl) 0 rfl ?_
  refine e_bipush (v := 8) (pc := 61) Xc (dT hX2_init 31 rfl) rfl ?_
  refine e_newa (o := o) (i := 8) (t := 0) (N' := 8) (pc := 63) Xc (dT hX2_init 32 rfl) (Or.inl ⟨rfl, rfl⟩) w_arr_int (by decide) (by decide +kernel) (by decide) (Nat.le_of_ble_eq_true rfl) (Nat.le_of_ble_eq_true rfl) hc15.2.2.1.symm ?_
  refine Ev.ab (fun z => CQ σ z o 2 [.ref (o + 1), .ref (o + 2), .ref (o + 3), .ref (o + 4), .ref (o + 5), .ref (o + 6), .ref (o + 7), .null, .int 0, .int 0, .int 0, .int 0] 8 tabX2 (o + 9)) (hc15.arr rfl rfl rfl) (fun σ16 hq16 => ?_)
  have hc16 := hq16
  refine pf_X2_33 (fs' := [.ref (o + 1), .ref (o + 2), .ref (o + 3), .ref (o + 4), .ref (o + 5), .ref (o + 6), .ref (o + 7), .ref (o + 8), .int 0, .int 0, .int 0, .int 0]) (pc := 65) Xc hnm (dT hX2_init 33 rfl) hc16.1 (Nat.le_of_ble_eq_true rfl) rfl ?_
  refine Ev.ab (fun z => CQ σ z o 2 [.ref (o + 1), .ref (o + 2), .ref (o + 3), .ref (o + 4), .ref (o + 5), .ref (o + 6), .ref (o + 7), .ref (o + 8), .int 0, .int 0, .int 0, .int 0] 8 tabX2 (o + 9)) hc16.fld (fun σ17 hq17 => ?_)
  have hc17 := hq17
  refine e_aload_n (pc := 68) Xc (dT hX2_init 34 rfl) 0 rfl ?_
  refine e_iconst (v := 0) (pc := 69) Xc (dT hX2_init 35 rfl) rfl ?_
  refine pf_X2_36 (fs' := [.ref (o + 1), .ref (o + 2), .ref (o + 3), .ref (o + 4), .ref (o + 5), .ref (o + 6), .ref (o + 7), .ref (o + 8), .int 0, .int 0, .int 0, .int 0]) (pc := 70) Xc (dT hX2_init 36 rfl) hc17.1 (Nat.le_of_ble_eq_true rfl) rfl ?_
  refine Ev.ab (fun z => CQ σ z o 2 [.ref (o + 1), .ref (o + 2), .ref (o + 3), .ref (o + 4), .ref (o + 5), .ref (o + 6), .ref (o + 7), .ref (o + 8), .int 0, .int 0, .int 0, .int 0] 8 tabX2 (o + 9)) hc17.fld (fun σ18 hq18 => ?_)
  have hc18 := hq18
  refine e_aload_n (pc := 73) Xc (dT hX2_init 37 rfl) 0 rfl ?_
  refine e_iconst (v := 0) (pc := 74) Xc (dT hX2_init 38 rfl) rfl ?_
  refine pf_X2_40 (fs' := [.ref (o + 1), .ref (o + 2), .ref (o + 3), .ref (o + 4), .ref (o + 5), .ref (o + 6), .ref (o + 7), .ref (o + 8), .int 0, .int 0, .int 0, .int 0]) (pc := 75) Xc (dT hX2_init 39 rfl) hc18.1 (Nat.le_of_ble_eq_true rfl) rfl ?_
  refine Ev.ab (fun z => CQ σ z o 2 [.ref (o + 1), .ref (o + 2), .ref (o + 3), .ref (o + 4), .ref (o + 5), .ref (o + 6), .ref (o + 7), .ref (o + 8), .int 0, .int 0, .int 0, .int 0] 8 tabX2 (o + 9)) hc18.fld (fun σ19 hq19 => ?_)
  have hc19 := hq19
  refine e_aload_n (pc := 78) Xc (dT hX2_init 40 rfl) 0 rfl ?_
  refine e_iconst (v := 0) (pc := 79) Xc (dT hX2_init 41 rfl) rfl ?_
  refine pf_X2_43 (fs' := [.ref (o + 1), .ref (o + 2), .ref (o + 3), .ref (o + 4), .ref (o + 5), .ref (o + 6), .ref (o + 7), .ref (o + 8), .int 0, .int 0, .int 0, .int 0]) (pc := 80) Xc (dT hX2_init 42 rfl) hc19.1 (Nat.le_of_ble_eq_true rfl) rfl ?_
  refine Ev.ab (fun z => CQ σ z o 2 [.ref (o + 1), .ref (o + 2), .ref (o + 3), .ref (o + 4), .ref (o + 5), .ref (o + 6), .ref (o + 7), .ref (o + 8), .int 0, .int 0, .int 0, .int 0] 8 tabX2 (o + 9)) hc19.fld (fun σ20 hq20 => ?_)
  have hc20 := hq20
  refine e_aload_n (pc := 83) Xc (dT hX2_init 43 rfl) 0 rfl ?_
  refine e_iconst (v := 0) (pc := 84) Xc (dT hX2_init 44 rfl) rfl ?_
  refine pf_X2_46 (fs' := [.ref (o + 1), .ref (o + 2), .ref (o + 3), .ref (o + 4), .ref (o + 5), .ref (o + 6), .ref (o + 7), .ref (o + 8), .int 0, .int 0, .int 0, .int 0]) (pc := 85) Xc (dT hX2_init 45 rfl) hc20.1 (Nat.le_of_ble_eq_true rfl) rfl ?_
  refine Ev.ab (fun z => CQ σ z o 2 [.ref (o + 1), .ref (o + 2), .ref (o + 3), .ref (o + 4), .ref (o + 5), .ref (o + 6), .ref (o + 7), .ref (o + 8), .int 0, .int 0, .int 0, .int 0] 8 tabX2 (o + 9)) hc20.fld (fun σ21 hq21 => ?_)
  have hc21 := hq21
  refine e_vret (pc := 88) Xc hQ (dT hX2_init 46 rfl) (Nat.le_of_ble_eq_true rfl) (Nat.le_of_ble_eq_true rfl) ?_
  exact ⟨⟨hc21.1, hc21.2.1 1 (by decide) (by decide), hc21.2.1 2 (by decide) (by decide), hc21.2.1 3 (by decide) (by decide), hc21.2.1 4 (by decide) (by decide), hc21.2.1 5 (by decide) (by decide), hc21.2.1 6 (by decide) (by decide), hc21.2.1 7 (by decide) (by decide), hc21.2.1 8 (by decide) (by decide)⟩, hc21.2.2.1, hc21.2.2.2⟩
set_option maxRecDepth 100000 in
set_option maxHeartbeats 4000000 in
theorem kX4_init {G : xG} {σ : xS} {o : Nat} (h0 : σ.2 (o, 0) = some (.inr (4, DX4))) (hsz : σ.1 = o + 1) : CV G yX4_init cX4_init 1 none 1 3 120 [.ref o] σ (fun σ1 => PX4 σ1 o F4i (fun _ => 0) Z1 ∧ σ1.1 = o + 4 ∧ ∀ q : Nat × Nat, q.1 < o → σ1.2 q = σ.2 q) := by
  refine Met.ofX (by decide +kernel) (Nat.le_of_ble_eq_true rfl) (fun μ Xc hQ hnm => ?_)
  have Xc : xC G μ cX4_init 1 RX4 none 1 3 120 := Xc
  show Ev G μ 1 0 0 0 [(0, .ref o)] [] σ
  refine e_aload_n (pc := 0) Xc (dT hX4_init 0 rfl) 0 rfl ?_
  refine e_objInit (pc := 1) Xc w_ml_X4_3 w_inst_objectInit w_code_objectInit (dT hX4_init 1 rfl) (Nat.le_of_ble_eq_true rfl) (Nat.le_of_ble_eq_true rfl) ?_
  refine Ev.ab (fun z => CQ σ z o 4 [.null, .null, .null, .int 0, .int 0, .int 0, .int 0] 0 tabX4 (o + 1)) (CQ.start h0 hsz) (fun σ1 hq1 => ?_)
  have hc1 := hq1
  refine e_aload_n (pc := 4) Xc (dT hX4_init 2 rfl) 0 rfl ?_
  refine e_bipush (v := 100) (pc := 5) Xc (dT hX4_init 3 rfl) rfl ?_
  refine e_newa (o := o) (i := 1) (t := 0) (N' := 100) (pc := 7) Xc (dT hX4_init 4 rfl) (Or.inl ⟨rfl, rfl⟩) w_arr_int (by decide) (by decide +kernel) (by decide) (Nat.le_of_ble_eq_true rfl) (Nat.le_of_ble_eq_true rfl) hc1.2.2.1.symm ?_
  refine Ev.ab (fun z => CQ σ z o 4 [.null, .null, .null, .int 0, .int 0, .int 0, .int 0] 1 tabX4 (o + 2)) (hc1.arr rfl rfl rfl) (fun σ2 hq2 => ?_)
  have hc2 := hq2
  refine pf_X4_9 (fs' := [.ref (o + 1), .null, .null, .int 0, .int 0, .int 0, .int 0]) (pc := 9) Xc hnm (dT hX4_init 5 rfl) hc2.1 (Nat.le_of_ble_eq_true rfl) rfl ?_
  refine Ev.ab (fun z => CQ σ z o 4 [.ref (o + 1), .null, .null, .int 0, .int 0, .int 0, .int 0] 1 tabX4 (o + 2)) hc2.fld (fun σ3 hq3 => ?_)
  have hc3 := hq3
  refine e_aload_n (pc := 12) Xc (dT hX4_init 6 rfl) 0 rfl ?_
  refine e_bipush (v := 10) (pc := 13) Xc (dT hX4_init 7 rfl) rfl ?_
  refine e_newa (o := o) (i := 2) (t := 0) (N' := 10) (pc := 15) Xc (dT hX4_init 8 rfl) (Or.inl ⟨rfl, rfl⟩) w_arr_int (by decide) (by decide +kernel) (by decide) (Nat.le_of_ble_eq_true rfl) (Nat.le_of_ble_eq_true rfl) hc3.2.2.1.symm ?_
  refine Ev.ab (fun z => CQ σ z o 4 [.ref (o + 1), .null, .null, .int 0, .int 0, .int 0, .int 0] 2 tabX4 (o + 3)) (hc3.arr rfl rfl rfl) (fun σ4 hq4 => ?_)
  have hc4 := hq4
  refine pf_X4_15 (fs' := [.ref (o + 1), .ref (o + 2), .null, .int 0, .int 0, .int 0, .int 0]) (pc := 17) Xc hnm (dT hX4_init 9 rfl) hc4.1 (Nat.le_of_ble_eq_true rfl) rfl ?_
  refine Ev.ab (fun z => CQ σ z o 4 [.ref (o + 1), .ref (o + 2), .null, .int 0, .int 0, .int 0, .int 0] 2 tabX4 (o + 3)) hc4.fld (fun σ5 hq5 => ?_)
  have hc5 := hq5
  refine e_aload_n (pc := 20) Xc (dT hX4_init 10 rfl) 0 rfl ?_
  refine e_bipush (v := 10) (pc := 21) Xc (dT hX4_init 11 rfl) rfl ?_
  refine e_newa (o := o) (i := 3) (t := 0) (N' := 10) (pc := 23) Xc (dT hX4_init 12 rfl) (Or.inl ⟨rfl, rfl⟩) w_arr_int (by decide) (by decide +kernel) (by decide) (Nat.le_of_ble_eq_true rfl) (Nat.le_of_ble_eq_true rfl) hc5.2.2.1.symm ?_
  refine Ev.ab (fun z => CQ σ z o 4 [.ref (o + 1), .ref (o + 2), .null, .int 0, .int 0, .int 0, .int 0] 3 tabX4 (o + 4)) (hc5.arr rfl rfl rfl) (fun σ6 hq6 => ?_)
  have hc6 := hq6
  refine pf_X4_18 (fs' := [.ref (o + 1), .ref (o + 2), .ref (o + 3), .int 0, .int 0, .int 0, .int 0]) (pc := 25) Xc hnm (dT hX4_init 13 rfl) hc6.1 (Nat.le_of_ble_eq_true rfl) rfl ?_
  refine Ev.ab (fun z => CQ σ z o 4 [.ref (o + 1), .ref (o + 2), .ref (o + 3), .int 0, .int 0, .int 0, .int 0] 3 tabX4 (o + 4)) hc6.fld (fun σ7 hq7 => ?_)
  have hc7 := hq7
  refine e_aload_n (pc := 28) Xc (dT hX4_init 14 rfl) 0 rfl ?_
  refine e_iconst (v := 0) (pc := 29) Xc (dT hX4_init 15 rfl) rfl ?_
  refine pf_X4_21 (fs' := [.ref (o + 1), .ref (o + 2), .ref (o + 3), .int 0, .int 0, .int 0, .int 0]) (pc := 30) Xc (dT hX4_init 16 rfl) hc7.1 (Nat.le_of_ble_eq_true rfl) rfl ?_
  refine Ev.ab (fun z => CQ σ z o 4 [.ref (o + 1), .ref (o + 2), .ref (o + 3), .int 0, .int 0, .int 0, .int 0] 3 tabX4 (o + 4)) hc7.fld (fun σ8 hq8 => ?_)
  have hc8 := hq8
  refine e_aload_n (pc := 33) Xc (dT hX4_init 17 rfl) 0 rfl ?_
  refine e_iconst (v := 0) (pc := 34) Xc (dT hX4_init 18 rfl) rfl ?_
  refine pf_X4_25 (fs' := [.ref (o + 1), .ref (o + 2), .ref (o + 3), .int 0, .int 0, .int 0, .int 0]) (pc := 35) Xc (dT hX4_init 19 rfl) hc8.1 (Nat.le_of_ble_eq_true rfl) rfl ?_
  refine Ev.ab (fun z => CQ σ z o 4 [.ref (o + 1), .ref (o + 2), .ref (o + 3), .int 0, .int 0, .int 0, .int 0] 3 tabX4 (o + 4)) hc8.fld (fun σ9 hq9 => ?_)
  have hc9 := hq9
  refine e_aload_n (pc := 38) Xc (dT hX4_init 20 rfl) 0 rfl ?_
  refine e_iconst (v := 1) (pc := 39) Xc (dT hX4_init 21 rfl) rfl ?_
  refine pf_X4_28 (fs' := [.ref (o + 1), .ref (o + 2), .ref (o + 3), .int 0, .int 0, .int 1, .int 0]) (pc := 40) Xc (dT hX4_init 22 rfl) hc9.1 (Nat.le_of_ble_eq_true rfl) rfl ?_
  refine Ev.ab (fun z => CQ σ z o 4 [.ref (o + 1), .ref (o + 2), .ref (o + 3), .int 0, .int 0, .int 1, .int 0] 3 tabX4 (o + 4)) hc9.fld (fun σ10 hq10 => ?_)
  have hc10 := hq10
  refine e_aload_n (pc := 43) Xc (dT hX4_init 23 rfl) 0 rfl ?_
  refine e_iconst (v := 5) (pc := 44) Xc (dT hX4_init 24 rfl) rfl ?_
  refine pf_X4_31 (fs' := [.ref (o + 1), .ref (o + 2), .ref (o + 3), .int 0, .int 0, .int 1, .int 5]) (pc := 45) Xc (dT hX4_init 25 rfl) hc10.1 (Nat.le_of_ble_eq_true rfl) rfl ?_
  refine Ev.ab (fun z => CQ σ z o 4 [.ref (o + 1), .ref (o + 2), .ref (o + 3), .int 0, .int 0, .int 1, .int 5] 3 tabX4 (o + 4)) hc10.fld (fun σ11 hq11 => ?_)
  have hc11 := hq11
  refine e_vret (pc := 48) Xc hQ (dT hX4_init 26 rfl) (Nat.le_of_ble_eq_true rfl) (Nat.le_of_ble_eq_true rfl) ?_
  exact ⟨⟨hc11.1, hc11.2.1 1 (by decide) (by decide), hc11.2.1 2 (by decide) (by decide), hc11.2.1 3 (by decide) (by decide)⟩, hc11.2.2.1, hc11.2.2.2⟩
set_option maxRecDepth 100000 in
set_option maxHeartbeats 4000000 in
theorem kX5_init {G : xG} {σ : xS} {o : Nat} (h0 : σ.2 (o, 0) = some (.inr (5, DX5))) (hsz : σ.1 = o + 1) : CV G yX5_init cX5_init 1 none 2 11 448 [.ref o] σ (fun σ1 => PX5 σ1 o Z0 (fun _ => o + 8) Z1 ∧ PX4 σ1 (o + 8) F4i (fun _ => 0) Z1 ∧ σ1.1 = o + 12 ∧ ∀ q : Nat × Nat, q.1 < o → σ1.2 q = σ.2 q) := by
  refine Met.ofX (by decide +kernel) (Nat.le_of_ble_eq_true rfl) (fun μ Xc hQ hnm => ?_)
  have Xc : xC G μ cX5_init 1 RX5 none 2 11 448 := Xc
  show Ev G μ 1 0 0 0 [(0, .ref o)] [] σ
  refine e_aload_n (pc := 0) Xc (dT hX5_init 0 rfl) 0 rfl ?_
  refine e_objInit (pc := 1) Xc w_ml_X5_3 w_inst_objectInit w_code_objectInit (dT hX5_init 1 rfl) (Nat.le_of_ble_eq_true rfl) (Nat.le_of_ble_eq_true rfl) ?_
  refine Ev.ab (fun z => CQ σ z o 5 [.null, .null, .null, .null, .null, .null, .null, .int 0, .int 0, .int 0, .int 0, .int 0, .null] 0 tabX5 (o + 1)) (CQ.start h0 hsz) (fun σ1 hq1 => ?_)
  have hc1 := hq1
  refine e_aload_n (pc := 4) Xc (dT hX5_init 2 rfl) 0 rfl ?_
  refine e_bipush (v := 7) (pc := 5) Xc (dT hX5_init 3 rfl) rfl ?_
  refine e_newa (o := o) (i := 1) (t := 0) (N' := 7) (pc := 7) Xc (dT hX5_init 4 rfl) (Or.inl ⟨rfl, rfl⟩) w_arr_int (by decide) (by decide +kernel) (by decide) (Nat.le_of_ble_eq_true rfl) (Nat.le_of_ble_eq_true rfl) hc1.2.2.1.symm ?_
  refine Ev.ab (fun z => CQ σ z o 5 [.null, .null, .null, .null, .null, .null, .null, .int 0, .int 0, .int 0, .int 0, .int 0, .null] 1 tabX5 (o + 2)) (hc1.arr rfl rfl rfl) (fun σ2 hq2 => ?_)
  have hc2 := hq2
  refine pf_X5_9 (fs' := [.ref (o + 1), .null, .null, .null, .null, .null, .null, .int 0, .int 0, .int 0, .int 0, .int 0, .null]) (pc := 9) Xc hnm (dT hX5_init 5 rfl) hc2.1 (Nat.le_of_ble_eq_true rfl) rfl ?_
  refine Ev.ab (fun z => CQ σ z o 5 [.ref (o + 1), .null, .null, .null, .null, .null, .null, .int 0, .int 0, .int 0, .int 0, .int 0, .null] 1 tabX5 (o + 2)) hc2.fld (fun σ3 hq3 => ?_)
  have hc3 := hq3
  refine e_aload_n (pc := 12) Xc (dT hX5_init 6 rfl) 0 rfl ?_
  refine e_iconst (v := 4) (pc := 13) Xc (dT hX5_init 7 rfl) rfl ?_
  refine e_newa (o := o) (i := 2) (t := 0) (N' := 4) (pc := 14) Xc (dT hX5_init 8 rfl) (Or.inl ⟨rfl, rfl⟩) w_arr_int (by decide) (by decide +kernel) (by decide) (Nat.le_of_ble_eq_true rfl) (Nat.le_of_ble_eq_true rfl) hc3.2.2.1.symm ?_
  refine Ev.ab (fun z => CQ σ z o 5 [.ref (o + 1), .null, .null, .null, .null, .null, .null, .int 0, .int 0, .int 0, .int 0, .int 0, .null] 2 tabX5 (o + 3)) (hc3.arr rfl rfl rfl) (fun σ4 hq4 => ?_)
  have hc4 := hq4
  refine pf_X5_15 (fs' := [.ref (o + 1), .ref (o + 2), .null, .null, .null, .null, .null, .int 0, .int 0, .int 0, .int 0, .int 0, .null]) (pc := 16) Xc hnm (dT hX5_init 9 rfl) hc4.1 (Nat.le_of_ble_eq_true rfl) rfl ?_
  refine Ev.ab (fun z => CQ σ z o 5 [.ref (o + 1), .ref (o + 2), .null, .null, .null, .null, .null, .int 0, .int 0, .int 0, .int 0, .int 0, .null] 2 tabX5 (o + 3)) hc4.fld (fun σ5 hq5 => ?_)
  have hc5 := hq5
  refine e_aload_n (pc := 19) Xc (dT hX5_init 10 rfl) 0 rfl ?_
  refine e_iconst (v := 4) (pc := 20) Xc (dT hX5_init 11 rfl) rfl ?_
  refine e_newa (o := o) (i := 3) (t := 0) (N' := 4) (pc := 21) Xc (dT hX5_init 12 rfl) (Or.inl ⟨rfl, rfl⟩) w_arr_int (by decide) (by decide +kernel) (by decide) (Nat.le_of_ble_eq_true rfl) (Nat.le_of_ble_eq_true rfl) hc5.2.2.1.symm ?_
  refine Ev.ab (fun z => CQ σ z o 5 [.ref (o + 1), .ref (o + 2), .null, .null, .null, .null, .null, .int 0, .int 0, .int 0, .int 0, .int 0, .null] 3 tabX5 (o + 4)) (hc5.arr rfl rfl rfl) (fun σ6 hq6 => ?_)
  have hc6 := hq6
  refine pf_X5_18 (fs' := [.ref (o + 1), .ref (o + 2), .ref (o + 3), .null, .null, .null, .null, .int 0, .int 0, .int 0, .int 0, .int 0, .null]) (pc := 23) Xc hnm (dT hX5_init 13 rfl) hc6.1 (Nat.le_of_ble_eq_true rfl) rfl ?_
  refine Ev.ab (fun z => CQ σ z o 5 [.ref (o + 1), .ref (o + 2), .ref (o + 3), .null, .null, .null, .null, .int 0, .int 0, .int 0, .int 0, .int 0, .null] 3 tabX5 (o + 4)) hc6.fld (fun σ7 hq7 => ?_)
  have hc7 := hq7
  refine e_aload_n (pc := 26) Xc (dT hX5_init 14 rfl) 0 rfl ?_
  refine e_iconst (v := 4) (pc := 27) Xc (dT hX5_init 15 rfl) rfl ?_
  refine e_newa (o := o) (i := 4) (t := 0) (N' := 4) (pc := 28) Xc (dT hX5_init 16 rfl) (Or.inl ⟨rfl, rfl⟩) w_arr_int (by decide) (by decide +kernel) (by decide) (Nat.le_of_ble_eq_true rfl) (Nat.le_of_ble_eq_true rfl) hc7.2.2.1.symm ?_
  refine Ev.ab (fun z => CQ σ z o 5 [.ref (o + 1), .ref (o + 2), .ref (o + 3), .null, .null, .null, .null, .int 0, .int 0, .int 0, .int 0, .int 0, .null] 4 tabX5 (o + 5)) (hc7.arr rfl rfl rfl) (fun σ8 hq8 => ?_)
  have hc8 := hq8
  refine pf_X5_21 (fs' := [.ref (o + 1), .ref (o + 2), .ref (o + 3), .ref (o + 4), .null, .null, .null, .int 0, .int 0, .int 0, .int 0, .int 0, .null]) (pc := 30) Xc hnm (dT hX5_init 17 rfl) hc8.1 (Nat.le_of_ble_eq_true rfl) rfl ?_
  refine Ev.ab (fun z => CQ σ z o 5 [.ref (o + 1), .ref (o + 2), .ref (o + 3), .ref (o + 4), .null, .null, .null, .int 0, .int 0, .int 0, .int 0, .int 0, .null] 4 tabX5 (o + 5)) hc8.fld (fun σ9 hq9 => ?_)
  have hc9 := hq9
  refine e_aload_n (pc := 33) Xc (dT hX5_init 18 rfl) 0 rfl ?_
  refine e_bipush (v := 16) (pc := 34) Xc (dT hX5_init 19 rfl) rfl ?_
  refine e_newa (o := o) (i := 5) (t := 0) (N' := 16) (pc := 36) Xc (dT hX5_init 20 rfl) (Or.inl ⟨rfl, rfl⟩) w_arr_int (by decide) (by decide +kernel) (by decide) (Nat.le_of_ble_eq_true rfl) (Nat.le_of_ble_eq_true rfl) hc9.2.2.1.symm ?_
  refine Ev.ab (fun z => CQ σ z o 5 [.ref (o + 1), .ref (o + 2), .ref (o + 3), .ref (o + 4), .null, .null, .null, .int 0, .int 0, .int 0, .int 0, .int 0, .null] 5 tabX5 (o + 6)) (hc9.arr rfl rfl rfl) (fun σ10 hq10 => ?_)
  have hc10 := hq10
  refine pf_X5_24 (fs' := [.ref (o + 1), .ref (o + 2), .ref (o + 3), .ref (o + 4), .ref (o + 5), .null, .null, .int 0, .int 0, .int 0, .int 0, .int 0, .null]) (pc := 38) Xc hnm (dT hX5_init 21 rfl) hc10.1 (Nat.le_of_ble_eq_true rfl) rfl ?_
  refine Ev.ab (fun z => CQ σ z o 5 [.ref (o + 1), .ref (o + 2), .ref (o + 3), .ref (o + 4), .ref (o + 5), .null, .null, .int 0, .int 0, .int 0, .int 0, .int 0, .null] 5 tabX5 (o + 6)) hc10.fld (fun σ11 hq11 => ?_)
  have hc11 := hq11
  refine e_aload_n (pc := 41) Xc (dT hX5_init 22 rfl) 0 rfl ?_
  refine e_sipush (v := 280) (pc := 42) Xc (dT hX5_init 23 rfl) rfl ?_
  refine e_newa (o := o) (i := 6) (t := 0) (N' := 280) (pc := 45) Xc (dT hX5_init 24 rfl) (Or.inl ⟨rfl, rfl⟩) w_arr_int (by decide) (by decide +kernel) (by decide) (Nat.le_of_ble_eq_true rfl) (Nat.le_of_ble_eq_true rfl) hc11.2.2.1.symm ?_
  refine Ev.ab (fun z => CQ σ z o 5 [.ref (o + 1), .ref (o + 2), .ref (o + 3), .ref (o + 4), .ref (o + 5), .null, .null, .int 0, .int 0, .int 0, .int 0, .int 0, .null] 6 tabX5 (o + 7)) (hc11.arr rfl rfl rfl) (fun σ12 hq12 => ?_)
  have hc12 := hq12
  refine pf_X5_27 (fs' := [.ref (o + 1), .ref (o + 2), .ref (o + 3), .ref (o + 4), .ref (o + 5), .ref (o + 6), .null, .int 0, .int 0, .int 0, .int 0, .int 0, .null]) (pc := 47) Xc hnm (dT hX5_init 25 rfl) hc12.1 (Nat.le_of_ble_eq_true rfl) rfl ?_
  refine Ev.ab (fun z => CQ σ z o 5 [.ref (o + 1), .ref (o + 2), .ref (o + 3), .ref (o + 4), .ref (o + 5), .ref (o + 6), .null, .int 0, .int 0, .int 0, .int 0, .int 0, .null] 6 tabX5 (o + 7)) hc12.fld (fun σ13 hq13 => ?_)
  have hc13 := hq13
  refine e_aload_n (pc := 50) Xc (dT hX5_init 26 rfl) 0 rfl ?_
  refine e_bipush (v := 6) (pc := 51) Xc (dT hX5_init 27 rfl) rfl ?_
  refine e_newa (o := o) (i := 7) (t := 0) (N' := 6) (pc := 53) Xc (dT hX5_init 28 rfl) (Or.inl ⟨rfl, rfl⟩) w_arr_int (by decide) (by decide +kernel) (by decide) (Nat.le_of_ble_eq_true rfl) (Nat.le_of_ble_eq_true rfl) hc13.2.2.1.symm ?_
  refine Ev.ab (fun z => CQ σ z o 5 [.ref (o + 1), .ref (o + 2), .ref (o + 3), .ref (o + 4), .ref (o + 5), .ref (o + 6), .null, .int 0, .int 0, .int 0, .int 0, .int 0, .null] 7 tabX5 (o + 8)) (hc13.arr rfl rfl rfl) (fun σ14 hq14 => ?_)
  have hc14 := hq14
  refine pf_X5_30 (fs' := [.ref (o + 1), .ref (o + 2), .ref (o + 3), .ref (o + 4), .ref (o + 5), .ref (o + 6), .ref (o + 7), .int 0, .int 0, .int 0, .int 0, .int 0, .null]) (pc := 55) Xc hnm (dT hX5_init 29 rfl) hc14.1 (Nat.le_of_ble_eq_true rfl) rfl ?_
  refine Ev.ab (fun z => CQ σ z o 5 [.ref (o + 1), .ref (o + 2), .ref (o + 3), .ref (o + 4), .ref (o + 5), .ref (o + 6), .ref (o + 7), .int 0, .int 0, .int 0, .int 0, .int 0, .null] 7 tabX5 (o + 8)) hc14.fld (fun σ15 hq15 => ?_)
  have hc15 := hq15
  refine e_aload_n (pc := 58) Xc (dT hX5_init 30 rfl) 0 rfl ?_
  refine e_iconst (v := 0) (pc := 59) Xc (dT hX5_init 31 rfl) rfl ?_
  refine pf_X5_33 (fs' := [.ref (o + 1), .ref (o + 2), .ref (o + 3), .ref (o + 4), .ref (o + 5), .ref (o + 6), .ref (o + 7), .int 0, .int 0, .int 0, .int 0, .int 0, .null]) (pc := 60) Xc (dT hX5_init 32 rfl) hc15.1 (Nat.le_of_ble_eq_true rfl) rfl ?_
  refine Ev.ab (fun z => CQ σ z o 5 [.ref (o + 1), .ref (o + 2), .ref (o + 3), .ref (o + 4), .ref (o + 5), .ref (o + 6), .ref (o + 7), .int 0, .int 0, .int 0, .int 0, .int 0, .null] 7 tabX5 (o + 8)) hc15.fld (fun σ16 hq16 => ?_)
  have hc16 := hq16
  refine e_aload_n (pc := 63) Xc (dT hX5_init 33 rfl) 0 rfl ?_
  refine e_iconst (v := 0) (pc := 64) Xc (dT hX5_init 34 rfl) rfl ?_
  refine pf_X5_37 (fs' := [.ref (o + 1), .ref (o + 2), .ref (o + 3), .ref (o + 4), .ref (o + 5), .ref (o + 6), .ref (o + 7), .int 0, .int 0, .int 0, .int 0, .int 0, .null]) (pc := 65) Xc (dT hX5_init 35 rfl) hc16.1 (Nat.le_of_ble_eq_true rfl) rfl ?_
  refine Ev.ab (fun z => CQ σ z o 5 [.ref (o + 1), .ref (o + 2), .ref (o + 3), .ref (o + 4), .ref (o + 5), .ref (o + 6), .ref (o + 7), .int 0, .int 0, .int 0, .int 0, .int 0, .null] 7 tabX5 (o + 8)) hc16.fld (fun σ17 hq17 => ?_)
  have hc17 := hq17
  refine e_aload_n (pc := 68) Xc (dT hX5_init 36 rfl) 0 rfl ?_
  refine e_iconst (v := 0) (pc := 69) Xc (dT hX5_init 37 rfl) rfl ?_
  refine pf_X5_40 (fs' := [.ref (o + 1), .ref (o + 2), .ref (o + 3), .ref (o + 4), .ref (o + 5), .ref (o + 6), .ref (o + 7), .int 0, .int 0, .int 0, .int 0, .int 0, .null]) (pc := 70) Xc (dT hX5_init 38 rfl) hc17.1 (Nat.le_of_ble_eq_true rfl) rfl ?_
  refine Ev.ab (fun z => CQ σ z o 5 [.ref (o + 1), .ref (o + 2), .ref (o + 3), .ref (o + 4), .ref (o + 5), .ref (o + 6), .ref (o + 7), .int 0, .int 0, .int 0, .int 0, .int 0, .null] 7 tabX5 (o + 8)) hc17.fld (fun σ18 hq18 => ?_)
  have hc18 := hq18
  refine e_aload_n (pc := 73) Xc (dT hX5_init 39 rfl) 0 rfl ?_
  refine e_iconst (v := 0) (pc := 74) Xc (dT hX5_init 40 rfl) rfl ?_
  refine pf_X5_43 (fs' := [.ref (o + 1), .ref (o + 2), .ref (o + 3), .ref (o + 4), .ref (o + 5), .ref (o + 6), .ref (o + 7), .int 0, .int 0, .int 0, .int 0, .int 0, .null]) (pc := 75) Xc (dT hX5_init 41 rfl) hc18.1 (Nat.le_of_ble_eq_true rfl) rfl ?_
  refine Ev.ab (fun z => CQ σ z o 5 [.ref (o + 1), .ref (o + 2), .ref (o + 3), .ref (o + 4), .ref (o + 5), .ref (o + 6), .ref (o + 7), .int 0, .int 0, .int 0, .int 0, .int 0, .null] 7 tabX5 (o + 8)) hc18.fld (fun σ19 hq19 => ?_)
  have hc19 := hq19
  refine e_aload_n (pc := 78) Xc (dT hX5_init 42 rfl) 0 rfl ?_
  refine e_iconst (v := 0) (pc := 79) Xc (dT hX5_init 43 rfl) rfl ?_
  refine pf_X5_46 (fs' := [.ref (o + 1), .ref (o + 2), .ref (o + 3), .ref (o + 4), .ref (o + 5), .ref (o + 6), .ref (o + 7), .int 0, .int 0, .int 0, .int 0, .int 0, .null]) (pc := 80) Xc (dT hX5_init 44 rfl) hc19.1 (Nat.le_of_ble_eq_true rfl) rfl ?_
  refine Ev.ab (fun z => CQ σ z o 5 [.ref (o + 1), .ref (o + 2), .ref (o + 3), .ref (o + 4), .ref (o + 5), .ref (o + 6), .ref (o + 7), .int 0, .int 0, .int 0, .int 0, .int 0, .null] 7 tabX5 (o + 8)) hc19.fld (fun σ20 hq20 => ?_)
  have hc20 := hq20
  refine e_aload_n (pc := 83) Xc (dT hX5_init 45 rfl) 0 rfl ?_
  refine e_new (o := o + 8) (pc := 84) Xc kX4 (dT hX5_init 46 rfl) w_cl_X5_49 w_new_X4 w_ini_X4 DX4_ok (Nat.le_of_ble_eq_true rfl) (Nat.le_of_ble_eq_true rfl) hc20.2.2.1.symm ?_
  refine e_dup (pc := 87) Xc (dT hX5_init 47 rfl) rfl ?_
  refine cl_X5_51 (pc := 88) (S := [.ref (o + 8), .ref o]) Xc (kX4_init (o := o + 8) xpush_s (congrArg Nat.succ hc20.2.2.1)) (dT hX5_init 48 rfl) rfl (Nat.le_of_ble_eq_true rfl) (Nat.le_of_ble_eq_true rfl) (Nat.le_of_ble_eq_true rfl) rfl (Nat.le_of_ble_eq_true rfl) (fun σ21 hq21 => ?_)
  obtain ⟨hg21_0, hz21, hfr21⟩ := hq21
  refine Ev.ab (fun z => CQ σ z o 5 [.ref (o + 1), .ref (o + 2), .ref (o + 3), .ref (o + 4), .ref (o + 5), .ref (o + 6), .ref (o + 7), .int 0, .int 0, .int 0, .int 0, .int 0, .null] 7 tabX5 (o + 12) ∧ PX4 z (o + 8) F4i (fun _ => 0) Z1) ⟨(hc20.nest (show o < o + 8 by omega) hfr21 hz21), hg21_0⟩ (fun σ22 hq22 => ?_)
  obtain ⟨hc22, hf22_0⟩ := hq22
  refine pf_X5_52 (fs' := [.ref (o + 1), .ref (o + 2), .ref (o + 3), .ref (o + 4), .ref (o + 5), .ref (o + 6), .ref (o + 7), .int 0, .int 0, .int 0, .int 0, .int 0, .ref (o + 8)]) (pc := 91) Xc (dT hX5_init 49 rfl) hc22.1 (Nat.le_of_ble_eq_true rfl) rfl ?_
  refine Ev.ab (fun z => CQ σ z o 5 [.ref (o + 1), .ref (o + 2), .ref (o + 3), .ref (o + 4), .ref (o + 5), .ref (o + 6), .ref (o + 7), .int 0, .int 0, .int 0, .int 0, .int 0, .ref (o + 8)] 7 tabX5 (o + 12) ∧ PX4 z (o + 8) F4i (fun _ => 0) Z1) ⟨hc22.fld, (hf22_0.cg (fun i => xset_n (fun q => by have := congrArg Prod.fst q; have : o + 8 = o := this; omega)))⟩ (fun σ23 hq23 => ?_)
  obtain ⟨hc23, hf23_0⟩ := hq23
  refine e_vret (pc := 94) Xc hQ (dT hX5_init 50 rfl) (Nat.le_of_ble_eq_true rfl) (Nat.le_of_ble_eq_true rfl) ?_
  exact ⟨⟨hc23.1, hc23.2.1 1 (by decide) (by decide), hc23.2.1 2 (by decide) (by decide), hc23.2.1 3 (by decide) (by decide), hc23.2.1 4 (by decide) (by decide), hc23.2.1 5 (by decide) (by decide), hc23.2.1 6 (by decide) (by decide), hc23.2.1 7 (by decide) (by decide)⟩, hf23_0, hc23.2.2.1, hc23.2.2.2⟩
set_option maxRecDepth 100000 in
set_option maxHeartbeats 4000000 in
theorem kX6_init {G : xG} {σ : xS} {o : Nat} (h0 : σ.2 (o, 0) = some (.inr (6, DX6))) (hsz : σ.1 = o + 1) : CV G yX6_init cX6_init 1 none 3 59 6672 [.ref o] σ (fun σ1 => PX6 σ1 o Z0 (t6 o) Z1 ∧ PX5 σ1 (o + 1) Z0 (fun _ => o + 1 + 8) Z1 ∧ PX4 σ1 (o + 1 + 8) F4i (fun _ => 0) Z1 ∧ PX5 σ1 (o + 13) Z0 (fun _ => o + 13 + 8) Z1 ∧ PX4 σ1 (o + 13 + 8) F4i (fun _ => 0) Z1 ∧ PX5 σ1 (o + 25) Z0 (fun _ => o + 25 + 8) Z1 ∧ PX4 σ1 (o + 25 + 8) F4i (fun _ => 0) Z1 ∧ PX2 σ1 (o + 37) Z0 (fun _ => 0) Z1 ∧ PX2 σ1 (o + 46) Z0 (fun _ => 0) Z1 ∧ PX1 σ1 (o + 55) Z0 (fun _ => 0) Z1 ∧ PX0 σ1 (o + 58) Z0 (fun _ => 0) Z1 ∧ σ1.1 = o + 60 ∧ ∀ q : Nat × Nat, q.1 < o → σ1.2 q = σ.2 q) := by
  refine Met.ofX (by decide +kernel) (Nat.le_of_ble_eq_true rfl) (fun μ Xc hQ hnm => ?_)
  have Xc : xC G μ cX6_init 1 RX6 none 3 59 6672 := Xc
  show Ev G μ 1 0 0 0 [(0, .ref o)] [] σ
  refine e_aload_n (pc := 0) Xc (dT hX6_init 0 rfl) 0 rfl ?_
  refine e_objInit (pc := 1) Xc w_ml_X6_3 w_inst_objectInit w_code_objectInit (dT hX6_init 1 rfl) (Nat.le_of_ble_eq_true rfl) (Nat.le_of_ble_eq_true rfl) ?_
  refine Ev.ab (fun z => CQ σ z o 6 [.null, .null, .null, .null, .null, .null, .null, .int 0] 0 tabX6 (o + 1)) (CQ.start h0 hsz) (fun σ1 hq1 => ?_)
  have hc1 := hq1
  refine e_aload_n (pc := 4) Xc (dT hX6_init 2 rfl) 0 rfl ?_
  refine e_new (o := o + 1) (pc := 5) Xc kX5 (dT hX6_init 3 rfl) w_cl_X6_9 w_new_X5 w_ini_X5 DX5_ok (Nat.le_of_ble_eq_true rfl) (Nat.le_of_ble_eq_true rfl) hc1.2.2.1.symm ?_
  refine e_dup (pc := 8) Xc (dT hX6_init 4 rfl) rfl ?_
  refine cl_X6_11 (pc := 9) (S := [.ref (o + 1), .ref o]) Xc (kX5_init (o := o + 1) xpush_s (congrArg Nat.succ hc1.2.2.1)) (dT hX6_init 5 rfl) rfl (Nat.le_of_ble_eq_true rfl) (Nat.le_of_ble_eq_true rfl) (Nat.le_of_ble_eq_true rfl) rfl (Nat.le_of_ble_eq_true rfl) (fun σ2 hq2 => ?_)
  obtain ⟨hg2_0, hg2_1, hz2, hfr2⟩ := hq2
  refine Ev.ab (fun z => CQ σ z o 6 [.null, .null, .null, .null, .null, .null, .null, .int 0] 0 tabX6 (o + 13) ∧ PX5 z (o + 1) Z0 (fun _ => o + 1 + 8) Z1 ∧ PX4 z (o + 1 + 8) F4i (fun _ => 0) Z1) ⟨(hc1.nest (show o < o + 1 by omega) hfr2 hz2), hg2_0, hg2_1⟩ (fun σ3 hq3 => ?_)
  obtain ⟨hc3, hf3_0, hf3_1⟩ := hq3
  refine pf_X6_12 (fs' := [.ref (o + 1), .null, .null, .null, .null, .null, .null, .int 0]) (pc := 12) Xc hnm (dT hX6_init 6 rfl) hc3.1 (Nat.le_of_ble_eq_true rfl) rfl ?_
  refine Ev.ab (fun z => CQ σ z o 6 [.ref (o + 1), .null, .null, .null, .null, .null, .null, .int 0] 0 tabX6 (o + 13) ∧ PX5 z (o + 1) Z0 (fun _ => o + 1 + 8) Z1 ∧ PX4 z (o + 1 + 8) F4i (fun _ => 0) Z1) ⟨hc3.fld, (hf3_0.cg (fun i => xset_n (fun q => by have := congrArg Prod.fst q; have : o + 1 = o := this; omega))), (hf3_1.cg (fun i => xset_n (fun q => by have := congrArg Prod.fst q; have : o + 9 = o := this; omega)))⟩ (fun σ4 hq4 => ?_)
  obtain ⟨hc4, hf4_0, hf4_1⟩ := hq4
  refine e_aload_n (pc := 15) Xc (dT hX6_init 7 rfl) 0 rfl ?_
  refine e_new (o := o + 13) (pc := 16) Xc kX5 (dT hX6_init 8 rfl) w_cl_X6_9 w_new_X5 w_ini_X5 DX5_ok (Nat.le_of_ble_eq_true rfl) (Nat.le_of_ble_eq_true rfl) hc4.2.2.1.symm ?_
  refine e_dup (pc := 19) Xc (dT hX6_init 9 rfl) rfl ?_
  refine cl_X6_11 (pc := 20) (S := [.ref (o + 13), .ref o]) Xc (kX5_init (o := o + 13) xpush_s (congrArg Nat.succ hc4.2.2.1)) (dT hX6_init 10 rfl) rfl (Nat.le_of_ble_eq_true rfl) (Nat.le_of_ble_eq_true rfl) (Nat.le_of_ble_eq_true rfl) rfl (Nat.le_of_ble_eq_true rfl) (fun σ5 hq5 => ?_)
  obtain ⟨hg5_0, hg5_1, hz5, hfr5⟩ := hq5
  refine Ev.ab (fun z => CQ σ z o 6 [.ref (o + 1), .null, .null, .null, .null, .null, .null, .int 0] 0 tabX6 (o + 25) ∧ PX5 z (o + 1) Z0 (fun _ => o + 1 + 8) Z1 ∧ PX4 z (o + 1 + 8) F4i (fun _ => 0) Z1 ∧ PX5 z (o + 13) Z0 (fun _ => o + 13 + 8) Z1 ∧ PX4 z (o + 13 + 8) F4i (fun _ => 0) Z1) ⟨(hc4.nest (show o < o + 13 by omega) hfr5 hz5), (hf4_0.cg (fun i => fr_nest hfr5 (show o + 1 < o + 13 by omega) i)), (hf4_1.cg (fun i => fr_nest hfr5 (show o + 9 < o + 13 by omega) i)), hg5_0, hg5_1⟩ (fun σ6 hq6 => ?_)
  obtain ⟨hc6, hf6_0, hf6_1, hf6_2, hf6_3⟩ := hq6
  refine pf_X6_18 (fs' := [.ref (o + 1), .ref (o + 13), .null, .null, .null, .null, .null, .int 0]) (pc := 23) Xc hnm (dT hX6_init 11 rfl) hc6.1 (Nat.le_of_ble_eq_true rfl) rfl ?_
  refine Ev.ab (fun z => CQ σ z o 6 [.ref (o + 1), .ref (o + 13), .null, .null, .null, .null, .null, .int 0] 0 tabX6 (o + 25) ∧ PX5 z (o + 1) Z0 (fun _ => o + 1 + 8) Z1 ∧ PX4 z (o + 1 + 8) F4i (fun _ => 0) Z1 ∧ PX5 z (o + 13) Z0 (fun _ => o + 13 + 8) Z1 ∧ PX4 z (o + 13 + 8) F4i (fun _ => 0) Z1) ⟨hc6.fld, (hf6_0.cg (fun i => xset_n (fun q => by have := congrArg Prod.fst q; have : o + 1 = o := this; omega))), (hf6_1.cg (fun i => xset_n (fun q => by have := congrArg Prod.fst q; have : o + 9 = o := this; omega))), (hf6_2.cg (fun i => xset_n (fun q => by have := congrArg Prod.fst q; have : o + 13 = o := this; omega))), (hf6_3.cg (fun i => xset_n (fun q => by have := congrArg Prod.fst q; have : o + 21 = o := this; omega)))⟩ (fun σ7 hq7 => ?_)
  obtain ⟨hc7, hf7_0, hf7_1, hf7_2, hf7_3⟩ := hq7
  refine e_aload_n (pc := 26) Xc (dT hX6_init 12 rfl) 0 rfl ?_
  refine e_new (o := o + 25) (pc := 27) Xc kX5 (dT hX6_init 13 rfl) w_cl_X6_9 w_new_X5 w_ini_X5 DX5_ok (Nat.le_of_ble_eq_true rfl) (Nat.le_of_ble_eq_true rfl) hc7.2.2.1.symm ?_
  refine e_dup (pc := 30) Xc (dT hX6_init 14 rfl) rfl ?_
  refine cl_X6_11 (pc := 31) (S := [.ref (o + 25), .ref o]) Xc (kX5_init (o := o + 25) xpush_s (congrArg Nat.succ hc7.2.2.1)) (dT hX6_init 15 rfl) rfl (Nat.le_of_ble_eq_true rfl) (Nat.le_of_ble_eq_true rfl) (Nat.le_of_ble_eq_true rfl) rfl (Nat.le_of_ble_eq_true rfl) (fun σ8 hq8 => ?_)
  obtain ⟨hg8_0, hg8_1, hz8, hfr8⟩ := hq8
  refine Ev.ab (fun z => CQ σ z o 6 [.ref (o + 1), .ref (o + 13), .null, .null, .null, .null, .null, .int 0] 0 tabX6 (o + 37) ∧ PX5 z (o + 1) Z0 (fun _ => o + 1 + 8) Z1 ∧ PX4 z (o + 1 + 8) F4i (fun _ => 0) Z1 ∧ PX5 z (o + 13) Z0 (fun _ => o + 13 + 8) Z1 ∧ PX4 z (o + 13 + 8) F4i (fun _ => 0) Z1 ∧ PX5 z (o + 25) Z0 (fun _ => o + 25 + 8) Z1 ∧ PX4 z (o + 25 + 8) F4i (fun _ => 0) Z1) ⟨(hc7.nest (show o < o + 25 by omega) hfr8 hz8), (hf7_0.cg (fun i => fr_nest hfr8 (show o + 1 < o + 25 by omega) i)), (hf7_1.cg (fun i => fr_nest hfr8 (show o + 9 < o + 25 by omega) i)), (hf7_2.cg (fun i => fr_nest hfr8 (show o + 13 < o + 25 by omega) i)), (hf7_3.cg (fun i => fr_nest hfr8 (show o + 21 < o + 25 by omega) i)), hg8_0, hg8_1⟩ (fun σ9 hq9 => ?_)
  obtain ⟨hc9, hf9_0, hf9_1, hf9_2, hf9_3, hf9_4, hf9_5⟩ := hq9
  refine pf_X6_21 (fs' := [.ref (o + 1), .ref (o + 13), .ref (o + 25), .null, .null, .null, .null, .int 0]) (pc := 34) Xc hnm (dT hX6_init 16 rfl) hc9.1 (Nat.le_of_ble_eq_true rfl) rfl ?_
  refine Ev.ab (fun z => CQ σ z o 6 [.ref (o + 1), .ref (o + 13), .ref (o + 25), .null, .null, .null, .null, .int 0] 0 tabX6 (o + 37) ∧ PX5 z (o + 1) Z0 (fun _ => o + 1 + 8) Z1 ∧ PX4 z (o + 1 + 8) F4i (fun _ => 0) Z1 ∧ PX5 z (o + 13) Z0 (fun _ => o + 13 + 8) Z1 ∧ PX4 z (o + 13 + 8) F4i (fun _ => 0) Z1 ∧ PX5 z (o + 25) Z0 (fun _ => o + 25 + 8) Z1 ∧ PX4 z (o + 25 + 8) F4i (fun _ => 0) Z1) ⟨hc9.fld, (hf9_0.cg (fun i => xset_n (fun q => by have := congrArg Prod.fst q; have : o + 1 = o := this; omega))), (hf9_1.cg (fun i => xset_n (fun q => by have := congrArg Prod.fst q; have : o + 9 = o := this; omega))), (hf9_2.cg (fun i => xset_n (fun q => by have := congrArg Prod.fst q; have : o + 13 = o := this; omega))), (hf9_3.cg (fun i => xset_n (fun q => by have := congrArg Prod.fst q; have : o + 21 = o := this; omega))), (hf9_4.cg (fun i => xset_n (fun q => by have := congrArg Prod.fst q; have : o + 25 = o := this; omega))), (hf9_5.cg (fun i => xset_n (fun q => by have := congrArg Prod.fst q; have : o + 33 = o := this; omega)))⟩ (fun σ10 hq10 => ?_)
  obtain ⟨hc10, hf10_0, hf10_1, hf10_2, hf10_3, hf10_4, hf10_5⟩ := hq10
  refine e_aload_n (pc := 37) Xc (dT hX6_init 17 rfl) 0 rfl ?_
  refine e_new (o := o + 37) (pc := 38) Xc kX2 (dT hX6_init 18 rfl) w_cl_X6_24 w_new_X2 w_ini_X2 DX2_ok (Nat.le_of_ble_eq_true rfl) (Nat.le_of_ble_eq_true rfl) hc10.2.2.1.symm ?_
  refine e_dup (pc := 41) Xc (dT hX6_init 19 rfl) rfl ?_
  refine cl_X6_26 (pc := 42) (S := [.ref (o + 37), .ref o]) Xc (kX2_init (o := o + 37) xpush_s (congrArg Nat.succ hc10.2.2.1)) (dT hX6_init 20 rfl) rfl (Nat.le_of_ble_eq_true rfl) (Nat.le_of_ble_eq_true rfl) (Nat.le_of_ble_eq_true rfl) rfl (Nat.le_of_ble_eq_true rfl) (fun σ11 hq11 => ?_)
  obtain ⟨hg11_0, hz11, hfr11⟩ := hq11
  refine Ev.ab (fun z => CQ σ z o 6 [.ref (o + 1), .ref (o + 13), .ref (o + 25), .null, .null, .null, .null, .int 0] 0 tabX6 (o + 46) ∧ PX5 z (o + 1) Z0 (fun _ => o + 1 + 8) Z1 ∧ PX4 z (o + 1 + 8) F4i (fun _ => 0) Z1 ∧ PX5 z (o + 13) Z0 (fun _ => o + 13 + 8) Z1 ∧ PX4 z (o + 13 + 8) F4i (fun _ => 0) Z1 ∧ PX5 z (o + 25) Z0 (fun _ => o + 25 + 8) Z1 ∧ PX4 z (o + 25 + 8) F4i (fun _ => 0) Z1 ∧ PX2 z (o + 37) Z0 (fun _ => 0) Z1) ⟨(hc10.nest (show o < o + 37 by omega) hfr11 hz11), (hf10_0.cg (fun i => fr_nest hfr11 (show o + 1 < o + 37 by omega) i)), (hf10_1.cg (fun i => fr_nest hfr11 (show o + 9 < o + 37 by omega) i)), (hf10_2.cg (fun i => fr_nest hfr11 (show o + 13 < o + 37 by omega) i)), (hf10_3.cg (fun i => fr_nest hfr11 (show o + 21 < o + 37 by omega) i)), (hf10_4.cg (fun i => fr_nest hfr11 (show o + 25 < o + 37 by omega) i)), (hf10_5.cg (fun i => fr_nest hfr11 (show o + 33 < o + 37 by omega) i)), hg11_0⟩ (fun σ12 hq12 => ?_)
  obtain ⟨hc12, hf12_0, hf12_1, hf12_2, hf12_3, hf12_4, hf12_5, hf12_6⟩ := hq12
  refine pf_X6_27 (fs' := [.ref (o + 1), .ref (o + 13), .ref (o + 25), .ref (o + 37), .null, .null, .null, .int 0]) (pc := 45) Xc hnm (dT hX6_init 21 rfl) hc12.1 (Nat.le_of_ble_eq_true rfl) rfl ?_
  refine Ev.ab (fun z => CQ σ z o 6 [.ref (o + 1), .ref (o + 13), .ref (o + 25), .ref (o + 37), .null, .null, .null, .int 0] 0 tabX6 (o + 46) ∧ PX5 z (o + 1) Z0 (fun _ => o + 1 + 8) Z1 ∧ PX4 z (o + 1 + 8) F4i (fun _ => 0) Z1 ∧ PX5 z (o + 13) Z0 (fun _ => o + 13 + 8) Z1 ∧ PX4 z (o + 13 + 8) F4i (fun _ => 0) Z1 ∧ PX5 z (o + 25) Z0 (fun _ => o + 25 + 8) Z1 ∧ PX4 z (o + 25 + 8) F4i (fun _ => 0) Z1 ∧ PX2 z (o + 37) Z0 (fun _ => 0) Z1) ⟨hc12.fld, (hf12_0.cg (fun i => xset_n (fun q => by have := congrArg Prod.fst q; have : o + 1 = o := this; omega))), (hf12_1.cg (fun i => xset_n (fun q => by have := congrArg Prod.fst q; have : o + 9 = o := this; omega))), (hf12_2.cg (fun i => xset_n (fun q => by have := congrArg Prod.fst q; have : o + 13 = o := this; omega))), (hf12_3.cg (fun i => xset_n (fun q => by have := congrArg Prod.fst q; have : o + 21 = o := this; omega))), (hf12_4.cg (fun i => xset_n (fun q => by have := congrArg Prod.fst q; have : o + 25 = o := this; omega))), (hf12_5.cg (fun i => xset_n (fun q => by have := congrArg Prod.fst q; have : o + 33 = o := this; omega))), (hf12_6.cg (fun i => xset_n (fun q => by have := congrArg Prod.fst q; have : o + 37 = o := this; omega)))⟩ (fun σ13 hq13 => ?_)
  obtain ⟨hc13, hf13_0, hf13_1, hf13_2, hf13_3, hf13_4, hf13_5, hf13_6⟩ := hq13
  refine e_aload_n (pc := 48) Xc (dT hX6_init 22 rfl) 0 rfl ?_
  refine e_new (o := o + 46) (pc := 49) Xc kX2 (dT hX6_init 23 rfl) w_cl_X6_24 w_new_X2 w_ini_X2 DX2_ok (Nat.le_of_ble_eq_true rfl) (Nat.le_of_ble_eq_true rfl) hc13.2.2.1.symm ?_
  refine e_dup (pc := 52) Xc (dT hX6_init 24 rfl) rfl ?_
  refine cl_X6_26 (pc := 53) (S := [.ref (o + 46), .ref o]) Xc (kX2_init (o := o + 46) xpush_s (congrArg Nat.succ hc13.2.2.1)) (dT hX6_init 25 rfl) rfl (Nat.le_of_ble_eq_true rfl) (Nat.le_of_ble_eq_true rfl) (Nat.le_of_ble_eq_true rfl) rfl (Nat.le_of_ble_eq_true rfl) (fun σ14 hq14 => ?_)
  obtain ⟨hg14_0, hz14, hfr14⟩ := hq14
  refine Ev.ab (fun z => CQ σ z o 6 [.ref (o + 1), .ref (o + 13), .ref (o + 25), .ref (o + 37), .null, .null, .null, .int 0] 0 tabX6 (o + 55) ∧ PX5 z (o + 1) Z0 (fun _ => o + 1 + 8) Z1 ∧ PX4 z (o + 1 + 8) F4i (fun _ => 0) Z1 ∧ PX5 z (o + 13) Z0 (fun _ => o + 13 + 8) Z1 ∧ PX4 z (o + 13 + 8) F4i (fun _ => 0) Z1 ∧ PX5 z (o + 25) Z0 (fun _ => o + 25 + 8) Z1 ∧ PX4 z (o + 25 + 8) F4i (fun _ => 0) Z1 ∧ PX2 z (o + 37) Z0 (fun _ => 0) Z1 ∧ PX2 z (o + 46) Z0 (fun _ => 0) Z1) ⟨(hc13.nest (show o < o + 46 by omega) hfr14 hz14), (hf13_0.cg (fun i => fr_nest hfr14 (show o + 1 < o + 46 by omega) i)), (hf13_1.cg (fun i => fr_nest hfr14 (show o + 9 < o + 46 by omega) i)), (hf13_2.cg (fun i => fr_nest hfr14 (show o + 13 < o + 46 by omega) i)), (hf13_3.cg (fun i => fr_nest hfr14 (show o + 21 < o + 46 by omega) i)), (hf13_4.cg (fun i => fr_nest hfr14 (show o + 25 < o + 46 by omega) i)), (hf13_5.cg (fun i => fr_nest hfr14 (show o + 33 < o + 46 by omega) i)), (hf13_6.cg (fun i => fr_nest hfr14 (show o + 37 < o + 46 by omega) i)), hg14_0⟩ (fun σ15 hq15 => ?_)
  obtain ⟨hc15, hf15_0, hf15_1, hf15_2, hf15_3, hf15_4, hf15_5, hf15_6, hf15_7⟩ := hq15
  refine pf_X6_31 (fs' := [.ref (o + 1), .ref (o + 13), .ref (o + 25), .ref (o + 37), .ref (o + 46), .null, .null, .int 0]) (pc := 56) Xc hnm (dT hX6_init 26 rfl) hc15.1 (Nat.le_of_ble_eq_true rfl) rfl ?_
  refine Ev.ab (fun z => CQ σ z o 6 [.ref (o + 1), .ref (o + 13), .ref (o + 25), .ref (o + 37), .ref (o + 46), .null, .null, .int 0] 0 tabX6 (o + 55) ∧ PX5 z (o + 1) Z0 (fun _ => o + 1 + 8) Z1 ∧ PX4 z (o + 1 + 8) F4i (fun _ => 0) Z1 ∧ PX5 z (o + 13) Z0 (fun _ => o + 13 + 8) Z1 ∧ PX4 z (o + 13 + 8) F4i (fun _ => 0) Z1 ∧ PX5 z (o + 25) Z0 (fun _ => o + 25 + 8) Z1 ∧ PX4 z (o + 25 + 8) F4i (fun _ => 0) Z1 ∧ PX2 z (o + 37) Z0 (fun _ => 0) Z1 ∧ PX2 z (o + 46) Z0 (fun _ => 0) Z1) ⟨hc15.fld, (hf15_0.cg (fun i => xset_n (fun q => by have := congrArg Prod.fst q; have : o + 1 = o := this; omega))), (hf15_1.cg (fun i => xset_n (fun q => by have := congrArg Prod.fst q; have : o + 9 = o := this; omega))), (hf15_2.cg (fun i => xset_n (fun q => by have := congrArg Prod.fst q; have : o + 13 = o := this; omega))), (hf15_3.cg (fun i => xset_n (fun q => by have := congrArg Prod.fst q; have : o + 21 = o := this; omega))), (hf15_4.cg (fun i => xset_n (fun q => by have := congrArg Prod.fst q; have : o + 25 = o := this; omega))), (hf15_5.cg (fun i => xset_n (fun q => by have := congrArg Prod.fst q; have : o + 33 = o := this; omega))), (hf15_6.cg (fun i => xset_n (fun q => by have := congrArg Prod.fst q; have : o + 37 = o := this; omega))), (hf15_7.cg (fun i => xset_n (fun q => by have := congrArg Prod.fst q; have : o + 46 = o := this; omega)))⟩ (fun σ16 hq16 => ?_)
  obtain ⟨hc16, hf16_0, hf16_1, hf16_2, hf16_3, hf16_4, hf16_5, hf16_6, hf16_7⟩ := hq16
  refine e_aload_n (pc := 59) Xc (dT hX6_init 27 rfl) 0 rfl ?_
  refine e_new (o := o + 55) (pc := 60) Xc kX1 (dT hX6_init 28 rfl) w_cl_X6_34 w_new_X1 w_ini_X1 DX1_ok (Nat.le_of_ble_eq_true rfl) (Nat.le_of_ble_eq_true rfl) hc16.2.2.1.symm ?_
  refine e_dup (pc := 63) Xc (dT hX6_init 29 rfl) rfl ?_
  refine cl_X6_36 (pc := 64) (S := [.ref (o + 55), .ref o]) Xc (kX1_init (o := o + 55) xpush_s (congrArg Nat.succ hc16.2.2.1)) (dT hX6_init 30 rfl) rfl (Nat.le_of_ble_eq_true rfl) (Nat.le_of_ble_eq_true rfl) (Nat.le_of_ble_eq_true rfl) rfl (Nat.le_of_ble_eq_true rfl) (fun σ17 hq17 => ?_)
  obtain ⟨hg17_0, hz17, hfr17⟩ := hq17
  refine Ev.ab (fun z => CQ σ z o 6 [.ref (o + 1), .ref (o + 13), .ref (o + 25), .ref (o + 37), .ref (o + 46), .null, .null, .int 0] 0 tabX6 (o + 58) ∧ PX5 z (o + 1) Z0 (fun _ => o + 1 + 8) Z1 ∧ PX4 z (o + 1 + 8) F4i (fun _ => 0) Z1 ∧ PX5 z (o + 13) Z0 (fun _ => o + 13 + 8) Z1 ∧ PX4 z (o + 13 + 8) F4i (fun _ => 0) Z1 ∧ PX5 z (o + 25) Z0 (fun _ => o + 25 + 8) Z1 ∧ PX4 z (o + 25 + 8) F4i (fun _ => 0) Z1 ∧ PX2 z (o + 37) Z0 (fun _ => 0) Z1 ∧ PX2 z (o + 46) Z0 (fun _ => 0) Z1 ∧ PX1 z (o + 55) Z0 (fun _ => 0) Z1) ⟨(hc16.nest (show o < o + 55 by omega) hfr17 hz17), (hf16_0.cg (fun i => fr_nest hfr17 (show o + 1 < o + 55 by omega) i)), (hf16_1.cg (fun i => fr_nest hfr17 (show o + 9 < o + 55 by omega) i)), (hf16_2.cg (fun i => fr_nest hfr17 (show o + 13 < o + 55 by omega) i)), (hf16_3.cg (fun i => fr_nest hfr17 (show o + 21 < o + 55 by omega) i)), (hf16_4.cg (fun i => fr_nest hfr17 (show o + 25 < o + 55 by omega) i)), (hf16_5.cg (fun i => fr_nest hfr17 (show o + 33 < o + 55 by omega) i)), (hf16_6.cg (fun i => fr_nest hfr17 (show o + 37 < o + 55 by omega) i)), (hf16_7.cg (fun i => fr_nest hfr17 (show o + 46 < o + 55 by omega) i)), hg17_0⟩ (fun σ18 hq18 => ?_)
  obtain ⟨hc18, hf18_0, hf18_1, hf18_2, hf18_3, hf18_4, hf18_5, hf18_6, hf18_7, hf18_8⟩ := hq18
  refine pf_X6_37 (fs' := [.ref (o + 1), .ref (o + 13), .ref (o + 25), .ref (o + 37), .ref (o + 46), .ref (o + 55), .null, .int 0]) (pc := 67) Xc hnm (dT hX6_init 31 rfl) hc18.1 (Nat.le_of_ble_eq_true rfl) rfl ?_
  refine Ev.ab (fun z => CQ σ z o 6 [.ref (o + 1), .ref (o + 13), .ref (o + 25), .ref (o + 37), .ref (o + 46), .ref (o + 55), .null, .int 0] 0 tabX6 (o + 58) ∧ PX5 z (o + 1) Z0 (fun _ => o + 1 + 8) Z1 ∧ PX4 z (o + 1 + 8) F4i (fun _ => 0) Z1 ∧ PX5 z (o + 13) Z0 (fun _ => o + 13 + 8) Z1 ∧ PX4 z (o + 13 + 8) F4i (fun _ => 0) Z1 ∧ PX5 z (o + 25) Z0 (fun _ => o + 25 + 8) Z1 ∧ PX4 z (o + 25 + 8) F4i (fun _ => 0) Z1 ∧ PX2 z (o + 37) Z0 (fun _ => 0) Z1 ∧ PX2 z (o + 46) Z0 (fun _ => 0) Z1 ∧ PX1 z (o + 55) Z0 (fun _ => 0) Z1) ⟨hc18.fld, (hf18_0.cg (fun i => xset_n (fun q => by have := congrArg Prod.fst q; have : o + 1 = o := this; omega))), (hf18_1.cg (fun i => xset_n (fun q => by have := congrArg Prod.fst q; have : o + 9 = o := this; omega))), (hf18_2.cg (fun i => xset_n (fun q => by have := congrArg Prod.fst q; have : o + 13 = o := this; omega))), (hf18_3.cg (fun i => xset_n (fun q => by have := congrArg Prod.fst q; have : o + 21 = o := this; omega))), (hf18_4.cg (fun i => xset_n (fun q => by have := congrArg Prod.fst q; have : o + 25 = o := this; omega))), (hf18_5.cg (fun i => xset_n (fun q => by have := congrArg Prod.fst q; have : o + 33 = o := this; omega))), (hf18_6.cg (fun i => xset_n (fun q => by have := congrArg Prod.fst q; have : o + 37 = o := this; omega))), (hf18_7.cg (fun i => xset_n (fun q => by have := congrArg Prod.fst q; have : o + 46 = o := this; omega))), (hf18_8.cg (fun i => xset_n (fun q => by have := congrArg Prod.fst q; have : o + 55 = o := this; omega)))⟩ (fun σ19 hq19 => ?_)
  obtain ⟨hc19, hf19_0, hf19_1, hf19_2, hf19_3, hf19_4, hf19_5, hf19_6, hf19_7, hf19_8⟩ := hq19
  refine e_aload_n (pc := 70) Xc (dT hX6_init 32 rfl) 0 rfl ?_
  refine e_new (o := o + 58) (pc := 71) Xc kX0 (dT hX6_init 33 rfl) w_cl_X6_41 w_new_X0 w_ini_X0 DX0_ok (Nat.le_of_ble_eq_true rfl) (Nat.le_of_ble_eq_true rfl) hc19.2.2.1.symm ?_
  refine e_dup (pc := 74) Xc (dT hX6_init 34 rfl) rfl ?_
  refine cl_X6_43 (pc := 75) (S := [.ref (o + 58), .ref o]) Xc (kX0_init (o := o + 58) xpush_s (congrArg Nat.succ hc19.2.2.1)) (dT hX6_init 35 rfl) rfl (Nat.le_of_ble_eq_true rfl) (Nat.le_of_ble_eq_true rfl) (Nat.le_of_ble_eq_true rfl) rfl (Nat.le_of_ble_eq_true rfl) (fun σ20 hq20 => ?_)
  obtain ⟨hg20_0, hz20, hfr20⟩ := hq20
  refine Ev.ab (fun z => CQ σ z o 6 [.ref (o + 1), .ref (o + 13), .ref (o + 25), .ref (o + 37), .ref (o + 46), .ref (o + 55), .null, .int 0] 0 tabX6 (o + 60) ∧ PX5 z (o + 1) Z0 (fun _ => o + 1 + 8) Z1 ∧ PX4 z (o + 1 + 8) F4i (fun _ => 0) Z1 ∧ PX5 z (o + 13) Z0 (fun _ => o + 13 + 8) Z1 ∧ PX4 z (o + 13 + 8) F4i (fun _ => 0) Z1 ∧ PX5 z (o + 25) Z0 (fun _ => o + 25 + 8) Z1 ∧ PX4 z (o + 25 + 8) F4i (fun _ => 0) Z1 ∧ PX2 z (o + 37) Z0 (fun _ => 0) Z1 ∧ PX2 z (o + 46) Z0 (fun _ => 0) Z1 ∧ PX1 z (o + 55) Z0 (fun _ => 0) Z1 ∧ PX0 z (o + 58) Z0 (fun _ => 0) Z1) ⟨(hc19.nest (show o < o + 58 by omega) hfr20 hz20), (hf19_0.cg (fun i => fr_nest hfr20 (show o + 1 < o + 58 by omega) i)), (hf19_1.cg (fun i => fr_nest hfr20 (show o + 9 < o + 58 by omega) i)), (hf19_2.cg (fun i => fr_nest hfr20 (show o + 13 < o + 58 by omega) i)), (hf19_3.cg (fun i => fr_nest hfr20 (show o + 21 < o + 58 by omega) i)), (hf19_4.cg (fun i => fr_nest hfr20 (show o + 25 < o + 58 by omega) i)), (hf19_5.cg (fun i => fr_nest hfr20 (show o + 33 < o + 58 by omega) i)), (hf19_6.cg (fun i => fr_nest hfr20 (show o + 37 < o + 58 by omega) i)), (hf19_7.cg (fun i => fr_nest hfr20 (show o + 46 < o + 58 by omega) i)), (hf19_8.cg (fun i => fr_nest hfr20 (show o + 55 < o + 58 by omega) i)), hg20_0⟩ (fun σ21 hq21 => ?_)
  obtain ⟨hc21, hf21_0, hf21_1, hf21_2, hf21_3, hf21_4, hf21_5, hf21_6, hf21_7, hf21_8, hf21_9⟩ := hq21
  refine pf_X6_44 (fs' := [.ref (o + 1), .ref (o + 13), .ref (o + 25), .ref (o + 37), .ref (o + 46), .ref (o + 55), .ref (o + 58), .int 0]) (pc := 78) Xc hnm (dT hX6_init 36 rfl) hc21.1 (Nat.le_of_ble_eq_true rfl) rfl ?_
  refine Ev.ab (fun z => CQ σ z o 6 [.ref (o + 1), .ref (o + 13), .ref (o + 25), .ref (o + 37), .ref (o + 46), .ref (o + 55), .ref (o + 58), .int 0] 0 tabX6 (o + 60) ∧ PX5 z (o + 1) Z0 (fun _ => o + 1 + 8) Z1 ∧ PX4 z (o + 1 + 8) F4i (fun _ => 0) Z1 ∧ PX5 z (o + 13) Z0 (fun _ => o + 13 + 8) Z1 ∧ PX4 z (o + 13 + 8) F4i (fun _ => 0) Z1 ∧ PX5 z (o + 25) Z0 (fun _ => o + 25 + 8) Z1 ∧ PX4 z (o + 25 + 8) F4i (fun _ => 0) Z1 ∧ PX2 z (o + 37) Z0 (fun _ => 0) Z1 ∧ PX2 z (o + 46) Z0 (fun _ => 0) Z1 ∧ PX1 z (o + 55) Z0 (fun _ => 0) Z1 ∧ PX0 z (o + 58) Z0 (fun _ => 0) Z1) ⟨hc21.fld, (hf21_0.cg (fun i => xset_n (fun q => by have := congrArg Prod.fst q; have : o + 1 = o := this; omega))), (hf21_1.cg (fun i => xset_n (fun q => by have := congrArg Prod.fst q; have : o + 9 = o := this; omega))), (hf21_2.cg (fun i => xset_n (fun q => by have := congrArg Prod.fst q; have : o + 13 = o := this; omega))), (hf21_3.cg (fun i => xset_n (fun q => by have := congrArg Prod.fst q; have : o + 21 = o := this; omega))), (hf21_4.cg (fun i => xset_n (fun q => by have := congrArg Prod.fst q; have : o + 25 = o := this; omega))), (hf21_5.cg (fun i => xset_n (fun q => by have := congrArg Prod.fst q; have : o + 33 = o := this; omega))), (hf21_6.cg (fun i => xset_n (fun q => by have := congrArg Prod.fst q; have : o + 37 = o := this; omega))), (hf21_7.cg (fun i => xset_n (fun q => by have := congrArg Prod.fst q; have : o + 46 = o := this; omega))), (hf21_8.cg (fun i => xset_n (fun q => by have := congrArg Prod.fst q; have : o + 55 = o := this; omega))), (hf21_9.cg (fun i => xset_n (fun q => by have := congrArg Prod.fst q; have : o + 58 = o := this; omega)))⟩ (fun σ22 hq22 => ?_)
  obtain ⟨hc22, hf22_0, hf22_1, hf22_2, hf22_3, hf22_4, hf22_5, hf22_6, hf22_7, hf22_8, hf22_9⟩ := hq22
  refine e_aload_n (pc := 81) Xc (dT hX6_init 37 rfl) 0 rfl ?_
  refine e_iconst (v := 0) (pc := 82) Xc (dT hX6_init 38 rfl) rfl ?_
  refine pf_X6_48 (fs' := [.ref (o + 1), .ref (o + 13), .ref (o + 25), .ref (o + 37), .ref (o + 46), .ref (o + 55), .ref (o + 58), .int 0]) (pc := 83) Xc (dT hX6_init 39 rfl) (Or.inl rfl) hc22.1 (Nat.le_of_ble_eq_true rfl) rfl ?_
  refine Ev.ab (fun z => CQ σ z o 6 [.ref (o + 1), .ref (o + 13), .ref (o + 25), .ref (o + 37), .ref (o + 46), .ref (o + 55), .ref (o + 58), .int 0] 0 tabX6 (o + 60) ∧ PX5 z (o + 1) Z0 (fun _ => o + 1 + 8) Z1 ∧ PX4 z (o + 1 + 8) F4i (fun _ => 0) Z1 ∧ PX5 z (o + 13) Z0 (fun _ => o + 13 + 8) Z1 ∧ PX4 z (o + 13 + 8) F4i (fun _ => 0) Z1 ∧ PX5 z (o + 25) Z0 (fun _ => o + 25 + 8) Z1 ∧ PX4 z (o + 25 + 8) F4i (fun _ => 0) Z1 ∧ PX2 z (o + 37) Z0 (fun _ => 0) Z1 ∧ PX2 z (o + 46) Z0 (fun _ => 0) Z1 ∧ PX1 z (o + 55) Z0 (fun _ => 0) Z1 ∧ PX0 z (o + 58) Z0 (fun _ => 0) Z1) ⟨hc22.fld, (hf22_0.cg (fun i => xset_n (fun q => by have := congrArg Prod.fst q; have : o + 1 = o := this; omega))), (hf22_1.cg (fun i => xset_n (fun q => by have := congrArg Prod.fst q; have : o + 9 = o := this; omega))), (hf22_2.cg (fun i => xset_n (fun q => by have := congrArg Prod.fst q; have : o + 13 = o := this; omega))), (hf22_3.cg (fun i => xset_n (fun q => by have := congrArg Prod.fst q; have : o + 21 = o := this; omega))), (hf22_4.cg (fun i => xset_n (fun q => by have := congrArg Prod.fst q; have : o + 25 = o := this; omega))), (hf22_5.cg (fun i => xset_n (fun q => by have := congrArg Prod.fst q; have : o + 33 = o := this; omega))), (hf22_6.cg (fun i => xset_n (fun q => by have := congrArg Prod.fst q; have : o + 37 = o := this; omega))), (hf22_7.cg (fun i => xset_n (fun q => by have := congrArg Prod.fst q; have : o + 46 = o := this; omega))), (hf22_8.cg (fun i => xset_n (fun q => by have := congrArg Prod.fst q; have : o + 55 = o := this; omega))), (hf22_9.cg (fun i => xset_n (fun q => by have := congrArg Prod.fst q; have : o + 58 = o := this; omega)))⟩ (fun σ23 hq23 => ?_)
  obtain ⟨hc23, hf23_0, hf23_1, hf23_2, hf23_3, hf23_4, hf23_5, hf23_6, hf23_7, hf23_8, hf23_9⟩ := hq23
  refine e_vret (pc := 86) Xc hQ (dT hX6_init 40 rfl) (Nat.le_of_ble_eq_true rfl) (Nat.le_of_ble_eq_true rfl) ?_
  exact ⟨hc23.1, hf23_0, hf23_1, hf23_2, hf23_3, hf23_4, hf23_5, hf23_6, hf23_7, hf23_8, hf23_9, hc23.2.2.1, hc23.2.2.2⟩
set_option maxRecDepth 100000 in
set_option maxHeartbeats 4000000 in
theorem kX3_init {G : xG} {σ : xS} {o : Nat} {pa tw : Nat} {nz : Int32} (h0 : σ.2 (o, 0) = some (.inr (3, DX3))) (hsz : σ.1 = o + 1) : CV G yX3_init cX3_init 4 none 1 0 0 [.ref o, .ref (pa + 1), .int nz, .ref tw] σ (fun σ1 => PX3 σ1 o (F3i nz) (tR pa tw) Z1 ∧ σ1.1 = o + 1 ∧ ∀ q : Nat × Nat, q.1 < o → σ1.2 q = σ.2 q) := by
  refine Met.ofX (by decide +kernel) (Nat.le_of_ble_eq_true rfl) (fun μ Xc hQ hnm => ?_)
  have Xc : xC G μ cX3_init 4 RX3 none 1 0 0 := Xc
  show Ev G μ 4 0 0 0 [(0, .ref o), (1, .ref (pa + 1)), (2, .int nz), (3, .ref tw)] [] σ
  refine e_aload_n (pc := 0) Xc (dT hX3_init 0 rfl) 0 rfl ?_
  refine e_objInit (pc := 1) Xc w_ml_X3_3 w_inst_objectInit w_code_objectInit (dT hX3_init 1 rfl) (Nat.le_of_ble_eq_true rfl) (Nat.le_of_ble_eq_true rfl) ?_
  refine Ev.ab (fun z => CQ σ z o 3 [.null, .int 0, .null, .int 0, .int 0] 0 tabX3 (o + 1)) (CQ.start h0 hsz) (fun σ1 hq1 => ?_)
  have hc1 := hq1
  refine e_aload_n (pc := 4) Xc (dT hX3_init 2 rfl) 0 rfl ?_
  refine e_iconst (v := 0) (pc := 5) Xc (dT hX3_init 3 rfl) rfl ?_
  refine pf_X3_9 (fs' := [.null, .int 0, .null, .int 0, .int 0]) (pc := 6) Xc (dT hX3_init 4 rfl) hc1.1 (Nat.le_of_ble_eq_true rfl) rfl ?_
  refine Ev.ab (fun z => CQ σ z o 3 [.null, .int 0, .null, .int 0, .int 0] 0 tabX3 (o + 1)) hc1.fld (fun σ2 hq2 => ?_)
  have hc2 := hq2
  refine e_aload_n (pc := 9) Xc (dT hX3_init 5 rfl) 0 rfl ?_
  refine e_iconst (v := 0) (pc := 10) Xc (dT hX3_init 6 rfl) rfl ?_
  refine pf_X3_15 (fs' := [.null, .int 0, .null, .int 0, .int 0]) (pc := 11) Xc (dT hX3_init 7 rfl) hc2.1 (Nat.le_of_ble_eq_true rfl) rfl ?_
  refine Ev.ab (fun z => CQ σ z o 3 [.null, .int 0, .null, .int 0, .int 0] 0 tabX3 (o + 1)) hc2.fld (fun σ3 hq3 => ?_)
  have hc3 := hq3
  refine e_aload_n (pc := 14) Xc (dT hX3_init 8 rfl) 0 rfl ?_
  refine e_aload_n (pc := 15) Xc (dT hX3_init 9 rfl) 1 rfl ?_
  refine pf_X3_18 (fs' := [.ref (pa + 1), .int 0, .null, .int 0, .int 0]) (pc := 16) Xc hnm (dT hX3_init 10 rfl) hc3.1 (Nat.le_of_ble_eq_true rfl) rfl ?_
  refine Ev.ab (fun z => CQ σ z o 3 [.ref (pa + 1), .int 0, .null, .int 0, .int 0] 0 tabX3 (o + 1)) hc3.fld (fun σ4 hq4 => ?_)
  have hc4 := hq4
  refine e_aload_n (pc := 19) Xc (dT hX3_init 11 rfl) 0 rfl ?_
  refine e_iload_n (pc := 20) Xc (dT hX3_init 12 rfl) 2 rfl ?_
  refine pf_X3_22 (fs' := [.ref (pa + 1), .int nz, .null, .int 0, .int 0]) (pc := 21) Xc hnm (dT hX3_init 13 rfl) hc4.1 (Nat.le_of_ble_eq_true rfl) rfl ?_
  refine Ev.ab (fun z => CQ σ z o 3 [.ref (pa + 1), .int nz, .null, .int 0, .int 0] 0 tabX3 (o + 1)) hc4.fld (fun σ5 hq5 => ?_)
  have hc5 := hq5
  refine e_aload_n (pc := 24) Xc (dT hX3_init 14 rfl) 0 rfl ?_
  refine e_aload_n (pc := 25) Xc (dT hX3_init 15 rfl) 3 rfl ?_
  refine pf_X3_25 (fs' := [.ref (pa + 1), .int nz, .ref tw, .int 0, .int 0]) (pc := 26) Xc hnm (dT hX3_init 16 rfl) hc5.1 (Nat.le_of_ble_eq_true rfl) rfl ?_
  refine Ev.ab (fun z => CQ σ z o 3 [.ref (pa + 1), .int nz, .ref tw, .int 0, .int 0] 0 tabX3 (o + 1)) hc5.fld (fun σ6 hq6 => ?_)
  have hc6 := hq6
  refine e_vret (pc := 29) Xc hQ (dT hX3_init 17 rfl) (Nat.le_of_ble_eq_true rfl) (Nat.le_of_ble_eq_true rfl) ?_
  exact ⟨hc6.1, hc6.2.2.1, hc6.2.2.2⟩
set_option maxRecDepth 100000 in
set_option maxHeartbeats 4000000 in
theorem kX7_init {G : xG} {σ : xS} {o : Nat} (h0 : σ.2 (o, 0) = some (.inr (7, DX7))) (hsz : σ.1 = o + 1) : CV G yX7_init cX7_init 1 none 1 11 10148 [.ref o] σ (fun σ1 => PX7 σ1 o Z0 (fun _ => 0) (upA Z1 1 (upd (fun _ => 0) 19 (-1))) ∧ σ1.1 = o + 12 ∧ ∀ q : Nat × Nat, q.1 < o → σ1.2 q = σ.2 q) := by
  refine Met.ofX (by decide +kernel) (Nat.le_of_ble_eq_true rfl) (fun μ Xc hQ hnm => ?_)
  have Xc : xC G μ cX7_init 1 RX7 none 1 11 10148 := Xc
  show Ev G μ 1 0 0 0 [(0, .ref o)] [] σ
  refine e_aload_n (pc := 0) Xc (dT hX7_init 0 rfl) 0 rfl ?_
  refine e_objInit (pc := 1) Xc w_ml_X7_3 w_inst_objectInit w_code_objectInit (dT hX7_init 1 rfl) (Nat.le_of_ble_eq_true rfl) (Nat.le_of_ble_eq_true rfl) ?_
  refine Ev.ab (fun z => CQ σ z o 7 [.int 0, .null, .null, .null, .int 0, .int 0, .int 0, .int 0, .int 0, .int 0, .null, .null, .null, .null, .null, .int 0, .int 0, .int 0, .null, .null, .null, .int 0, .int 0, .int 0, .int 0] 0 tabX7 (o + 1)) (CQ.start h0 hsz) (fun σ1 hq1 => ?_)
  have hc1 := hq1
  refine e_aload_n (pc := 4) Xc (dT hX7_init 2 rfl) 0 rfl ?_
  refine e_sipush (v := 909) (pc := 5) Xc (dT hX7_init 3 rfl) rfl ?_
  refine e_newa (o := o) (i := 1) (t := 0) (N' := 909) (pc := 8) Xc (dT hX7_init 4 rfl) (Or.inl ⟨rfl, rfl⟩) w_arr_int (by decide) (by decide +kernel) (by decide) (Nat.le_of_ble_eq_true rfl) (Nat.le_of_ble_eq_true rfl) hc1.2.2.1.symm ?_
  refine Ev.ab (fun z => CQ σ z o 7 [.int 0, .null, .null, .null, .int 0, .int 0, .int 0, .int 0, .int 0, .int 0, .null, .null, .null, .null, .null, .int 0, .int 0, .int 0, .null, .null, .null, .int 0, .int 0, .int 0, .int 0] 1 tabX7 (o + 2)) (hc1.arr rfl rfl rfl) (fun σ2 hq2 => ?_)
  have hc2 := hq2
  refine pf_X7_9 (fs' := [.int 0, .ref (o + 1), .null, .null, .int 0, .int 0, .int 0, .int 0, .int 0, .int 0, .null, .null, .null, .null, .null, .int 0, .int 0, .int 0, .null, .null, .null, .int 0, .int 0, .int 0, .int 0]) (pc := 10) Xc hnm (dT hX7_init 5 rfl) hc2.1 (Nat.le_of_ble_eq_true rfl) rfl ?_
  refine Ev.ab (fun z => CQ σ z o 7 [.int 0, .ref (o + 1), .null, .null, .int 0, .int 0, .int 0, .int 0, .int 0, .int 0, .null, .null, .null, .null, .null, .int 0, .int 0, .int 0, .null, .null, .null, .int 0, .int 0, .int 0, .int 0] 1 tabX7 (o + 2)) hc2.fld (fun σ3 hq3 => ?_)
  have hc3 := hq3
  refine e_aload_n (pc := 13) Xc (dT hX7_init 6 rfl) 0 rfl ?_
  refine e_sipush (v := 909) (pc := 14) Xc (dT hX7_init 7 rfl) rfl ?_
  refine e_newa (o := o) (i := 2) (t := 0) (N' := 909) (pc := 17) Xc (dT hX7_init 8 rfl) (Or.inl ⟨rfl, rfl⟩) w_arr_int (by decide) (by decide +kernel) (by decide) (Nat.le_of_ble_eq_true rfl) (Nat.le_of_ble_eq_true rfl) hc3.2.2.1.symm ?_
  refine Ev.ab (fun z => CQ σ z o 7 [.int 0, .ref (o + 1), .null, .null, .int 0, .int 0, .int 0, .int 0, .int 0, .int 0, .null, .null, .null, .null, .null, .int 0, .int 0, .int 0, .null, .null, .null, .int 0, .int 0, .int 0, .int 0] 2 tabX7 (o + 3)) (hc3.arr rfl rfl rfl) (fun σ4 hq4 => ?_)
  have hc4 := hq4
  refine pf_X7_15 (fs' := [.int 0, .ref (o + 1), .ref (o + 2), .null, .int 0, .int 0, .int 0, .int 0, .int 0, .int 0, .null, .null, .null, .null, .null, .int 0, .int 0, .int 0, .null, .null, .null, .int 0, .int 0, .int 0, .int 0]) (pc := 19) Xc hnm (dT hX7_init 9 rfl) hc4.1 (Nat.le_of_ble_eq_true rfl) rfl ?_
  refine Ev.ab (fun z => CQ σ z o 7 [.int 0, .ref (o + 1), .ref (o + 2), .null, .int 0, .int 0, .int 0, .int 0, .int 0, .int 0, .null, .null, .null, .null, .null, .int 0, .int 0, .int 0, .null, .null, .null, .int 0, .int 0, .int 0, .int 0] 2 tabX7 (o + 3)) hc4.fld (fun σ5 hq5 => ?_)
  have hc5 := hq5
  refine e_aload_n (pc := 22) Xc (dT hX7_init 10 rfl) 0 rfl ?_
  refine e_bipush (v := 12) (pc := 23) Xc (dT hX7_init 11 rfl) rfl ?_
  refine e_newa (o := o) (i := 3) (t := 0) (N' := 12) (pc := 25) Xc (dT hX7_init 12 rfl) (Or.inl ⟨rfl, rfl⟩) w_arr_int (by decide) (by decide +kernel) (by decide) (Nat.le_of_ble_eq_true rfl) (Nat.le_of_ble_eq_true rfl) hc5.2.2.1.symm ?_
  refine Ev.ab (fun z => CQ σ z o 7 [.int 0, .ref (o + 1), .ref (o + 2), .null, .int 0, .int 0, .int 0, .int 0, .int 0, .int 0, .null, .null, .null, .null, .null, .int 0, .int 0, .int 0, .null, .null, .null, .int 0, .int 0, .int 0, .int 0] 3 tabX7 (o + 4)) (hc5.arr rfl rfl rfl) (fun σ6 hq6 => ?_)
  have hc6 := hq6
  refine pf_X7_18 (fs' := [.int 0, .ref (o + 1), .ref (o + 2), .ref (o + 3), .int 0, .int 0, .int 0, .int 0, .int 0, .int 0, .null, .null, .null, .null, .null, .int 0, .int 0, .int 0, .null, .null, .null, .int 0, .int 0, .int 0, .int 0]) (pc := 27) Xc hnm (dT hX7_init 13 rfl) hc6.1 (Nat.le_of_ble_eq_true rfl) rfl ?_
  refine Ev.ab (fun z => CQ σ z o 7 [.int 0, .ref (o + 1), .ref (o + 2), .ref (o + 3), .int 0, .int 0, .int 0, .int 0, .int 0, .int 0, .null, .null, .null, .null, .null, .int 0, .int 0, .int 0, .null, .null, .null, .int 0, .int 0, .int 0, .int 0] 3 tabX7 (o + 4)) hc6.fld (fun σ7 hq7 => ?_)
  have hc7 := hq7
  refine e_aload_n (pc := 30) Xc (dT hX7_init 14 rfl) 0 rfl ?_
  refine e_bipush (v := 6) (pc := 31) Xc (dT hX7_init 15 rfl) rfl ?_
  refine e_newa (o := o) (i := 4) (t := 0) (N' := 6) (pc := 33) Xc (dT hX7_init 16 rfl) (Or.inl ⟨rfl, rfl⟩) w_arr_int (by decide) (by decide +kernel) (by decide) (Nat.le_of_ble_eq_true rfl) (Nat.le_of_ble_eq_true rfl) hc7.2.2.1.symm ?_
  refine Ev.ab (fun z => CQ σ z o 7 [.int 0, .ref (o + 1), .ref (o + 2), .ref (o + 3), .int 0, .int 0, .int 0, .int 0, .int 0, .int 0, .null, .null, .null, .null, .null, .int 0, .int 0, .int 0, .null, .null, .null, .int 0, .int 0, .int 0, .int 0] 4 tabX7 (o + 5)) (hc7.arr rfl rfl rfl) (fun σ8 hq8 => ?_)
  have hc8 := hq8
  refine pf_X7_21 (fs' := [.int 0, .ref (o + 1), .ref (o + 2), .ref (o + 3), .int 0, .int 0, .int 0, .int 0, .int 0, .int 0, .ref (o + 4), .null, .null, .null, .null, .int 0, .int 0, .int 0, .null, .null, .null, .int 0, .int 0, .int 0, .int 0]) (pc := 35) Xc hnm (dT hX7_init 17 rfl) hc8.1 (Nat.le_of_ble_eq_true rfl) rfl ?_
  refine Ev.ab (fun z => CQ σ z o 7 [.int 0, .ref (o + 1), .ref (o + 2), .ref (o + 3), .int 0, .int 0, .int 0, .int 0, .int 0, .int 0, .ref (o + 4), .null, .null, .null, .null, .int 0, .int 0, .int 0, .null, .null, .null, .int 0, .int 0, .int 0, .int 0] 4 tabX7 (o + 5)) hc8.fld (fun σ9 hq9 => ?_)
  have hc9 := hq9
  refine e_aload_n (pc := 38) Xc (dT hX7_init 18 rfl) 0 rfl ?_
  refine e_bipush (v := 64) (pc := 39) Xc (dT hX7_init 19 rfl) rfl ?_
  refine e_newa (o := o) (i := 5) (t := 1) (N' := 64) (pc := 41) Xc (dT hX7_init 20 rfl) (Or.inr ⟨rfl, rfl⟩) w_arr_boolean (by decide) (by decide +kernel) (by decide) (Nat.le_of_ble_eq_true rfl) (Nat.le_of_ble_eq_true rfl) hc9.2.2.1.symm ?_
  refine Ev.ab (fun z => CQ σ z o 7 [.int 0, .ref (o + 1), .ref (o + 2), .ref (o + 3), .int 0, .int 0, .int 0, .int 0, .int 0, .int 0, .ref (o + 4), .null, .null, .null, .null, .int 0, .int 0, .int 0, .null, .null, .null, .int 0, .int 0, .int 0, .int 0] 5 tabX7 (o + 6)) (hc9.arr rfl rfl rfl) (fun σ10 hq10 => ?_)
  have hc10 := hq10
  refine pf_X7_24 (fs' := [.int 0, .ref (o + 1), .ref (o + 2), .ref (o + 3), .int 0, .int 0, .int 0, .int 0, .int 0, .int 0, .ref (o + 4), .ref (o + 5), .null, .null, .null, .int 0, .int 0, .int 0, .null, .null, .null, .int 0, .int 0, .int 0, .int 0]) (pc := 43) Xc hnm (dT hX7_init 21 rfl) hc10.1 (Nat.le_of_ble_eq_true rfl) rfl ?_
  refine Ev.ab (fun z => CQ σ z o 7 [.int 0, .ref (o + 1), .ref (o + 2), .ref (o + 3), .int 0, .int 0, .int 0, .int 0, .int 0, .int 0, .ref (o + 4), .ref (o + 5), .null, .null, .null, .int 0, .int 0, .int 0, .null, .null, .null, .int 0, .int 0, .int 0, .int 0] 5 tabX7 (o + 6)) hc10.fld (fun σ11 hq11 => ?_)
  have hc11 := hq11
  refine e_aload_n (pc := 46) Xc (dT hX7_init 22 rfl) 0 rfl ?_
  refine e_bipush (v := 28) (pc := 47) Xc (dT hX7_init 23 rfl) rfl ?_
  refine e_newa (o := o) (i := 6) (t := 0) (N' := 28) (pc := 49) Xc (dT hX7_init 24 rfl) (Or.inl ⟨rfl, rfl⟩) w_arr_int (by decide) (by decide +kernel) (by decide) (Nat.le_of_ble_eq_true rfl) (Nat.le_of_ble_eq_true rfl) hc11.2.2.1.symm ?_
  refine Ev.ab (fun z => CQ σ z o 7 [.int 0, .ref (o + 1), .ref (o + 2), .ref (o + 3), .int 0, .int 0, .int 0, .int 0, .int 0, .int 0, .ref (o + 4), .ref (o + 5), .null, .null, .null, .int 0, .int 0, .int 0, .null, .null, .null, .int 0, .int 0, .int 0, .int 0] 6 tabX7 (o + 7)) (hc11.arr rfl rfl rfl) (fun σ12 hq12 => ?_)
  have hc12 := hq12
  refine pf_X7_28 (fs' := [.int 0, .ref (o + 1), .ref (o + 2), .ref (o + 3), .int 0, .int 0, .int 0, .int 0, .int 0, .int 0, .ref (o + 4), .ref (o + 5), .ref (o + 6), .null, .null, .int 0, .int 0, .int 0, .null, .null, .null, .int 0, .int 0, .int 0, .int 0]) (pc := 51) Xc hnm (dT hX7_init 25 rfl) hc12.1 (Nat.le_of_ble_eq_true rfl) rfl ?_
  refine Ev.ab (fun z => CQ σ z o 7 [.int 0, .ref (o + 1), .ref (o + 2), .ref (o + 3), .int 0, .int 0, .int 0, .int 0, .int 0, .int 0, .ref (o + 4), .ref (o + 5), .ref (o + 6), .null, .null, .int 0, .int 0, .int 0, .null, .null, .null, .int 0, .int 0, .int 0, .int 0] 6 tabX7 (o + 7)) hc12.fld (fun σ13 hq13 => ?_)
  have hc13 := hq13
  refine e_aload_n (pc := 54) Xc (dT hX7_init 26 rfl) 0 rfl ?_
  refine e_sipush (v := 4096) (pc := 55) Xc (dT hX7_init 27 rfl) rfl ?_
  refine e_newa (o := o) (i := 7) (t := 0) (N' := 4096) (pc := 58) Xc (dT hX7_init 28 rfl) (Or.inl ⟨rfl, rfl⟩) w_arr_int (by decide) (by decide +kernel) (by decide) (Nat.le_of_ble_eq_true rfl) (Nat.le_of_ble_eq_true rfl) hc13.2.2.1.symm ?_
  refine Ev.ab (fun z => CQ σ z o 7 [.int 0, .ref (o + 1), .ref (o + 2), .ref (o + 3), .int 0, .int 0, .int 0, .int 0, .int 0, .int 0, .ref (o + 4), .ref (o + 5), .ref (o + 6), .null, .null, .int 0, .int 0, .int 0, .null, .null, .null, .int 0, .int 0, .int 0, .int 0] 7 tabX7 (o + 8)) (hc13.arr rfl rfl rfl) (fun σ14 hq14 => ?_)
  have hc14 := hq14
  refine pf_X7_31 (fs' := [.int 0, .ref (o + 1), .ref (o + 2), .ref (o + 3), .int 0, .int 0, .int 0, .int 0, .int 0, .int 0, .ref (o + 4), .ref (o + 5), .ref (o + 6), .ref (o + 7), .null, .int 0, .int 0, .int 0, .null, .null, .null, .int 0, .int 0, .int 0, .int 0]) (pc := 60) Xc hnm (dT hX7_init 29 rfl) hc14.1 (Nat.le_of_ble_eq_true rfl) rfl ?_
  refine Ev.ab (fun z => CQ σ z o 7 [.int 0, .ref (o + 1), .ref (o + 2), .ref (o + 3), .int 0, .int 0, .int 0, .int 0, .int 0, .int 0, .ref (o + 4), .ref (o + 5), .ref (o + 6), .ref (o + 7), .null, .int 0, .int 0, .int 0, .null, .null, .null, .int 0, .int 0, .int 0, .int 0] 7 tabX7 (o + 8)) hc14.fld (fun σ15 hq15 => ?_)
  have hc15 := hq15
  refine e_aload_n (pc := 63) Xc (dT hX7_init 30 rfl) 0 rfl ?_
  refine e_sipush (v := 4096) (pc := 64) Xc (dT hX7_init 31 rfl) rfl ?_
  refine e_newa (o := o) (i := 8) (t := 0) (N' := 4096) (pc := 67) Xc (dT hX7_init 32 rfl) (Or.inl ⟨rfl, rfl⟩) w_arr_int (by decide) (by decide +kernel) (by decide) (Nat.le_of_ble_eq_true rfl) (Nat.le_of_ble_eq_true rfl) hc15.2.2.1.symm ?_
  refine Ev.ab (fun z => CQ σ z o 7 [.int 0, .ref (o + 1), .ref (o + 2), .ref (o + 3), .int 0, .int 0, .int 0, .int 0, .int 0, .int 0, .ref (o + 4), .ref (o + 5), .ref (o + 6), .ref (o + 7), .null, .int 0, .int 0, .int 0, .null, .null, .null, .int 0, .int 0, .int 0, .int 0] 8 tabX7 (o + 9)) (hc15.arr rfl rfl rfl) (fun σ16 hq16 => ?_)
  have hc16 := hq16
  refine pf_X7_34 (fs' := [.int 0, .ref (o + 1), .ref (o + 2), .ref (o + 3), .int 0, .int 0, .int 0, .int 0, .int 0, .int 0, .ref (o + 4), .ref (o + 5), .ref (o + 6), .ref (o + 7), .ref (o + 8), .int 0, .int 0, .int 0, .null, .null, .null, .int 0, .int 0, .int 0, .int 0]) (pc := 69) Xc hnm (dT hX7_init 33 rfl) hc16.1 (Nat.le_of_ble_eq_true rfl) rfl ?_
  refine Ev.ab (fun z => CQ σ z o 7 [.int 0, .ref (o + 1), .ref (o + 2), .ref (o + 3), .int 0, .int 0, .int 0, .int 0, .int 0, .int 0, .ref (o + 4), .ref (o + 5), .ref (o + 6), .ref (o + 7), .ref (o + 8), .int 0, .int 0, .int 0, .null, .null, .null, .int 0, .int 0, .int 0, .int 0] 8 tabX7 (o + 9)) hc16.fld (fun σ17 hq17 => ?_)
  have hc17 := hq17
  refine e_aload_n (pc := 72) Xc (dT hX7_init 34 rfl) 0 rfl ?_
  refine e_iconst (v := 4) (pc := 73) Xc (dT hX7_init 35 rfl) rfl ?_
  refine e_newa (o := o) (i := 9) (t := 0) (N' := 4) (pc := 74) Xc (dT hX7_init 36 rfl) (Or.inl ⟨rfl, rfl⟩) w_arr_int (by decide) (by decide +kernel) (by decide) (Nat.le_of_ble_eq_true rfl) (Nat.le_of_ble_eq_true rfl) hc17.2.2.1.symm ?_
  refine Ev.ab (fun z => CQ σ z o 7 [.int 0, .ref (o + 1), .ref (o + 2), .ref (o + 3), .int 0, .int 0, .int 0, .int 0, .int 0, .int 0, .ref (o + 4), .ref (o + 5), .ref (o + 6), .ref (o + 7), .ref (o + 8), .int 0, .int 0, .int 0, .null, .null, .null, .int 0, .int 0, .int 0, .int 0] 9 tabX7 (o + 10)) (hc17.arr rfl rfl rfl) (fun σ18 hq18 => ?_)
  have hc18 := hq18
  refine pf_X7_37 (fs' := [.int 0, .ref (o + 1), .ref (o + 2), .ref (o + 3), .int 0, .int 0, .int 0, .int 0, .int 0, .int 0, .ref (o + 4), .ref (o + 5), .ref (o + 6), .ref (o + 7), .ref (o + 8), .int 0, .int 0, .int 0, .ref (o + 9), .null, .null, .int 0, .int 0, .int 0, .int 0]) (pc := 76) Xc hnm (dT hX7_init 37 rfl) hc18.1 (Nat.le_of_ble_eq_true rfl) rfl ?_
  refine Ev.ab (fun z => CQ σ z o 7 [.int 0, .ref (o + 1), .ref (o + 2), .ref (o + 3), .int 0, .int 0, .int 0, .int 0, .int 0, .int 0, .ref (o + 4), .ref (o + 5), .ref (o + 6), .ref (o + 7), .ref (o + 8), .int 0, .int 0, .int 0, .ref (o + 9), .null, .null, .int 0, .int 0, .int 0, .int 0] 9 tabX7 (o + 10)) hc18.fld (fun σ19 hq19 => ?_)
  have hc19 := hq19
  refine e_aload_n (pc := 79) Xc (dT hX7_init 38 rfl) 0 rfl ?_
  refine e_iconst (v := 4) (pc := 80) Xc (dT hX7_init 39 rfl) rfl ?_
  refine e_newa (o := o) (i := 10) (t := 0) (N' := 4) (pc := 81) Xc (dT hX7_init 40 rfl) (Or.inl ⟨rfl, rfl⟩) w_arr_int (by decide) (by decide +kernel) (by decide) (Nat.le_of_ble_eq_true rfl) (Nat.le_of_ble_eq_true rfl) hc19.2.2.1.symm ?_
  refine Ev.ab (fun z => CQ σ z o 7 [.int 0, .ref (o + 1), .ref (o + 2), .ref (o + 3), .int 0, .int 0, .int 0, .int 0, .int 0, .int 0, .ref (o + 4), .ref (o + 5), .ref (o + 6), .ref (o + 7), .ref (o + 8), .int 0, .int 0, .int 0, .ref (o + 9), .null, .null, .int 0, .int 0, .int 0, .int 0] 10 tabX7 (o + 11)) (hc19.arr rfl rfl rfl) (fun σ20 hq20 => ?_)
  have hc20 := hq20
  refine pf_X7_40 (fs' := [.int 0, .ref (o + 1), .ref (o + 2), .ref (o + 3), .int 0, .int 0, .int 0, .int 0, .int 0, .int 0, .ref (o + 4), .ref (o + 5), .ref (o + 6), .ref (o + 7), .ref (o + 8), .int 0, .int 0, .int 0, .ref (o + 9), .ref (o + 10), .null, .int 0, .int 0, .int 0, .int 0]) (pc := 83) Xc hnm (dT hX7_init 41 rfl) hc20.1 (Nat.le_of_ble_eq_true rfl) rfl ?_
  refine Ev.ab (fun z => CQ σ z o 7 [.int 0, .ref (o + 1), .ref (o + 2), .ref (o + 3), .int 0, .int 0, .int 0, .int 0, .int 0, .int 0, .ref (o + 4), .ref (o + 5), .ref (o + 6), .ref (o + 7), .ref (o + 8), .int 0, .int 0, .int 0, .ref (o + 9), .ref (o + 10), .null, .int 0, .int 0, .int 0, .int 0] 10 tabX7 (o + 11)) hc20.fld (fun σ21 hq21 => ?_)
  have hc21 := hq21
  refine e_aload_n (pc := 86) Xc (dT hX7_init 42 rfl) 0 rfl ?_
  refine e_bipush (v := 20) (pc := 87) Xc (dT hX7_init 43 rfl) rfl ?_
  refine e_newa (o := o) (i := 11) (t := 0) (N' := 20) (pc := 89) Xc (dT hX7_init 44 rfl) (Or.inl ⟨rfl, rfl⟩) w_arr_int (by decide) (by decide +kernel) (by decide) (Nat.le_of_ble_eq_true rfl) (Nat.le_of_ble_eq_true rfl) hc21.2.2.1.symm ?_
  refine Ev.ab (fun z => CQ σ z o 7 [.int 0, .ref (o + 1), .ref (o + 2), .ref (o + 3), .int 0, .int 0, .int 0, .int 0, .int 0, .int 0, .ref (o + 4), .ref (o + 5), .ref (o + 6), .ref (o + 7), .ref (o + 8), .int 0, .int 0, .int 0, .ref (o + 9), .ref (o + 10), .null, .int 0, .int 0, .int 0, .int 0] 11 tabX7 (o + 12)) (hc21.arr rfl rfl rfl) (fun σ22 hq22 => ?_)
  have hc22 := hq22
  refine pf_X7_43 (fs' := [.int 0, .ref (o + 1), .ref (o + 2), .ref (o + 3), .int 0, .int 0, .int 0, .int 0, .int 0, .int 0, .ref (o + 4), .ref (o + 5), .ref (o + 6), .ref (o + 7), .ref (o + 8), .int 0, .int 0, .int 0, .ref (o + 9), .ref (o + 10), .ref (o + 11), .int 0, .int 0, .int 0, .int 0]) (pc := 91) Xc hnm (dT hX7_init 45 rfl) hc22.1 (Nat.le_of_ble_eq_true rfl) rfl ?_
  refine Ev.ab (fun z => CQ σ z o 7 [.int 0, .ref (o + 1), .ref (o + 2), .ref (o + 3), .int 0, .int 0, .int 0, .int 0, .int 0, .int 0, .ref (o + 4), .ref (o + 5), .ref (o + 6), .ref (o + 7), .ref (o + 8), .int 0, .int 0, .int 0, .ref (o + 9), .ref (o + 10), .ref (o + 11), .int 0, .int 0, .int 0, .int 0] 11 tabX7 (o + 12)) hc22.fld (fun σ23 hq23 => ?_)
  have hc23 := hq23
  refine e_aload_n (pc := 94) Xc (dT hX7_init 46 rfl) 0 rfl ?_
  refine gf_X7_9 (pc := 95) Xc (dT hX7_init 47 rfl) hc23.1 rfl ?_
  refine e_bipush (v := 19) (pc := 98) Xc (dT hX7_init 48 rfl) rfl ?_
  refine e_iconst (v := -1) (pc := 100) Xc (dT hX7_init 49 rfl) rfl ?_
  refine e_iastN (o := o) (i := 1) (len := 909) (pc := 101) Xc (dT hX7_init 50 rfl) (hc23.2.1 1 (by decide) (by decide)) rfl 19 rfl (by decide) (by decide) ?_
  refine e_vret (pc := 102) Xc hQ (dT hX7_init 51 rfl) (Nat.le_of_ble_eq_true rfl) (Nat.le_of_ble_eq_true rfl) ?_
  exact ⟨⟨(xset_n (by simp)).trans hc23.1, xset_s, (xset_n (by simp)).trans (hc23.2.1 2 (by decide) (by decide)), (xset_n (by simp)).trans (hc23.2.1 3 (by decide) (by decide)), ⟨_, (xset_n (by simp)).trans (hc23.2.1 4 (by decide) (by decide))⟩, ⟨_, (xset_n (by simp)).trans (hc23.2.1 5 (by decide) (by decide))⟩, (xset_n (by simp)).trans (hc23.2.1 6 (by decide) (by decide)), (xset_n (by simp)).trans (hc23.2.1 7 (by decide) (by decide)), (xset_n (by simp)).trans (hc23.2.1 8 (by decide) (by decide)), (xset_n (by simp)).trans (hc23.2.1 9 (by decide) (by decide)), (xset_n (by simp)).trans (hc23.2.1 10 (by decide) (by decide)), (xset_n (by simp)).trans (hc23.2.1 11 (by decide) (by decide))⟩, hc23.2.2.1, fun q hq => (xset_n (fun e => by rw [e] at hq; exact absurd hq (Nat.lt_irrefl o))).trans (hc23.2.2.2 q hq)⟩
