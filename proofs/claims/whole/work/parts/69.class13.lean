set_option maxRecDepth 100000 in
set_option maxHeartbeats 4000000 in
theorem c2_copy {G : xG} {σ : xS} {pa pb : Nat} {F F2 : Nat → Int32} {T T2 : Nat → Nat} {A A2 : Nat → Nat → Int32} (hP : PX2 σ pa F T A) (hP2 : PX2 σ pb F2 T2 A2) (hwo : pa ≠ pb) : CV G yX2_copy cX2_copy 2 none 2 0 0 [.ref pa, .ref pb] σ (fun σ1 => ∃ A1, PX2 σ1 pa (upd (upd (upd (upd F 8 (F2 8)) 9 (F2 9)) 10 (F2 10)) 11 (F2 11)) T A1 ∧ (∀ j, j < 100 → A1 1 j = A2 1 j) ∧ (∀ j, j < 6 → A1 2 j = A2 2 j) ∧ (∀ j, j < 6 → A1 3 j = A2 3 j) ∧ (∀ j, j < 6 → A1 4 j = A2 4 j) ∧ (∀ j, j < 8 → A1 5 j = A2 5 j) ∧ (∀ j, j < 8 → A1 6 j = A2 6 j) ∧ (∀ j, j < 8 → A1 7 j = A2 7 j) ∧ (∀ j, j < 8 → A1 8 j = A2 8 j) ∧ Off pa σ σ1) := by
  refine Met.ofX (by decide +kernel) (Nat.le_of_ble_eq_true rfl) (fun μ Xc hQ hnm => ?_)
  have Xc : xC G μ cX2_copy 2 RX2 none 2 0 0 := Xc
  show Ev G μ 2 0 0 0 [(0, .ref pa), (1, .ref pb)] [] σ
  refine e_aload_n (pc := 0) Xc (dT hX2_copy 0 rfl) 1 rfl ?_
  refine gf_X2_9 (pc := 1) Xc (dT hX2_copy 1 rfl) hP2.o rfl ?_
  refine e_aload_n (pc := 4) Xc (dT hX2_copy 2 rfl) 0 rfl ?_
  refine gf_X2_9 (pc := 5) Xc (dT hX2_copy 3 rfl) hP.o rfl ?_
  refine cl_X2_49 (pc := 8) (k := 0) (n := 0) (S := []) Xc (c_copyRow hP2.a1 hP.a1 (fun q => absurd (congrArg Prod.fst q) (Ne.symm hwo)) (by decide)) (dT hX2_copy 4 rfl) rfl (Nat.le_of_ble_eq_true rfl) (Nat.le_of_ble_eq_true rfl) (Nat.le_of_ble_eq_true rfl) rfl (Nat.le_of_ble_eq_true rfl) (fun σ2 hq3 => ?_)
  obtain ⟨g4, hg5, r1s⟩ := hq3
  subst r1s
  refine Ev.gen (fun z => PX2 z pa F T (upA A 1 g4)) (hP.wa1 (g := g4)) Off.set (fun σ6 hP7 ho8 => ?_)
  have hP9 := hP2.off ho8 (Ne.symm hwo)
  refine e_aload_n (pc := 11) Xc (dT hX2_copy 5 rfl) 1 rfl ?_
  refine gf_X2_15 (pc := 12) Xc (dT hX2_copy 6 rfl) hP9.o rfl ?_
  refine e_aload_n (pc := 15) Xc (dT hX2_copy 7 rfl) 0 rfl ?_
  refine gf_X2_15 (pc := 16) Xc (dT hX2_copy 8 rfl) hP7.o rfl ?_
  refine cl_X2_49 (pc := 19) (k := 0) (n := 0) (S := []) Xc (c_copyRow hP9.a2 hP7.a2 (fun q => absurd (congrArg Prod.fst q) (Ne.symm hwo)) (by decide)) (dT hX2_copy 9 rfl) rfl (Nat.le_of_ble_eq_true rfl) (Nat.le_of_ble_eq_true rfl) (Nat.le_of_ble_eq_true rfl) rfl (Nat.le_of_ble_eq_true rfl) (fun σ11 hq12 => ?_)
  obtain ⟨g13, hg14, r10s⟩ := hq12
  subst r10s
  refine Ev.gen (fun z => PX2 z pa F T (upA (upA A 1 g4) 2 g13)) (hP7.wa2 (g := g13)) Off.set (fun σ15 hP16 ho17 => ?_)
  have hP18 := hP9.off ho17 (Ne.symm hwo)
  refine e_aload_n (pc := 22) Xc (dT hX2_copy 10 rfl) 1 rfl ?_
  refine gf_X2_18 (pc := 23) Xc (dT hX2_copy 11 rfl) hP18.o rfl ?_
  refine e_aload_n (pc := 26) Xc (dT hX2_copy 12 rfl) 0 rfl ?_
  refine gf_X2_18 (pc := 27) Xc (dT hX2_copy 13 rfl) hP16.o rfl ?_
  refine cl_X2_49 (pc := 30) (k := 0) (n := 0) (S := []) Xc (c_copyRow hP18.a3 hP16.a3 (fun q => absurd (congrArg Prod.fst q) (Ne.symm hwo)) (by decide)) (dT hX2_copy 14 rfl) rfl (Nat.le_of_ble_eq_true rfl) (Nat.le_of_ble_eq_true rfl) (Nat.le_of_ble_eq_true rfl) rfl (Nat.le_of_ble_eq_true rfl) (fun σ20 hq21 => ?_)
  obtain ⟨g22, hg23, r19s⟩ := hq21
  subst r19s
  refine Ev.gen (fun z => PX2 z pa F T (upA (upA (upA A 1 g4) 2 g13) 3 g22)) (hP16.wa3 (g := g22)) Off.set (fun σ24 hP25 ho26 => ?_)
  have hP27 := hP18.off ho26 (Ne.symm hwo)
  refine e_aload_n (pc := 33) Xc (dT hX2_copy 15 rfl) 1 rfl ?_
  refine gf_X2_21 (pc := 34) Xc (dT hX2_copy 16 rfl) hP27.o rfl ?_
  refine e_aload_n (pc := 37) Xc (dT hX2_copy 17 rfl) 0 rfl ?_
  refine gf_X2_21 (pc := 38) Xc (dT hX2_copy 18 rfl) hP25.o rfl ?_
  refine cl_X2_49 (pc := 41) (k := 0) (n := 0) (S := []) Xc (c_copyRow hP27.a4 hP25.a4 (fun q => absurd (congrArg Prod.fst q) (Ne.symm hwo)) (by decide)) (dT hX2_copy 19 rfl) rfl (Nat.le_of_ble_eq_true rfl) (Nat.le_of_ble_eq_true rfl) (Nat.le_of_ble_eq_true rfl) rfl (Nat.le_of_ble_eq_true rfl) (fun σ29 hq30 => ?_)
  obtain ⟨g31, hg32, r28s⟩ := hq30
  subst r28s
  refine Ev.gen (fun z => PX2 z pa F T (upA (upA (upA (upA A 1 g4) 2 g13) 3 g22) 4 g31)) (hP25.wa4 (g := g31)) Off.set (fun σ33 hP34 ho35 => ?_)
  have hP36 := hP27.off ho35 (Ne.symm hwo)
  refine e_aload_n (pc := 44) Xc (dT hX2_copy 20 rfl) 1 rfl ?_
  refine gf_X2_24 (pc := 45) Xc (dT hX2_copy 21 rfl) hP36.o rfl ?_
  refine e_aload_n (pc := 48) Xc (dT hX2_copy 22 rfl) 0 rfl ?_
  refine gf_X2_24 (pc := 49) Xc (dT hX2_copy 23 rfl) hP34.o rfl ?_
  refine cl_X2_49 (pc := 52) (k := 0) (n := 0) (S := []) Xc (c_copyRow hP36.a5 hP34.a5 (fun q => absurd (congrArg Prod.fst q) (Ne.symm hwo)) (by decide)) (dT hX2_copy 24 rfl) rfl (Nat.le_of_ble_eq_true rfl) (Nat.le_of_ble_eq_true rfl) (Nat.le_of_ble_eq_true rfl) rfl (Nat.le_of_ble_eq_true rfl) (fun σ38 hq39 => ?_)
  obtain ⟨g40, hg41, r37s⟩ := hq39
  subst r37s
  refine Ev.gen (fun z => PX2 z pa F T (upA (upA (upA (upA (upA A 1 g4) 2 g13) 3 g22) 4 g31) 5 g40)) (hP34.wa5 (g := g40)) Off.set (fun σ42 hP43 ho44 => ?_)
  have hP45 := hP36.off ho44 (Ne.symm hwo)
  refine e_aload_n (pc := 55) Xc (dT hX2_copy 25 rfl) 1 rfl ?_
  refine gf_X2_27 (pc := 56) Xc (dT hX2_copy 26 rfl) hP45.o rfl ?_
  refine e_aload_n (pc := 59) Xc (dT hX2_copy 27 rfl) 0 rfl ?_
  refine gf_X2_27 (pc := 60) Xc (dT hX2_copy 28 rfl) hP43.o rfl ?_
  refine cl_X2_49 (pc := 63) (k := 0) (n := 0) (S := []) Xc (c_copyRow hP45.a6 hP43.a6 (fun q => absurd (congrArg Prod.fst q) (Ne.symm hwo)) (by decide)) (dT hX2_copy 29 rfl) rfl (Nat.le_of_ble_eq_true rfl) (Nat.le_of_ble_eq_true rfl) (Nat.le_of_ble_eq_true rfl) rfl (Nat.le_of_ble_eq_true rfl) (fun σ47 hq48 => ?_)
  obtain ⟨g49, hg50, r46s⟩ := hq48
  subst r46s
  refine Ev.gen (fun z => PX2 z pa F T (upA (upA (upA (upA (upA (upA A 1 g4) 2 g13) 3 g22) 4 g31) 5 g40) 6 g49)) (hP43.wa6 (g := g49)) Off.set (fun σ51 hP52 ho53 => ?_)
  have hP54 := hP45.off ho53 (Ne.symm hwo)
  refine e_aload_n (pc := 66) Xc (dT hX2_copy 30 rfl) 1 rfl ?_
  refine gf_X2_30 (pc := 67) Xc (dT hX2_copy 31 rfl) hP54.o rfl ?_
  refine e_aload_n (pc := 70) Xc (dT hX2_copy 32 rfl) 0 rfl ?_
  refine gf_X2_30 (pc := 71) Xc (dT hX2_copy 33 rfl) hP52.o rfl ?_
  refine cl_X2_49 (pc := 74) (k := 0) (n := 0) (S := []) Xc (c_copyRow hP54.a7 hP52.a7 (fun q => absurd (congrArg Prod.fst q) (Ne.symm hwo)) (by decide)) (dT hX2_copy 34 rfl) rfl (Nat.le_of_ble_eq_true rfl) (Nat.le_of_ble_eq_true rfl) (Nat.le_of_ble_eq_true rfl) rfl (Nat.le_of_ble_eq_true rfl) (fun σ56 hq57 => ?_)
  obtain ⟨g58, hg59, r55s⟩ := hq57
  subst r55s
  refine Ev.gen (fun z => PX2 z pa F T (upA (upA (upA (upA (upA (upA (upA A 1 g4) 2 g13) 3 g22) 4 g31) 5 g40) 6 g49) 7 g58)) (hP52.wa7 (g := g58)) Off.set (fun σ60 hP61 ho62 => ?_)
  have hP63 := hP54.off ho62 (Ne.symm hwo)
  refine e_aload_n (pc := 77) Xc (dT hX2_copy 35 rfl) 1 rfl ?_
  refine gf_X2_33 (pc := 78) Xc (dT hX2_copy 36 rfl) hP63.o rfl ?_
  refine e_aload_n (pc := 81) Xc (dT hX2_copy 37 rfl) 0 rfl ?_
  refine gf_X2_33 (pc := 82) Xc (dT hX2_copy 38 rfl) hP61.o rfl ?_
  refine cl_X2_49 (pc := 85) (k := 0) (n := 0) (S := []) Xc (c_copyRow hP63.a8 hP61.a8 (fun q => absurd (congrArg Prod.fst q) (Ne.symm hwo)) (by decide)) (dT hX2_copy 39 rfl) rfl (Nat.le_of_ble_eq_true rfl) (Nat.le_of_ble_eq_true rfl) (Nat.le_of_ble_eq_true rfl) rfl (Nat.le_of_ble_eq_true rfl) (fun σ65 hq66 => ?_)
  obtain ⟨g67, hg68, r64s⟩ := hq66
  subst r64s
  refine Ev.gen (fun z => PX2 z pa F T (upA (upA (upA (upA (upA (upA (upA (upA A 1 g4) 2 g13) 3 g22) 4 g31) 5 g40) 6 g49) 7 g58) 8 g67)) (hP61.wa8 (g := g67)) Off.set (fun σ69 hP70 ho71 => ?_)
  have hP72 := hP63.off ho71 (Ne.symm hwo)
  refine e_aload_n (pc := 88) Xc (dT hX2_copy 40 rfl) 0 rfl ?_
  refine e_aload_n (pc := 89) Xc (dT hX2_copy 41 rfl) 1 rfl ?_
  refine gf_X2_36 (pc := 90) Xc (dT hX2_copy 42 rfl) hP72.o rfl ?_
  refine pf_X2_36 (fs' := olX2 pa (upd F 8 (F2 8)) T) (pc := 93) Xc (dT hX2_copy 43 rfl) hP70.o (Nat.le_of_ble_eq_true rfl) rfl ?_
  refine Ev.gen (fun z => PX2 z pa (upd F 8 (F2 8)) T (upA (upA (upA (upA (upA (upA (upA (upA A 1 g4) 2 g13) 3 g22) 4 g31) 5 g40) 6 g49) 7 g58) 8 g67)) (hP70.wf8 (x := F2 8)) Off.set (fun σ73 hP74 ho75 => ?_)
  have hP76 := hP72.off ho75 (Ne.symm hwo)
  refine e_aload_n (pc := 96) Xc (dT hX2_copy 44 rfl) 0 rfl ?_
  refine e_aload_n (pc := 97) Xc (dT hX2_copy 45 rfl) 1 rfl ?_
  refine gf_X2_40 (pc := 98) Xc (dT hX2_copy 46 rfl) hP76.o rfl ?_
  refine pf_X2_40 (fs' := olX2 pa (upd (upd F 8 (F2 8)) 9 (F2 9)) T) (pc := 101) Xc (dT hX2_copy 47 rfl) hP74.o (Nat.le_of_ble_eq_true rfl) rfl ?_
  refine Ev.gen (fun z => PX2 z pa (upd (upd F 8 (F2 8)) 9 (F2 9)) T (upA (upA (upA (upA (upA (upA (upA (upA A 1 g4) 2 g13) 3 g22) 4 g31) 5 g40) 6 g49) 7 g58) 8 g67)) (hP74.wf9 (x := F2 9)) Off.set (fun σ77 hP78 ho79 => ?_)
  have hP80 := hP76.off ho79 (Ne.symm hwo)
  refine e_aload_n (pc := 104) Xc (dT hX2_copy 48 rfl) 0 rfl ?_
  refine e_aload_n (pc := 105) Xc (dT hX2_copy 49 rfl) 1 rfl ?_
  refine gf_X2_43 (pc := 106) Xc (dT hX2_copy 50 rfl) hP80.o rfl ?_
  refine pf_X2_43 (fs' := olX2 pa (upd (upd (upd F 8 (F2 8)) 9 (F2 9)) 10 (F2 10)) T) (pc := 109) Xc (dT hX2_copy 51 rfl) hP78.o (Nat.le_of_ble_eq_true rfl) rfl ?_
  refine Ev.gen (fun z => PX2 z pa (upd (upd (upd F 8 (F2 8)) 9 (F2 9)) 10 (F2 10)) T (upA (upA (upA (upA (upA (upA (upA (upA A 1 g4) 2 g13) 3 g22) 4 g31) 5 g40) 6 g49) 7 g58) 8 g67)) (hP78.wf10 (x := F2 10)) Off.set (fun σ81 hP82 ho83 => ?_)
  have hP84 := hP80.off ho83 (Ne.symm hwo)
  refine e_aload_n (pc := 112) Xc (dT hX2_copy 52 rfl) 0 rfl ?_
  refine e_aload_n (pc := 113) Xc (dT hX2_copy 53 rfl) 1 rfl ?_
  refine gf_X2_46 (pc := 114) Xc (dT hX2_copy 54 rfl) hP84.o rfl ?_
  refine pf_X2_46 (fs' := olX2 pa (upd (upd (upd (upd F 8 (F2 8)) 9 (F2 9)) 10 (F2 10)) 11 (F2 11)) T) (pc := 117) Xc (dT hX2_copy 55 rfl) hP82.o (Nat.le_of_ble_eq_true rfl) rfl ?_
  refine Ev.gen (fun z => PX2 z pa (upd (upd (upd (upd F 8 (F2 8)) 9 (F2 9)) 10 (F2 10)) 11 (F2 11)) T (upA (upA (upA (upA (upA (upA (upA (upA A 1 g4) 2 g13) 3 g22) 4 g31) 5 g40) 6 g49) 7 g58) 8 g67)) (hP82.wf11 (x := F2 11)) Off.set (fun σ85 hP86 ho87 => ?_)
  have hP88 := hP84.off ho87 (Ne.symm hwo)
  refine e_vret (pc := 120) Xc hQ (dT hX2_copy 56 rfl) (Nat.le_refl _) (Nat.le_refl _) ?_
  exact ⟨_, hP86, hg5, hg14, hg23, hg32, hg41, hg50, hg59, hg68, (((((((((((ho8.tr ho17).tr ho26).tr ho35).tr ho44).tr ho53).tr ho62).tr ho71).tr ho75).tr ho79).tr ho83).tr ho87)⟩
set_option maxRecDepth 100000 in
set_option maxHeartbeats 4000000 in
theorem c_bitCount {G : xG} {σ : xS} (a : Nat) (ha : a < 128) : CI G yJ6_bitCount_0f7a4 cJ6_bitCount_0f7a4 1 (some .int) 0 0 0 [.int (nI a)] σ (fun z σ1 => z = nI (popN a 7) ∧ σ1 = σ) := by
  refine Met.ofX (by decide +kernel) (Nat.le_of_ble_eq_true rfl) (fun μ Xc hQ hnm => ?_)
  have Xc : xC G μ cJ6_bitCount_0f7a4 1 RJ6 (some .int) 0 0 0 := Xc
  show Ev G μ 1 0 0 0 [(0, .int (nI a))] [] σ
  refine e_iload_n (pc := 0) Xc (dT hJ6_bitCount_0f7a4 0 rfl) 0 rfl ?_
  refine e_iload_n (pc := 1) Xc (dT hJ6_bitCount_0f7a4 1 rfl) 0 rfl ?_
  refine e_iconst (v := 1) (pc := 2) Xc (dT hJ6_bitCount_0f7a4 2 rfl) rfl ?_
  refine e_iushr (v := ((nI a).toUInt32 >>> (((1 : Int32)).toUInt32 &&& Int32.toUInt32 31)).toInt32) (pc := 3) Xc (dT hJ6_bitCount_0f7a4 3 rfl) rfl ?_
  refine e_ldcw (pc := 4) Xc (dT hJ6_bitCount_0f7a4 4 rfl) w_k_J6_265 ?_
  refine e_iand (pc := 7) Xc (dT hJ6_bitCount_0f7a4 5 rfl) ?_
  refine e_isub (pc := 8) Xc (dT hJ6_bitCount_0f7a4 6 rfl) ?_
  refine e_istore_n (L' := [(0, .int ((nI a) - ((((nI a).toUInt32 >>> (((1 : Int32)).toUInt32 &&& Int32.toUInt32 31)).toInt32) &&& (1431655765))))]) (pc := 9) Xc (dT hJ6_bitCount_0f7a4 7 rfl) (by decide) rfl ?_
  refine e_iload_n (pc := 10) Xc (dT hJ6_bitCount_0f7a4 8 rfl) 0 rfl ?_
  refine e_ldcw (pc := 11) Xc (dT hJ6_bitCount_0f7a4 9 rfl) w_k_J6_266 ?_
  refine e_iand (pc := 14) Xc (dT hJ6_bitCount_0f7a4 10 rfl) ?_
  refine e_iload_n (pc := 15) Xc (dT hJ6_bitCount_0f7a4 11 rfl) 0 rfl ?_
  refine e_iconst (v := 2) (pc := 16) Xc (dT hJ6_bitCount_0f7a4 12 rfl) rfl ?_
  refine e_iushr (v := (((nI a) - ((((nI a).toUInt32 >>> (((1 : Int32)).toUInt32 &&& Int32.toUInt32 31)).toInt32) &&& (1431655765))).toUInt32 >>> (((2 : Int32)).toUInt32 &&& Int32.toUInt32 31)).toInt32) (pc := 17) Xc (dT hJ6_bitCount_0f7a4 13 rfl) rfl ?_
  refine e_ldcw (pc := 18) Xc (dT hJ6_bitCount_0f7a4 14 rfl) w_k_J6_266 ?_
  refine e_iand (pc := 21) Xc (dT hJ6_bitCount_0f7a4 15 rfl) ?_
  refine e_iadd (pc := 22) Xc (dT hJ6_bitCount_0f7a4 16 rfl) ?_
  refine e_istore_n (L' := [(0, .int ((((nI a) - ((((nI a).toUInt32 >>> (((1 : Int32)).toUInt32 &&& Int32.toUInt32 31)).toInt32) &&& (1431655765))) &&& (858993459)) + (((((nI a) - ((((nI a).toUInt32 >>> (((1 : Int32)).toUInt32 &&& Int32.toUInt32 31)).toInt32) &&& (1431655765))).toUInt32 >>> (((2 : Int32)).toUInt32 &&& Int32.toUInt32 31)).toInt32) &&& (858993459))))]) (pc := 23) Xc (dT hJ6_bitCount_0f7a4 17 rfl) (by decide) rfl ?_
  refine e_iload_n (pc := 24) Xc (dT hJ6_bitCount_0f7a4 18 rfl) 0 rfl ?_
  refine e_iload_n (pc := 25) Xc (dT hJ6_bitCount_0f7a4 19 rfl) 0 rfl ?_
  refine e_iconst (v := 4) (pc := 26) Xc (dT hJ6_bitCount_0f7a4 20 rfl) rfl ?_
  refine e_iushr (v := (((((nI a) - ((((nI a).toUInt32 >>> (((1 : Int32)).toUInt32 &&& Int32.toUInt32 31)).toInt32) &&& (1431655765))) &&& (858993459)) + (((((nI a) - ((((nI a).toUInt32 >>> (((1 : Int32)).toUInt32 &&& Int32.toUInt32 31)).toInt32) &&& (1431655765))).toUInt32 >>> (((2 : Int32)).toUInt32 &&& Int32.toUInt32 31)).toInt32) &&& (858993459))).toUInt32 >>> (((4 : Int32)).toUInt32 &&& Int32.toUInt32 31)).toInt32) (pc := 27) Xc (dT hJ6_bitCount_0f7a4 21 rfl) rfl ?_
  refine e_iadd (pc := 28) Xc (dT hJ6_bitCount_0f7a4 22 rfl) ?_
  refine e_ldcw (pc := 29) Xc (dT hJ6_bitCount_0f7a4 23 rfl) w_k_J6_267 ?_
  refine e_iand (pc := 32) Xc (dT hJ6_bitCount_0f7a4 24 rfl) ?_
  refine e_istore_n (L' := [(0, .int ((((((nI a) - ((((nI a).toUInt32 >>> (((1 : Int32)).toUInt32 &&& Int32.toUInt32 31)).toInt32) &&& (1431655765))) &&& (858993459)) + (((((nI a) - ((((nI a).toUInt32 >>> (((1 : Int32)).toUInt32 &&& Int32.toUInt32 31)).toInt32) &&& (1431655765))).toUInt32 >>> (((2 : Int32)).toUInt32 &&& Int32.toUInt32 31)).toInt32) &&& (858993459))) + ((((((nI a) - ((((nI a).toUInt32 >>> (((1 : Int32)).toUInt32 &&& Int32.toUInt32 31)).toInt32) &&& (1431655765))) &&& (858993459)) + (((((nI a) - ((((nI a).toUInt32 >>> (((1 : Int32)).toUInt32 &&& Int32.toUInt32 31)).toInt32) &&& (1431655765))).toUInt32 >>> (((2 : Int32)).toUInt32 &&& Int32.toUInt32 31)).toInt32) &&& (858993459))).toUInt32 >>> (((4 : Int32)).toUInt32 &&& Int32.toUInt32 31)).toInt32)) &&& (252645135)))]) (pc := 33) Xc (dT hJ6_bitCount_0f7a4 25 rfl) (by decide) rfl ?_
  refine e_iload_n (pc := 34) Xc (dT hJ6_bitCount_0f7a4 26 rfl) 0 rfl ?_
  refine e_iload_n (pc := 35) Xc (dT hJ6_bitCount_0f7a4 27 rfl) 0 rfl ?_
  refine e_bipush (v := 8) (pc := 36) Xc (dT hJ6_bitCount_0f7a4 28 rfl) rfl ?_
  refine e_iushr (v := (((((((nI a) - ((((nI a).toUInt32 >>> (((1 : Int32)).toUInt32 &&& Int32.toUInt32 31)).toInt32) &&& (1431655765))) &&& (858993459)) + (((((nI a) - ((((nI a).toUInt32 >>> (((1 : Int32)).toUInt32 &&& Int32.toUInt32 31)).toInt32) &&& (1431655765))).toUInt32 >>> (((2 : Int32)).toUInt32 &&& Int32.toUInt32 31)).toInt32) &&& (858993459))) + ((((((nI a) - ((((nI a).toUInt32 >>> (((1 : Int32)).toUInt32 &&& Int32.toUInt32 31)).toInt32) &&& (1431655765))) &&& (858993459)) + (((((nI a) - ((((nI a).toUInt32 >>> (((1 : Int32)).toUInt32 &&& Int32.toUInt32 31)).toInt32) &&& (1431655765))).toUInt32 >>> (((2 : Int32)).toUInt32 &&& Int32.toUInt32 31)).toInt32) &&& (858993459))).toUInt32 >>> (((4 : Int32)).toUInt32 &&& Int32.toUInt32 31)).toInt32)) &&& (252645135)).toUInt32 >>> (((8 : Int32)).toUInt32 &&& Int32.toUInt32 31)).toInt32) (pc := 38) Xc (dT hJ6_bitCount_0f7a4 29 rfl) rfl ?_
  refine e_iadd (pc := 39) Xc (dT hJ6_bitCount_0f7a4 30 rfl) ?_
  refine e_istore_n (L' := [(0, .int (((((((nI a) - ((((nI a).toUInt32 >>> (((1 : Int32)).toUInt32 &&& Int32.toUInt32 31)).toInt32) &&& (1431655765))) &&& (858993459)) + (((((nI a) - ((((nI a).toUInt32 >>> (((1 : Int32)).toUInt32 &&& Int32.toUInt32 31)).toInt32) &&& (1431655765))).toUInt32 >>> (((2 : Int32)).toUInt32 &&& Int32.toUInt32 31)).toInt32) &&& (858993459))) + ((((((nI a) - ((((nI a).toUInt32 >>> (((1 : Int32)).toUInt32 &&& Int32.toUInt32 31)).toInt32) &&& (1431655765))) &&& (858993459)) + (((((nI a) - ((((nI a).toUInt32 >>> (((1 : Int32)).toUInt32 &&& Int32.toUInt32 31)).toInt32) &&& (1431655765))).toUInt32 >>> (((2 : Int32)).toUInt32 &&& Int32.toUInt32 31)).toInt32) &&& (858993459))).toUInt32 >>> (((4 : Int32)).toUInt32 &&& Int32.toUInt32 31)).toInt32)) &&& (252645135)) + ((((((((nI a) - ((((nI a).toUInt32 >>> (((1 : Int32)).toUInt32 &&& Int32.toUInt32 31)).toInt32) &&& (1431655765))) &&& (858993459)) + (((((nI a) - ((((nI a).toUInt32 >>> (((1 : Int32)).toUInt32 &&& Int32.toUInt32 31)).toInt32) &&& (1431655765))).toUInt32 >>> (((2 : Int32)).toUInt32 &&& Int32.toUInt32 31)).toInt32) &&& (858993459))) + ((((((nI a) - ((((nI a).toUInt32 >>> (((1 : Int32)).toUInt32 &&& Int32.toUInt32 31)).toInt32) &&& (1431655765))) &&& (858993459)) + (((((nI a) - ((((nI a).toUInt32 >>> (((1 : Int32)).toUInt32 &&& Int32.toUInt32 31)).toInt32) &&& (1431655765))).toUInt32 >>> (((2 : Int32)).toUInt32 &&& Int32.toUInt32 31)).toInt32) &&& (858993459))).toUInt32 >>> (((4 : Int32)).toUInt32 &&& Int32.toUInt32 31)).toInt32)) &&& (252645135)).toUInt32 >>> (((8 : Int32)).toUInt32 &&& Int32.toUInt32 31)).toInt32)))]) (pc := 40) Xc (dT hJ6_bitCount_0f7a4 31 rfl) (by decide) rfl ?_
  refine e_iload_n (pc := 41) Xc (dT hJ6_bitCount_0f7a4 32 rfl) 0 rfl ?_
  refine e_iload_n (pc := 42) Xc (dT hJ6_bitCount_0f7a4 33 rfl) 0 rfl ?_
  refine e_bipush (v := 16) (pc := 43) Xc (dT hJ6_bitCount_0f7a4 34 rfl) rfl ?_
  refine e_iushr (v := ((((((((nI a) - ((((nI a).toUInt32 >>> (((1 : Int32)).toUInt32 &&& Int32.toUInt32 31)).toInt32) &&& (1431655765))) &&& (858993459)) + (((((nI a) - ((((nI a).toUInt32 >>> (((1 : Int32)).toUInt32 &&& Int32.toUInt32 31)).toInt32) &&& (1431655765))).toUInt32 >>> (((2 : Int32)).toUInt32 &&& Int32.toUInt32 31)).toInt32) &&& (858993459))) + ((((((nI a) - ((((nI a).toUInt32 >>> (((1 : Int32)).toUInt32 &&& Int32.toUInt32 31)).toInt32) &&& (1431655765))) &&& (858993459)) + (((((nI a) - ((((nI a).toUInt32 >>> (((1 : Int32)).toUInt32 &&& Int32.toUInt32 31)).toInt32) &&& (1431655765))).toUInt32 >>> (((2 : Int32)).toUInt32 &&& Int32.toUInt32 31)).toInt32) &&& (858993459))).toUInt32 >>> (((4 : Int32)).toUInt32 &&& Int32.toUInt32 31)).toInt32)) &&& (252645135)) + ((((((((nI a) - ((((nI a).toUInt32 >>> (((1 : Int32)).toUInt32 &&& Int32.toUInt32 31)).toInt32) &&& (1431655765))) &&& (858993459)) + (((((nI a) - ((((nI a).toUInt32 >>> (((1 : Int32)).toUInt32 &&& Int32.toUInt32 31)).toInt32) &&& (1431655765))).toUInt32 >>> (((2 : Int32)).toUInt32 &&& Int32.toUInt32 31)).toInt32) &&& (858993459))) + ((((((nI a) - ((((nI a).toUInt32 >>> (((1 : Int32)).toUInt32 &&& Int32.toUInt32 31)).toInt32) &&& (1431655765))) &&& (858993459)) + (((((nI a) - ((((nI a).toUInt32 >>> (((1 : Int32)).toUInt32 &&& Int32.toUInt32 31)).toInt32) &&& (1431655765))).toUInt32 >>> (((2 : Int32)).toUInt32 &&& Int32.toUInt32 31)).toInt32) &&& (858993459))).toUInt32 >>> (((4 : Int32)).toUInt32 &&& Int32.toUInt32 31)).toInt32)) &&& (252645135)).toUInt32 >>> (((8 : Int32)).toUInt32 &&& Int32.toUInt32 31)).toInt32)).toUInt32 >>> (((16 : Int32)).toUInt32 &&& Int32.toUInt32 31)).toInt32) (pc := 45) Xc (dT hJ6_bitCount_0f7a4 35 rfl) rfl ?_
  refine e_iadd (pc := 46) Xc (dT hJ6_bitCount_0f7a4 36 rfl) ?_
  refine e_istore_n (L' := [(0, .int ((((((((nI a) - ((((nI a).toUInt32 >>> (((1 : Int32)).toUInt32 &&& Int32.toUInt32 31)).toInt32) &&& (1431655765))) &&& (858993459)) + (((((nI a) - ((((nI a).toUInt32 >>> (((1 : Int32)).toUInt32 &&& Int32.toUInt32 31)).toInt32) &&& (1431655765))).toUInt32 >>> (((2 : Int32)).toUInt32 &&& Int32.toUInt32 31)).toInt32) &&& (858993459))) + ((((((nI a) - ((((nI a).toUInt32 >>> (((1 : Int32)).toUInt32 &&& Int32.toUInt32 31)).toInt32) &&& (1431655765))) &&& (858993459)) + (((((nI a) - ((((nI a).toUInt32 >>> (((1 : Int32)).toUInt32 &&& Int32.toUInt32 31)).toInt32) &&& (1431655765))).toUInt32 >>> (((2 : Int32)).toUInt32 &&& Int32.toUInt32 31)).toInt32) &&& (858993459))).toUInt32 >>> (((4 : Int32)).toUInt32 &&& Int32.toUInt32 31)).toInt32)) &&& (252645135)) + ((((((((nI a) - ((((nI a).toUInt32 >>> (((1 : Int32)).toUInt32 &&& Int32.toUInt32 31)).toInt32) &&& (1431655765))) &&& (858993459)) + (((((nI a) - ((((nI a).toUInt32 >>> (((1 : Int32)).toUInt32 &&& Int32.toUInt32 31)).toInt32) &&& (1431655765))).toUInt32 >>> (((2 : Int32)).toUInt32 &&& Int32.toUInt32 31)).toInt32) &&& (858993459))) + ((((((nI a) - ((((nI a).toUInt32 >>> (((1 : Int32)).toUInt32 &&& Int32.toUInt32 31)).toInt32) &&& (1431655765))) &&& (858993459)) + (((((nI a) - ((((nI a).toUInt32 >>> (((1 : Int32)).toUInt32 &&& Int32.toUInt32 31)).toInt32) &&& (1431655765))).toUInt32 >>> (((2 : Int32)).toUInt32 &&& Int32.toUInt32 31)).toInt32) &&& (858993459))).toUInt32 >>> (((4 : Int32)).toUInt32 &&& Int32.toUInt32 31)).toInt32)) &&& (252645135)).toUInt32 >>> (((8 : Int32)).toUInt32 &&& Int32.toUInt32 31)).toInt32)) + (((((((((nI a) - ((((nI a).toUInt32 >>> (((1 : Int32)).toUInt32 &&& Int32.toUInt32 31)).toInt32) &&& (1431655765))) &&& (858993459)) + (((((nI a) - ((((nI a).toUInt32 >>> (((1 : Int32)).toUInt32 &&& Int32.toUInt32 31)).toInt32) &&& (1431655765))).toUInt32 >>> (((2 : Int32)).toUInt32 &&& Int32.toUInt32 31)).toInt32) &&& (858993459))) + ((((((nI a) - ((((nI a).toUInt32 >>> (((1 : Int32)).toUInt32 &&& Int32.toUInt32 31)).toInt32) &&& (1431655765))) &&& (858993459)) + (((((nI a) - ((((nI a).toUInt32 >>> (((1 : Int32)).toUInt32 &&& Int32.toUInt32 31)).toInt32) &&& (1431655765))).toUInt32 >>> (((2 : Int32)).toUInt32 &&& Int32.toUInt32 31)).toInt32) &&& (858993459))).toUInt32 >>> (((4 : Int32)).toUInt32 &&& Int32.toUInt32 31)).toInt32)) &&& (252645135)) + ((((((((nI a) - ((((nI a).toUInt32 >>> (((1 : Int32)).toUInt32 &&& Int32.toUInt32 31)).toInt32) &&& (1431655765))) &&& (858993459)) + (((((nI a) - ((((nI a).toUInt32 >>> (((1 : Int32)).toUInt32 &&& Int32.toUInt32 31)).toInt32) &&& (1431655765))).toUInt32 >>> (((2 : Int32)).toUInt32 &&& Int32.toUInt32 31)).toInt32) &&& (858993459))) + ((((((nI a) - ((((nI a).toUInt32 >>> (((1 : Int32)).toUInt32 &&& Int32.toUInt32 31)).toInt32) &&& (1431655765))) &&& (858993459)) + (((((nI a) - ((((nI a).toUInt32 >>> (((1 : Int32)).toUInt32 &&& Int32.toUInt32 31)).toInt32) &&& (1431655765))).toUInt32 >>> (((2 : Int32)).toUInt32 &&& Int32.toUInt32 31)).toInt32) &&& (858993459))).toUInt32 >>> (((4 : Int32)).toUInt32 &&& Int32.toUInt32 31)).toInt32)) &&& (252645135)).toUInt32 >>> (((8 : Int32)).toUInt32 &&& Int32.toUInt32 31)).toInt32)).toUInt32 >>> (((16 : Int32)).toUInt32 &&& Int32.toUInt32 31)).toInt32)))]) (pc := 47) Xc (dT hJ6_bitCount_0f7a4 37 rfl) (by decide) rfl ?_
  refine e_iload_n (pc := 48) Xc (dT hJ6_bitCount_0f7a4 38 rfl) 0 rfl ?_
  refine e_bipush (v := 63) (pc := 49) Xc (dT hJ6_bitCount_0f7a4 39 rfl) rfl ?_
  refine e_iand (pc := 51) Xc (dT hJ6_bitCount_0f7a4 40 rfl) ?_
  refine e_iret (pc := 52) Xc hQ (dT hJ6_bitCount_0f7a4 41 rfl) (Nat.le_refl _) (Nat.le_refl _) ?_
  have key : ∀ a : Nat, a < 128 → ((((((((nI a) - ((((nI a).toUInt32 >>> (((1 : Int32)).toUInt32 &&& Int32.toUInt32 31)).toInt32) &&& (1431655765))) &&& (858993459)) + (((((nI a) - ((((nI a).toUInt32 >>> (((1 : Int32)).toUInt32 &&& Int32.toUInt32 31)).toInt32) &&& (1431655765))).toUInt32 >>> (((2 : Int32)).toUInt32 &&& Int32.toUInt32 31)).toInt32) &&& (858993459))) + ((((((nI a) - ((((nI a).toUInt32 >>> (((1 : Int32)).toUInt32 &&& Int32.toUInt32 31)).toInt32) &&& (1431655765))) &&& (858993459)) + (((((nI a) - ((((nI a).toUInt32 >>> (((1 : Int32)).toUInt32 &&& Int32.toUInt32 31)).toInt32) &&& (1431655765))).toUInt32 >>> (((2 : Int32)).toUInt32 &&& Int32.toUInt32 31)).toInt32) &&& (858993459))).toUInt32 >>> (((4 : Int32)).toUInt32 &&& Int32.toUInt32 31)).toInt32)) &&& (252645135)) + ((((((((nI a) - ((((nI a).toUInt32 >>> (((1 : Int32)).toUInt32 &&& Int32.toUInt32 31)).toInt32) &&& (1431655765))) &&& (858993459)) + (((((nI a) - ((((nI a).toUInt32 >>> (((1 : Int32)).toUInt32 &&& Int32.toUInt32 31)).toInt32) &&& (1431655765))).toUInt32 >>> (((2 : Int32)).toUInt32 &&& Int32.toUInt32 31)).toInt32) &&& (858993459))) + ((((((nI a) - ((((nI a).toUInt32 >>> (((1 : Int32)).toUInt32 &&& Int32.toUInt32 31)).toInt32) &&& (1431655765))) &&& (858993459)) + (((((nI a) - ((((nI a).toUInt32 >>> (((1 : Int32)).toUInt32 &&& Int32.toUInt32 31)).toInt32) &&& (1431655765))).toUInt32 >>> (((2 : Int32)).toUInt32 &&& Int32.toUInt32 31)).toInt32) &&& (858993459))).toUInt32 >>> (((4 : Int32)).toUInt32 &&& Int32.toUInt32 31)).toInt32)) &&& (252645135)).toUInt32 >>> (((8 : Int32)).toUInt32 &&& Int32.toUInt32 31)).toInt32)) + (((((((((nI a) - ((((nI a).toUInt32 >>> (((1 : Int32)).toUInt32 &&& Int32.toUInt32 31)).toInt32) &&& (1431655765))) &&& (858993459)) + (((((nI a) - ((((nI a).toUInt32 >>> (((1 : Int32)).toUInt32 &&& Int32.toUInt32 31)).toInt32) &&& (1431655765))).toUInt32 >>> (((2 : Int32)).toUInt32 &&& Int32.toUInt32 31)).toInt32) &&& (858993459))) + ((((((nI a) - ((((nI a).toUInt32 >>> (((1 : Int32)).toUInt32 &&& Int32.toUInt32 31)).toInt32) &&& (1431655765))) &&& (858993459)) + (((((nI a) - ((((nI a).toUInt32 >>> (((1 : Int32)).toUInt32 &&& Int32.toUInt32 31)).toInt32) &&& (1431655765))).toUInt32 >>> (((2 : Int32)).toUInt32 &&& Int32.toUInt32 31)).toInt32) &&& (858993459))).toUInt32 >>> (((4 : Int32)).toUInt32 &&& Int32.toUInt32 31)).toInt32)) &&& (252645135)) + ((((((((nI a) - ((((nI a).toUInt32 >>> (((1 : Int32)).toUInt32 &&& Int32.toUInt32 31)).toInt32) &&& (1431655765))) &&& (858993459)) + (((((nI a) - ((((nI a).toUInt32 >>> (((1 : Int32)).toUInt32 &&& Int32.toUInt32 31)).toInt32) &&& (1431655765))).toUInt32 >>> (((2 : Int32)).toUInt32 &&& Int32.toUInt32 31)).toInt32) &&& (858993459))) + ((((((nI a) - ((((nI a).toUInt32 >>> (((1 : Int32)).toUInt32 &&& Int32.toUInt32 31)).toInt32) &&& (1431655765))) &&& (858993459)) + (((((nI a) - ((((nI a).toUInt32 >>> (((1 : Int32)).toUInt32 &&& Int32.toUInt32 31)).toInt32) &&& (1431655765))).toUInt32 >>> (((2 : Int32)).toUInt32 &&& Int32.toUInt32 31)).toInt32) &&& (858993459))).toUInt32 >>> (((4 : Int32)).toUInt32 &&& Int32.toUInt32 31)).toInt32)) &&& (252645135)).toUInt32 >>> (((8 : Int32)).toUInt32 &&& Int32.toUInt32 31)).toInt32)).toUInt32 >>> (((16 : Int32)).toUInt32 &&& Int32.toUInt32 31)).toInt32)) &&& 63 = nI (popN a 7) := by decide +kernel
  exact ⟨key a ha, rfl⟩
set_option maxRecDepth 100000 in
set_option maxHeartbeats 4000000 in
theorem c6_isDays {G : xG} {σ : xS} (n : Int32) : CI G yX6_isDays cX6_isDays 1 (some .boolean) 0 0 0 [.int n] σ (fun z σ1 => z = bI (inF n 0 40) ∧ σ1 = σ) := by
  refine Met.ofX (by decide +kernel) (Nat.le_of_ble_eq_true rfl) (fun μ Xc hQ hnm => ?_)
  have Xc : xC G μ cX6_isDays 1 RX6 (some .boolean) 0 0 0 := Xc
  show Ev G μ 1 0 0 0 [(0, .int n)] [] σ
  refine e_iload_n (pc := 0) Xc (dT hX6_isDays 0 rfl) 0 rfl ?_
  refine e_if_lt (tgt := 14) (pc := 1) Xc (dT hX6_isDays 1 rfl) rfl (fun c1 => ?_) (fun c1 => ?_)
  · skip
    refine e_iconst (v := 0) (pc := 14) Xc (dT hX6_isDays 7 rfl) rfl ?_
    refine e_zret (pc := 15) Xc hQ (dT hX6_isDays 8 rfl) (Nat.le_refl _) (Nat.le_refl _) (Or.inl rfl) ?_
    refine ⟨?_, rfl⟩
    simp only [← Int32.not_lt, inF, bI] at *
    simp [*]
  · skip
    refine e_iload_n (pc := 4) Xc (dT hX6_isDays 2 rfl) 0 rfl ?_
    refine e_bipush (v := 40) (pc := 5) Xc (dT hX6_isDays 3 rfl) rfl ?_
    refine e_icmp_gt (tgt := 14) (pc := 7) Xc (dT hX6_isDays 4 rfl) rfl (fun c7 => ?_) (fun c7 => ?_)
    · skip
      refine e_iconst (v := 0) (pc := 14) Xc (dT hX6_isDays 7 rfl) rfl ?_
      refine e_zret (pc := 15) Xc hQ (dT hX6_isDays 8 rfl) (Nat.le_refl _) (Nat.le_refl _) (Or.inl rfl) ?_
      refine ⟨?_, rfl⟩
      simp only [← Int32.not_lt, inF, bI] at *
      simp [*]
    · skip
      refine e_iconst (v := 1) (pc := 10) Xc (dT hX6_isDays 5 rfl) rfl ?_
      refine e_goto (tgt := 15) (pc := 11) Xc (dT hX6_isDays 6 rfl) rfl ?_
      refine e_zret (pc := 15) Xc hQ (dT hX6_isDays 8 rfl) (Nat.le_refl _) (Nat.le_refl _) (Or.inr rfl) ?_
      refine ⟨?_, rfl⟩
      simp only [← Int32.not_lt, inF, bI] at *
      simp [*]
