/-! TEXTS: the literals, their length and their signs -/
section STR
variable {G : xG} {μ : xM} {cc : ByteArray} {nL d mc ms k n pc : Nat} {own : String} {ret : Option FieldType} {L L' : List (Nat × Value)} {S : List Value} {σ : xS}
theorem e_ldcS {idx i : Nat} (X : xC G μ cc nL own ret d mc ms) (hd : decode cc pc = .ok (.ldc idx, 2)) (hi : i < 10) (ho : (sRef i).1 = own) (hx : (sRef i).2.1 = idx) (K : Ev G μ nL k n (pc + 2) L (.ref (gK G i) :: S) σ) : Ev G μ nL k n pc L S σ := by
  subst ho hx
  exact fun H locs ls hH hS hl => va_ldcS X.1 X.2.1 X.2.2.2.1 (X.2.2.2.2.2.2.1.2.2 i hi) hd (K H locs ls hH hS hl)
theorem e_i2c {x v : Int32} (X : xC G μ cc nL own ret d mc ms) (hd : decode cc pc = .ok (.i2c, 1)) (hv : (x.toUInt32 % 65536).toInt32 = v) (K : Ev G μ nL k n (pc + 1) L (.int v :: S) σ) : Ev G μ nL k n pc L (.int x :: S) σ := fun H locs ls hH hS hl => lv_i2c X.1 X.2.1 hd hv (K H locs ls hH hS hl)
theorem e_ldcw {idx : Nat} {v : Int32} (X : xC G μ cc nL own ret d mc ms) (hd : decode cc pc = .ok (.ldc_w idx, 3)) (hw : Cond.constant own idx v ∈ T0) (K : Ev G μ nL k n (pc + 3) L (.int v :: S) σ) : Ev G μ nL k n pc L S σ := fun H locs ls hH hS hl => lv_ldcw X.1 X.2.1 X.2.2.2.1 (X.2.2.2.2.1 _ hw) hd (K H locs ls hH hS hl)
theorem xC.str (X : xC G μ cc nL own ret d mc ms) {i : Nat} (hi : i < 10) : va_O "java/lang/String" (gK G i) (gF G) (mS μ) (mS μ).heap ∧ va_OF "java/lang/String" "coder" "B" (.int 0) (gK G i) (gF G) (mS μ) (mS μ).heap ∧ va_OF "java/lang/String" "value" "[B" (.ref (gV G i)) (gK G i) (gF G) (mS μ) (mS μ).heap ∧ va_T .byte (gV G i) (sByt i).length (fun j => .int ((sByt i).getD j 0)) (gF G) (mS μ) (mS μ).heap := X.2.2.2.2.2.2.2.1.2.2.2.2 i hi
theorem e_sval {i : Nat} (X : xC G μ cc nL RJ0 ret d mc ms) (hd : decode cc pc = .ok (.getfield 9, 3)) (hi : i < 10) (K : Ev G μ nL k n (pc + 3) L (.ref (gV G i) :: S) σ) : Ev G μ nL k n pc L (.ref (gK G i) :: S) σ := fun H locs ls hH hS hl => vk_getf X.1 X.2.1 (X.str hi).2.2.1 hS X.2.2.2.1 (X.hts w_fl_J0_9) (fun _ h => h) hd (K H locs ls hH hS hl)
theorem e_scod {i : Nat} (X : xC G μ cc nL RJ0 ret d mc ms) (hd : decode cc pc = .ok (.getfield 15, 3)) (hi : i < 10) (K : Ev G μ nL k n (pc + 3) L (.int 0 :: S) σ) : Ev G μ nL k n pc L (.ref (gK G i) :: S) σ := fun H locs ls hH hS hl => vk_getf X.1 X.2.1 (X.str hi).2.1 hS X.2.2.2.1 (X.hts w_fl_J0_15) (fun _ h => h) hd (K H locs ls hH hS hl)
theorem e_slen {i : Nat} (X : xC G μ cc nL own ret d mc ms) (hd : decode cc pc = .ok (.arraylength, 1)) (hi : i < 10) (K : Ev G μ nL k n (pc + 1) L (.int (nI (sByt i).length) :: S) σ) : Ev G μ nL k n pc L (.ref (gV G i) :: S) σ := fun H locs ls hH hS hl => va_tlen X.1 X.2.1 (X.str hi).2.2.2 hS rfl hd (K H locs ls hH hS hl)
theorem e_sbyt {i : Nat} {j : Int32} (X : xC G μ cc nL own ret d mc ms) (hd : decode cc pc = .ok (.baload, 1)) (hi : i < 10) (hj : vp_in j (sByt i).length) (K : Ev G μ nL k n (pc + 1) L (.int ((sByt i).getD j.toNatClampNeg 0) :: S) σ) : Ev G μ nL k n pc L (.int j :: .ref (gV G i) :: S) σ := fun H locs ls hH hS hl => va_tb X.1 X.2.1 (X.str hi).2.2.2 hS hj rfl hd (K H locs ls hH hS hl)
theorem e_scomp (X : xC G μ cc nL RJ0 ret d mc ms) (hd : decode cc pc = .ok (.getstatic 38, 3)) (K : Ev G μ nL k n (pc + 3) L (.int 1 :: S) σ) : Ev G μ nL k n pc L S σ := fun H locs ls hH hS hl => va_gets X.1 X.2.1 X.2.2.2.2.2.2.2.1.2.2.1 hS X.2.2.2.1 (X.hts w_fl_J0_38) (fun _ h => h) hd (K H locs ls hH hS hl)
theorem e_sform (X : xC G μ cc nL RJ0 ret d mc ms) (hd : decode cc pc = .ok (.getstatic 1053, 3)) (K0 : Ev G μ nL k n (pc + 3) L (.null :: S) σ) (K : ∀ q : Nat, Ev G μ nL k n (pc + 3) L (.ref q :: S) σ) : Ev G μ nL k n pc L S σ := by
  intro H locs ls hH hS hl
  rcases X.2.2.2.2.2.2.2.1.2.2.2.1 with h | ⟨q, h⟩
  · exact va_gets X.1 X.2.1 h hS X.2.2.2.1 (X.hts w_fl_J0_1053) (fun _ h => h) hd (K0 H locs ls hH hS hl)
  · exact va_gets X.1 X.2.1 h hS X.2.2.2.1 (X.hts w_fl_J0_1053) (fun _ h => h) hd (K q H locs ls hH hS hl)
theorem e_callStI {y : MethodName} {bytes : ByteArray} {nL' idx na d' mc' ms' i : Nat} {ret' : Option FieldType} {As S0 : List Value} {Q : Int32 → xS → Prop} (X : xC G μ cc nL own ret d mc ms) (hY : xY y bytes nL' ret' na) (hw : Cond.methodLink own idx y ∈ T0) (hin : Cond.instanceMethod y ∈ T0) (hse : Cond.selects y.cls y y ∈ T0) (hi : i < 10) (hqn : "java/lang/String" = y.cls) (hM : CI G y bytes nL' ret' d' mc' ms' (.ref (gK G i) :: As) σ Q) (hd : decode cc pc = .ok (.invokevirtual idx, 3)) (hn : As.length = na) (hd1 : d' + 1 ≤ d) (hnL : nL' ≤ 29) (hc : k + mc' ≤ mc) (hs : n + ms' ≤ ms) (hS0 : S0 = As.reverse ++ .ref (gK G i) :: S) (hcat : (S.map fun v => v.category).sum ≤ 8) (K : ∀ (r : Int32) (σ1 : xS), Q r σ1 → Ev G μ nL (k + mc') (n + ms') (pc + 3) L (.int r :: S) σ1) : Ev G μ nL k n pc L S0 σ := by
  subst hS0
  intro H locs ls hH hS hl
  exact va_calli (va_runV (As := As) (rest := S) ⟨X.1, X.2.1, X.2.2.1, X.2.2.2.1, fun w h => X.hts h⟩ hM ⟨x_cb X hY hw hd1 hnL, X.hts hin, X.hts hse⟩ ⟨xPc.blind, by rw [← hqn]; exact va_Orecv (X.str hi).1 hS, xPc.pre X hH hS⟩ rfl hn hl.1 rfl (lv_room hcat) hd ⟨Nat.le_trans hc X.2.2.2.2.2.2.2.2.2.2.2.1, Nat.le_trans hs X.2.2.2.2.2.2.2.2.2.2.2.2.1⟩) hS (fun _ _ h => h) (fun _ h => h) (fun r u t H1 locs1 ht hvm hq hB hz hk hS1 => K r u hq H1 locs1 ls (by rw [ht] at hB; exact hB.moved hvm.symm) hS1 hl)
end STR
theorem s_len : ∀ i, i < 10 → (sByt i).length ≤ 6 := by decide +kernel
theorem s_byt : ∀ i, i < 10 → ∀ j, j < (sByt i).length → ((sByt i).getD j 0 &&& 255 = (sByt i).getD j 0) ∧ (((sByt i).getD j 0).toUInt32 % 65536).toInt32 = (sByt i).getD j 0 ∧ ((sByt i).getD j 0).toUInt32.toUInt16.toUInt32.toInt32 = (sByt i).getD j 0 := by decide +kernel
theorem s_nar {x : Int32} (h : x.toUInt32.toUInt16.toUInt32.toInt32 = x) : narrow .char (.int x) = .int x := by
  show Value.int x.toUInt32.toUInt16.toUInt32.toInt32 = _
  rw [h]
section STRM
variable {G : xG} {σ : xS}
theorem c_coder {i : Nat} (hi : i < 10) : CI G yJ0_coder_7d493 cJ0_coder_7d493 1 (some .byte) 0 0 0 [.ref (gK G i)] σ (fun z σ1 => z = 0 ∧ σ1 = σ) := by
  refine Met.ofX (by decide +kernel) (Nat.le_of_ble_eq_true rfl) (fun μ Xc hQ hnm => ?_)
  have Xc : xC G μ cJ0_coder_7d493 1 RJ0 (some .byte) 0 0 0 := Xc
  show Ev G μ 1 0 0 0 [(0, .ref (gK G i))] [] σ
  refine e_scomp (pc := 0) Xc (dT hJ0_coder_7d493 0 rfl) ?_
  refine e_if_eq (tgt := 13) (pc := 3) Xc (dT hJ0_coder_7d493 1 rfl) rfl (fun c => absurd c (by decide)) (fun c => ?_)
  refine e_aload_n (pc := 6) Xc (dT hJ0_coder_7d493 2 rfl) 0 rfl ?_
  refine e_scod (pc := 7) Xc (dT hJ0_coder_7d493 3 rfl) hi ?_
  refine e_goto (tgt := 14) (pc := 10) Xc (dT hJ0_coder_7d493 4 rfl) rfl ?_
  exact e_nret (pc := 14) Xc hQ (dT hJ0_coder_7d493 6 rfl) (Nat.le_refl _) (Nat.le_refl _) rfl ⟨rfl, rfl⟩
theorem c_isLatin1 {i : Nat} (hi : i < 10) : CI G yJ0_isLatin1_aae02 cJ0_isLatin1_aae02 1 (some .boolean) 0 0 0 [.ref (gK G i)] σ (fun z σ1 => z = 1 ∧ σ1 = σ) := by
  refine Met.ofX (by decide +kernel) (Nat.le_of_ble_eq_true rfl) (fun μ Xc hQ hnm => ?_)
  have Xc : xC G μ cJ0_isLatin1_aae02 1 RJ0 (some .boolean) 0 0 0 := Xc
  show Ev G μ 1 0 0 0 [(0, .ref (gK G i))] [] σ
  refine e_scomp (pc := 0) Xc (dT hJ0_isLatin1_aae02 0 rfl) ?_
  refine e_if_eq (tgt := 17) (pc := 3) Xc (dT hJ0_isLatin1_aae02 1 rfl) rfl (fun c => absurd c (by decide)) (fun c => ?_)
  refine e_aload_n (pc := 6) Xc (dT hJ0_isLatin1_aae02 2 rfl) 0 rfl ?_
  refine e_scod (pc := 7) Xc (dT hJ0_isLatin1_aae02 3 rfl) hi ?_
  refine e_if_ne (tgt := 17) (pc := 10) Xc (dT hJ0_isLatin1_aae02 4 rfl) rfl (fun c => absurd rfl c) (fun c => ?_)
  refine e_iconst (v := 1) (pc := 13) Xc (dT hJ0_isLatin1_aae02 5 rfl) rfl ?_
  refine e_goto (tgt := 18) (pc := 14) Xc (dT hJ0_isLatin1_aae02 6 rfl) rfl ?_
  exact e_zret (pc := 18) Xc hQ (dT hJ0_isLatin1_aae02 8 rfl) (Nat.le_refl _) (Nat.le_refl _) (Or.inr rfl) ⟨rfl, rfl⟩
theorem c_length {i : Nat} (hi : i < 10) : CI G yJ0_length_8abf5 cJ0_length_8abf5 1 (some .int) 1 0 0 [.ref (gK G i)] σ (fun z σ1 => z = nI (sByt i).length ∧ σ1 = σ) := by
  refine Met.ofX (by decide +kernel) (Nat.le_of_ble_eq_true rfl) (fun μ Xc hQ hnm => ?_)
  have Xc : xC G μ cJ0_length_8abf5 1 RJ0 (some .int) 1 0 0 := Xc
  have hl6 := s_len i hi
  show Ev G μ 1 0 0 0 [(0, .ref (gK G i))] [] σ
  refine e_aload_n (pc := 0) Xc (dT hJ0_length_8abf5 0 rfl) 0 rfl ?_
  refine e_sval (pc := 1) Xc (dT hJ0_length_8abf5 1 rfl) hi ?_
  refine e_slen (pc := 4) Xc (dT hJ0_length_8abf5 2 rfl) hi ?_
  refine e_aload_n (pc := 5) Xc (dT hJ0_length_8abf5 3 rfl) 0 rfl ?_
  refine e_callStI (pc := 6) (k := 0) (n := 0) (S := [.int (nI (sByt i).length)]) Xc m_J0_coder_7d493 w_ml_J0_335 w_inst_J0_coder_7d493 w_sel_J0_coder_7d493 hi rfl (c_coder hi) (dT hJ0_length_8abf5 4 rfl) rfl (Nat.le_of_ble_eq_true rfl) (by decide) (Nat.le_of_ble_eq_true rfl) (Nat.le_of_ble_eq_true rfl) rfl (Nat.le_of_ble_eq_true rfl) (fun r1 σ1 hq => ?_)
  obtain ⟨r1e, r1s⟩ := hq
  have r1e := r1e.symm; subst r1e; have r1s := r1s.symm; subst r1s
  refine e_ishr (pc := 9) Xc (dT hJ0_length_8abf5 5 rfl) ?_
  refine e_iret (pc := 10) Xc hQ (dT hJ0_length_8abf5 6 rfl) (Nat.le_refl _) (Nat.le_refl _) ?_
  exact ⟨(shrN (d := 0) (by decide) (by omega)).trans (by rw [Nat.pow_zero, Nat.div_one]), rfl⟩
theorem v_cat (x : Int32) : (Value.int x).category = 1 := rfl
theorem c_ckI {j l : Nat} (hj : j < l) (hl : l < 2 ^ 31) {v : Value} (hv : v.category = 1) : CI G yJ3_checkIndex_8e157 cJ3_checkIndex_8e157 3 (some .int) 0 0 0 [.int (nI j), .int (nI l), v] σ (fun z σ1 => z = nI j ∧ σ1 = σ) := by
  refine Met.ofX (by decide +kernel) (by simp [lg_sl, hv, v_cat]) (fun μ Xc hQ hnm => ?_)
  have Xc : xC G μ cJ3_checkIndex_8e157 3 RJ3 (some .int) 0 0 0 := Xc
  have e : lv_args 0 [.int (nI j), .int (nI l), v] = [(0, .int (nI j)), (1, .int (nI l)), (2, v)] := by simp [lv_args, v_cat]
  rw [e]
  refine e_iload_n (pc := 0) Xc (dT hJ3_checkIndex_8e157 0 rfl) 0 rfl ?_
  refine e_if_lt (tgt := 9) (pc := 1) Xc (dT hJ3_checkIndex_8e157 1 rfl) rfl (fun c => absurd c (nI_pos (by omega))) (fun c => ?_)
  refine e_iload_n (pc := 4) Xc (dT hJ3_checkIndex_8e157 2 rfl) 0 rfl ?_
  refine e_iload_n (pc := 5) Xc (dT hJ3_checkIndex_8e157 3 rfl) 1 rfl ?_
  refine e_icmp_lt (tgt := 16) (pc := 6) Xc (dT hJ3_checkIndex_8e157 4 rfl) rfl (fun c => ?_) (fun c => absurd (nI_lt hj hl) c)
  refine e_iload_n (pc := 16) Xc (dT hJ3_checkIndex_8e157 10 rfl) 0 rfl ?_
  exact e_iret (pc := 17) Xc hQ (dT hJ3_checkIndex_8e157 11 rfl) (Nat.le_refl _) (Nat.le_refl _) ⟨rfl, rfl⟩
theorem c_ckS {j l : Nat} (hj : j < l) (hl : l < 2 ^ 31) : CV G yJ0_checkIndex_df160 cJ0_checkIndex_df160 2 none 1 0 0 [.int (nI j), .int (nI l)] σ (fun σ1 => σ1 = σ) := by
  refine Met.ofX (by decide +kernel) (Nat.le_of_ble_eq_true rfl) (fun μ Xc hQ hnm => ?_)
  have Xc : xC G μ cJ0_checkIndex_df160 2 RJ0 none 1 0 0 := Xc
  have key : ∀ v : Value, v.category = 1 → Ev G μ 2 0 0 5 [(0, .int (nI j)), (1, .int (nI l))] [v, .int (nI l), .int (nI j)] σ := by
    intro v hv
    refine cl_J0_1059 (pc := 5) (k := 0) (n := 0) (S := []) Xc (c_ckI hj hl hv) (dT hJ0_checkIndex_df160 3 rfl) rfl (Nat.le_of_ble_eq_true rfl) (Nat.le_of_ble_eq_true rfl) (Nat.le_of_ble_eq_true rfl) rfl (Nat.le_of_ble_eq_true rfl) (fun r1 σ1 hq => ?_)
    obtain ⟨r1e, r1s⟩ := hq
    have r1e := r1e.symm; subst r1e; have r1s := r1s.symm; subst r1s
    refine e_pop (pc := 8) Xc (dT hJ0_checkIndex_df160 4 rfl) rfl ?_
    exact e_vret (pc := 9) Xc hQ (dT hJ0_checkIndex_df160 5 rfl) (Nat.le_refl _) (Nat.le_refl _) rfl
  show Ev G μ 2 0 0 0 [(0, .int (nI j)), (1, .int (nI l))] [] σ
  refine e_iload_n (pc := 0) Xc (dT hJ0_checkIndex_df160 0 rfl) 0 rfl ?_
  refine e_iload_n (pc := 1) Xc (dT hJ0_checkIndex_df160 1 rfl) 1 rfl ?_
  exact e_sform (pc := 2) Xc (dT hJ0_checkIndex_df160 2 rfl) (key _ rfl) (fun q => key _ rfl)
theorem c_charAt1 {i j : Nat} (hi : i < 10) (hj : j < (sByt i).length) : CI G yJ1_charAt_3b067 cJ1_charAt_3b067 2 (some .char) 2 0 0 [.ref (gV G i), .int (nI j)] σ (fun z σ1 => z = (sByt i).getD j 0 ∧ σ1 = σ) := by
  refine Met.ofX (by decide +kernel) (Nat.le_of_ble_eq_true rfl) (fun μ Xc hQ hnm => ?_)
  have Xc : xC G μ cJ1_charAt_3b067 2 RJ1 (some .char) 2 0 0 := Xc
  have hl6 := s_len i hi
  obtain ⟨b1, b2, b3⟩ := s_byt i hi j hj
  show Ev G μ 2 0 0 0 [(0, .ref (gV G i)), (1, .int (nI j))] [] σ
  refine e_iload_n (pc := 0) Xc (dT hJ1_charAt_3b067 0 rfl) 1 rfl ?_
  refine e_aload_n (pc := 1) Xc (dT hJ1_charAt_3b067 1 rfl) 0 rfl ?_
  refine e_slen (pc := 2) Xc (dT hJ1_charAt_3b067 2 rfl) hi ?_
  refine cl_J1_9 (pc := 3) (k := 0) (n := 0) (S := []) Xc (c_ckS hj (by omega)) (dT hJ1_charAt_3b067 3 rfl) rfl (Nat.le_of_ble_eq_true rfl) (Nat.le_of_ble_eq_true rfl) (Nat.le_of_ble_eq_true rfl) rfl (Nat.le_of_ble_eq_true rfl) (fun σ1 hq => ?_)
  have hq := hq.symm; subst hq
  refine e_aload_n (pc := 6) Xc (dT hJ1_charAt_3b067 4 rfl) 0 rfl ?_
  refine e_iload_n (pc := 7) Xc (dT hJ1_charAt_3b067 5 rfl) 1 rfl ?_
  refine e_sbyt (pc := 8) Xc (dT hJ1_charAt_3b067 6 rfl) hi (vp_in_nI hj (by omega)) ?_
  refine e_val (y := (sByt i).getD j 0) (by rw [nI_clamp (by omega)]) ?_
  refine e_sipush (v := 255) (pc := 9) Xc (dT hJ1_charAt_3b067 7 rfl) rfl ?_
  refine e_iand (pc := 12) Xc (dT hJ1_charAt_3b067 8 rfl) ?_
  refine e_val (y := (sByt i).getD j 0) b1 ?_
  refine e_i2c (pc := 13) Xc (dT hJ1_charAt_3b067 9 rfl) b2 ?_
  exact e_nret (pc := 14) Xc hQ (dT hJ1_charAt_3b067 10 rfl) (Nat.le_refl _) (Nat.le_refl _) (s_nar b3) ⟨rfl, rfl⟩
theorem c_charAt {i j : Nat} (hi : i < 10) (hj : j < (sByt i).length) : CI G yJ0_charAt_5068e cJ0_charAt_5068e 2 (some .char) 3 0 0 [.ref (gK G i), .int (nI j)] σ (fun z σ1 => z = (sByt i).getD j 0 ∧ σ1 = σ) := by
  refine Met.ofX (by decide +kernel) (Nat.le_of_ble_eq_true rfl) (fun μ Xc hQ hnm => ?_)
  have Xc : xC G μ cJ0_charAt_5068e 2 RJ0 (some .char) 3 0 0 := Xc
  obtain ⟨b1, b2, b3⟩ := s_byt i hi j hj
  show Ev G μ 2 0 0 0 [(0, .ref (gK G i)), (1, .int (nI j))] [] σ
  refine e_aload_n (pc := 0) Xc (dT hJ0_charAt_5068e 0 rfl) 0 rfl ?_
  refine e_callStI (pc := 1) (k := 0) (n := 0) (As := []) (S := []) Xc m_J0_isLatin1_aae02 w_ml_J0_492 w_inst_J0_isLatin1_aae02 w_sel_J0_isLatin1_aae02 hi rfl (c_isLatin1 hi) (dT hJ0_charAt_5068e 1 rfl) rfl (Nat.le_of_ble_eq_true rfl) (by decide) (Nat.le_of_ble_eq_true rfl) (Nat.le_of_ble_eq_true rfl) rfl (Nat.le_of_ble_eq_true rfl) (fun r1 σ1 hq => ?_)
  obtain ⟨r1e, r1s⟩ := hq
  have r1e := r1e.symm; subst r1e; have r1s := r1s.symm; subst r1s
  refine e_if_eq (tgt := 16) (pc := 4) Xc (dT hJ0_charAt_5068e 2 rfl) rfl (fun c => absurd c (by decide)) (fun c => ?_)
  refine e_aload_n (pc := 7) Xc (dT hJ0_charAt_5068e 3 rfl) 0 rfl ?_
  refine e_sval (pc := 8) Xc (dT hJ0_charAt_5068e 4 rfl) hi ?_
  refine e_iload_n (pc := 11) Xc (dT hJ0_charAt_5068e 5 rfl) 1 rfl ?_
  refine cl_J0_495 (pc := 12) (k := 0) (n := 0) (S := []) Xc (c_charAt1 hi hj) (dT hJ0_charAt_5068e 6 rfl) rfl (Nat.le_of_ble_eq_true rfl) (Nat.le_of_ble_eq_true rfl) (Nat.le_of_ble_eq_true rfl) rfl (Nat.le_of_ble_eq_true rfl) (fun r2 σ2 hq => ?_)
  obtain ⟨r2e, r2s⟩ := hq
  have r2e := r2e.symm; subst r2e; have r2s := r2s.symm; subst r2s
  exact e_nret (pc := 15) Xc hQ (dT hJ0_charAt_5068e 7 rfl) (Nat.le_refl _) (Nat.le_refl _) (s_nar b3) ⟨rfl, rfl⟩
end STRM
