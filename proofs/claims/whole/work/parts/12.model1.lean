set_option maxRecDepth 100000 in
set_option maxHeartbeats 4000000 in
theorem c_in {G : xG} {σ : xS} (v low high : Int32) : CI G yX7_in cX7_in 3 (some .boolean) 0 0 0 [.int v, .int low, .int high] σ (fun z σ1 => z = bI (inF v low high) ∧ σ1 = σ) := by
  refine Met.ofX (by decide +kernel) (Nat.le_of_ble_eq_true rfl) (fun μ Xc hQ hnm => ?_)
  have Xc : xC G μ cX7_in 3 RX7 (some .boolean) 0 0 0 := Xc
  show Ev G μ 3 0 0 0 [(0, .int v), (1, .int low), (2, .int high)] [] σ
  refine e_iload_n (pc := 0) Xc (dT hX7_in 0 rfl) 0 rfl ?_
  refine e_iload_n (pc := 1) Xc (dT hX7_in 1 rfl) 1 rfl ?_
  refine e_icmp_lt (tgt := 14) (pc := 2) Xc (dT hX7_in 2 rfl) rfl (fun c2 => ?_) (fun c2 => ?_)
  · skip
    refine e_iconst (v := 0) (pc := 14) Xc (dT hX7_in 8 rfl) rfl ?_
    refine e_zret (pc := 15) Xc hQ (dT hX7_in 9 rfl) (Nat.le_refl _) (Nat.le_refl _) (Or.inl rfl) ?_
    refine ⟨?_, rfl⟩
    simp only [← Int32.not_lt, inF, bI] at *
    simp [*]
  · skip
    refine e_iload_n (pc := 5) Xc (dT hX7_in 3 rfl) 0 rfl ?_
    refine e_iload_n (pc := 6) Xc (dT hX7_in 4 rfl) 2 rfl ?_
    refine e_icmp_gt (tgt := 14) (pc := 7) Xc (dT hX7_in 5 rfl) rfl (fun c7 => ?_) (fun c7 => ?_)
    · skip
      refine e_iconst (v := 0) (pc := 14) Xc (dT hX7_in 8 rfl) rfl ?_
      refine e_zret (pc := 15) Xc hQ (dT hX7_in 9 rfl) (Nat.le_refl _) (Nat.le_refl _) (Or.inl rfl) ?_
      refine ⟨?_, rfl⟩
      simp only [← Int32.not_lt, inF, bI] at *
      simp [*]
    · skip
      refine e_iconst (v := 1) (pc := 10) Xc (dT hX7_in 6 rfl) rfl ?_
      refine e_goto (tgt := 15) (pc := 11) Xc (dT hX7_in 7 rfl) rfl ?_
      refine e_zret (pc := 15) Xc hQ (dT hX7_in 9 rfl) (Nat.le_refl _) (Nat.le_refl _) (Or.inr rfl) ?_
      refine ⟨?_, rfl⟩
      simp only [← Int32.not_lt, inF, bI] at *
      simp [*]
set_option maxRecDepth 100000 in
set_option maxHeartbeats 4000000 in
theorem c_within {G : xG} {σ : xS} (v low high : Int32) : CI G yX7_within cX7_within 3 (some .int) 0 0 0 [.int v, .int low, .int high] σ (fun z σ1 => z = (if v < low then low else if v > high then high else v) ∧ σ1 = σ) := by
  refine Met.ofX (by decide +kernel) (Nat.le_of_ble_eq_true rfl) (fun μ Xc hQ hnm => ?_)
  have Xc : xC G μ cX7_within 3 RX7 (some .int) 0 0 0 := Xc
  show Ev G μ 3 0 0 0 [(0, .int v), (1, .int low), (2, .int high)] [] σ
  refine e_iload_n (pc := 0) Xc (dT hX7_within 0 rfl) 0 rfl ?_
  refine e_iload_n (pc := 1) Xc (dT hX7_within 1 rfl) 1 rfl ?_
  refine e_icmp_ge (tgt := 9) (pc := 2) Xc (dT hX7_within 2 rfl) rfl (fun c2 => ?_) (fun c2 => ?_)
  · skip
    refine e_iload_n (pc := 9) Xc (dT hX7_within 5 rfl) 0 rfl ?_
    refine e_iload_n (pc := 10) Xc (dT hX7_within 6 rfl) 2 rfl ?_
    refine e_icmp_le (tgt := 18) (pc := 11) Xc (dT hX7_within 7 rfl) rfl (fun c11 => ?_) (fun c11 => ?_)
    · skip
      refine e_iload_n (pc := 18) Xc (dT hX7_within 10 rfl) 0 rfl ?_
      refine e_iret (pc := 19) Xc hQ (dT hX7_within 11 rfl) (Nat.le_refl _) (Nat.le_refl _) ?_
      refine ⟨?_, rfl⟩
      simp only [← Int32.not_lt, gt_iff_lt] at *
      split <;> (try split) <;> first | rfl | contradiction
    · skip
      refine e_iload_n (pc := 14) Xc (dT hX7_within 8 rfl) 2 rfl ?_
      refine e_goto (tgt := 19) (pc := 15) Xc (dT hX7_within 9 rfl) rfl ?_
      refine e_iret (pc := 19) Xc hQ (dT hX7_within 11 rfl) (Nat.le_refl _) (Nat.le_refl _) ?_
      refine ⟨?_, rfl⟩
      simp only [← Int32.not_lt, gt_iff_lt] at *
      split <;> (try split) <;> first | rfl | contradiction
  · skip
    refine e_iload_n (pc := 5) Xc (dT hX7_within 3 rfl) 1 rfl ?_
    refine e_goto (tgt := 19) (pc := 6) Xc (dT hX7_within 4 rfl) rfl ?_
    refine e_iret (pc := 19) Xc hQ (dT hX7_within 11 rfl) (Nat.le_refl _) (Nat.le_refl _) ?_
    refine ⟨?_, rfl⟩
    simp only [← Int32.not_lt, gt_iff_lt] at *
    split <;> (try split) <;> first | rfl | contradiction
set_option maxRecDepth 100000 in
set_option maxHeartbeats 4000000 in
theorem c_isReader {G : xG} {σ : xS} {m : Nat} {F : Nat → Int32} {T : Nat → Nat} {A : Nat → Nat → Int32} (hP : PX7 σ m F T A) {nr nb : Nat} (hG : Gd (A 1) nr nb) (v : Int32) : CI G yX7_isReader cX7_isReader 2 (some .boolean) 1 0 0 [.ref m, .int v] σ (fun z σ1 => z = bI (inF v 0 (nI nr - 1)) ∧ σ1 = σ) := by
  refine Met.ofX (by decide +kernel) (Nat.le_of_ble_eq_true rfl) (fun μ Xc hQ hnm => ?_)
  have Xc : xC G μ cX7_isReader 2 RX7 (some .boolean) 1 0 0 := Xc
  show Ev G μ 2 0 0 0 [(0, .ref m), (1, .int v)] [] σ
  refine e_iload_n (pc := 0) Xc (dT hX7_isReader 0 rfl) 1 rfl ?_
  refine e_iconst (v := 0) (pc := 1) Xc (dT hX7_isReader 1 rfl) rfl ?_
  refine e_aload_n (pc := 2) Xc (dT hX7_isReader 2 rfl) 0 rfl ?_
  refine gf_X7_9 (pc := 3) Xc (dT hX7_isReader 3 rfl) hP.o rfl ?_
  refine e_bipush (v := 12) (pc := 6) Xc (dT hX7_isReader 4 rfl) rfl ?_
  refine e_ialdN (pc := 8) Xc (dT hX7_isReader 5 rfl) hP.a1 (by decide) rfl 12 rfl (by have := hG.1; omega) (by decide) ?_
  refine e_val (y := nI nr) hG.1.2.2.1 ?_
  refine e_iconst (v := 1) (pc := 9) Xc (dT hX7_isReader 6 rfl) rfl ?_
  refine e_isub (pc := 10) Xc (dT hX7_isReader 7 rfl) ?_
  refine cl_X7_50 (pc := 11) (k := 0) (n := 0) (S := []) Xc (c_in v 0 ((nI nr) - 1)) (dT hX7_isReader 8 rfl) rfl (Nat.le_of_ble_eq_true rfl) (Nat.le_of_ble_eq_true rfl) (Nat.le_of_ble_eq_true rfl) rfl (Nat.le_of_ble_eq_true rfl) (fun r1 σ2 hq3 => ?_)
  obtain ⟨r1e, r1s⟩ := hq3
  have r1e := r1e.symm; subst r1e; have r1s := r1s.symm; subst r1s
  refine e_zret (pc := 14) Xc hQ (dT hX7_isReader 9 rfl) (Nat.le_refl _) (Nat.le_refl _) (bI_or _) ?_
  exact ⟨rfl, rfl⟩
set_option maxRecDepth 100000 in
set_option maxHeartbeats 4000000 in
theorem c_isBook {G : xG} {σ : xS} {m : Nat} {F : Nat → Int32} {T : Nat → Nat} {A : Nat → Nat → Int32} (hP : PX7 σ m F T A) {nr nb : Nat} (hG : Gd (A 1) nr nb) (v : Int32) : CI G yX7_isBook cX7_isBook 2 (some .boolean) 1 0 0 [.ref m, .int v] σ (fun z σ1 => z = bI (inF v 0 (nI nb - 1)) ∧ σ1 = σ) := by
  refine Met.ofX (by decide +kernel) (Nat.le_of_ble_eq_true rfl) (fun μ Xc hQ hnm => ?_)
  have Xc : xC G μ cX7_isBook 2 RX7 (some .boolean) 1 0 0 := Xc
  show Ev G μ 2 0 0 0 [(0, .ref m), (1, .int v)] [] σ
  refine e_iload_n (pc := 0) Xc (dT hX7_isBook 0 rfl) 1 rfl ?_
  refine e_iconst (v := 0) (pc := 1) Xc (dT hX7_isBook 1 rfl) rfl ?_
  refine e_aload_n (pc := 2) Xc (dT hX7_isBook 2 rfl) 0 rfl ?_
  refine gf_X7_9 (pc := 3) Xc (dT hX7_isBook 3 rfl) hP.o rfl ?_
  refine e_bipush (v := 13) (pc := 6) Xc (dT hX7_isBook 4 rfl) rfl ?_
  refine e_ialdN (pc := 8) Xc (dT hX7_isBook 5 rfl) hP.a1 (by decide) rfl 13 rfl (by have := hG.1; omega) (by decide) ?_
  refine e_val (y := nI nb) hG.1.2.2.2 ?_
  refine e_iconst (v := 1) (pc := 9) Xc (dT hX7_isBook 6 rfl) rfl ?_
  refine e_isub (pc := 10) Xc (dT hX7_isBook 7 rfl) ?_
  refine cl_X7_50 (pc := 11) (k := 0) (n := 0) (S := []) Xc (c_in v 0 ((nI nb) - 1)) (dT hX7_isBook 8 rfl) rfl (Nat.le_of_ble_eq_true rfl) (Nat.le_of_ble_eq_true rfl) (Nat.le_of_ble_eq_true rfl) rfl (Nat.le_of_ble_eq_true rfl) (fun r1 σ2 hq3 => ?_)
  obtain ⟨r1e, r1s⟩ := hq3
  have r1e := r1e.symm; subst r1e; have r1s := r1s.symm; subst r1s
  refine e_zret (pc := 14) Xc hQ (dT hX7_isBook 9 rfl) (Nat.le_refl _) (Nat.le_refl _) (bI_or _) ?_
  exact ⟨rfl, rfl⟩
set_option maxRecDepth 100000 in
set_option maxHeartbeats 4000000 in
theorem c_orNone {G : xG} {σ : xS} {m : Nat} {F : Nat → Int32} {T : Nat → Nat} {A : Nat → Nat → Int32} (hP : PX7 σ m F T A) (b : Int32) : CI G yX7_orNone cX7_orNone 2 (some .int) 0 0 0 [.ref m, .int b] σ (fun z σ1 => z = orN b ∧ σ1 = σ) := by
  refine Met.ofX (by decide +kernel) (Nat.le_of_ble_eq_true rfl) (fun μ Xc hQ hnm => ?_)
  have Xc : xC G μ cX7_orNone 2 RX7 (some .int) 0 0 0 := Xc
  show Ev G μ 2 0 0 0 [(0, .ref m), (1, .int b)] [] σ
  refine e_iload_n (pc := 0) Xc (dT hX7_orNone 0 rfl) 1 rfl ?_
  refine e_iconst (v := -1) (pc := 1) Xc (dT hX7_orNone 1 rfl) rfl ?_
  refine e_icmp_ne (tgt := 10) (pc := 2) Xc (dT hX7_orNone 2 rfl) rfl (fun c2 => ?_) (fun c2 => ?_)
  · skip
    refine e_iload_n (pc := 10) Xc (dT hX7_orNone 5 rfl) 1 rfl ?_
    refine e_iret (pc := 11) Xc hQ (dT hX7_orNone 6 rfl) (Nat.le_refl _) (Nat.le_refl _) ?_
    refine ⟨?_, rfl⟩
    simp_all [orN]
  · skip
    refine e_bipush (v := -5) (pc := 5) Xc (dT hX7_orNone 3 rfl) rfl ?_
    refine e_goto (tgt := 11) (pc := 7) Xc (dT hX7_orNone 4 rfl) rfl ?_
    refine e_iret (pc := 11) Xc hQ (dT hX7_orNone 6 rfl) (Nat.le_refl _) (Nat.le_refl _) ?_
    refine ⟨?_, rfl⟩
    simp_all [orN]
set_option maxRecDepth 100000 in
set_option maxHeartbeats 4000000 in
theorem c_holderOf {G : xG} {σ : xS} {m : Nat} {F : Nat → Int32} {T : Nat → Nat} {A : Nat → Nat → Int32} (hP : PX7 σ m F T A) {nr nb : Nat} (hG : Gd (A 1) nr nb) (b : Int32) : CI G yX7_holderOf cX7_holderOf 3 (some .int) 0 0 0 [.ref m, .int b] σ (fun z σ1 => z = holdF (A 1) nr b ∧ σ1 = σ) := by
  refine Met.ofX (by decide +kernel) (Nat.le_of_ble_eq_true rfl) (fun μ Xc hQ hnm => ?_)
  have Xc : xC G μ cX7_holderOf 3 RX7 (some .int) 0 0 0 := Xc
  have lp2 : ∀ (n2 : Nat) (r : Nat), nr - r < n2 → (r ≤ nr) → (fst (fun r => A 1 (1 + r) == b) r = none) → Ev G μ 3 0 0 2 [(0, .ref m), (1, .int b), (2, .int (nI r))] [] σ := by
    intro n2
    induction n2 with
    | zero => intro r hn; exact absurd hn (Nat.not_lt_zero _)
    | succ n2 ih2 =>
      intro r hn2 hr hs
      refine e_iload_n (pc := 2) Xc (dT hX7_holderOf 2 rfl) 2 rfl ?_
      refine e_aload_n (pc := 3) Xc (dT hX7_holderOf 3 rfl) 0 rfl ?_
      refine gf_X7_9 (pc := 4) Xc (dT hX7_holderOf 4 rfl) hP.o rfl ?_
      refine e_bipush (v := 12) (pc := 7) Xc (dT hX7_holderOf 5 rfl) rfl ?_
      refine e_ialdN (pc := 9) Xc (dT hX7_holderOf 6 rfl) hP.a1 (by decide) rfl 12 rfl (by have := hG.1; omega) (by decide) ?_
      refine e_val (y := nI nr) hG.1.2.2.1 ?_
      refine e_icmp_geN (x := r) (y := nr) (tgt := 33) (pc := 10) Xc (dT hX7_holderOf 7 rfl) rfl (by have := hG.1; omega) (by have := hG.1; omega) (fun c10 => ?_) (fun c10 => ?_)
      · skip
        refine e_iconst (v := -1) (pc := 33) Xc (dT hX7_holderOf 20 rfl) rfl ?_
        refine e_iret (pc := 34) Xc hQ (dT hX7_holderOf 21 rfl) (Nat.le_refl _) (Nat.le_refl _) ?_
        refine ⟨?_, rfl⟩
        have : r = nr := by omega
        subst this
        rw [holdF, hs]
      · skip
        refine e_aload_n (pc := 13) Xc (dT hX7_holderOf 8 rfl) 0 rfl ?_
        refine gf_X7_9 (pc := 14) Xc (dT hX7_holderOf 9 rfl) hP.o rfl ?_
        refine e_iconst (v := 1) (pc := 17) Xc (dT hX7_holderOf 10 rfl) rfl ?_
        refine e_iload_n (pc := 18) Xc (dT hX7_holderOf 11 rfl) 2 rfl ?_
        refine e_iaddN (a := 1) (b := r) (pc := 19) Xc (dT hX7_holderOf 12 rfl) ?_
        refine e_ialdN (pc := 20) Xc (dT hX7_holderOf 13 rfl) hP.a1 (by decide) rfl (1 + r) rfl (by have := hG.1; omega) (by decide) ?_
        refine e_iload_n (pc := 21) Xc (dT hX7_holderOf 14 rfl) 1 rfl ?_
        refine e_icmp_ne (tgt := 27) (pc := 22) Xc (dT hX7_holderOf 15 rfl) rfl (fun c22 => ?_) (fun c22 => ?_)
        · skip
          refine e_iincN (a := r) (b := 1) (L' := [(2, .int (nI (r + 1))), (0, .ref m), (1, .int b)]) (pc := 27) Xc (dT hX7_holderOf 18 rfl) 2 rfl rfl (by decide) rfl ?_
          refine e_goto (tgt := 2) (pc := 30) Xc (dT hX7_holderOf 19 rfl) rfl ?_
          refine Ev.pick (L' := [(0, .ref m), (1, .int b), (2, .int (nI (r + 1)))]) [1, 2, 0] rfl ?_
          exact ih2 (r + 1) (by omega) (by omega) (by rw [fst, hs]; simp [c22])
        · skip
          refine e_iload_n (pc := 25) Xc (dT hX7_holderOf 16 rfl) 2 rfl ?_
          refine e_iret (pc := 26) Xc hQ (dT hX7_holderOf 17 rfl) (Nat.le_refl _) (Nat.le_refl _) ?_
          refine ⟨?_, rfl⟩
          rw [holdF, show fst (fun r => A 1 (1 + r) == b) nr = some r from fst_some.mpr ⟨by omega, by simpa using c22, fst_none.mp hs⟩]
  show Ev G μ 3 0 0 0 [(0, .ref m), (1, .int b)] [] σ
  refine e_iconst (v := 0) (pc := 0) Xc (dT hX7_holderOf 0 rfl) rfl ?_
  refine e_istore_n (L' := [(2, .int 0), (0, .ref m), (1, .int b)]) (pc := 1) Xc (dT hX7_holderOf 1 rfl) (by decide) rfl ?_
  refine Ev.pick (L' := [(0, .ref m), (1, .int b), (2, .int 0)]) [1, 2, 0] rfl ?_
  exact lp2 ((nr - 0) + 1) 0 (Nat.lt_succ_self _) (by omega) rfl
set_option maxRecDepth 100000 in
set_option maxHeartbeats 4000000 in
theorem c_isOn {G : xG} {σ : xS} {m : Nat} {F : Nat → Int32} {T : Nat → Nat} {A : Nat → Nat → Int32} (hP : PX7 σ m F T A) {nr nb : Nat} (hG : Gd (A 1) nr nb) (b : Int32) : CI G yX7_isOn cX7_isOn 2 (some .boolean) 1 0 0 [.ref m, .int b] σ (fun z σ1 => z = bI (onF (A 1) nr b) ∧ σ1 = σ) := by
  refine Met.ofX (by decide +kernel) (Nat.le_of_ble_eq_true rfl) (fun μ Xc hQ hnm => ?_)
  have Xc : xC G μ cX7_isOn 2 RX7 (some .boolean) 1 0 0 := Xc
  show Ev G μ 2 0 0 0 [(0, .ref m), (1, .int b)] [] σ
  refine e_aload_n (pc := 0) Xc (dT hX7_isOn 0 rfl) 0 rfl ?_
  refine e_iload_n (pc := 1) Xc (dT hX7_isOn 1 rfl) 1 rfl ?_
  refine cl_X7_143 (pc := 2) (k := 0) (n := 0) (S := []) Xc hP.o (c_holderOf hP hG b) (dT hX7_isOn 2 rfl) rfl (Nat.le_of_ble_eq_true rfl) (Nat.le_of_ble_eq_true rfl) (Nat.le_of_ble_eq_true rfl) rfl (Nat.le_of_ble_eq_true rfl) (fun r1 σ2 hq3 => ?_)
  obtain ⟨r1e, r1s⟩ := hq3
  have r1e := r1e.symm; subst r1e; have r1s := r1s.symm; subst r1s
  refine e_iconst (v := -1) (pc := 5) Xc (dT hX7_isOn 3 rfl) rfl ?_
  refine e_icmp_ne (tgt := 13) (pc := 6) Xc (dT hX7_isOn 4 rfl) rfl (fun c6 => ?_) (fun c6 => ?_)
  · skip
    refine e_iconst (v := 0) (pc := 13) Xc (dT hX7_isOn 7 rfl) rfl ?_
    refine e_zret (pc := 14) Xc hQ (dT hX7_isOn 8 rfl) (Nat.le_refl _) (Nat.le_refl _) (Or.inl rfl) ?_
    refine ⟨?_, rfl⟩
    have hh := holdF_on (X := A 1) (b := b) hG.r4
    simp_all [bI]
  · skip
    refine e_iconst (v := 1) (pc := 9) Xc (dT hX7_isOn 5 rfl) rfl ?_
    refine e_goto (tgt := 14) (pc := 10) Xc (dT hX7_isOn 6 rfl) rfl ?_
    refine e_zret (pc := 14) Xc hQ (dT hX7_isOn 8 rfl) (Nat.le_refl _) (Nat.le_refl _) (Or.inr rfl) ?_
    refine ⟨?_, rfl⟩
    have hh := holdF_on (X := A 1) (b := b) hG.r4
    simp_all [bI]
set_option maxRecDepth 100000 in
set_option maxHeartbeats 4000000 in
theorem c_tellsOf {G : xG} {σ : xS} {m : Nat} {F : Nat → Int32} {T : Nat → Nat} {A : Nat → Nat → Int32} (hP : PX7 σ m F T A) {nr nb : Nat} (hG : Gd (A 1) nr nb) (w : Nat) (hw : w ≤ 300) (y : Int32) : CI G yX7_tellsOf cX7_tellsOf 3 (some .int) 0 0 0 [.ref m, .int (nI w), .int y] σ (fun z σ1 => z = tellF (A 1) w y ∧ σ1 = σ) := by
  refine Met.ofX (by decide +kernel) (Nat.le_of_ble_eq_true rfl) (fun μ Xc hQ hnm => ?_)
  have Xc : xC G μ cX7_tellsOf 3 RX7 (some .int) 0 0 0 := Xc
  show Ev G μ 3 0 0 0 [(0, .ref m), (1, .int (nI w)), (2, .int y)] [] σ
  refine e_aload_n (pc := 0) Xc (dT hX7_tellsOf 0 rfl) 0 rfl ?_
  refine gf_X7_9 (pc := 1) Xc (dT hX7_tellsOf 1 rfl) hP.o rfl ?_
  refine e_bipush (v := 19) (pc := 4) Xc (dT hX7_tellsOf 2 rfl) rfl ?_
  refine e_ialdN (pc := 6) Xc (dT hX7_tellsOf 3 rfl) hP.a1 (by decide) rfl 19 rfl (by have := hG.1; omega) (by decide) ?_
  refine e_iconst (v := -1) (pc := 7) Xc (dT hX7_tellsOf 4 rfl) rfl ?_
  refine e_icmp_ne (tgt := 15) (pc := 8) Xc (dT hX7_tellsOf 5 rfl) rfl (fun c8 => ?_) (fun c8 => ?_)
  · skip
    obtain ⟨a, ha, hae⟩ := hG.town c8
    refine e_aload_n (pc := 15) Xc (dT hX7_tellsOf 8 rfl) 0 rfl ?_
    refine gf_X7_9 (pc := 16) Xc (dT hX7_tellsOf 9 rfl) hP.o rfl ?_
    refine e_iload_n (pc := 19) Xc (dT hX7_tellsOf 10 rfl) 1 rfl ?_
    refine e_aload_n (pc := 20) Xc (dT hX7_tellsOf 11 rfl) 0 rfl ?_
    refine gf_X7_9 (pc := 21) Xc (dT hX7_tellsOf 12 rfl) hP.o rfl ?_
    refine e_bipush (v := 19) (pc := 24) Xc (dT hX7_tellsOf 13 rfl) rfl ?_
    refine e_ialdN (pc := 26) Xc (dT hX7_tellsOf 14 rfl) hP.a1 (by decide) rfl 19 rfl (by have := hG.1; omega) (by decide) ?_
    refine e_val (y := nI a) hae ?_
    refine e_iaddN (a := w) (b := a) (pc := 27) Xc (dT hX7_tellsOf 15 rfl) ?_
    refine e_ialdN (pc := 28) Xc (dT hX7_tellsOf 16 rfl) hP.a1 (by decide) rfl (w + a) rfl (by have := hG.1; omega) (by decide) ?_
    refine e_iret (pc := 29) Xc hQ (dT hX7_tellsOf 17 rfl) (Nat.le_refl _) (Nat.le_refl _) ?_
    refine ⟨?_, rfl⟩
    rw [tellF, if_neg c8, hae, nI_clamp (by omega)]
  · skip
    refine e_iload_n (pc := 11) Xc (dT hX7_tellsOf 6 rfl) 2 rfl ?_
    refine e_goto (tgt := 29) (pc := 12) Xc (dT hX7_tellsOf 7 rfl) rfl ?_
    refine e_iret (pc := 29) Xc hQ (dT hX7_tellsOf 17 rfl) (Nat.le_refl _) (Nat.le_refl _) ?_
    refine ⟨?_, rfl⟩
    rw [tellF, if_pos c8]
set_option maxRecDepth 100000 in
set_option maxHeartbeats 4000000 in
theorem c_gapNow {G : xG} {σ : xS} {m : Nat} {F : Nat → Int32} {T : Nat → Nat} {A : Nat → Nat → Int32} (hP : PX7 σ m F T A) {nr nb : Nat} (hG : Gd (A 1) nr nb) : CI G yX7_gapNow cX7_gapNow 1 (some .int) 1 0 0 [.ref m] σ (fun z σ1 => z = gapF (A 1) ∧ σ1 = σ) := by
  refine Met.ofX (by decide +kernel) (Nat.le_of_ble_eq_true rfl) (fun μ Xc hQ hnm => ?_)
  have Xc : xC G μ cX7_gapNow 1 RX7 (some .int) 1 0 0 := Xc
  show Ev G μ 1 0 0 0 [(0, .ref m)] [] σ
  refine e_aload_n (pc := 0) Xc (dT hX7_gapNow 0 rfl) 0 rfl ?_
  refine e_sipush (v := 194) (pc := 1) Xc (dT hX7_gapNow 1 rfl) rfl ?_
  refine e_iconst (v := 1) (pc := 4) Xc (dT hX7_gapNow 2 rfl) rfl ?_
  refine cl_X7_132 (pc := 5) (k := 0) (n := 0) (S := []) Xc hP.o (c_tellsOf hP hG 194 (by decide) 1) (dT hX7_gapNow 3 rfl) rfl (Nat.le_of_ble_eq_true rfl) (Nat.le_of_ble_eq_true rfl) (Nat.le_of_ble_eq_true rfl) rfl (Nat.le_of_ble_eq_true rfl) (fun r1 σ2 hq3 => ?_)
  obtain ⟨r1e, r1s⟩ := hq3
  have r1e := r1e.symm; subst r1e; have r1s := r1s.symm; subst r1s
  refine e_iret (pc := 8) Xc hQ (dT hX7_gapNow 4 rfl) (Nat.le_refl _) (Nat.le_refl _) ?_
  exact ⟨rfl, rfl⟩
set_option maxRecDepth 100000 in
set_option maxHeartbeats 4000000 in
theorem c_pasteNow {G : xG} {σ : xS} {m : Nat} {F : Nat → Int32} {T : Nat → Nat} {A : Nat → Nat → Int32} (hP : PX7 σ m F T A) {nr nb : Nat} (hG : Gd (A 1) nr nb) : CI G yX7_pasteNow cX7_pasteNow 2 (some .int) 1 0 0 [.ref m] σ (fun z σ1 => z = pasteF (A 1) ∧ σ1 = σ) := by
  refine Met.ofX (by decide +kernel) (Nat.le_of_ble_eq_true rfl) (fun μ Xc hQ hnm => ?_)
  have Xc : xC G μ cX7_pasteNow 2 RX7 (some .int) 1 0 0 := Xc
  show Ev G μ 2 0 0 0 [(0, .ref m)] [] σ
  refine e_aload_n (pc := 0) Xc (dT hX7_pasteNow 0 rfl) 0 rfl ?_
  refine e_sipush (v := 199) (pc := 1) Xc (dT hX7_pasteNow 1 rfl) rfl ?_
  refine e_iconst (v := 5) (pc := 4) Xc (dT hX7_pasteNow 2 rfl) rfl ?_
  refine cl_X7_132 (pc := 5) (k := 0) (n := 0) (S := []) Xc hP.o (c_tellsOf hP hG 199 (by decide) 5) (dT hX7_pasteNow 3 rfl) rfl (Nat.le_of_ble_eq_true rfl) (Nat.le_of_ble_eq_true rfl) (Nat.le_of_ble_eq_true rfl) rfl (Nat.le_of_ble_eq_true rfl) (fun r1 σ2 hq3 => ?_)
  obtain ⟨r1e, r1s⟩ := hq3
  have r1e := r1e.symm; subst r1e; have r1s := r1s.symm; subst r1s
  refine e_istore_n (L' := [(1, .int (tellF (A 1) 199 5)), (0, .ref m)]) (pc := 8) Xc (dT hX7_pasteNow 4 rfl) (by decide) rfl ?_
  refine e_iload_n (pc := 9) Xc (dT hX7_pasteNow 5 rfl) 0 rfl ?_
  refine e_iconst (v := 1) (pc := 10) Xc (dT hX7_pasteNow 6 rfl) rfl ?_
  refine e_icmp_ge (tgt := 18) (pc := 11) Xc (dT hX7_pasteNow 7 rfl) rfl (fun c11 => ?_) (fun c11 => ?_)
  · skip
    refine e_iload_n (pc := 18) Xc (dT hX7_pasteNow 10 rfl) 0 rfl ?_
    refine e_iret (pc := 19) Xc hQ (dT hX7_pasteNow 11 rfl) (Nat.le_refl _) (Nat.le_refl _) ?_
    refine ⟨?_, rfl⟩
    simp only [← Int32.not_lt] at *
    simp [pasteF, *]
  · skip
    refine e_iconst (v := 1) (pc := 14) Xc (dT hX7_pasteNow 8 rfl) rfl ?_
    refine e_goto (tgt := 19) (pc := 15) Xc (dT hX7_pasteNow 9 rfl) rfl ?_
    refine e_iret (pc := 19) Xc hQ (dT hX7_pasteNow 11 rfl) (Nat.le_refl _) (Nat.le_refl _) ?_
    refine ⟨?_, rfl⟩
    simp only [← Int32.not_lt] at *
    simp [pasteF, *]
