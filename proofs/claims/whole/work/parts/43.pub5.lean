set_option maxRecDepth 100000 in
set_option maxHeartbeats 4000000 in
theorem c_ranBody {G : xG} {σ : xS} {T : Nat → Nat} {F : Nat → Int32} {A : Nat → Nat → Int32} {m : Nat} {s : actS} (hP : PX7 σ m F T A) (hF : F 21 = nI s.1) (hA : A 11 = s.2) (hs : s.1 ≤ 1010) (b : Int32) : CV G yX7_ranBody cX7_ranBody 2 none 0 0 0 [.ref m, .int b] σ (fun σ1 => PX7 σ1 m (upd F 21 (nI (rbS s b).1)) T (upA A 11 (rbS s b).2) ∧ Off m σ σ1) := by
  refine Met.ofX (by decide +kernel) (Nat.le_of_ble_eq_true rfl) (fun μ Xc hQ hnm => ?_)
  have Xc : xC G μ cX7_ranBody 2 RX7 none 0 0 0 := Xc
  show Ev G μ 2 0 0 0 [(0, .ref m), (1, .int b)] [] σ
  refine e_aload_n (pc := 0) Xc (dT hX7_ranBody 0 rfl) 0 rfl ?_
  refine gf_X7_294 (pc := 1) Xc (dT hX7_ranBody 1 rfl) hP.o rfl ?_
  refine e_val (y := nI s.1) hF ?_
  refine e_bipush (v := 20) (pc := 4) Xc (dT hX7_ranBody 2 rfl) rfl ?_
  refine e_icmp_geN (x := s.1) (y := 20) (tgt := 19) (pc := 6) Xc (dT hX7_ranBody 3 rfl) rfl (by omega) (by omega) (fun c6 => ?_) (fun c6 => ?_)
  · skip
    refine e_aload_n (pc := 19) Xc (dT hX7_ranBody 10 rfl) 0 rfl ?_
    refine e_dup (pc := 20) Xc (dT hX7_ranBody 11 rfl) rfl ?_
    refine gf_X7_294 (pc := 21) Xc (dT hX7_ranBody 12 rfl) hP.o rfl ?_
    refine e_val (y := nI s.1) hF ?_
    refine e_iconst (v := 1) (pc := 24) Xc (dT hX7_ranBody 13 rfl) rfl ?_
    refine e_iaddN (a := s.1) (b := 1) (pc := 25) Xc (dT hX7_ranBody 14 rfl) ?_
    refine pf_X7_294 (fs' := olX7 m (upd F 21 (nI (s.1 + 1))) T) (pc := 26) Xc (dT hX7_ranBody 15 rfl) hP.o (Nat.le_of_ble_eq_true rfl) rfl ?_
    refine Ev.gen (fun z => PX7 z m (upd F 21 (nI (s.1 + 1))) T A) (hP.wf21 (x := nI (s.1 + 1))) Off.set (fun σ1 hP2 ho3 => ?_)
    refine e_vret (pc := 29) Xc hQ (dT hX7_ranBody 16 rfl) (Nat.le_refl _) (Nat.le_refl _) ?_
    refine ⟨?_, ho3⟩
    rw [show (rbS s b).2 = A 11 from (if_neg (by omega)).trans hA.symm, upA_id]
    exact hP2
  · skip
    refine e_aload_n (pc := 9) Xc (dT hX7_ranBody 4 rfl) 0 rfl ?_
    refine gf_X7_43 (pc := 10) Xc (dT hX7_ranBody 5 rfl) hP.o rfl ?_
    refine e_aload_n (pc := 13) Xc (dT hX7_ranBody 6 rfl) 0 rfl ?_
    refine gf_X7_294 (pc := 14) Xc (dT hX7_ranBody 7 rfl) hP.o rfl ?_
    refine e_val (y := nI s.1) hF ?_
    refine e_iload_n (pc := 17) Xc (dT hX7_ranBody 8 rfl) 1 rfl ?_
    refine e_iastN (pc := 18) Xc (dT hX7_ranBody 9 rfl) hP.a11 rfl s.1 rfl (by omega) (by decide) ?_
    refine Ev.gen (fun z => PX7 z m F T (upA A 11 (upd (A 11) s.1 b))) (hP.wa11 (g := (upd (A 11) s.1 b))) Off.set (fun σ4 hP5 ho6 => ?_)
    refine e_aload_n (pc := 19) Xc (dT hX7_ranBody 10 rfl) 0 rfl ?_
    refine e_dup (pc := 20) Xc (dT hX7_ranBody 11 rfl) rfl ?_
    refine gf_X7_294 (pc := 21) Xc (dT hX7_ranBody 12 rfl) hP5.o rfl ?_
    refine e_val (y := nI s.1) hF ?_
    refine e_iconst (v := 1) (pc := 24) Xc (dT hX7_ranBody 13 rfl) rfl ?_
    refine e_iaddN (a := s.1) (b := 1) (pc := 25) Xc (dT hX7_ranBody 14 rfl) ?_
    refine pf_X7_294 (fs' := olX7 m (upd F 21 (nI (s.1 + 1))) T) (pc := 26) Xc (dT hX7_ranBody 15 rfl) hP5.o (Nat.le_of_ble_eq_true rfl) rfl ?_
    refine Ev.gen (fun z => PX7 z m (upd F 21 (nI (s.1 + 1))) T (upA A 11 (upd (A 11) s.1 b))) (hP5.wf21 (x := nI (s.1 + 1))) Off.set (fun σ7 hP8 ho9 => ?_)
    refine e_vret (pc := 29) Xc hQ (dT hX7_ranBody 16 rfl) (Nat.le_refl _) (Nat.le_refl _) ?_
    refine ⟨?_, (ho6.tr ho9)⟩
    rw [show (rbS s b).2 = upd (A 11) s.1 b by rw [hA]; exact if_pos (by omega)]
    exact hP8
set_option maxRecDepth 100000 in
set_option maxHeartbeats 4000000 in
theorem c_isUnder {G : xG} {σ : xS} (a k : Int32) : CI G yX7_isUnder cX7_isUnder 2 (some .boolean) 0 0 0 [.int a, .int k] σ (fun z σ1 => z = bI (undF a k) ∧ σ1 = σ) := by
  refine Met.ofX (by decide +kernel) (Nat.le_of_ble_eq_true rfl) (fun μ Xc hQ hnm => ?_)
  have Xc : xC G μ cX7_isUnder 2 RX7 (some .boolean) 0 0 0 := Xc
  show Ev G μ 2 0 0 0 [(0, .int a), (1, .int k)] [] σ
  refine e_iload_n (pc := 0) Xc (dT hX7_isUnder 0 rfl) 1 rfl ?_
  refine e_if_eq (tgt := 25) (pc := 1) Xc (dT hX7_isUnder 1 rfl) rfl (fun c1 => ?_) (fun c1 => ?_)
  · skip
    refine e_iconst (v := 1) (pc := 25) Xc (dT hX7_isUnder 15 rfl) rfl ?_
    refine e_goto (tgt := 30) (pc := 26) Xc (dT hX7_isUnder 16 rfl) rfl ?_
    refine e_zret (pc := 30) Xc hQ (dT hX7_isUnder 18 rfl) (Nat.le_refl _) (Nat.le_refl _) (Or.inr rfl) ?_
    refine ⟨?_, rfl⟩
    rw [undF]
    simp [bI, c1]
  · skip
    refine e_iload_n (pc := 4) Xc (dT hX7_isUnder 2 rfl) 1 rfl ?_
    refine e_iload_n (pc := 5) Xc (dT hX7_isUnder 3 rfl) 0 rfl ?_
    refine e_icmp_eq (tgt := 25) (pc := 6) Xc (dT hX7_isUnder 4 rfl) rfl (fun c6 => ?_) (fun c6 => ?_)
    · skip
      refine e_iconst (v := 1) (pc := 25) Xc (dT hX7_isUnder 15 rfl) rfl ?_
      refine e_goto (tgt := 30) (pc := 26) Xc (dT hX7_isUnder 16 rfl) rfl ?_
      refine e_zret (pc := 30) Xc hQ (dT hX7_isUnder 18 rfl) (Nat.le_refl _) (Nat.le_refl _) (Or.inr rfl) ?_
      refine ⟨?_, rfl⟩
      rw [undF]
      simp [bI, c1, c6]
    · skip
      refine e_iload_n (pc := 9) Xc (dT hX7_isUnder 5 rfl) 1 rfl ?_
      refine e_if_le (tgt := 29) (pc := 10) Xc (dT hX7_isUnder 6 rfl) rfl (fun c10 => ?_) (fun c10 => ?_)
      · skip
        refine e_iconst (v := 0) (pc := 29) Xc (dT hX7_isUnder 17 rfl) rfl ?_
        refine e_zret (pc := 30) Xc hQ (dT hX7_isUnder 18 rfl) (Nat.le_refl _) (Nat.le_refl _) (Or.inl rfl) ?_
        have d10 := Int32.not_lt.mpr c10
        refine ⟨?_, rfl⟩
        rw [undF]
        simp [bI, c1, c6, c10, d10]
      · skip
        refine e_iload_n (pc := 13) Xc (dT hX7_isUnder 7 rfl) 1 rfl ?_
        refine e_iconst (v := 4) (pc := 14) Xc (dT hX7_isUnder 8 rfl) rfl ?_
        refine e_icmp_ge (tgt := 29) (pc := 15) Xc (dT hX7_isUnder 9 rfl) rfl (fun c15 => ?_) (fun c15 => ?_)
        · skip
          refine e_iconst (v := 0) (pc := 29) Xc (dT hX7_isUnder 17 rfl) rfl ?_
          refine e_zret (pc := 30) Xc hQ (dT hX7_isUnder 18 rfl) (Nat.le_refl _) (Nat.le_refl _) (Or.inl rfl) ?_
          have d15 := Int32.not_lt.mpr c15
          refine ⟨?_, rfl⟩
          rw [undF]
          simp [bI, c1, c6, c10, c15, d15]
        · skip
          refine e_iload_n (pc := 18) Xc (dT hX7_isUnder 10 rfl) 0 rfl ?_
          refine e_iload_n (pc := 19) Xc (dT hX7_isUnder 11 rfl) 1 rfl ?_
          refine e_iconst (v := 3) (pc := 20) Xc (dT hX7_isUnder 12 rfl) rfl ?_
          refine e_iadd (pc := 21) Xc (dT hX7_isUnder 13 rfl) ?_
          refine e_icmp_ne (tgt := 29) (pc := 22) Xc (dT hX7_isUnder 14 rfl) rfl (fun c22 => ?_) (fun c22 => ?_)
          · skip
            refine e_iconst (v := 0) (pc := 29) Xc (dT hX7_isUnder 17 rfl) rfl ?_
            refine e_zret (pc := 30) Xc hQ (dT hX7_isUnder 18 rfl) (Nat.le_refl _) (Nat.le_refl _) (Or.inl rfl) ?_
            refine ⟨?_, rfl⟩
            rw [undF]
            simp [bI, c1, c6, c10, c15, c22]
          · skip
            refine e_iconst (v := 1) (pc := 25) Xc (dT hX7_isUnder 15 rfl) rfl ?_
            refine e_goto (tgt := 30) (pc := 26) Xc (dT hX7_isUnder 16 rfl) rfl ?_
            refine e_zret (pc := 30) Xc hQ (dT hX7_isUnder 18 rfl) (Nat.le_refl _) (Nat.le_refl _) (Or.inr rfl) ?_
            refine ⟨?_, rfl⟩
            rw [undF]
            simp [bI, c1, c6, c10, c15, c22]
set_option maxRecDepth 100000 in
set_option maxHeartbeats 4000000 in
theorem c_plainReads {G : xG} {σ : xS} {T : Nat → Nat} {F : Nat → Int32} {A : Nat → Nat → Int32} {m : Nat} {s : actS} (hP : PX7 σ m F T A) (hF : F 21 = nI s.1) (hA : A 11 = s.2) (hs : s.1 ≤ 1000) (x : Int32) : CI G yX7_plainReads cX7_plainReads 2 (some .int) 1 0 0 [.ref m, .int x] σ (fun z σ1 => z = (plR (F 23) s x).1 ∧ PX7 σ1 m (upd F 21 (nI (plR (F 23) s x).2.1)) T (upA A 11 (plR (F 23) s x).2.2) ∧ Off m σ σ1) := by
  refine Met.ofX (by decide +kernel) (Nat.le_of_ble_eq_true rfl) (fun μ Xc hQ hnm => ?_)
  have Xc : xC G μ cX7_plainReads 2 RX7 (some .int) 1 0 0 := Xc
  show Ev G μ 2 0 0 0 [(0, .ref m), (1, .int x)] [] σ
  refine e_aload_n (pc := 0) Xc (dT hX7_plainReads 0 rfl) 0 rfl ?_
  refine e_iconst (v := 1) (pc := 1) Xc (dT hX7_plainReads 1 rfl) rfl ?_
  refine cl_X7_297 (pc := 2) (k := 0) (n := 0) (S := []) Xc hP.o (c_ranBody hP hF hA (by omega) 1) (dT hX7_plainReads 2 rfl) rfl (Nat.le_of_ble_eq_true rfl) (Nat.le_of_ble_eq_true rfl) (Nat.le_of_ble_eq_true rfl) rfl (Nat.le_of_ble_eq_true rfl) (fun σ2 hq3 => ?_)
  obtain ⟨hP4, ho5⟩ := hq3
  have hb6 : (rbS s 1).1 ≤ s.1 + 1 := (Nat.le_of_eq rbS_n)
  refine e_iload_n (pc := 5) Xc (dT hX7_plainReads 3 rfl) 1 rfl ?_
  refine e_aload_n (pc := 6) Xc (dT hX7_plainReads 4 rfl) 0 rfl ?_
  refine gf_X7_300 (pc := 7) Xc (dT hX7_plainReads 5 rfl) hP4.o rfl ?_
  refine e_val (y := F 23) rfl ?_
  refine e_iadd (pc := 10) Xc (dT hX7_plainReads 6 rfl) ?_
  refine e_iret (pc := 11) Xc hQ (dT hX7_plainReads 7 rfl) (Nat.le_refl _) (Nat.le_refl _) ?_
  exact ⟨rfl, hP4, ho5⟩
set_option maxRecDepth 100000 in
set_option maxHeartbeats 4000000 in
theorem c_readsActs {G : xG} {σ : xS} {T : Nat → Nat} {F : Nat → Int32} {A : Nat → Nat → Int32} {m : Nat} {s : actS} (hP : PX7 σ m F T A) (hF : F 21 = nI s.1) (hA : A 11 = s.2) (hs : s.1 ≤ 990) (x : Int32) : CI G yX7_readsActs cX7_readsActs 2 (some .int) 2 0 0 [.ref m, .int x] σ (fun z σ1 => z = (rdA (F 22) (F 23) s x).1 ∧ PX7 σ1 m (upd F 21 (nI (rdA (F 22) (F 23) s x).2.1)) T (upA A 11 (rdA (F 22) (F 23) s x).2.2) ∧ Off m σ σ1) := by
  refine Met.ofX (by decide +kernel) (Nat.le_of_ble_eq_true rfl) (fun μ Xc hQ hnm => ?_)
  have Xc : xC G μ cX7_readsActs 2 RX7 (some .int) 2 0 0 := Xc
  show Ev G μ 2 0 0 0 [(0, .ref m), (1, .int x)] [] σ
  refine e_aload_n (pc := 0) Xc (dT hX7_readsActs 0 rfl) 0 rfl ?_
  refine gf_X7_303 (pc := 1) Xc (dT hX7_readsActs 1 rfl) hP.o rfl ?_
  refine e_iconst (v := 1) (pc := 4) Xc (dT hX7_readsActs 2 rfl) rfl ?_
  refine cl_X7_306 (pc := 5) (k := 0) (n := 0) (S := []) Xc (c_isUnder (F 22) 1) (dT hX7_readsActs 3 rfl) rfl (Nat.le_of_ble_eq_true rfl) (Nat.le_of_ble_eq_true rfl) (Nat.le_of_ble_eq_true rfl) rfl (Nat.le_of_ble_eq_true rfl) (fun r1 σ2 hq3 => ?_)
  obtain ⟨r1e, r1s⟩ := hq3
  have r1e := r1e.symm; subst r1e; have r1s := r1s.symm; subst r1s
  refine e_if_eq (tgt := 25) (pc := 8) Xc (dT hX7_readsActs 4 rfl) rfl (fun c8 => ?_) (fun c8 => ?_)
  · skip
    refine e_aload_n (pc := 25) Xc (dT hX7_readsActs 14 rfl) 0 rfl ?_
    refine gf_X7_303 (pc := 26) Xc (dT hX7_readsActs 15 rfl) hP.o rfl ?_
    refine e_iconst (v := 5) (pc := 29) Xc (dT hX7_readsActs 16 rfl) rfl ?_
    refine e_icmp_ne (tgt := 50) (pc := 30) Xc (dT hX7_readsActs 17 rfl) rfl (fun c30 => ?_) (fun c30 => ?_)
    · skip
      refine e_aload_n (pc := 50) Xc (dT hX7_readsActs 28 rfl) 0 rfl ?_
      refine e_iload_n (pc := 51) Xc (dT hX7_readsActs 29 rfl) 1 rfl ?_
      refine cl_X7_309 (pc := 52) (k := 0) (n := 0) (S := []) Xc hP.o (c_plainReads hP hF hA (by omega) x) (dT hX7_readsActs 30 rfl) rfl (Nat.le_of_ble_eq_true rfl) (Nat.le_of_ble_eq_true rfl) (Nat.le_of_ble_eq_true rfl) rfl (Nat.le_of_ble_eq_true rfl) (fun r4 σ5 hq6 => ?_)
      obtain ⟨r4e, hP7, ho8⟩ := hq6
      have r4e := r4e.symm; subst r4e
      have hb9 : ((plR (F 23) s x).2).1 ≤ s.1 + 1 := (Nat.le_of_eq plR_n)
      refine e_iret (pc := 55) Xc hQ (dT hX7_readsActs 31 rfl) (Nat.le_refl _) (Nat.le_refl _) ?_
      have hz : rdA (F 22) (F 23) s x = ((plR (F 23) s x).1, ((plR (F 23) s x).2)) := by
        simp only [bI_0, Bool.not_eq_true, Bool.not_eq_false] at c8 c30
        rw [rdA, if_neg (by rw [c8]; decide), if_neg c30]
      rw [hz]
      exact ⟨rfl, hP7, ho8⟩
    · skip
      refine e_aload_n (pc := 33) Xc (dT hX7_readsActs 18 rfl) 0 rfl ?_
      refine e_bipush (v := 51) (pc := 34) Xc (dT hX7_readsActs 19 rfl) rfl ?_
      refine cl_X7_297 (pc := 36) (k := 0) (n := 0) (S := []) Xc hP.o (c_ranBody hP hF hA (by omega) 51) (dT hX7_readsActs 20 rfl) rfl (Nat.le_of_ble_eq_true rfl) (Nat.le_of_ble_eq_true rfl) (Nat.le_of_ble_eq_true rfl) rfl (Nat.le_of_ble_eq_true rfl) (fun σ11 hq12 => ?_)
      obtain ⟨hP13, ho14⟩ := hq12
      have hb15 : (rbS s 51).1 ≤ s.1 + 1 := (Nat.le_of_eq rbS_n)
      refine e_aload_n (pc := 39) Xc (dT hX7_readsActs 21 rfl) 0 rfl ?_
      refine e_iload_n (pc := 40) Xc (dT hX7_readsActs 22 rfl) 1 rfl ?_
      refine cl_X7_309 (pc := 41) (k := 0) (n := 0) (S := []) Xc hP13.o (c_plainReads (s := (rbS s 51)) hP13 upd_s upA_s (Nat.le_trans hb15 (by omega)) x) (dT hX7_readsActs 23 rfl) rfl (Nat.le_of_ble_eq_true rfl) (Nat.le_of_ble_eq_true rfl) (Nat.le_of_ble_eq_true rfl) rfl (Nat.le_of_ble_eq_true rfl) (fun r16 σ17 hq18 => ?_)
      obtain ⟨r16e, hP19, ho20⟩ := hq18
      have r16e := r16e.symm; subst r16e
      have hP19 : PX7 σ17 m (upd F 21 (nI ((plR (F 23) (rbS s 51) x).2).1)) T (upA A 11 ((plR (F 23) (rbS s 51) x).2).2) := by rw [upd_2, upA_2] at hP19; exact hP19
      have hb21 : ((plR (F 23) (rbS s 51) x).2).1 ≤ s.1 + 2 := Nat.le_trans (Nat.le_of_eq plR_n) (by have := hb15; omega)
      refine e_aload_n (pc := 44) Xc (dT hX7_readsActs 24 rfl) 0 rfl ?_
      refine gf_X7_300 (pc := 45) Xc (dT hX7_readsActs 25 rfl) hP19.o rfl ?_
      refine e_val (y := F 23) rfl ?_
      refine e_ixor (pc := 48) Xc (dT hX7_readsActs 26 rfl) ?_
      refine e_iret (pc := 49) Xc hQ (dT hX7_readsActs 27 rfl) (Nat.le_refl _) (Nat.le_refl _) ?_
      have hz : rdA (F 22) (F 23) s x = (((plR (F 23) (rbS s 51) x).1) ^^^ (F 23), ((plR (F 23) (rbS s 51) x).2)) := by
        simp only [bI_0, Bool.not_eq_true, Bool.not_eq_false] at c8 c30
        rw [rdA, if_neg (by rw [c8]; decide), if_pos c30]
      rw [hz]
      exact ⟨rfl, hP19, (ho14.tr ho20)⟩
  · skip
    refine e_aload_n (pc := 11) Xc (dT hX7_readsActs 5 rfl) 0 rfl ?_
    refine e_bipush (v := 11) (pc := 12) Xc (dT hX7_readsActs 6 rfl) rfl ?_
    refine cl_X7_297 (pc := 14) (k := 0) (n := 0) (S := []) Xc hP.o (c_ranBody hP hF hA (by omega) 11) (dT hX7_readsActs 7 rfl) rfl (Nat.le_of_ble_eq_true rfl) (Nat.le_of_ble_eq_true rfl) (Nat.le_of_ble_eq_true rfl) rfl (Nat.le_of_ble_eq_true rfl) (fun σ23 hq24 => ?_)
    obtain ⟨hP25, ho26⟩ := hq24
    have hb27 : (rbS s 11).1 ≤ s.1 + 1 := (Nat.le_of_eq rbS_n)
    refine e_aload_n (pc := 17) Xc (dT hX7_readsActs 8 rfl) 0 rfl ?_
    refine e_iload_n (pc := 18) Xc (dT hX7_readsActs 9 rfl) 1 rfl ?_
    refine e_iconst (v := 3) (pc := 19) Xc (dT hX7_readsActs 10 rfl) rfl ?_
    refine e_imul (pc := 20) Xc (dT hX7_readsActs 11 rfl) ?_
    refine cl_X7_309 (pc := 21) (k := 0) (n := 0) (S := []) Xc hP25.o (c_plainReads (s := (rbS s 11)) hP25 upd_s upA_s (Nat.le_trans hb27 (by omega)) (x * 3)) (dT hX7_readsActs 12 rfl) rfl (Nat.le_of_ble_eq_true rfl) (Nat.le_of_ble_eq_true rfl) (Nat.le_of_ble_eq_true rfl) rfl (Nat.le_of_ble_eq_true rfl) (fun r28 σ29 hq30 => ?_)
    obtain ⟨r28e, hP31, ho32⟩ := hq30
    have r28e := r28e.symm; subst r28e
    have hP31 : PX7 σ29 m (upd F 21 (nI ((plR (F 23) (rbS s 11) (x * 3)).2).1)) T (upA A 11 ((plR (F 23) (rbS s 11) (x * 3)).2).2) := by rw [upd_2, upA_2] at hP31; exact hP31
    have hb33 : ((plR (F 23) (rbS s 11) (x * 3)).2).1 ≤ s.1 + 2 := Nat.le_trans (Nat.le_of_eq plR_n) (by have := hb27; omega)
    refine e_iret (pc := 24) Xc hQ (dT hX7_readsActs 13 rfl) (Nat.le_refl _) (Nat.le_refl _) ?_
    have hz : rdA (F 22) (F 23) s x = ((plR (F 23) (rbS s 11) (x * 3)).1, ((plR (F 23) (rbS s 11) (x * 3)).2)) := by
      simp only [bI_0, Bool.not_eq_true, Bool.not_eq_false] at c8
      rw [rdA, if_pos c8]
    rw [hz]
    exact ⟨rfl, hP31, (ho26.tr ho32)⟩
set_option maxRecDepth 100000 in
set_option maxHeartbeats 4000000 in
theorem c_plainBrings {G : xG} {σ : xS} {T : Nat → Nat} {F : Nat → Int32} {A : Nat → Nat → Int32} {m : Nat} {s : actS} (hP : PX7 σ m F T A) (hF : F 21 = nI s.1) (hA : A 11 = s.2) (hs : s.1 ≤ 980) (x : Int32) : CI G yX7_plainBrings cX7_plainBrings 2 (some .int) 3 0 0 [.ref m, .int x] σ (fun z σ1 => z = (plB (F 22) (F 23) (F 24) s x).1 ∧ PX7 σ1 m (upd F 21 (nI (plB (F 22) (F 23) (F 24) s x).2.1)) T (upA A 11 (plB (F 22) (F 23) (F 24) s x).2.2) ∧ Off m σ σ1) := by
  refine Met.ofX (by decide +kernel) (Nat.le_of_ble_eq_true rfl) (fun μ Xc hQ hnm => ?_)
  have Xc : xC G μ cX7_plainBrings 2 RX7 (some .int) 3 0 0 := Xc
  show Ev G μ 2 0 0 0 [(0, .ref m), (1, .int x)] [] σ
  refine e_aload_n (pc := 0) Xc (dT hX7_plainBrings 0 rfl) 0 rfl ?_
  refine e_iconst (v := 2) (pc := 1) Xc (dT hX7_plainBrings 1 rfl) rfl ?_
  refine cl_X7_297 (pc := 2) (k := 0) (n := 0) (S := []) Xc hP.o (c_ranBody hP hF hA (by omega) 2) (dT hX7_plainBrings 2 rfl) rfl (Nat.le_of_ble_eq_true rfl) (Nat.le_of_ble_eq_true rfl) (Nat.le_of_ble_eq_true rfl) rfl (Nat.le_of_ble_eq_true rfl) (fun σ2 hq3 => ?_)
  obtain ⟨hP4, ho5⟩ := hq3
  have hb6 : (rbS s 2).1 ≤ s.1 + 1 := (Nat.le_of_eq rbS_n)
  refine e_aload_n (pc := 5) Xc (dT hX7_plainBrings 3 rfl) 0 rfl ?_
  refine e_iload_n (pc := 6) Xc (dT hX7_plainBrings 4 rfl) 1 rfl ?_
  refine cl_X7_312 (pc := 7) (k := 0) (n := 0) (S := []) Xc hP4.o (c_readsActs (s := (rbS s 2)) hP4 upd_s upA_s (Nat.le_trans hb6 (by omega)) x) (dT hX7_plainBrings 5 rfl) rfl (Nat.le_of_ble_eq_true rfl) (Nat.le_of_ble_eq_true rfl) (Nat.le_of_ble_eq_true rfl) rfl (Nat.le_of_ble_eq_true rfl) (fun r7 σ8 hq9 => ?_)
  obtain ⟨r7e, hP10, ho11⟩ := hq9
  have r7e := r7e.symm; subst r7e
  have hP10 : PX7 σ8 m (upd F 21 (nI ((rdA (F 22) (F 23) (rbS s 2) x).2).1)) T (upA A 11 ((rdA (F 22) (F 23) (rbS s 2) x).2).2) := by rw [upd_2, upA_2] at hP10; exact hP10
  have hb12 : ((rdA (F 22) (F 23) (rbS s 2) x).2).1 ≤ s.1 + 3 := Nat.le_trans rdA_n (by have := hb6; omega)
  refine e_aload_n (pc := 10) Xc (dT hX7_plainBrings 6 rfl) 0 rfl ?_
  refine gf_X7_315 (pc := 11) Xc (dT hX7_plainBrings 7 rfl) hP10.o rfl ?_
  refine e_val (y := F 24) rfl ?_
  refine e_isub (pc := 14) Xc (dT hX7_plainBrings 8 rfl) ?_
  refine e_iret (pc := 15) Xc hQ (dT hX7_plainBrings 9 rfl) (Nat.le_refl _) (Nat.le_refl _) ?_
  exact ⟨rfl, hP10, (ho5.tr ho11)⟩
set_option maxRecDepth 100000 in
set_option maxHeartbeats 4000000 in
theorem c_bringsActs {G : xG} {σ : xS} {T : Nat → Nat} {F : Nat → Int32} {A : Nat → Nat → Int32} {m : Nat} {s : actS} (hP : PX7 σ m F T A) (hF : F 21 = nI s.1) (hA : A 11 = s.2) (hs : s.1 ≤ 970) (x : Int32) : CI G yX7_bringsActs cX7_bringsActs 2 (some .int) 4 0 0 [.ref m, .int x] σ (fun z σ1 => z = (brA (F 22) (F 23) (F 24) s x).1 ∧ PX7 σ1 m (upd F 21 (nI (brA (F 22) (F 23) (F 24) s x).2.1)) T (upA A 11 (brA (F 22) (F 23) (F 24) s x).2.2) ∧ Off m σ σ1) := by
  refine Met.ofX (by decide +kernel) (Nat.le_of_ble_eq_true rfl) (fun μ Xc hQ hnm => ?_)
  have Xc : xC G μ cX7_bringsActs 2 RX7 (some .int) 4 0 0 := Xc
  show Ev G μ 2 0 0 0 [(0, .ref m), (1, .int x)] [] σ
  refine e_aload_n (pc := 0) Xc (dT hX7_bringsActs 0 rfl) 0 rfl ?_
  refine gf_X7_303 (pc := 1) Xc (dT hX7_bringsActs 1 rfl) hP.o rfl ?_
  refine e_iconst (v := 2) (pc := 4) Xc (dT hX7_bringsActs 2 rfl) rfl ?_
  refine cl_X7_306 (pc := 5) (k := 0) (n := 0) (S := []) Xc (c_isUnder (F 22) 2) (dT hX7_bringsActs 3 rfl) rfl (Nat.le_of_ble_eq_true rfl) (Nat.le_of_ble_eq_true rfl) (Nat.le_of_ble_eq_true rfl) rfl (Nat.le_of_ble_eq_true rfl) (fun r1 σ2 hq3 => ?_)
  obtain ⟨r1e, r1s⟩ := hq3
  have r1e := r1e.symm; subst r1e; have r1s := r1s.symm; subst r1s
  refine e_if_eq (tgt := 24) (pc := 8) Xc (dT hX7_bringsActs 4 rfl) rfl (fun c8 => ?_) (fun c8 => ?_)
  · skip
    refine e_aload_n (pc := 24) Xc (dT hX7_bringsActs 13 rfl) 0 rfl ?_
    refine gf_X7_303 (pc := 25) Xc (dT hX7_bringsActs 14 rfl) hP.o rfl ?_
    refine e_bipush (v := 6) (pc := 28) Xc (dT hX7_bringsActs 15 rfl) rfl ?_
    refine e_icmp_ne (tgt := 50) (pc := 30) Xc (dT hX7_bringsActs 16 rfl) rfl (fun c30 => ?_) (fun c30 => ?_)
    · skip
      refine e_aload_n (pc := 50) Xc (dT hX7_bringsActs 27 rfl) 0 rfl ?_
      refine e_iload_n (pc := 51) Xc (dT hX7_bringsActs 28 rfl) 1 rfl ?_
      refine cl_X7_318 (pc := 52) (k := 0) (n := 0) (S := []) Xc hP.o (c_plainBrings hP hF hA (by omega) x) (dT hX7_bringsActs 29 rfl) rfl (Nat.le_of_ble_eq_true rfl) (Nat.le_of_ble_eq_true rfl) (Nat.le_of_ble_eq_true rfl) rfl (Nat.le_of_ble_eq_true rfl) (fun r4 σ5 hq6 => ?_)
      obtain ⟨r4e, hP7, ho8⟩ := hq6
      have r4e := r4e.symm; subst r4e
      have hb9 : ((plB (F 22) (F 23) (F 24) s x).2).1 ≤ s.1 + 3 := plB_n
      refine e_iret (pc := 55) Xc hQ (dT hX7_bringsActs 30 rfl) (Nat.le_refl _) (Nat.le_refl _) ?_
      have hz : brA (F 22) (F 23) (F 24) s x = ((plB (F 22) (F 23) (F 24) s x).1, ((plB (F 22) (F 23) (F 24) s x).2)) := by
        simp only [bI_0, Bool.not_eq_true, Bool.not_eq_false] at c8 c30
        rw [brA, if_neg (by rw [c8]; decide), if_neg c30]
      rw [hz]
      exact ⟨rfl, hP7, ho8⟩
    · skip
      refine e_aload_n (pc := 33) Xc (dT hX7_bringsActs 17 rfl) 0 rfl ?_
      refine e_bipush (v := 61) (pc := 34) Xc (dT hX7_bringsActs 18 rfl) rfl ?_
      refine cl_X7_297 (pc := 36) (k := 0) (n := 0) (S := []) Xc hP.o (c_ranBody hP hF hA (by omega) 61) (dT hX7_bringsActs 19 rfl) rfl (Nat.le_of_ble_eq_true rfl) (Nat.le_of_ble_eq_true rfl) (Nat.le_of_ble_eq_true rfl) rfl (Nat.le_of_ble_eq_true rfl) (fun σ11 hq12 => ?_)
      obtain ⟨hP13, ho14⟩ := hq12
      have hb15 : (rbS s 61).1 ≤ s.1 + 1 := (Nat.le_of_eq rbS_n)
      refine e_aload_n (pc := 39) Xc (dT hX7_bringsActs 20 rfl) 0 rfl ?_
      refine e_iload_n (pc := 40) Xc (dT hX7_bringsActs 21 rfl) 1 rfl ?_
      refine cl_X7_318 (pc := 41) (k := 0) (n := 0) (S := []) Xc hP13.o (c_plainBrings (s := (rbS s 61)) hP13 upd_s upA_s (Nat.le_trans hb15 (by omega)) x) (dT hX7_bringsActs 22 rfl) rfl (Nat.le_of_ble_eq_true rfl) (Nat.le_of_ble_eq_true rfl) (Nat.le_of_ble_eq_true rfl) rfl (Nat.le_of_ble_eq_true rfl) (fun r16 σ17 hq18 => ?_)
      obtain ⟨r16e, hP19, ho20⟩ := hq18
      have r16e := r16e.symm; subst r16e
      have hP19 : PX7 σ17 m (upd F 21 (nI ((plB (F 22) (F 23) (F 24) (rbS s 61) x).2).1)) T (upA A 11 ((plB (F 22) (F 23) (F 24) (rbS s 61) x).2).2) := by rw [upd_2, upA_2] at hP19; exact hP19
      have hb21 : ((plB (F 22) (F 23) (F 24) (rbS s 61) x).2).1 ≤ s.1 + 4 := Nat.le_trans plB_n (by have := hb15; omega)
      refine e_aload_n (pc := 44) Xc (dT hX7_bringsActs 23 rfl) 0 rfl ?_
      refine gf_X7_315 (pc := 45) Xc (dT hX7_bringsActs 24 rfl) hP19.o rfl ?_
      refine e_val (y := F 24) rfl ?_
      refine e_iadd (pc := 48) Xc (dT hX7_bringsActs 25 rfl) ?_
      refine e_iret (pc := 49) Xc hQ (dT hX7_bringsActs 26 rfl) (Nat.le_refl _) (Nat.le_refl _) ?_
      have hz : brA (F 22) (F 23) (F 24) s x = (((plB (F 22) (F 23) (F 24) (rbS s 61) x).1) + (F 24), ((plB (F 22) (F 23) (F 24) (rbS s 61) x).2)) := by
        simp only [bI_0, Bool.not_eq_true, Bool.not_eq_false] at c8 c30
        rw [brA, if_neg (by rw [c8]; decide), if_pos c30]
      rw [hz]
      exact ⟨rfl, hP19, (ho14.tr ho20)⟩
  · skip
    refine e_aload_n (pc := 11) Xc (dT hX7_bringsActs 5 rfl) 0 rfl ?_
    refine e_bipush (v := 21) (pc := 12) Xc (dT hX7_bringsActs 6 rfl) rfl ?_
    refine cl_X7_297 (pc := 14) (k := 0) (n := 0) (S := []) Xc hP.o (c_ranBody hP hF hA (by omega) 21) (dT hX7_bringsActs 7 rfl) rfl (Nat.le_of_ble_eq_true rfl) (Nat.le_of_ble_eq_true rfl) (Nat.le_of_ble_eq_true rfl) rfl (Nat.le_of_ble_eq_true rfl) (fun σ23 hq24 => ?_)
    obtain ⟨hP25, ho26⟩ := hq24
    have hb27 : (rbS s 21).1 ≤ s.1 + 1 := (Nat.le_of_eq rbS_n)
    refine e_aload_n (pc := 17) Xc (dT hX7_bringsActs 8 rfl) 0 rfl ?_
    refine e_iload_n (pc := 18) Xc (dT hX7_bringsActs 9 rfl) 1 rfl ?_
    refine cl_X7_318 (pc := 19) (k := 0) (n := 0) (S := []) Xc hP25.o (c_plainBrings (s := (rbS s 21)) hP25 upd_s upA_s (Nat.le_trans hb27 (by omega)) x) (dT hX7_bringsActs 10 rfl) rfl (Nat.le_of_ble_eq_true rfl) (Nat.le_of_ble_eq_true rfl) (Nat.le_of_ble_eq_true rfl) rfl (Nat.le_of_ble_eq_true rfl) (fun r28 σ29 hq30 => ?_)
    obtain ⟨r28e, hP31, ho32⟩ := hq30
    have r28e := r28e.symm; subst r28e
    have hP31 : PX7 σ29 m (upd F 21 (nI ((plB (F 22) (F 23) (F 24) (rbS s 21) x).2).1)) T (upA A 11 ((plB (F 22) (F 23) (F 24) (rbS s 21) x).2).2) := by rw [upd_2, upA_2] at hP31; exact hP31
    have hb33 : ((plB (F 22) (F 23) (F 24) (rbS s 21) x).2).1 ≤ s.1 + 4 := Nat.le_trans plB_n (by have := hb27; omega)
    refine e_ineg (pc := 22) Xc (dT hX7_bringsActs 11 rfl) ?_
    refine e_iret (pc := 23) Xc hQ (dT hX7_bringsActs 12 rfl) (Nat.le_refl _) (Nat.le_refl _) ?_
    have hz : brA (F 22) (F 23) (F 24) s x = (-((plB (F 22) (F 23) (F 24) (rbS s 21) x).1), ((plB (F 22) (F 23) (F 24) (rbS s 21) x).2)) := by
      simp only [bI_0, Bool.not_eq_true, Bool.not_eq_false] at c8
      rw [brA, if_pos c8]
    rw [hz]
    exact ⟨rfl, hP31, (ho26.tr ho32)⟩
set_option maxRecDepth 100000 in
set_option maxHeartbeats 4000000 in
theorem c_plainTelling {G : xG} {σ : xS} {T : Nat → Nat} {F : Nat → Int32} {A : Nat → Nat → Int32} {m : Nat} {s : actS} (hP : PX7 σ m F T A) (hF : F 21 = nI s.1) (hA : A 11 = s.2) (hs : s.1 ≤ 960) (x : Int32) : CI G yX7_plainTelling cX7_plainTelling 2 (some .int) 5 0 0 [.ref m, .int x] σ (fun z σ1 => z = (plTe (F 22) (F 23) (F 24) s x).1 ∧ PX7 σ1 m (upd F 21 (nI (plTe (F 22) (F 23) (F 24) s x).2.1)) T (upA A 11 (plTe (F 22) (F 23) (F 24) s x).2.2) ∧ Off m σ σ1) := by
  refine Met.ofX (by decide +kernel) (Nat.le_of_ble_eq_true rfl) (fun μ Xc hQ hnm => ?_)
  have Xc : xC G μ cX7_plainTelling 2 RX7 (some .int) 5 0 0 := Xc
  show Ev G μ 2 0 0 0 [(0, .ref m), (1, .int x)] [] σ
  refine e_aload_n (pc := 0) Xc (dT hX7_plainTelling 0 rfl) 0 rfl ?_
  refine e_iconst (v := 3) (pc := 1) Xc (dT hX7_plainTelling 1 rfl) rfl ?_
  refine cl_X7_297 (pc := 2) (k := 0) (n := 0) (S := []) Xc hP.o (c_ranBody hP hF hA (by omega) 3) (dT hX7_plainTelling 2 rfl) rfl (Nat.le_of_ble_eq_true rfl) (Nat.le_of_ble_eq_true rfl) (Nat.le_of_ble_eq_true rfl) rfl (Nat.le_of_ble_eq_true rfl) (fun σ2 hq3 => ?_)
  obtain ⟨hP4, ho5⟩ := hq3
  have hb6 : (rbS s 3).1 ≤ s.1 + 1 := (Nat.le_of_eq rbS_n)
  refine e_aload_n (pc := 5) Xc (dT hX7_plainTelling 3 rfl) 0 rfl ?_
  refine e_iload_n (pc := 6) Xc (dT hX7_plainTelling 4 rfl) 1 rfl ?_
  refine cl_X7_321 (pc := 7) (k := 0) (n := 0) (S := []) Xc hP4.o (c_bringsActs (s := (rbS s 3)) hP4 upd_s upA_s (Nat.le_trans hb6 (by omega)) x) (dT hX7_plainTelling 5 rfl) rfl (Nat.le_of_ble_eq_true rfl) (Nat.le_of_ble_eq_true rfl) (Nat.le_of_ble_eq_true rfl) rfl (Nat.le_of_ble_eq_true rfl) (fun r7 σ8 hq9 => ?_)
  obtain ⟨r7e, hP10, ho11⟩ := hq9
  have r7e := r7e.symm; subst r7e
  have hP10 : PX7 σ8 m (upd F 21 (nI ((brA (F 22) (F 23) (F 24) (rbS s 3) x).2).1)) T (upA A 11 ((brA (F 22) (F 23) (F 24) (rbS s 3) x).2).2) := by rw [upd_2, upA_2] at hP10; exact hP10
  have hb12 : ((brA (F 22) (F 23) (F 24) (rbS s 3) x).2).1 ≤ s.1 + 5 := Nat.le_trans brA_n (by have := hb6; omega)
  refine e_iconst (v := 2) (pc := 10) Xc (dT hX7_plainTelling 6 rfl) rfl ?_
  refine e_imul (pc := 11) Xc (dT hX7_plainTelling 7 rfl) ?_
  refine e_iret (pc := 12) Xc hQ (dT hX7_plainTelling 8 rfl) (Nat.le_refl _) (Nat.le_refl _) ?_
  exact ⟨rfl, hP10, (ho5.tr ho11)⟩
set_option maxRecDepth 100000 in
set_option maxHeartbeats 4000000 in
theorem c_tellsActs {G : xG} {σ : xS} {T : Nat → Nat} {F : Nat → Int32} {A : Nat → Nat → Int32} {m : Nat} {s : actS} (hP : PX7 σ m F T A) (hF : F 21 = nI s.1) (hA : A 11 = s.2) (hs : s.1 ≤ 950) (x : Int32) : CI G yX7_tellsActs cX7_tellsActs 3 (some .int) 6 0 0 [.ref m, .int x] σ (fun z σ1 => z = (teA (F 22) (F 23) (F 24) s x).1 ∧ PX7 σ1 m (upd F 21 (nI (teA (F 22) (F 23) (F 24) s x).2.1)) T (upA A 11 (teA (F 22) (F 23) (F 24) s x).2.2) ∧ Off m σ σ1) := by
  refine Met.ofX (by decide +kernel) (Nat.le_of_ble_eq_true rfl) (fun μ Xc hQ hnm => ?_)
  have Xc : xC G μ cX7_tellsActs 3 RX7 (some .int) 6 0 0 := Xc
  show Ev G μ 3 0 0 0 [(0, .ref m), (1, .int x)] [] σ
  refine e_aload_n (pc := 0) Xc (dT hX7_tellsActs 0 rfl) 0 rfl ?_
  refine gf_X7_303 (pc := 1) Xc (dT hX7_tellsActs 1 rfl) hP.o rfl ?_
  refine e_iconst (v := 3) (pc := 4) Xc (dT hX7_tellsActs 2 rfl) rfl ?_
  refine cl_X7_306 (pc := 5) (k := 0) (n := 0) (S := []) Xc (c_isUnder (F 22) 3) (dT hX7_tellsActs 3 rfl) rfl (Nat.le_of_ble_eq_true rfl) (Nat.le_of_ble_eq_true rfl) (Nat.le_of_ble_eq_true rfl) rfl (Nat.le_of_ble_eq_true rfl) (fun r1 σ2 hq3 => ?_)
  obtain ⟨r1e, r1s⟩ := hq3
  have r1e := r1e.symm; subst r1e; have r1s := r1s.symm; subst r1s
  refine e_if_eq (tgt := 26) (pc := 8) Xc (dT hX7_tellsActs 4 rfl) rfl (fun c8 => ?_) (fun c8 => ?_)
  · skip
    refine e_aload_n (pc := 26) Xc (dT hX7_tellsActs 14 rfl) 0 rfl ?_
    refine gf_X7_303 (pc := 27) Xc (dT hX7_tellsActs 15 rfl) hP.o rfl ?_
    refine e_iconst (v := 4) (pc := 30) Xc (dT hX7_tellsActs 16 rfl) rfl ?_
    refine e_icmp_ne (tgt := 56) (pc := 31) Xc (dT hX7_tellsActs 17 rfl) rfl (fun c31 => ?_) (fun c31 => ?_)
    · skip
      refine e_aload_n (pc := 56) Xc (dT hX7_tellsActs 33 rfl) 0 rfl ?_
      refine e_iload_n (pc := 57) Xc (dT hX7_tellsActs 34 rfl) 1 rfl ?_
      refine cl_X7_324 (pc := 58) (k := 0) (n := 0) (S := []) Xc hP.o (c_plainTelling hP hF hA (by omega) x) (dT hX7_tellsActs 35 rfl) rfl (Nat.le_of_ble_eq_true rfl) (Nat.le_of_ble_eq_true rfl) (Nat.le_of_ble_eq_true rfl) rfl (Nat.le_of_ble_eq_true rfl) (fun r4 σ5 hq6 => ?_)
      obtain ⟨r4e, hP7, ho8⟩ := hq6
      have r4e := r4e.symm; subst r4e
      have hb9 : ((plTe (F 22) (F 23) (F 24) s x).2).1 ≤ s.1 + 5 := plTe_n
      refine e_iret (pc := 61) Xc hQ (dT hX7_tellsActs 36 rfl) (Nat.le_refl _) (Nat.le_refl _) ?_
      have hz : teA (F 22) (F 23) (F 24) s x = ((plTe (F 22) (F 23) (F 24) s x).1, ((plTe (F 22) (F 23) (F 24) s x).2)) := by
        simp only [bI_0, Bool.not_eq_true, Bool.not_eq_false] at c8 c31
        rw [teA, if_neg (by rw [c8]; decide), if_neg c31]
      rw [hz]
      exact ⟨rfl, hP7, ho8⟩
    · skip
      refine e_aload_n (pc := 34) Xc (dT hX7_tellsActs 18 rfl) 0 rfl ?_
      refine e_bipush (v := 41) (pc := 35) Xc (dT hX7_tellsActs 19 rfl) rfl ?_
      refine cl_X7_297 (pc := 37) (k := 0) (n := 0) (S := []) Xc hP.o (c_ranBody hP hF hA (by omega) 41) (dT hX7_tellsActs 20 rfl) rfl (Nat.le_of_ble_eq_true rfl) (Nat.le_of_ble_eq_true rfl) (Nat.le_of_ble_eq_true rfl) rfl (Nat.le_of_ble_eq_true rfl) (fun σ11 hq12 => ?_)
      obtain ⟨hP13, ho14⟩ := hq12
      have hb15 : (rbS s 41).1 ≤ s.1 + 1 := (Nat.le_of_eq rbS_n)
      refine e_aload_n (pc := 40) Xc (dT hX7_tellsActs 21 rfl) 0 rfl ?_
      refine e_iload_n (pc := 41) Xc (dT hX7_tellsActs 22 rfl) 1 rfl ?_
      refine e_iconst (v := 1) (pc := 42) Xc (dT hX7_tellsActs 23 rfl) rfl ?_
      refine e_isub (pc := 43) Xc (dT hX7_tellsActs 24 rfl) ?_
      refine cl_X7_324 (pc := 44) (k := 0) (n := 0) (S := []) Xc hP13.o (c_plainTelling (s := (rbS s 41)) hP13 upd_s upA_s (Nat.le_trans hb15 (by omega)) (x - 1)) (dT hX7_tellsActs 25 rfl) rfl (Nat.le_of_ble_eq_true rfl) (Nat.le_of_ble_eq_true rfl) (Nat.le_of_ble_eq_true rfl) rfl (Nat.le_of_ble_eq_true rfl) (fun r16 σ17 hq18 => ?_)
      obtain ⟨r16e, hP19, ho20⟩ := hq18
      have r16e := r16e.symm; subst r16e
      have hP19 : PX7 σ17 m (upd F 21 (nI ((plTe (F 22) (F 23) (F 24) (rbS s 41) (x - 1)).2).1)) T (upA A 11 ((plTe (F 22) (F 23) (F 24) (rbS s 41) (x - 1)).2).2) := by rw [upd_2, upA_2] at hP19; exact hP19
      have hb21 : ((plTe (F 22) (F 23) (F 24) (rbS s 41) (x - 1)).2).1 ≤ s.1 + 6 := Nat.le_trans plTe_n (by have := hb15; omega)
      refine e_istore_n (L' := [(2, .int ((plTe (F 22) (F 23) (F 24) (rbS s 41) (x - 1)).1)), (0, .ref m), (1, .int x)]) (pc := 47) Xc (dT hX7_tellsActs 26 rfl) (by decide) rfl ?_
      refine e_iload_n (pc := 48) Xc (dT hX7_tellsActs 27 rfl) 0 rfl ?_
      refine e_aload_n (pc := 49) Xc (dT hX7_tellsActs 28 rfl) 1 rfl ?_
      refine e_iconst (v := 2) (pc := 50) Xc (dT hX7_tellsActs 29 rfl) rfl ?_
      refine cl_X7_312 (pc := 51) (k := 0) (n := 0) (S := [.int ((plTe (F 22) (F 23) (F 24) (rbS s 41) (x - 1)).1)]) Xc hP19.o (c_readsActs (s := ((plTe (F 22) (F 23) (F 24) (rbS s 41) (x - 1)).2)) hP19 upd_s upA_s (Nat.le_trans hb21 (by omega)) 2) (dT hX7_tellsActs 30 rfl) rfl (Nat.le_of_ble_eq_true rfl) (Nat.le_of_ble_eq_true rfl) (Nat.le_of_ble_eq_true rfl) rfl (Nat.le_of_ble_eq_true rfl) (fun r22 σ23 hq24 => ?_)
      obtain ⟨r22e, hP25, ho26⟩ := hq24
      have r22e := r22e.symm; subst r22e
      have hP25 : PX7 σ23 m (upd F 21 (nI ((rdA (F 22) (F 23) ((plTe (F 22) (F 23) (F 24) (rbS s 41) (x - 1)).2) 2).2).1)) T (upA A 11 ((rdA (F 22) (F 23) ((plTe (F 22) (F 23) (F 24) (rbS s 41) (x - 1)).2) 2).2).2) := by rw [upd_2, upA_2] at hP25; exact hP25
      have hb27 : ((rdA (F 22) (F 23) ((plTe (F 22) (F 23) (F 24) (rbS s 41) (x - 1)).2) 2).2).1 ≤ s.1 + 8 := Nat.le_trans rdA_n (by have := hb21; omega)
      refine e_iadd (pc := 54) Xc (dT hX7_tellsActs 31 rfl) ?_
      refine e_iret (pc := 55) Xc hQ (dT hX7_tellsActs 32 rfl) (Nat.le_refl _) (Nat.le_refl _) ?_
      have hz : teA (F 22) (F 23) (F 24) s x = (((plTe (F 22) (F 23) (F 24) (rbS s 41) (x - 1)).1) + ((rdA (F 22) (F 23) ((plTe (F 22) (F 23) (F 24) (rbS s 41) (x - 1)).2) 2).1), ((rdA (F 22) (F 23) ((plTe (F 22) (F 23) (F 24) (rbS s 41) (x - 1)).2) 2).2)) := by
        simp only [bI_0, Bool.not_eq_true, Bool.not_eq_false] at c8 c31
        rw [teA, if_neg (by rw [c8]; decide), if_pos c31]
      rw [hz]
      exact ⟨rfl, hP25, ((ho14.tr ho20).tr ho26)⟩
  · skip
    refine e_aload_n (pc := 11) Xc (dT hX7_tellsActs 5 rfl) 0 rfl ?_
    refine e_bipush (v := 31) (pc := 12) Xc (dT hX7_tellsActs 6 rfl) rfl ?_
    refine cl_X7_297 (pc := 14) (k := 0) (n := 0) (S := []) Xc hP.o (c_ranBody hP hF hA (by omega) 31) (dT hX7_tellsActs 7 rfl) rfl (Nat.le_of_ble_eq_true rfl) (Nat.le_of_ble_eq_true rfl) (Nat.le_of_ble_eq_true rfl) rfl (Nat.le_of_ble_eq_true rfl) (fun σ29 hq30 => ?_)
    obtain ⟨hP31, ho32⟩ := hq30
    have hb33 : (rbS s 31).1 ≤ s.1 + 1 := (Nat.le_of_eq rbS_n)
    refine e_aload_n (pc := 17) Xc (dT hX7_tellsActs 8 rfl) 0 rfl ?_
    refine e_iload_n (pc := 18) Xc (dT hX7_tellsActs 9 rfl) 1 rfl ?_
    refine cl_X7_324 (pc := 19) (k := 0) (n := 0) (S := []) Xc hP31.o (c_plainTelling (s := (rbS s 31)) hP31 upd_s upA_s (Nat.le_trans hb33 (by omega)) x) (dT hX7_tellsActs 10 rfl) rfl (Nat.le_of_ble_eq_true rfl) (Nat.le_of_ble_eq_true rfl) (Nat.le_of_ble_eq_true rfl) rfl (Nat.le_of_ble_eq_true rfl) (fun r34 σ35 hq36 => ?_)
    obtain ⟨r34e, hP37, ho38⟩ := hq36
    have r34e := r34e.symm; subst r34e
    have hP37 : PX7 σ35 m (upd F 21 (nI ((plTe (F 22) (F 23) (F 24) (rbS s 31) x).2).1)) T (upA A 11 ((plTe (F 22) (F 23) (F 24) (rbS s 31) x).2).2) := by rw [upd_2, upA_2] at hP37; exact hP37
    have hb39 : ((plTe (F 22) (F 23) (F 24) (rbS s 31) x).2).1 ≤ s.1 + 6 := Nat.le_trans plTe_n (by have := hb33; omega)
    refine e_bipush (v := 7) (pc := 22) Xc (dT hX7_tellsActs 11 rfl) rfl ?_
    refine e_ixor (pc := 24) Xc (dT hX7_tellsActs 12 rfl) ?_
    refine e_iret (pc := 25) Xc hQ (dT hX7_tellsActs 13 rfl) (Nat.le_refl _) (Nat.le_refl _) ?_
    have hz : teA (F 22) (F 23) (F 24) s x = (((plTe (F 22) (F 23) (F 24) (rbS s 31) x).1) ^^^ 7, ((plTe (F 22) (F 23) (F 24) (rbS s 31) x).2)) := by
      simp only [bI_0, Bool.not_eq_true, Bool.not_eq_false] at c8
      rw [teA, if_pos c8]
    rw [hz]
    exact ⟨rfl, hP37, (ho32.tr ho38)⟩
set_option maxRecDepth 100000 in
set_option maxHeartbeats 4000000 in
theorem p_act {G : xG} {σ : xS} {m : Nat} {X Y bd : Nat → Int32} {hi rn : Int32} (hM : MK σ m X Y bd hi rn) {nr nb ns np nn nt na dy : Nat} {t : xT} (hK : OK X nr nb t ns np nn nt na dy)  (v : Int32) (a : Int32) (x : Int32) : CI G yX7_act cX7_act 4 (some .int) 7 0 0 [.ref m, .int v, .int a, .int x] σ (fun z σ1 => z = (v_act X bd nr v a x).1 ∧ MK σ1 m X Y (v_act X bd nr v a x).2.2 hi (nI (v_act X bd nr v a x).2.1) ∧ Off m σ σ1) := by
  refine Met.ofX (by decide +kernel) (Nat.le_of_ble_eq_true rfl) (fun μ Xc hQ hnm => ?_)
  have Xc : xC G μ cX7_act 4 RX7 (some .int) 7 0 0 := Xc
  obtain ⟨F, T, A, hP, e1, e2, e3, e4, e5⟩ := hM
  subst e1 e2 e3 e4 e5
  obtain ⟨hG, hT, hS, hPl, hNo, hTa, hA, hJ, hR, hD⟩ := id hK
  have hr4 := hG.r4
  have hb7 := hG.b7
  have hs6 := hS.1
  have hp8 := hPl.1
  have hn8 := hNo.1
  have ht100 := hTa.1
  have ha5 := hA.1
  have hd9 := hD.1
  show Ev G μ 4 0 0 0 [(0, .ref m), (1, .int v), (2, .int a), (3, .int x)] [] σ
  refine e_aload_n (pc := 0) Xc (dT hX7_act 0 rfl) 0 rfl ?_
  refine e_iconst (v := 0) (pc := 1) Xc (dT hX7_act 1 rfl) rfl ?_
  refine pf_X7_294 (fs' := olX7 m (upd F 21 0) T) (pc := 2) Xc (dT hX7_act 2 rfl) hP.o (Nat.le_of_ble_eq_true rfl) rfl ?_
  refine Ev.gen (fun z => PX7 z m (upd F 21 0) T A) (hP.wf21 (x := 0)) Off.set (fun σ1 hP2 ho3 => ?_)
  refine e_aload_n (pc := 5) Xc (dT hX7_act 3 rfl) 0 rfl ?_
  refine e_iload_n (pc := 6) Xc (dT hX7_act 4 rfl) 1 rfl ?_
  refine cl_X7_165 (pc := 7) (k := 0) (n := 0) (S := []) Xc hP2.o (c_isReader hP2 hG v) (dT hX7_act 5 rfl) rfl (Nat.le_of_ble_eq_true rfl) (Nat.le_of_ble_eq_true rfl) (Nat.le_of_ble_eq_true rfl) rfl (Nat.le_of_ble_eq_true rfl) (fun r4 σ5 hq6 => ?_)
  obtain ⟨r4e, r4s⟩ := hq6
  have r4e := r4e.symm; subst r4e; have r4s := r4s.symm; subst r4s
  refine e_val (y := bI (inF v 0 (nI nr - 1))) rfl ?_
  refine e_if_eq (tgt := 22) (pc := 10) Xc (dT hX7_act 6 rfl) rfl (fun c10 => ?_) (fun c10 => ?_)
  · skip
    refine e_iconst (v := 0) (pc := 22) Xc (dT hX7_act 12 rfl) rfl ?_
    refine e_iret (pc := 23) Xc hQ (dT hX7_act 13 rfl) (Nat.le_refl _) (Nat.le_refl _) ?_
    have hz : v_act (A 1) (A 11) nr v a x = (0, (0, A 11)) := by
      simp only [bI_0, Bool.not_eq_true, Bool.not_eq_false] at c10
      simp [v_act, c10]
    rw [hz]
    exact ⟨rfl, ⟨_, _, _, hP2, rfl, rfl, rfl, rfl, rfl⟩, ho3⟩
  · skip
    obtain ⟨q, hq, rfl⟩ := inF_nat (v := v) (n := nr) (by omega) (by simpa [bI_0, bI_1] using c10)
    have hc_q : cl (nI q) = q := cl_nI (by omega)
    refine e_iload_n (pc := 13) Xc (dT hX7_act 7 rfl) 2 rfl ?_
    refine e_iconst (v := 0) (pc := 14) Xc (dT hX7_act 8 rfl) rfl ?_
    refine e_iconst (v := 2) (pc := 15) Xc (dT hX7_act 9 rfl) rfl ?_
    refine cl_X7_50 (pc := 16) (k := 0) (n := 0) (S := []) Xc (c_in a 0 2) (dT hX7_act 10 rfl) rfl (Nat.le_of_ble_eq_true rfl) (Nat.le_of_ble_eq_true rfl) (Nat.le_of_ble_eq_true rfl) rfl (Nat.le_of_ble_eq_true rfl) (fun r7 σ8 hq9 => ?_)
    obtain ⟨r7e, r7s⟩ := hq9
    have r7e := r7e.symm; subst r7e; have r7s := r7s.symm; subst r7s
    refine e_if_ne (tgt := 24) (pc := 19) Xc (dT hX7_act 11 rfl) rfl (fun c19 => ?_) (fun c19 => ?_)
    · skip
      refine e_aload_n (pc := 24) Xc (dT hX7_act 14 rfl) 0 rfl ?_
      refine e_aload_n (pc := 25) Xc (dT hX7_act 15 rfl) 0 rfl ?_
      refine gf_X7_9 (pc := 26) Xc (dT hX7_act 16 rfl) hP2.o rfl ?_
      refine e_bipush (v := 20) (pc := 29) Xc (dT hX7_act 17 rfl) rfl ?_
      refine e_iload_n (pc := 31) Xc (dT hX7_act 18 rfl) 1 rfl ?_
      refine e_iaddN (a := 20) (b := q) (pc := 32) Xc (dT hX7_act 19 rfl) ?_
      refine e_ialdN (pc := 33) Xc (dT hX7_act 20 rfl) hP2.a1 (by decide) rfl (20 + q) rfl (by omega) (by decide) ?_
      refine pf_X7_303 (fs' := olX7 m (upd (upd F 21 0) 22 (A 1 (20 + q))) T) (pc := 34) Xc (dT hX7_act 21 rfl) hP2.o (Nat.le_of_ble_eq_true rfl) rfl ?_
      refine Ev.gen (fun z => PX7 z m (upd (upd F 21 0) 22 (A 1 (20 + q))) T A) (hP2.wf22 (x := A 1 (20 + q))) Off.set (fun σ10 hP11 ho12 => ?_)
      refine e_aload_n (pc := 37) Xc (dT hX7_act 22 rfl) 0 rfl ?_
      refine e_iload_n (pc := 38) Xc (dT hX7_act 23 rfl) 1 rfl ?_
      refine pf_X7_300 (fs' := olX7 m (upd (upd (upd F 21 0) 22 (A 1 (20 + q))) 23 (nI q)) T) (pc := 39) Xc (dT hX7_act 24 rfl) hP11.o (Nat.le_of_ble_eq_true rfl) rfl ?_
      refine Ev.gen (fun z => PX7 z m (upd (upd (upd F 21 0) 22 (A 1 (20 + q))) 23 (nI q)) T A) (hP11.wf23 (x := nI q)) Off.set (fun σ13 hP14 ho15 => ?_)
      refine e_aload_n (pc := 42) Xc (dT hX7_act 25 rfl) 0 rfl ?_
      refine e_aload_n (pc := 43) Xc (dT hX7_act 26 rfl) 0 rfl ?_
      refine gf_X7_9 (pc := 44) Xc (dT hX7_act 27 rfl) hP14.o rfl ?_
      refine e_bipush (v := 24) (pc := 47) Xc (dT hX7_act 28 rfl) rfl ?_
      refine e_iload_n (pc := 49) Xc (dT hX7_act 29 rfl) 1 rfl ?_
      refine e_iaddN (a := 24) (b := q) (pc := 50) Xc (dT hX7_act 30 rfl) ?_
      refine e_ialdN (pc := 51) Xc (dT hX7_act 31 rfl) hP14.a1 (by decide) rfl (24 + q) rfl (by omega) (by decide) ?_
      refine pf_X7_315 (fs' := olX7 m (upd (upd (upd (upd F 21 0) 22 (A 1 (20 + q))) 23 (nI q)) 24 (A 1 (24 + q))) T) (pc := 52) Xc (dT hX7_act 32 rfl) hP14.o (Nat.le_of_ble_eq_true rfl) rfl ?_
      refine Ev.gen (fun z => PX7 z m (upd (upd (upd (upd F 21 0) 22 (A 1 (20 + q))) 23 (nI q)) 24 (A 1 (24 + q))) T A) (hP14.wf24 (x := A 1 (24 + q))) Off.set (fun σ16 hP17 ho18 => ?_)
      refine e_iload_n (pc := 55) Xc (dT hX7_act 33 rfl) 2 rfl ?_
      refine e_if_ne (tgt := 67) (pc := 56) Xc (dT hX7_act 34 rfl) rfl (fun c56 => ?_) (fun c56 => ?_)
      · skip
        refine e_iload_n (pc := 67) Xc (dT hX7_act 39 rfl) 2 rfl ?_
        refine e_iconst (v := 1) (pc := 68) Xc (dT hX7_act 40 rfl) rfl ?_
        refine e_icmp_ne (tgt := 80) (pc := 69) Xc (dT hX7_act 41 rfl) rfl (fun c69 => ?_) (fun c69 => ?_)
        · skip
          refine e_aload_n (pc := 80) Xc (dT hX7_act 46 rfl) 0 rfl ?_
          refine e_iload_n (pc := 81) Xc (dT hX7_act 47 rfl) 3 rfl ?_
          refine cl_X7_327 (pc := 82) (k := 0) (n := 0) (S := []) Xc hP17.o (c_tellsActs (s := (0, A 11)) hP17 rfl rfl (by show 0 ≤ _; omega) x) (dT hX7_act 48 rfl) rfl (Nat.le_of_ble_eq_true rfl) (Nat.le_of_ble_eq_true rfl) (Nat.le_of_ble_eq_true rfl) rfl (Nat.le_of_ble_eq_true rfl) (fun r19 σ20 hq21 => ?_)
          obtain ⟨r19e, hP22, ho23⟩ := hq21
          have r19e := r19e.symm; subst r19e
          refine e_val (y := (teA (A 1 (20 + q)) (nI q) (A 1 (24 + q)) (0, A 11) x).1) rfl ?_
          refine e_iret (pc := 85) Xc hQ (dT hX7_act 49 rfl) (Nat.le_refl _) (Nat.le_refl _) ?_
          have hz : v_act (A 1) (A 11) nr (nI q) a x = teA (A 1 (20 + q)) (nI q) (A 1 (24 + q)) (0, A 11) x := by
            simp only [bI_0, Bool.not_eq_true, Bool.not_eq_false] at c10 c19 c56 c69
            rw [v_act, if_pos ⟨c10, c19⟩, hc_q, if_neg c56, if_neg c69]
          rw [hz]
          exact ⟨rfl, ⟨_, _, _, hP22, rfl, rfl, upA_s, rfl, rfl⟩, ((((ho3.tr ho12).tr ho15).tr ho18).tr ho23)⟩
        · skip
          refine e_aload_n (pc := 72) Xc (dT hX7_act 42 rfl) 0 rfl ?_
          refine e_iload_n (pc := 73) Xc (dT hX7_act 43 rfl) 3 rfl ?_
          refine cl_X7_321 (pc := 74) (k := 0) (n := 0) (S := []) Xc hP17.o (c_bringsActs (s := (0, A 11)) hP17 rfl rfl (by show 0 ≤ _; omega) x) (dT hX7_act 44 rfl) rfl (Nat.le_of_ble_eq_true rfl) (Nat.le_of_ble_eq_true rfl) (Nat.le_of_ble_eq_true rfl) rfl (Nat.le_of_ble_eq_true rfl) (fun r24 σ25 hq26 => ?_)
          obtain ⟨r24e, hP27, ho28⟩ := hq26
          have r24e := r24e.symm; subst r24e
          refine e_val (y := (brA (A 1 (20 + q)) (nI q) (A 1 (24 + q)) (0, A 11) x).1) rfl ?_
          refine e_goto (tgt := 85) (pc := 77) Xc (dT hX7_act 45 rfl) rfl ?_
          refine e_iret (pc := 85) Xc hQ (dT hX7_act 49 rfl) (Nat.le_refl _) (Nat.le_refl _) ?_
          have hz : v_act (A 1) (A 11) nr (nI q) a x = brA (A 1 (20 + q)) (nI q) (A 1 (24 + q)) (0, A 11) x := by
            simp only [bI_0, Bool.not_eq_true, Bool.not_eq_false] at c10 c19 c56 c69
            rw [v_act, if_pos ⟨c10, c19⟩, hc_q, if_neg c56, if_pos c69]
          rw [hz]
          exact ⟨rfl, ⟨_, _, _, hP27, rfl, rfl, upA_s, rfl, rfl⟩, ((((ho3.tr ho12).tr ho15).tr ho18).tr ho28)⟩
      · skip
        refine e_aload_n (pc := 59) Xc (dT hX7_act 35 rfl) 0 rfl ?_
        refine e_iload_n (pc := 60) Xc (dT hX7_act 36 rfl) 3 rfl ?_
        refine cl_X7_312 (pc := 61) (k := 0) (n := 0) (S := []) Xc hP17.o (c_readsActs (s := (0, A 11)) hP17 rfl rfl (by show 0 ≤ _; omega) x) (dT hX7_act 37 rfl) rfl (Nat.le_of_ble_eq_true rfl) (Nat.le_of_ble_eq_true rfl) (Nat.le_of_ble_eq_true rfl) rfl (Nat.le_of_ble_eq_true rfl) (fun r29 σ30 hq31 => ?_)
        obtain ⟨r29e, hP32, ho33⟩ := hq31
        have r29e := r29e.symm; subst r29e
        refine e_val (y := (rdA (A 1 (20 + q)) (nI q) (0, A 11) x).1) rfl ?_
        refine e_goto (tgt := 85) (pc := 64) Xc (dT hX7_act 38 rfl) rfl ?_
        refine e_iret (pc := 85) Xc hQ (dT hX7_act 49 rfl) (Nat.le_refl _) (Nat.le_refl _) ?_
        have hz : v_act (A 1) (A 11) nr (nI q) a x = rdA (A 1 (20 + q)) (nI q) (0, A 11) x := by
          simp only [bI_0, Bool.not_eq_true, Bool.not_eq_false] at c10 c19 c56
          rw [v_act, if_pos ⟨c10, c19⟩, hc_q, if_pos c56]
        rw [hz]
        exact ⟨rfl, ⟨_, _, _, hP32, rfl, rfl, upA_s, rfl, rfl⟩, ((((ho3.tr ho12).tr ho15).tr ho18).tr ho33)⟩
    · skip
      refine e_iconst (v := 0) (pc := 22) Xc (dT hX7_act 12 rfl) rfl ?_
      refine e_iret (pc := 23) Xc hQ (dT hX7_act 13 rfl) (Nat.le_refl _) (Nat.le_refl _) ?_
      have hz : v_act (A 1) (A 11) nr (nI q) a x = (0, (0, A 11)) := by
        simp only [bI_0, Bool.not_eq_true, Bool.not_eq_false] at c10 c19
        simp [v_act, c10, c19]
      rw [hz]
      exact ⟨rfl, ⟨_, _, _, hP2, rfl, rfl, rfl, rfl, rfl⟩, ho3⟩
set_option maxRecDepth 100000 in
set_option maxHeartbeats 4000000 in
theorem p_trace {G : xG} {σ : xS} {m : Nat} {X Y bd : Nat → Int32} {hi rn : Int32} (hM : MK σ m X Y bd hi rn) {nr nb ns np nn nt na dy : Nat} {t : xT} (hK : OK X nr nb t ns np nn nt na dy) {rr : Nat} (hrn : rn = nI rr) (hrr : rr ≤ 1000) (i : Int32) : CI G yX7_trace cX7_trace 2 (some .int) 2 0 0 [.ref m, .int i] σ (fun z σ1 => z = v_trace bd rr i ∧ MK σ1 m X Y bd hi rn ∧ Off m σ σ1) := by
  refine Met.ofX (by decide +kernel) (Nat.le_of_ble_eq_true rfl) (fun μ Xc hQ hnm => ?_)
  have Xc : xC G μ cX7_trace 2 RX7 (some .int) 2 0 0 := Xc
  obtain ⟨F, T, A, hP, e1, e2, e3, e4, e5⟩ := hM
  subst e1 e2 e3 e4 e5
  obtain ⟨hG, hT, hS, hPl, hNo, hTa, hA, hJ, hR, hD⟩ := id hK
  have hr4 := hG.r4
  have hb7 := hG.b7
  have hs6 := hS.1
  have hp8 := hPl.1
  have hn8 := hNo.1
  have ht100 := hTa.1
  have ha5 := hA.1
  have hd9 := hD.1
  show Ev G μ 2 0 0 0 [(0, .ref m), (1, .int i)] [] σ
  refine e_iload_n (pc := 0) Xc (dT hX7_trace 0 rfl) 1 rfl ?_
  refine e_iconst (v := 0) (pc := 1) Xc (dT hX7_trace 1 rfl) rfl ?_
  refine e_aload_n (pc := 2) Xc (dT hX7_trace 2 rfl) 0 rfl ?_
  refine gf_X7_294 (pc := 3) Xc (dT hX7_trace 3 rfl) hP.o rfl ?_
  refine e_val (y := nI rr) hrn ?_
  refine e_bipush (v := 20) (pc := 6) Xc (dT hX7_trace 4 rfl) rfl ?_
  refine e_icmp_geN (x := rr) (y := 20) (tgt := 18) (pc := 8) Xc (dT hX7_trace 5 rfl) rfl (by omega) (by omega) (fun c8 => ?_) (fun c8 => ?_)
  · skip
    refine e_bipush (v := 20) (pc := 18) Xc (dT hX7_trace 9 rfl) rfl ?_
    refine e_iconst (v := 1) (pc := 20) Xc (dT hX7_trace 10 rfl) rfl ?_
    refine e_isub (pc := 21) Xc (dT hX7_trace 11 rfl) ?_
    refine cl_X7_50 (pc := 22) (k := 0) (n := 0) (S := []) Xc (c_in i 0 (20 - 1)) (dT hX7_trace 12 rfl) rfl (Nat.le_of_ble_eq_true rfl) (Nat.le_of_ble_eq_true rfl) (Nat.le_of_ble_eq_true rfl) rfl (Nat.le_of_ble_eq_true rfl) (fun r1 σ2 hq3 => ?_)
    obtain ⟨r1e, r1s⟩ := hq3
    have r1e := r1e.symm; subst r1e; have r1s := r1s.symm; subst r1s
    refine e_if_eq (tgt := 37) (pc := 25) Xc (dT hX7_trace 13 rfl) rfl (fun c25 => ?_) (fun c25 => ?_)
    · skip
      refine e_iconst (v := -1) (pc := 37) Xc (dT hX7_trace 19 rfl) rfl ?_
      refine e_iret (pc := 38) Xc hQ (dT hX7_trace 20 rfl) (Nat.le_refl _) (Nat.le_refl _) ?_
      have hz : v_trace (A 11) rr i = (-1) := by
        simp only [bI_0, Bool.not_eq_true, Bool.not_eq_false] at c25
        change inF i 0 (nI 20 - 1) = _ at c25
        rw [v_trace, if_neg (show ¬ rr < 20 by omega), if_neg (by rw [c25]; decide)]
      exact ⟨hz.symm, ⟨_, _, _, hP, rfl, rfl, rfl, rfl, rfl⟩, Off.rf⟩
    · skip
      obtain ⟨q, hq, rfl⟩ := in_N (w := i) (n := 19) (by omega) (by have hcc := c25; simp only [bI_0, bI_1, Bool.not_eq_true, Bool.not_eq_false] at hcc; exact hcc)
      have hc_q : cl (nI q) = q := cl_nI (by omega)
      refine e_aload_n (pc := 28) Xc (dT hX7_trace 14 rfl) 0 rfl ?_
      refine gf_X7_43 (pc := 29) Xc (dT hX7_trace 15 rfl) hP.o rfl ?_
      refine e_iload_n (pc := 32) Xc (dT hX7_trace 16 rfl) 1 rfl ?_
      refine e_ialdN (pc := 33) Xc (dT hX7_trace 17 rfl) hP.a11 (by decide) rfl q rfl (by omega) (by decide) ?_
      refine e_goto (tgt := 38) (pc := 34) Xc (dT hX7_trace 18 rfl) rfl ?_
      refine e_iret (pc := 38) Xc hQ (dT hX7_trace 20 rfl) (Nat.le_refl _) (Nat.le_refl _) ?_
      have hz : v_trace (A 11) rr (nI q) = A 11 q := by
        simp only [bI_0, Bool.not_eq_true, Bool.not_eq_false] at c25
        change inF (nI q) 0 (nI 20 - 1) = _ at c25
        rw [v_trace, if_neg (show ¬ rr < 20 by omega), if_pos c25, hc_q]
      exact ⟨hz.symm, ⟨_, _, _, hP, rfl, rfl, rfl, rfl, rfl⟩, Off.rf⟩
  · skip
    refine e_aload_n (pc := 11) Xc (dT hX7_trace 6 rfl) 0 rfl ?_
    refine gf_X7_294 (pc := 12) Xc (dT hX7_trace 7 rfl) hP.o rfl ?_
    refine e_val (y := nI rr) hrn ?_
    refine e_goto (tgt := 20) (pc := 15) Xc (dT hX7_trace 8 rfl) rfl ?_
    refine e_iconst (v := 1) (pc := 20) Xc (dT hX7_trace 10 rfl) rfl ?_
    refine e_isub (pc := 21) Xc (dT hX7_trace 11 rfl) ?_
    refine cl_X7_50 (pc := 22) (k := 0) (n := 0) (S := []) Xc (c_in i 0 ((nI rr) - 1)) (dT hX7_trace 12 rfl) rfl (Nat.le_of_ble_eq_true rfl) (Nat.le_of_ble_eq_true rfl) (Nat.le_of_ble_eq_true rfl) rfl (Nat.le_of_ble_eq_true rfl) (fun r4 σ5 hq6 => ?_)
    obtain ⟨r4e, r4s⟩ := hq6
    have r4e := r4e.symm; subst r4e; have r4s := r4s.symm; subst r4s
    refine e_if_eq (tgt := 37) (pc := 25) Xc (dT hX7_trace 13 rfl) rfl (fun c25 => ?_) (fun c25 => ?_)
    · skip
      refine e_iconst (v := -1) (pc := 37) Xc (dT hX7_trace 19 rfl) rfl ?_
      refine e_iret (pc := 38) Xc hQ (dT hX7_trace 20 rfl) (Nat.le_refl _) (Nat.le_refl _) ?_
      have hz : v_trace (A 11) rr i = (-1) := by
        simp only [bI_0, Bool.not_eq_true, Bool.not_eq_false] at c25
        rw [v_trace, if_pos (show rr < 20 by omega), if_neg (by rw [c25]; decide)]
      exact ⟨hz.symm, ⟨_, _, _, hP, rfl, rfl, rfl, rfl, rfl⟩, Off.rf⟩
    · skip
      obtain ⟨q, hq, rfl⟩ := inF_nat (v := i) (n := rr) (by omega) (by simpa [bI_0, bI_1] using c25)
      have hc_q : cl (nI q) = q := cl_nI (by omega)
      refine e_aload_n (pc := 28) Xc (dT hX7_trace 14 rfl) 0 rfl ?_
      refine gf_X7_43 (pc := 29) Xc (dT hX7_trace 15 rfl) hP.o rfl ?_
      refine e_iload_n (pc := 32) Xc (dT hX7_trace 16 rfl) 1 rfl ?_
      refine e_ialdN (pc := 33) Xc (dT hX7_trace 17 rfl) hP.a11 (by decide) rfl q rfl (by omega) (by decide) ?_
      refine e_goto (tgt := 38) (pc := 34) Xc (dT hX7_trace 18 rfl) rfl ?_
      refine e_iret (pc := 38) Xc hQ (dT hX7_trace 20 rfl) (Nat.le_refl _) (Nat.le_refl _) ?_
      have hz : v_trace (A 11) rr (nI q) = A 11 q := by
        simp only [bI_0, Bool.not_eq_true, Bool.not_eq_false] at c25
        rw [v_trace, if_pos (show rr < 20 by omega), if_pos c25, hc_q]
      exact ⟨hz.symm, ⟨_, _, _, hP, rfl, rfl, rfl, rfl, rfl⟩, Off.rf⟩
set_option maxRecDepth 100000 in
set_option maxHeartbeats 4000000 in
theorem p_as {G : xG} {σ : xS} {m : Nat} {X Y bd : Nat → Int32} {hi rn : Int32} (hM : MK σ m X Y bd hi rn) {nr nb ns np nn nt na dy : Nat} {t : xT} (hK : OK X nr nb t ns np nn nt na dy) (v : Int32) (k : Int32) : CI G yX7_as cX7_as 3 (some .int) 2 0 0 [.ref m, .int v, .int k] σ (fun z σ1 => z = v_as X nr v k ∧ MK σ1 m X Y bd hi rn ∧ Off m σ σ1) := by
  refine Met.ofX (by decide +kernel) (Nat.le_of_ble_eq_true rfl) (fun μ Xc hQ hnm => ?_)
  have Xc : xC G μ cX7_as 3 RX7 (some .int) 2 0 0 := Xc
  obtain ⟨F, T, A, hP, e1, e2, e3, e4, e5⟩ := hM
  subst e1 e2 e3 e4 e5
  obtain ⟨hG, hT, hS, hPl, hNo, hTa, hA, hJ, hR, hD⟩ := id hK
  have hr4 := hG.r4
  have hb7 := hG.b7
  have hs6 := hS.1
  have hp8 := hPl.1
  have hn8 := hNo.1
  have ht100 := hTa.1
  have ha5 := hA.1
  have hd9 := hD.1
  show Ev G μ 3 0 0 0 [(0, .ref m), (1, .int v), (2, .int k)] [] σ
  refine e_aload_n (pc := 0) Xc (dT hX7_as 0 rfl) 0 rfl ?_
  refine e_iload_n (pc := 1) Xc (dT hX7_as 1 rfl) 1 rfl ?_
  refine cl_X7_165 (pc := 2) (k := 0) (n := 0) (S := []) Xc hP.o (c_isReader hP hG v) (dT hX7_as 2 rfl) rfl (Nat.le_of_ble_eq_true rfl) (Nat.le_of_ble_eq_true rfl) (Nat.le_of_ble_eq_true rfl) rfl (Nat.le_of_ble_eq_true rfl) (fun r1 σ2 hq3 => ?_)
  obtain ⟨r1e, r1s⟩ := hq3
  have r1e := r1e.symm; subst r1e; have r1s := r1s.symm; subst r1s
  refine e_if_eq (tgt := 18) (pc := 5) Xc (dT hX7_as 3 rfl) rfl (fun c5 => ?_) (fun c5 => ?_)
  · skip
    refine e_iconst (v := -1) (pc := 18) Xc (dT hX7_as 9 rfl) rfl ?_
    refine e_iret (pc := 19) Xc hQ (dT hX7_as 10 rfl) (Nat.le_refl _) (Nat.le_refl _) ?_
    have hz : v_as (A 1) nr v k = (-1) := by
      try simp only [bI_0, bI_1, Bool.not_eq_true, Bool.not_eq_false] at c5
      first | (simp [v_as, c5]; done) | (clear hK hG hT hS hPl hNo hTa hA hJ hR hD hQ Xc; simp_all [v_as]; done)
    exact ⟨hz.symm, ⟨_, _, _, hP, rfl, rfl, rfl, rfl, rfl⟩, Off.rf⟩
  · skip
    obtain ⟨q, hq, rfl⟩ := inF_nat (v := v) (n := nr) (by omega) (by simpa [bI_0, bI_1] using c5)
    have hc_q : cl (nI q) = q := cl_nI (by omega)
    refine e_iload_n (pc := 8) Xc (dT hX7_as 4 rfl) 2 rfl ?_
    refine e_iconst (v := 0) (pc := 9) Xc (dT hX7_as 5 rfl) rfl ?_
    refine e_bipush (v := 6) (pc := 10) Xc (dT hX7_as 6 rfl) rfl ?_
    refine cl_X7_50 (pc := 12) (k := 0) (n := 0) (S := []) Xc (c_in k 0 6) (dT hX7_as 7 rfl) rfl (Nat.le_of_ble_eq_true rfl) (Nat.le_of_ble_eq_true rfl) (Nat.le_of_ble_eq_true rfl) rfl (Nat.le_of_ble_eq_true rfl) (fun r4 σ5 hq6 => ?_)
    obtain ⟨r4e, r4s⟩ := hq6
    have r4e := r4e.symm; subst r4e; have r4s := r4s.symm; subst r4s
    refine e_if_ne (tgt := 20) (pc := 15) Xc (dT hX7_as 8 rfl) rfl (fun c15 => ?_) (fun c15 => ?_)
    · skip
      refine e_aload_n (pc := 20) Xc (dT hX7_as 11 rfl) 0 rfl ?_
      refine gf_X7_9 (pc := 21) Xc (dT hX7_as 12 rfl) hP.o rfl ?_
      refine e_bipush (v := 20) (pc := 24) Xc (dT hX7_as 13 rfl) rfl ?_
      refine e_iload_n (pc := 26) Xc (dT hX7_as 14 rfl) 1 rfl ?_
      refine e_iaddN (a := 20) (b := q) (pc := 27) Xc (dT hX7_as 15 rfl) ?_
      refine e_ialdN (pc := 28) Xc (dT hX7_as 16 rfl) hP.a1 (by decide) rfl (20 + q) rfl (by omega) (by decide) ?_
      refine e_iload_n (pc := 29) Xc (dT hX7_as 17 rfl) 2 rfl ?_
      refine cl_X7_306 (pc := 30) (k := 0) (n := 0) (S := []) Xc (c_isUnder (A 1 (20 + q)) k) (dT hX7_as 18 rfl) rfl (Nat.le_of_ble_eq_true rfl) (Nat.le_of_ble_eq_true rfl) (Nat.le_of_ble_eq_true rfl) rfl (Nat.le_of_ble_eq_true rfl) (fun r7 σ8 hq9 => ?_)
      obtain ⟨r7e, r7s⟩ := hq9
      have r7e := r7e.symm; subst r7e; have r7s := r7s.symm; subst r7s
      refine e_if_eq (tgt := 48) (pc := 33) Xc (dT hX7_as 19 rfl) rfl (fun c33 => ?_) (fun c33 => ?_)
      · skip
        refine e_bipush (v := -6) (pc := 48) Xc (dT hX7_as 27 rfl) rfl ?_
        refine e_iret (pc := 50) Xc hQ (dT hX7_as 28 rfl) (Nat.le_refl _) (Nat.le_refl _) ?_
        have hz : v_as (A 1) nr (nI q) k = (-6) := by
          try simp only [bI_0, bI_1, Bool.not_eq_true, Bool.not_eq_false] at c5 c15 c33
          first | (simp [v_as, c5, c15, c33, hc_q]; done) | (clear hK hG hT hS hPl hNo hTa hA hJ hR hD hQ Xc; simp_all [v_as]; done)
        exact ⟨hz.symm, ⟨_, _, _, hP, rfl, rfl, rfl, rfl, rfl⟩, Off.rf⟩
      · skip
        refine e_aload_n (pc := 36) Xc (dT hX7_as 20 rfl) 0 rfl ?_
        refine gf_X7_9 (pc := 37) Xc (dT hX7_as 21 rfl) hP.o rfl ?_
        refine e_bipush (v := 24) (pc := 40) Xc (dT hX7_as 22 rfl) rfl ?_
        refine e_iload_n (pc := 42) Xc (dT hX7_as 23 rfl) 1 rfl ?_
        refine e_iaddN (a := 24) (b := q) (pc := 43) Xc (dT hX7_as 24 rfl) ?_
        refine e_ialdN (pc := 44) Xc (dT hX7_as 25 rfl) hP.a1 (by decide) rfl (24 + q) rfl (by omega) (by decide) ?_
        refine e_goto (tgt := 50) (pc := 45) Xc (dT hX7_as 26 rfl) rfl ?_
        refine e_iret (pc := 50) Xc hQ (dT hX7_as 28 rfl) (Nat.le_refl _) (Nat.le_refl _) ?_
        have hz : v_as (A 1) nr (nI q) k = A 1 (24 + q) := by
          try simp only [bI_0, bI_1, Bool.not_eq_true, Bool.not_eq_false] at c5 c15 c33
          first | (simp [v_as, c5, c15, c33, hc_q]; done) | (clear hK hG hT hS hPl hNo hTa hA hJ hR hD hQ Xc; simp_all [v_as]; done)
        exact ⟨hz.symm, ⟨_, _, _, hP, rfl, rfl, rfl, rfl, rfl⟩, Off.rf⟩
    · skip
      refine e_iconst (v := -1) (pc := 18) Xc (dT hX7_as 9 rfl) rfl ?_
      refine e_iret (pc := 19) Xc hQ (dT hX7_as 10 rfl) (Nat.le_refl _) (Nat.le_refl _) ?_
      have hz : v_as (A 1) nr (nI q) k = (-1) := by
        try simp only [bI_0, bI_1, Bool.not_eq_true, Bool.not_eq_false] at c5 c15
        first | (simp [v_as, c5, c15, hc_q]; done) | (clear hK hG hT hS hPl hNo hTa hA hJ hR hD hQ Xc; simp_all [v_as]; done)
      exact ⟨hz.symm, ⟨_, _, _, hP, rfl, rfl, rfl, rfl, rfl⟩, Off.rf⟩
set_option maxRecDepth 100000 in
set_option maxHeartbeats 4000000 in
theorem p_count {G : xG} {σ : xS} {m : Nat} {X Y bd : Nat → Int32} {hi rn : Int32} (hM : MK σ m X Y bd hi rn) {nr nb ns np nn nt na dy : Nat} {t : xT} (hK : OK X nr nb t ns np nn nt na dy) (w : Int32) : CI G yX7_count cX7_count 2 (some .int) 2 0 0 [.ref m, .int w] σ (fun z σ1 => z = v_count X rn w ∧ MK σ1 m X Y bd hi rn ∧ Off m σ σ1) := by
  refine Met.ofX (by decide +kernel) (Nat.le_of_ble_eq_true rfl) (fun μ Xc hQ hnm => ?_)
  have Xc : xC G μ cX7_count 2 RX7 (some .int) 2 0 0 := Xc
  obtain ⟨F, T, A, hP, e1, e2, e3, e4, e5⟩ := hM
  subst e1 e2 e3 e4 e5
  obtain ⟨hG, hT, hS, hPl, hNo, hTa, hA, hJ, hR, hD⟩ := id hK
  have hr4 := hG.r4
  have hb7 := hG.b7
  have hs6 := hS.1
  have hp8 := hPl.1
  have hn8 := hNo.1
  have ht100 := hTa.1
  have ha5 := hA.1
  have hd9 := hD.1
  show Ev G μ 2 0 0 0 [(0, .ref m), (1, .int w)] [] σ
  refine e_iload_n (pc := 0) Xc (dT hX7_count 0 rfl) 1 rfl ?_
  refine e_bipush (v := 7) (pc := 1) Xc (dT hX7_count 1 rfl) rfl ?_
  refine e_icmp_ne (tgt := 13) (pc := 3) Xc (dT hX7_count 2 rfl) rfl (fun c3 => ?_) (fun c3 => ?_)
  · skip
    refine e_iload_n (pc := 13) Xc (dT hX7_count 6 rfl) 1 rfl ?_
    refine e_iconst (v := 0) (pc := 14) Xc (dT hX7_count 7 rfl) rfl ?_
    refine e_bipush (v := 6) (pc := 15) Xc (dT hX7_count 8 rfl) rfl ?_
    refine cl_X7_50 (pc := 17) (k := 0) (n := 0) (S := []) Xc (c_in w 0 6) (dT hX7_count 9 rfl) rfl (Nat.le_of_ble_eq_true rfl) (Nat.le_of_ble_eq_true rfl) (Nat.le_of_ble_eq_true rfl) rfl (Nat.le_of_ble_eq_true rfl) (fun r1 σ2 hq3 => ?_)
    obtain ⟨r1e, r1s⟩ := hq3
    have r1e := r1e.symm; subst r1e; have r1s := r1s.symm; subst r1s
    refine e_if_eq (tgt := 35) (pc := 20) Xc (dT hX7_count 10 rfl) rfl (fun c20 => ?_) (fun c20 => ?_)
    · skip
      refine e_iconst (v := -1) (pc := 35) Xc (dT hX7_count 18 rfl) rfl ?_
      refine e_iret (pc := 36) Xc hQ (dT hX7_count 19 rfl) (Nat.le_refl _) (Nat.le_refl _) ?_
      have hz : v_count (A 1) (F 21) w = (-1) := by
        try simp only [bI_0, bI_1, Bool.not_eq_true, Bool.not_eq_false] at c3 c20
        first | (simp [v_count, c3, c20]; done) | (clear hK hG hT hS hPl hNo hTa hA hJ hR hD hQ Xc; simp_all [v_count]; done)
      exact ⟨hz.symm, ⟨_, _, _, hP, rfl, rfl, rfl, rfl, rfl⟩, Off.rf⟩
    · skip
      obtain ⟨wk, hwk, rfl⟩ := in_N (w := w) (n := 6) (by omega) (by have hcc := c20; simp only [bI_0, bI_1, Bool.not_eq_true, Bool.not_eq_false] at hcc; exact hcc)
      have hc_wk : cl (nI wk) = wk := cl_nI (by omega)
      refine e_aload_n (pc := 23) Xc (dT hX7_count 11 rfl) 0 rfl ?_
      refine gf_X7_9 (pc := 24) Xc (dT hX7_count 12 rfl) hP.o rfl ?_
      refine e_bipush (v := 12) (pc := 27) Xc (dT hX7_count 13 rfl) rfl ?_
      refine e_iload_n (pc := 29) Xc (dT hX7_count 14 rfl) 1 rfl ?_
      refine e_iaddN (a := 12) (b := wk) (pc := 30) Xc (dT hX7_count 15 rfl) ?_
      refine e_ialdN (pc := 31) Xc (dT hX7_count 16 rfl) hP.a1 (by decide) rfl (12 + wk) rfl (by omega) (by decide) ?_
      refine e_goto (tgt := 36) (pc := 32) Xc (dT hX7_count 17 rfl) rfl ?_
      refine e_iret (pc := 36) Xc hQ (dT hX7_count 19 rfl) (Nat.le_refl _) (Nat.le_refl _) ?_
      have hz : v_count (A 1) (F 21) (nI wk) = A 1 (12 + wk) := by
        try simp only [bI_0, bI_1, Bool.not_eq_true, Bool.not_eq_false] at c3 c20
        first | (simp [v_count, c3, c20, hc_wk]; done) | (clear hK hG hT hS hPl hNo hTa hA hJ hR hD hQ Xc; simp_all [v_count]; done)
      exact ⟨hz.symm, ⟨_, _, _, hP, rfl, rfl, rfl, rfl, rfl⟩, Off.rf⟩
  · skip
    refine e_aload_n (pc := 6) Xc (dT hX7_count 3 rfl) 0 rfl ?_
    refine gf_X7_294 (pc := 7) Xc (dT hX7_count 4 rfl) hP.o rfl ?_
    refine e_goto (tgt := 36) (pc := 10) Xc (dT hX7_count 5 rfl) rfl ?_
    refine e_iret (pc := 36) Xc hQ (dT hX7_count 19 rfl) (Nat.le_refl _) (Nat.le_refl _) ?_
    have hz : v_count (A 1) (F 21) w = F 21 := by
      try simp only [bI_0, bI_1, Bool.not_eq_true, Bool.not_eq_false] at c3
      first | (simp [v_count, c3]; done) | (clear hK hG hT hS hPl hNo hTa hA hJ hR hD hQ Xc; simp_all [v_count]; done)
    exact ⟨hz.symm, ⟨_, _, _, hP, rfl, rfl, rfl, rfl, rfl⟩, Off.rf⟩
set_option maxRecDepth 100000 in
set_option maxHeartbeats 4000000 in
theorem p_image {G : xG} {σ : xS} {m : Nat} {X Y bd : Nat → Int32} {hi rn : Int32} (hM : MK σ m X Y bd hi rn) {nr nb ns np nn nt na dy : Nat} {t : xT} (hK : OK X nr nb t ns np nn nt na dy)   : CI G yX7_image cX7_image 2 (some .int) 1 0 0 [.ref m] σ (fun z σ1 => z = nI nr ∧ MK σ1 m X (cpF X Y 909) bd 1 rn ∧ Off m σ σ1) := by
  refine Met.ofX (by decide +kernel) (Nat.le_of_ble_eq_true rfl) (fun μ Xc hQ hnm => ?_)
  have Xc : xC G μ cX7_image 2 RX7 (some .int) 1 0 0 := Xc
  obtain ⟨F, T, A, hP, e1, e2, e3, e4, e5⟩ := hM
  subst e1 e2 e3 e4 e5
  obtain ⟨hG, hT, hS, hPl, hNo, hTa, hA, hJ, hR, hD⟩ := id hK
  have hr4 := hG.r4
  have hb7 := hG.b7
  have hs6 := hS.1
  have hp8 := hPl.1
  have hn8 := hNo.1
  have ht100 := hTa.1
  have ha5 := hA.1
  have hd9 := hD.1
  have lp2 : ∀ (n2 : Nat) (k_ : Nat) (σ2 : xS), 909 - k_ < n2 → (k_ ≤ 909) → (PX7 σ2 m F T (upA A 2 (cpF (A 1) (A 2) k_))) → (Off m σ σ2) → Ev G μ 2 0 0 2 [(0, .ref m), (1, .int (nI k_))] [] σ2 := by
    intro n2
    induction n2 with
    | zero => intro k_ σ2 hn; exact absurd hn (Nat.not_lt_zero _)
    | succ n2 ih2 =>
      intro k_ σ2 hn2 hk_ hp ho
      refine e_iload_n (pc := 2) Xc (dT hX7_image 2 rfl) 1 rfl ?_
      refine e_sipush (v := 909) (pc := 3) Xc (dT hX7_image 3 rfl) rfl ?_
      refine e_icmp_geN (x := k_) (y := 909) (tgt := 27) (pc := 6) Xc (dT hX7_image 4 rfl) rfl (by omega) (by omega) (fun c6 => ?_) (fun c6 => ?_)
      · skip
        have hke_ : k_ = 909 := by omega
        subst hke_
        refine e_aload_n (pc := 27) Xc (dT hX7_image 15 rfl) 0 rfl ?_
        refine e_iconst (v := 1) (pc := 28) Xc (dT hX7_image 16 rfl) rfl ?_
        refine pf_X7_330 (fs' := olX7 m (upd F 4 1) T) (pc := 29) Xc (dT hX7_image 17 rfl) (Or.inr rfl) hp.o (Nat.le_of_ble_eq_true rfl) rfl ?_
        refine Ev.gen (fun z => PX7 z m (upd F 4 1) T (upA A 2 (cpF (A 1) (A 2) 909))) (hp.wf4 (x := 1)) Off.set (fun σ1 hP2 ho3 => ?_)
        refine e_aload_n (pc := 32) Xc (dT hX7_image 18 rfl) 0 rfl ?_
        refine gf_X7_9 (pc := 33) Xc (dT hX7_image 19 rfl) hP2.o rfl ?_
        refine e_bipush (v := 12) (pc := 36) Xc (dT hX7_image 20 rfl) rfl ?_
        refine e_ialdN (pc := 38) Xc (dT hX7_image 21 rfl) hP2.a1 (by decide) rfl 12 rfl (by omega) (by decide) ?_
        refine e_val (y := A 1 12) rfl ?_
        refine e_val (y := nI nr) hG.1.2.2.1 ?_
        refine e_iret (pc := 39) Xc hQ (dT hX7_image 22 rfl) (Nat.le_refl _) (Nat.le_refl _) ?_
        exact ⟨rfl, ⟨_, _, _, hP2, rfl, rfl, rfl, rfl, rfl⟩, (ho.tr ho3)⟩
      · skip
        refine e_aload_n (pc := 9) Xc (dT hX7_image 5 rfl) 0 rfl ?_
        refine gf_X7_15 (pc := 10) Xc (dT hX7_image 6 rfl) hp.o rfl ?_
        refine e_iload_n (pc := 13) Xc (dT hX7_image 7 rfl) 1 rfl ?_
        refine e_aload_n (pc := 14) Xc (dT hX7_image 8 rfl) 0 rfl ?_
        refine gf_X7_9 (pc := 15) Xc (dT hX7_image 9 rfl) hp.o rfl ?_
        refine e_iload_n (pc := 18) Xc (dT hX7_image 10 rfl) 1 rfl ?_
        refine e_ialdN (pc := 19) Xc (dT hX7_image 11 rfl) hp.a1 (by decide) rfl k_ rfl (by omega) (by decide) ?_
        refine e_val (y := A 1 k_) rfl ?_
        refine e_iastN (pc := 20) Xc (dT hX7_image 12 rfl) hp.a2 rfl k_ rfl (by omega) (by decide) ?_
        refine Ev.gen (fun z => PX7 z m F T (upA (upA A 2 (cpF (A 1) (A 2) k_)) 2 (upd (cpF (A 1) (A 2) k_) k_ (A 1 k_)))) (hp.wa2 (g := (upd (cpF (A 1) (A 2) k_) k_ (A 1 k_)))) Off.set (fun σ4 hP5 ho6 => ?_)
        have hP5 : PX7 σ4 m F T (upA A 2 (upd (cpF (A 1) (A 2) k_) k_ (A 1 k_))) := by rw [upA_2] at hP5; exact hP5
        refine e_iincN (a := k_) (b := 1) (L' := [(1, .int (nI (k_ + 1))), (0, .ref m)]) (pc := 21) Xc (dT hX7_image 13 rfl) 1 rfl rfl (by decide) rfl ?_
        refine e_goto (tgt := 2) (pc := 24) Xc (dT hX7_image 14 rfl) rfl ?_
        refine Ev.pick (L' := [(0, .ref m), (1, .int (nI (k_ + 1)))]) [1, 0] rfl ?_
        exact ih2 (k_ + 1) σ4 (by omega) (by omega) (by rw [cpF_s]; exact hP5) (ho.tr ho6)
  show Ev G μ 2 0 0 0 [(0, .ref m)] [] σ
  refine e_iconst (v := 0) (pc := 0) Xc (dT hX7_image 0 rfl) rfl ?_
  refine e_istore_n (L' := [(1, .int 0), (0, .ref m)]) (pc := 1) Xc (dT hX7_image 1 rfl) (by decide) rfl ?_
  refine Ev.pick (L' := [(0, .ref m), (1, .int 0)]) [1, 0] rfl ?_
  exact lp2 ((909 - 0) + 1) 0 σ (Nat.lt_succ_self _) (Nat.zero_le _) (by rw [cpF_0, upA_id]; exact hP) Off.rf
set_option maxRecDepth 100000 in
set_option maxHeartbeats 4000000 in
theorem p_undo {G : xG} {σ : xS} {m : Nat} {X Y bd : Nat → Int32} {hi rn : Int32} (hM : MK σ m X Y bd hi rn) {nr nb ns np nn nt na dy : Nat} {t : xT} (hK : OK X nr nb t ns np nn nt na dy)  : CI G yX7_undo cX7_undo 2 (some .int) 1 0 0 [.ref m] σ (fun z σ1 => z = (v_undo X Y hi).1 ∧ MK σ1 m (v_undo X Y hi).2 Y bd hi rn ∧ Off m σ σ1) := by
  refine Met.ofX (by decide +kernel) (Nat.le_of_ble_eq_true rfl) (fun μ Xc hQ hnm => ?_)
  have Xc : xC G μ cX7_undo 2 RX7 (some .int) 1 0 0 := Xc
  obtain ⟨F, T, A, hP, e1, e2, e3, e4, e5⟩ := hM
  subst e1 e2 e3 e4 e5
  obtain ⟨hG, hT, hS, hPl, hNo, hTa, hA, hJ, hR, hD⟩ := id hK
  have hr4 := hG.r4
  have hb7 := hG.b7
  have hs6 := hS.1
  have hp8 := hPl.1
  have hn8 := hNo.1
  have ht100 := hTa.1
  have ha5 := hA.1
  have hd9 := hD.1
  show Ev G μ 2 0 0 0 [(0, .ref m)] [] σ
  refine e_aload_n (pc := 0) Xc (dT hX7_undo 0 rfl) 0 rfl ?_
  refine gf_X7_330 (pc := 1) Xc (dT hX7_undo 1 rfl) hP.o rfl ?_
  refine e_if_ne (tgt := 10) (pc := 4) Xc (dT hX7_undo 2 rfl) rfl (fun c4 => ?_) (fun c4 => ?_)
  · skip
    refine e_iconst (v := 0) (pc := 10) Xc (dT hX7_undo 5 rfl) rfl ?_
    refine e_istore_n (L' := [(1, .int 0), (0, .ref m)]) (pc := 11) Xc (dT hX7_undo 6 rfl) (by decide) rfl ?_
    have lp12 : ∀ (n12 : Nat) (k_ : Nat) (σ2 : xS), 909 - k_ < n12 → (k_ ≤ 909) → (PX7 σ2 m F T (upA A 1 (cpF (A 2) (A 1) k_))) → (Off m σ σ2) → Ev G μ 2 0 0 12 [(0, .ref m), (1, .int (nI k_))] [] σ2 := by
      intro n12
      induction n12 with
      | zero => intro k_ σ2 hn; exact absurd hn (Nat.not_lt_zero _)
      | succ n12 ih12 =>
        intro k_ σ2 hn12 hk_ hp ho
        refine e_iload_n (pc := 12) Xc (dT hX7_undo 7 rfl) 1 rfl ?_
        refine e_sipush (v := 909) (pc := 13) Xc (dT hX7_undo 8 rfl) rfl ?_
        refine e_icmp_geN (x := k_) (y := 909) (tgt := 37) (pc := 16) Xc (dT hX7_undo 9 rfl) rfl (by omega) (by omega) (fun c16 => ?_) (fun c16 => ?_)
        · skip
          have hke_ : k_ = 909 := by omega
          subst hke_
          refine e_aload_n (pc := 37) Xc (dT hX7_undo 20 rfl) 0 rfl ?_
          refine gf_X7_9 (pc := 38) Xc (dT hX7_undo 21 rfl) hp.o rfl ?_
          refine e_bipush (v := 12) (pc := 41) Xc (dT hX7_undo 22 rfl) rfl ?_
          refine e_ialdN (pc := 43) Xc (dT hX7_undo 23 rfl) hp.a1 (by decide) rfl 12 rfl (by omega) (by decide) ?_
          refine e_val (y := (cpF (A 2) (A 1) 909) 12) rfl ?_
          refine e_iret (pc := 44) Xc hQ (dT hX7_undo 24 rfl) (Nat.le_refl _) (Nat.le_refl _) ?_
          rw [show v_undo (A 1) (A 2) (F 4) = (A 2 12, cpF (A 2) (A 1) 909) from if_neg c4]
          exact ⟨rfl, ⟨_, _, _, hp, rfl, rfl, rfl, rfl, rfl⟩, ho⟩
        · skip
          refine e_aload_n (pc := 19) Xc (dT hX7_undo 10 rfl) 0 rfl ?_
          refine gf_X7_9 (pc := 20) Xc (dT hX7_undo 11 rfl) hp.o rfl ?_
          refine e_iload_n (pc := 23) Xc (dT hX7_undo 12 rfl) 1 rfl ?_
          refine e_aload_n (pc := 24) Xc (dT hX7_undo 13 rfl) 0 rfl ?_
          refine gf_X7_15 (pc := 25) Xc (dT hX7_undo 14 rfl) hp.o rfl ?_
          refine e_iload_n (pc := 28) Xc (dT hX7_undo 15 rfl) 1 rfl ?_
          refine e_ialdN (pc := 29) Xc (dT hX7_undo 16 rfl) hp.a2 (by decide) rfl k_ rfl (by omega) (by decide) ?_
          refine e_val (y := A 2 k_) rfl ?_
          refine e_iastN (pc := 30) Xc (dT hX7_undo 17 rfl) hp.a1 rfl k_ rfl (by omega) (by decide) ?_
          refine Ev.gen (fun z => PX7 z m F T (upA (upA A 1 (cpF (A 2) (A 1) k_)) 1 (upd (cpF (A 2) (A 1) k_) k_ (A 2 k_)))) (hp.wa1 (g := (upd (cpF (A 2) (A 1) k_) k_ (A 2 k_)))) Off.set (fun σ1 hP2 ho3 => ?_)
          have hP2 : PX7 σ1 m F T (upA A 1 (upd (cpF (A 2) (A 1) k_) k_ (A 2 k_))) := by rw [upA_2] at hP2; exact hP2
          refine e_iincN (a := k_) (b := 1) (L' := [(1, .int (nI (k_ + 1))), (0, .ref m)]) (pc := 31) Xc (dT hX7_undo 18 rfl) 1 rfl rfl (by decide) rfl ?_
          refine e_goto (tgt := 12) (pc := 34) Xc (dT hX7_undo 19 rfl) rfl ?_
          refine Ev.pick (L' := [(0, .ref m), (1, .int (nI (k_ + 1)))]) [1, 0] rfl ?_
          exact ih12 (k_ + 1) σ1 (by omega) (by omega) (by rw [cpF_s]; exact hP2) (ho.tr ho3)
    refine Ev.pick (L' := [(0, .ref m), (1, .int 0)]) [1, 0] rfl ?_
    exact lp12 ((909 - 0) + 1) 0 σ (Nat.lt_succ_self _) (Nat.zero_le _) (by rw [cpF_0, upA_id]; exact hP) Off.rf
  · skip
    refine e_bipush (v := -3) (pc := 7) Xc (dT hX7_undo 3 rfl) rfl ?_
    refine e_iret (pc := 9) Xc hQ (dT hX7_undo 4 rfl) (Nat.le_refl _) (Nat.le_refl _) ?_
    rw [show v_undo (A 1) (A 2) (F 4) = (-3, A 1) from if_pos c4]
    exact ⟨rfl, ⟨_, _, _, hP, rfl, rfl, rfl, rfl, rfl⟩, Off.rf⟩
