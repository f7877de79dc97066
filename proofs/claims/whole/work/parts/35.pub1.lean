set_option maxRecDepth 100000 in
set_option maxHeartbeats 4000000 in
theorem p_feed {G : xG} {σ : xS} {m : Nat} {X Y bd : Nat → Int32} {hi rn : Int32} (hM : MK σ m X Y bd hi rn) {nr nb ns np nn nt na dy : Nat} {t : xT} (hK : OK X nr nb t ns np nn nt na dy) (s : Int32) : CI G yX7_feed cX7_feed 2 (some .int) 1 0 0 [.ref m, .int s] σ (fun z σ1 => z = (v_feed X nt s).1 ∧ MK σ1 m (v_feed X nt s).2 Y bd hi rn ∧ Off m σ σ1) := by
  refine Met.ofX (by decide +kernel) (Nat.le_of_ble_eq_true rfl) (fun μ Xc hQ hnm => ?_)
  have Xc : xC G μ cX7_feed 2 RX7 (some .int) 1 0 0 := Xc
  obtain ⟨F, T, A, hP, e1, e2, e3, e4, e5⟩ := hM
  subst e1 e2 e3 e4 e5
  obtain ⟨hG, hT, hS, hPl, hNo, hTa, hA, hJ, hR, hD⟩ := id hK
  have hr4 := hG.r4
  have hb7 := hG.b7
  have hs6 := hS.1
  have hp8 := hPl.1
  have hn8 := hNo.1
  have ht100 := hTa.1
  have ha5 := hA.1
  have hd9 := hD.1
  show Ev G μ 2 0 0 0 [(0, .ref m), (1, .int s)] [] σ
  refine e_iload_n (pc := 0) Xc (dT hX7_feed 0 rfl) 1 rfl ?_
  refine e_iconst (v := 0) (pc := 1) Xc (dT hX7_feed 1 rfl) rfl ?_
  refine e_bipush (v := 127) (pc := 2) Xc (dT hX7_feed 2 rfl) rfl ?_
  refine cl_X7_50 (pc := 4) (k := 0) (n := 0) (S := []) Xc (c_in s 0 127) (dT hX7_feed 3 rfl) rfl (Nat.le_of_ble_eq_true rfl) (Nat.le_of_ble_eq_true rfl) (Nat.le_of_ble_eq_true rfl) rfl (Nat.le_of_ble_eq_true rfl) (fun r1 σ2 hq3 => ?_)
  obtain ⟨r1e, r1s⟩ := hq3
  have r1e := r1e.symm; subst r1e; have r1s := r1s.symm; subst r1s
  refine e_if_ne (tgt := 13) (pc := 7) Xc (dT hX7_feed 4 rfl) rfl (fun c7 => ?_) (fun c7 => ?_)
  · skip
    refine e_aload_n (pc := 13) Xc (dT hX7_feed 7 rfl) 0 rfl ?_
    refine gf_X7_9 (pc := 14) Xc (dT hX7_feed 8 rfl) hP.o rfl ?_
    refine e_bipush (v := 18) (pc := 17) Xc (dT hX7_feed 9 rfl) rfl ?_
    refine e_ialdN (pc := 19) Xc (dT hX7_feed 10 rfl) hP.a1 (by decide) rfl 18 rfl (by omega) (by decide) ?_
    refine e_val (y := nI nt) hTa.2.1 ?_
    refine e_bipush (v := 100) (pc := 20) Xc (dT hX7_feed 11 rfl) rfl ?_
    refine e_icmp_neN (x := nt) (y := 100) (tgt := 28) (pc := 22) Xc (dT hX7_feed 12 rfl) rfl (by omega) (by omega) (fun c22 => ?_) (fun c22 => ?_)
    · skip
      refine e_aload_n (pc := 28) Xc (dT hX7_feed 15 rfl) 0 rfl ?_
      refine gf_X7_9 (pc := 29) Xc (dT hX7_feed 16 rfl) hP.o rfl ?_
      refine e_bipush (v := 94) (pc := 32) Xc (dT hX7_feed 17 rfl) rfl ?_
      refine e_aload_n (pc := 34) Xc (dT hX7_feed 18 rfl) 0 rfl ?_
      refine gf_X7_9 (pc := 35) Xc (dT hX7_feed 19 rfl) hP.o rfl ?_
      refine e_bipush (v := 18) (pc := 38) Xc (dT hX7_feed 20 rfl) rfl ?_
      refine e_ialdN (pc := 40) Xc (dT hX7_feed 21 rfl) hP.a1 (by decide) rfl 18 rfl (by omega) (by decide) ?_
      refine e_val (y := nI nt) hTa.2.1 ?_
      refine e_iaddN (a := 94) (b := nt) (pc := 41) Xc (dT hX7_feed 22 rfl) ?_
      refine e_iload_n (pc := 42) Xc (dT hX7_feed 23 rfl) 1 rfl ?_
      refine e_iastN (pc := 43) Xc (dT hX7_feed 24 rfl) hP.a1 rfl (94 + nt) rfl (by omega) (by decide) ?_
      refine Ev.gen (fun z => PX7 z m F T (upA A 1 (upd (A 1) (94 + nt) s))) (hP.wa1 (g := (upd (A 1) (94 + nt) s))) Off.set (fun σ4 hP5 ho6 => ?_)
      refine e_aload_n (pc := 44) Xc (dT hX7_feed 25 rfl) 0 rfl ?_
      refine gf_X7_9 (pc := 45) Xc (dT hX7_feed 26 rfl) hP5.o rfl ?_
      refine e_bipush (v := 18) (pc := 48) Xc (dT hX7_feed 27 rfl) rfl ?_
      refine e_dup2 (pc := 50) Xc (dT hX7_feed 28 rfl) rfl rfl ?_
      refine e_ialdN (pc := 51) Xc (dT hX7_feed 29 rfl) hP5.a1 (by decide) rfl 18 rfl (by omega) (by decide) ?_
      refine e_val (y := (upd (A 1) (94 + nt) s) 18) rfl ?_
      refine e_val (y := A 1 18) (upd_n (by omega)) ?_
      refine e_val (y := nI nt) hTa.2.1 ?_
      refine e_iconst (v := 1) (pc := 52) Xc (dT hX7_feed 30 rfl) rfl ?_
      refine e_iaddN (a := nt) (b := 1) (pc := 53) Xc (dT hX7_feed 31 rfl) ?_
      refine e_iastN (pc := 54) Xc (dT hX7_feed 32 rfl) hP5.a1 rfl 18 rfl (by omega) (by decide) ?_
      refine Ev.gen (fun z => PX7 z m F T (upA (upA A 1 (upd (A 1) (94 + nt) s)) 1 (upd (upd (A 1) (94 + nt) s) 18 (nI (nt + 1))))) (hP5.wa1 (g := (upd (upd (A 1) (94 + nt) s) 18 (nI (nt + 1))))) Off.set (fun σ7 hP8 ho9 => ?_)
      have hP8 : PX7 σ7 m F T (upA A 1 (upd (upd (A 1) (94 + nt) s) 18 (nI (nt + 1)))) := by rw [upA_2] at hP8; exact hP8
      refine e_aload_n (pc := 55) Xc (dT hX7_feed 33 rfl) 0 rfl ?_
      refine gf_X7_9 (pc := 56) Xc (dT hX7_feed 34 rfl) hP8.o rfl ?_
      refine e_bipush (v := 18) (pc := 59) Xc (dT hX7_feed 35 rfl) rfl ?_
      refine e_ialdN (pc := 61) Xc (dT hX7_feed 36 rfl) hP8.a1 (by decide) rfl 18 rfl (by omega) (by decide) ?_
      refine e_val (y := (upd (upd (A 1) (94 + nt) s) 18 (nI (nt + 1))) 18) rfl ?_
      refine e_val (y := nI (nt + 1)) upd_s ?_
      refine e_iret (pc := 62) Xc hQ (dT hX7_feed 37 rfl) (Nat.le_refl _) (Nat.le_refl _) ?_
      have hz : v_feed (A 1) nt s = (nI (nt + 1), (upd (upd (A 1) (94 + nt) s) 18 (nI (nt + 1)))) := by
        try simp only [bI_0, bI_1, Bool.not_eq_true, Bool.not_eq_false] at c7 c22
        first | (simp [v_feed, c7, c22]; done) | (clear hK hG hT hS hPl hNo hTa hA hJ hR hD hQ Xc; simp_all [v_feed]; done)
      rw [hz]
      exact ⟨rfl, ⟨_, _, _, hP8, rfl, rfl, rfl, rfl, rfl⟩, (ho6.tr ho9)⟩
    · skip
      refine e_bipush (v := -4) (pc := 25) Xc (dT hX7_feed 13 rfl) rfl ?_
      refine e_iret (pc := 27) Xc hQ (dT hX7_feed 14 rfl) (Nat.le_refl _) (Nat.le_refl _) ?_
      have hz : v_feed (A 1) nt s = ((-4), A 1) := by
        try simp only [bI_0, bI_1, Bool.not_eq_true, Bool.not_eq_false] at c7 c22
        first | (simp [v_feed, c7, c22]; done) | (clear hK hG hT hS hPl hNo hTa hA hJ hR hD hQ Xc; simp_all [v_feed]; done)
      rw [hz]
      exact ⟨rfl, ⟨_, _, _, hP, rfl, rfl, rfl, rfl, rfl⟩, Off.rf⟩
  · skip
    refine e_bipush (v := -2) (pc := 10) Xc (dT hX7_feed 5 rfl) rfl ?_
    refine e_iret (pc := 12) Xc hQ (dT hX7_feed 6 rfl) (Nat.le_refl _) (Nat.le_refl _) ?_
    have hz : v_feed (A 1) nt s = ((-2), A 1) := by
      try simp only [bI_0, bI_1, Bool.not_eq_true, Bool.not_eq_false] at c7
      first | (simp [v_feed, c7]; done) | (clear hK hG hT hS hPl hNo hTa hA hJ hR hD hQ Xc; simp_all [v_feed]; done)
    rw [hz]
    exact ⟨rfl, ⟨_, _, _, hP, rfl, rfl, rfl, rfl, rfl⟩, Off.rf⟩
set_option maxRecDepth 100000 in
set_option maxHeartbeats 4000000 in
theorem p_book {G : xG} {σ : xS} {m : Nat} {X Y bd : Nat → Int32} {hi rn : Int32} (hM : MK σ m X Y bd hi rn) {nr nb ns np nn nt na dy : Nat} {t : xT} (hK : OK X nr nb t ns np nn nt na dy) (th : Int32) : CI G yX7_book cX7_book 2 (some .int) 1 0 0 [.ref m, .int th] σ (fun z σ1 => z = (v_book X nb th).1 ∧ MK σ1 m (v_book X nb th).2 Y bd hi rn ∧ Off m σ σ1) := by
  refine Met.ofX (by decide +kernel) (Nat.le_of_ble_eq_true rfl) (fun μ Xc hQ hnm => ?_)
  have Xc : xC G μ cX7_book 2 RX7 (some .int) 1 0 0 := Xc
  obtain ⟨F, T, A, hP, e1, e2, e3, e4, e5⟩ := hM
  subst e1 e2 e3 e4 e5
  obtain ⟨hG, hT, hS, hPl, hNo, hTa, hA, hJ, hR, hD⟩ := id hK
  have hr4 := hG.r4
  have hb7 := hG.b7
  have hs6 := hS.1
  have hp8 := hPl.1
  have hn8 := hNo.1
  have ht100 := hTa.1
  have ha5 := hA.1
  have hd9 := hD.1
  show Ev G μ 2 0 0 0 [(0, .ref m), (1, .int th)] [] σ
  refine e_iload_n (pc := 0) Xc (dT hX7_book 0 rfl) 1 rfl ?_
  refine e_iconst (v := 1) (pc := 1) Xc (dT hX7_book 1 rfl) rfl ?_
  refine e_bipush (v := 99) (pc := 2) Xc (dT hX7_book 2 rfl) rfl ?_
  refine cl_X7_50 (pc := 4) (k := 0) (n := 0) (S := []) Xc (c_in th 1 99) (dT hX7_book 3 rfl) rfl (Nat.le_of_ble_eq_true rfl) (Nat.le_of_ble_eq_true rfl) (Nat.le_of_ble_eq_true rfl) rfl (Nat.le_of_ble_eq_true rfl) (fun r1 σ2 hq3 => ?_)
  obtain ⟨r1e, r1s⟩ := hq3
  have r1e := r1e.symm; subst r1e; have r1s := r1s.symm; subst r1s
  refine e_if_ne (tgt := 13) (pc := 7) Xc (dT hX7_book 4 rfl) rfl (fun c7 => ?_) (fun c7 => ?_)
  · skip
    refine e_aload_n (pc := 13) Xc (dT hX7_book 7 rfl) 0 rfl ?_
    refine gf_X7_9 (pc := 14) Xc (dT hX7_book 8 rfl) hP.o rfl ?_
    refine e_bipush (v := 13) (pc := 17) Xc (dT hX7_book 9 rfl) rfl ?_
    refine e_ialdN (pc := 19) Xc (dT hX7_book 10 rfl) hP.a1 (by decide) rfl 13 rfl (by omega) (by decide) ?_
    refine e_val (y := nI nb) hG.1.2.2.2 ?_
    refine e_bipush (v := 7) (pc := 20) Xc (dT hX7_book 11 rfl) rfl ?_
    refine e_icmp_neN (x := nb) (y := 7) (tgt := 28) (pc := 22) Xc (dT hX7_book 12 rfl) rfl (by omega) (by omega) (fun c22 => ?_) (fun c22 => ?_)
    · skip
      refine e_aload_n (pc := 28) Xc (dT hX7_book 15 rfl) 0 rfl ?_
      refine gf_X7_9 (pc := 29) Xc (dT hX7_book 16 rfl) hP.o rfl ?_
      refine e_iconst (v := 5) (pc := 32) Xc (dT hX7_book 17 rfl) rfl ?_
      refine e_aload_n (pc := 33) Xc (dT hX7_book 18 rfl) 0 rfl ?_
      refine gf_X7_9 (pc := 34) Xc (dT hX7_book 19 rfl) hP.o rfl ?_
      refine e_bipush (v := 13) (pc := 37) Xc (dT hX7_book 20 rfl) rfl ?_
      refine e_ialdN (pc := 39) Xc (dT hX7_book 21 rfl) hP.a1 (by decide) rfl 13 rfl (by omega) (by decide) ?_
      refine e_val (y := nI nb) hG.1.2.2.2 ?_
      refine e_iaddN (a := 5) (b := nb) (pc := 40) Xc (dT hX7_book 22 rfl) ?_
      refine e_iload_n (pc := 41) Xc (dT hX7_book 23 rfl) 1 rfl ?_
      refine e_iastN (pc := 42) Xc (dT hX7_book 24 rfl) hP.a1 rfl (5 + nb) rfl (by omega) (by decide) ?_
      refine Ev.gen (fun z => PX7 z m F T (upA A 1 (upd (A 1) (5 + nb) th))) (hP.wa1 (g := (upd (A 1) (5 + nb) th))) Off.set (fun σ4 hP5 ho6 => ?_)
      refine e_aload_n (pc := 43) Xc (dT hX7_book 25 rfl) 0 rfl ?_
      refine gf_X7_9 (pc := 44) Xc (dT hX7_book 26 rfl) hP5.o rfl ?_
      refine e_bipush (v := 13) (pc := 47) Xc (dT hX7_book 27 rfl) rfl ?_
      refine e_dup2 (pc := 49) Xc (dT hX7_book 28 rfl) rfl rfl ?_
      refine e_ialdN (pc := 50) Xc (dT hX7_book 29 rfl) hP5.a1 (by decide) rfl 13 rfl (by omega) (by decide) ?_
      refine e_val (y := (upd (A 1) (5 + nb) th) 13) rfl ?_
      refine e_val (y := A 1 13) (upd_n (by omega)) ?_
      refine e_val (y := nI nb) hG.1.2.2.2 ?_
      refine e_iconst (v := 1) (pc := 51) Xc (dT hX7_book 30 rfl) rfl ?_
      refine e_iaddN (a := nb) (b := 1) (pc := 52) Xc (dT hX7_book 31 rfl) ?_
      refine e_iastN (pc := 53) Xc (dT hX7_book 32 rfl) hP5.a1 rfl 13 rfl (by omega) (by decide) ?_
      refine Ev.gen (fun z => PX7 z m F T (upA (upA A 1 (upd (A 1) (5 + nb) th)) 1 (upd (upd (A 1) (5 + nb) th) 13 (nI (nb + 1))))) (hP5.wa1 (g := (upd (upd (A 1) (5 + nb) th) 13 (nI (nb + 1))))) Off.set (fun σ7 hP8 ho9 => ?_)
      have hP8 : PX7 σ7 m F T (upA A 1 (upd (upd (A 1) (5 + nb) th) 13 (nI (nb + 1)))) := by rw [upA_2] at hP8; exact hP8
      refine e_aload_n (pc := 54) Xc (dT hX7_book 33 rfl) 0 rfl ?_
      refine gf_X7_9 (pc := 55) Xc (dT hX7_book 34 rfl) hP8.o rfl ?_
      refine e_bipush (v := 13) (pc := 58) Xc (dT hX7_book 35 rfl) rfl ?_
      refine e_ialdN (pc := 60) Xc (dT hX7_book 36 rfl) hP8.a1 (by decide) rfl 13 rfl (by omega) (by decide) ?_
      refine e_val (y := (upd (upd (A 1) (5 + nb) th) 13 (nI (nb + 1))) 13) rfl ?_
      refine e_val (y := nI (nb + 1)) upd_s ?_
      refine e_iconst (v := 1) (pc := 61) Xc (dT hX7_book 37 rfl) rfl ?_
      refine e_isubN (a := nb + 1) (b := 1) (pc := 62) Xc (dT hX7_book 38 rfl) (by omega) ?_
      refine e_val (y := nI nb) rfl ?_
      refine e_iret (pc := 63) Xc hQ (dT hX7_book 39 rfl) (Nat.le_refl _) (Nat.le_refl _) ?_
      have hz : v_book (A 1) nb th = (nI nb, (upd (upd (A 1) (5 + nb) th) 13 (nI (nb + 1)))) := by
        try simp only [bI_0, bI_1, Bool.not_eq_true, Bool.not_eq_false] at c7 c22
        first | (simp [v_book, c7, c22]; done) | (clear hK hG hT hS hPl hNo hTa hA hJ hR hD hQ Xc; simp_all [v_book]; done)
      rw [hz]
      exact ⟨rfl, ⟨_, _, _, hP8, rfl, rfl, rfl, rfl, rfl⟩, (ho6.tr ho9)⟩
    · skip
      refine e_bipush (v := -4) (pc := 25) Xc (dT hX7_book 13 rfl) rfl ?_
      refine e_iret (pc := 27) Xc hQ (dT hX7_book 14 rfl) (Nat.le_refl _) (Nat.le_refl _) ?_
      have hz : v_book (A 1) nb th = ((-4), A 1) := by
        try simp only [bI_0, bI_1, Bool.not_eq_true, Bool.not_eq_false] at c7 c22
        first | (simp [v_book, c7, c22]; done) | (clear hK hG hT hS hPl hNo hTa hA hJ hR hD hQ Xc; simp_all [v_book]; done)
      rw [hz]
      exact ⟨rfl, ⟨_, _, _, hP, rfl, rfl, rfl, rfl, rfl⟩, Off.rf⟩
  · skip
    refine e_bipush (v := -2) (pc := 10) Xc (dT hX7_book 5 rfl) rfl ?_
    refine e_iret (pc := 12) Xc hQ (dT hX7_book 6 rfl) (Nat.le_refl _) (Nat.le_refl _) ?_
    have hz : v_book (A 1) nb th = ((-2), A 1) := by
      try simp only [bI_0, bI_1, Bool.not_eq_true, Bool.not_eq_false] at c7
      first | (simp [v_book, c7]; done) | (clear hK hG hT hS hPl hNo hTa hA hJ hR hD hQ Xc; simp_all [v_book]; done)
    rw [hz]
    exact ⟨rfl, ⟨_, _, _, hP, rfl, rfl, rfl, rfl, rfl⟩, Off.rf⟩
set_option maxRecDepth 100000 in
set_option maxHeartbeats 4000000 in
theorem p_reader {G : xG} {σ : xS} {m : Nat} {X Y bd : Nat → Int32} {hi rn : Int32} (hM : MK σ m X Y bd hi rn) {nr nb ns np nn nt na dy : Nat} {t : xT} (hK : OK X nr nb t ns np nn nt na dy) (k : Int32) (v : Int32) : CI G yX7_reader cX7_reader 5 (some .int) 1 0 0 [.ref m, .int k, .int v] σ (fun z σ1 => z = (v_reader X nr k v).1 ∧ MK σ1 m (v_reader X nr k v).2 Y bd hi rn ∧ Off m σ σ1) := by
  refine Met.ofX (by decide +kernel) (Nat.le_of_ble_eq_true rfl) (fun μ Xc hQ hnm => ?_)
  have Xc : xC G μ cX7_reader 5 RX7 (some .int) 1 0 0 := Xc
  obtain ⟨F, T, A, hP, e1, e2, e3, e4, e5⟩ := hM
  subst e1 e2 e3 e4 e5
  obtain ⟨hG, hT, hS, hPl, hNo, hTa, hA, hJ, hR, hD⟩ := id hK
  have hr4 := hG.r4
  have hb7 := hG.b7
  have hs6 := hS.1
  have hp8 := hPl.1
  have hn8 := hNo.1
  have ht100 := hTa.1
  have ha5 := hA.1
  have hd9 := hD.1
  show Ev G μ 5 0 0 0 [(0, .ref m), (1, .int k), (2, .int v)] [] σ
  refine e_iload_n (pc := 0) Xc (dT hX7_reader 0 rfl) 1 rfl ?_
  refine e_iconst (v := 0) (pc := 1) Xc (dT hX7_reader 1 rfl) rfl ?_
  refine e_bipush (v := 6) (pc := 2) Xc (dT hX7_reader 2 rfl) rfl ?_
  refine cl_X7_50 (pc := 4) (k := 0) (n := 0) (S := []) Xc (c_in k 0 6) (dT hX7_reader 3 rfl) rfl (Nat.le_of_ble_eq_true rfl) (Nat.le_of_ble_eq_true rfl) (Nat.le_of_ble_eq_true rfl) rfl (Nat.le_of_ble_eq_true rfl) (fun r1 σ2 hq3 => ?_)
  obtain ⟨r1e, r1s⟩ := hq3
  have r1e := r1e.symm; subst r1e; have r1s := r1s.symm; subst r1s
  refine e_if_ne (tgt := 12) (pc := 7) Xc (dT hX7_reader 4 rfl) rfl (fun c7 => ?_) (fun c7 => ?_)
  · skip
    refine e_iload_n (pc := 12) Xc (dT hX7_reader 7 rfl) 2 rfl ?_
    refine e_iconst (v := 0) (pc := 13) Xc (dT hX7_reader 8 rfl) rfl ?_
    refine e_bipush (v := 9) (pc := 14) Xc (dT hX7_reader 9 rfl) rfl ?_
    refine cl_X7_50 (pc := 16) (k := 0) (n := 0) (S := []) Xc (c_in v 0 9) (dT hX7_reader 10 rfl) rfl (Nat.le_of_ble_eq_true rfl) (Nat.le_of_ble_eq_true rfl) (Nat.le_of_ble_eq_true rfl) rfl (Nat.le_of_ble_eq_true rfl) (fun r4 σ5 hq6 => ?_)
    obtain ⟨r4e, r4s⟩ := hq6
    have r4e := r4e.symm; subst r4e; have r4s := r4s.symm; subst r4s
    refine e_if_ne (tgt := 25) (pc := 19) Xc (dT hX7_reader 11 rfl) rfl (fun c19 => ?_) (fun c19 => ?_)
    · skip
      refine e_aload_n (pc := 25) Xc (dT hX7_reader 14 rfl) 0 rfl ?_
      refine gf_X7_9 (pc := 26) Xc (dT hX7_reader 15 rfl) hP.o rfl ?_
      refine e_bipush (v := 12) (pc := 29) Xc (dT hX7_reader 16 rfl) rfl ?_
      refine e_ialdN (pc := 31) Xc (dT hX7_reader 17 rfl) hP.a1 (by decide) rfl 12 rfl (by omega) (by decide) ?_
      refine e_val (y := nI nr) hG.1.2.2.1 ?_
      refine e_iconst (v := 4) (pc := 32) Xc (dT hX7_reader 18 rfl) rfl ?_
      refine e_icmp_neN (x := nr) (y := 4) (tgt := 39) (pc := 33) Xc (dT hX7_reader 19 rfl) rfl (by omega) (by omega) (fun c33 => ?_) (fun c33 => ?_)
      · skip
        refine e_aload_n (pc := 39) Xc (dT hX7_reader 22 rfl) 0 rfl ?_
        refine gf_X7_9 (pc := 40) Xc (dT hX7_reader 23 rfl) hP.o rfl ?_
        refine e_bipush (v := 12) (pc := 43) Xc (dT hX7_reader 24 rfl) rfl ?_
        refine e_ialdN (pc := 45) Xc (dT hX7_reader 25 rfl) hP.a1 (by decide) rfl 12 rfl (by omega) (by decide) ?_
        refine e_val (y := nI nr) hG.1.2.2.1 ?_
        refine e_istore_n (L' := [(3, .int (nI nr)), (0, .ref m), (1, .int k), (2, .int v)]) (pc := 46) Xc (dT hX7_reader 26 rfl) (by decide) rfl ?_
        refine e_aload_n (pc := 47) Xc (dT hX7_reader 27 rfl) 1 rfl ?_
        refine gf_X7_9 (pc := 48) Xc (dT hX7_reader 28 rfl) hP.o rfl ?_
        refine e_bipush (v := 20) (pc := 51) Xc (dT hX7_reader 29 rfl) rfl ?_
        refine e_iload_n (pc := 53) Xc (dT hX7_reader 30 rfl) 0 rfl ?_
        refine e_iaddN (a := 20) (b := nr) (pc := 54) Xc (dT hX7_reader 31 rfl) ?_
        refine e_iload_n (pc := 55) Xc (dT hX7_reader 32 rfl) 2 rfl ?_
        refine e_iastN (pc := 56) Xc (dT hX7_reader 33 rfl) hP.a1 rfl (20 + nr) rfl (by omega) (by decide) ?_
        refine Ev.gen (fun z => PX7 z m F T (upA A 1 (upd (A 1) (20 + nr) k))) (hP.wa1 (g := (upd (A 1) (20 + nr) k))) Off.set (fun σ7 hP8 ho9 => ?_)
        refine e_aload_n (pc := 57) Xc (dT hX7_reader 34 rfl) 1 rfl ?_
        refine gf_X7_9 (pc := 58) Xc (dT hX7_reader 35 rfl) hP8.o rfl ?_
        refine e_bipush (v := 24) (pc := 61) Xc (dT hX7_reader 36 rfl) rfl ?_
        refine e_iload_n (pc := 63) Xc (dT hX7_reader 37 rfl) 0 rfl ?_
        refine e_iaddN (a := 24) (b := nr) (pc := 64) Xc (dT hX7_reader 38 rfl) ?_
        refine e_iload_n (pc := 65) Xc (dT hX7_reader 39 rfl) 3 rfl ?_
        refine e_iastN (pc := 66) Xc (dT hX7_reader 40 rfl) hP8.a1 rfl (24 + nr) rfl (by omega) (by decide) ?_
        refine Ev.gen (fun z => PX7 z m F T (upA (upA A 1 (upd (A 1) (20 + nr) k)) 1 (upd (upd (A 1) (20 + nr) k) (24 + nr) v))) (hP8.wa1 (g := (upd (upd (A 1) (20 + nr) k) (24 + nr) v))) Off.set (fun σ10 hP11 ho12 => ?_)
        have hP11 : PX7 σ10 m F T (upA A 1 (upd (upd (A 1) (20 + nr) k) (24 + nr) v)) := by rw [upA_2] at hP11; exact hP11
        refine e_aload_n (pc := 67) Xc (dT hX7_reader 41 rfl) 1 rfl ?_
        refine gf_X7_9 (pc := 68) Xc (dT hX7_reader 42 rfl) hP11.o rfl ?_
        refine e_iconst (v := 1) (pc := 71) Xc (dT hX7_reader 43 rfl) rfl ?_
        refine e_iload_n (pc := 72) Xc (dT hX7_reader 44 rfl) 0 rfl ?_
        refine e_iaddN (a := 1) (b := nr) (pc := 73) Xc (dT hX7_reader 45 rfl) ?_
        refine e_iconst (v := -1) (pc := 74) Xc (dT hX7_reader 46 rfl) rfl ?_
        refine e_iastN (pc := 75) Xc (dT hX7_reader 47 rfl) hP11.a1 rfl (1 + nr) rfl (by omega) (by decide) ?_
        refine Ev.gen (fun z => PX7 z m F T (upA (upA A 1 (upd (upd (A 1) (20 + nr) k) (24 + nr) v)) 1 (upd (upd (upd (A 1) (20 + nr) k) (24 + nr) v) (1 + nr) (-1)))) (hP11.wa1 (g := (upd (upd (upd (A 1) (20 + nr) k) (24 + nr) v) (1 + nr) (-1)))) Off.set (fun σ13 hP14 ho15 => ?_)
        have hP14 : PX7 σ13 m F T (upA A 1 (upd (upd (upd (A 1) (20 + nr) k) (24 + nr) v) (1 + nr) (-1))) := by rw [upA_2] at hP14; exact hP14
        refine e_iconst (v := 0) (pc := 76) Xc (dT hX7_reader 48 rfl) rfl ?_
        refine e_istore (L' := [(4, .int 0), (3, .int (nI nr)), (0, .ref m), (1, .int k), (2, .int v)]) (pc := 77) Xc (dT hX7_reader 49 rfl) (by decide) rfl ?_
        have lp79 : ∀ (n79 : Nat) (k_ : Nat) (σ2 : xS), 4 - k_ < n79 → (k_ ≤ 4) → (PX7 σ2 m F T (upA A 1 (upd (upd (upd (A 1) (20 + nr) k) (24 + nr) v) (1 + nr) (-1)))) → (Off m σ σ2) → Ev G μ 5 0 0 79 [(0, .ref m), (1, .int k), (2, .int v), (3, .int (nI nr)), (4, .int (nI k_))] [] σ2 := by
          intro n79
          induction n79 with
          | zero => intro k_ σ2 hn; exact absurd hn (Nat.not_lt_zero _)
          | succ n79 ih79 =>
            intro k_ σ2 hn79 hk_ hp ho
            refine e_iload (pc := 79) Xc (dT hX7_reader 50 rfl) 4 rfl ?_
            refine e_iconst (v := 4) (pc := 81) Xc (dT hX7_reader 51 rfl) rfl ?_
            refine e_icmp_geN (x := k_) (y := 4) (tgt := 106) (pc := 82) Xc (dT hX7_reader 52 rfl) rfl (by omega) (by omega) (fun c82 => ?_) (fun c82 => ?_)
            · skip
              refine e_aload_n (pc := 106) Xc (dT hX7_reader 66 rfl) 0 rfl ?_
              refine gf_X7_9 (pc := 107) Xc (dT hX7_reader 67 rfl) hp.o rfl ?_
              refine e_bipush (v := 12) (pc := 110) Xc (dT hX7_reader 68 rfl) rfl ?_
              refine e_dup2 (pc := 112) Xc (dT hX7_reader 69 rfl) rfl rfl ?_
              refine e_ialdN (pc := 113) Xc (dT hX7_reader 70 rfl) hp.a1 (by decide) rfl 12 rfl (by omega) (by decide) ?_
              refine e_val (y := (upd (upd (upd (A 1) (20 + nr) k) (24 + nr) v) (1 + nr) (-1)) 12) rfl ?_
              refine e_val (y := A 1 12) ((upd_n (by omega)).trans ((upd_n (by omega)).trans (upd_n (by omega)))) ?_
              refine e_val (y := nI nr) hG.1.2.2.1 ?_
              refine e_iconst (v := 1) (pc := 114) Xc (dT hX7_reader 71 rfl) rfl ?_
              refine e_iaddN (a := nr) (b := 1) (pc := 115) Xc (dT hX7_reader 72 rfl) ?_
              refine e_iastN (pc := 116) Xc (dT hX7_reader 73 rfl) hp.a1 rfl 12 rfl (by omega) (by decide) ?_
              refine Ev.gen (fun z => PX7 z m F T (upA (upA A 1 (upd (upd (upd (A 1) (20 + nr) k) (24 + nr) v) (1 + nr) (-1))) 1 (upd (upd (upd (upd (A 1) (20 + nr) k) (24 + nr) v) (1 + nr) (-1)) 12 (nI (nr + 1))))) (hp.wa1 (g := (upd (upd (upd (upd (A 1) (20 + nr) k) (24 + nr) v) (1 + nr) (-1)) 12 (nI (nr + 1))))) Off.set (fun σ16 hP17 ho18 => ?_)
              refine e_iload_n (pc := 117) Xc (dT hX7_reader 74 rfl) 3 rfl ?_
              refine e_iret (pc := 118) Xc hQ (dT hX7_reader 75 rfl) (Nat.le_refl _) (Nat.le_refl _) ?_
              have hz : v_reader (A 1) nr k v = (nI nr, (upd (upd (upd (upd (A 1) (20 + nr) k) (24 + nr) v) (1 + nr) (-1)) 12 (nI (nr + 1)))) := by
                try simp only [bI_0, bI_1, Bool.not_eq_true, Bool.not_eq_false] at c7 c19 c33 c82
                first | (simp [v_reader, c7, c19, c33, c82]; done) | (clear hK hG hT hS hPl hNo hTa hA hJ hR hD hQ Xc; simp_all [v_reader]; done)
              rw [hz]
              exact ⟨rfl, ⟨_, _, _, hP17, rfl, rfl, rfl, rfl, rfl⟩, (ho.tr ho18)⟩
            · skip
              refine e_aload_n (pc := 85) Xc (dT hX7_reader 53 rfl) 0 rfl ?_
              refine gf_X7_9 (pc := 86) Xc (dT hX7_reader 54 rfl) hp.o rfl ?_
              refine e_bipush (v := 28) (pc := 89) Xc (dT hX7_reader 55 rfl) rfl ?_
              refine e_iconst (v := 4) (pc := 91) Xc (dT hX7_reader 56 rfl) rfl ?_
              refine e_iload_n (pc := 92) Xc (dT hX7_reader 57 rfl) 3 rfl ?_
              refine e_imulN (a := 4) (b := nr) (pc := 93) Xc (dT hX7_reader 58 rfl) ?_
              refine e_iaddN (a := 28) (b := 4 * nr) (pc := 94) Xc (dT hX7_reader 59 rfl) ?_
              refine e_iload (pc := 95) Xc (dT hX7_reader 60 rfl) 4 rfl ?_
              refine e_iaddN (a := 28 + (4 * nr)) (b := k_) (pc := 97) Xc (dT hX7_reader 61 rfl) ?_
              refine e_iconst (v := 0) (pc := 98) Xc (dT hX7_reader 62 rfl) rfl ?_
              refine e_iastN (pc := 99) Xc (dT hX7_reader 63 rfl) hp.a1 rfl ((28 + (4 * nr)) + k_) rfl (by omega) (by decide) ?_
              refine Ev.gen (fun z => PX7 z m F T (upA (upA A 1 (upd (upd (upd (A 1) (20 + nr) k) (24 + nr) v) (1 + nr) (-1))) 1 (upd (upd (upd (upd (A 1) (20 + nr) k) (24 + nr) v) (1 + nr) (-1)) ((28 + (4 * nr)) + k_) 0))) (hp.wa1 (g := (upd (upd (upd (upd (A 1) (20 + nr) k) (24 + nr) v) (1 + nr) (-1)) ((28 + (4 * nr)) + k_) 0))) Off.set (fun σ19 hP20 ho21 => ?_)
              refine e_iincN (a := k_) (b := 1) (L' := [(4, .int (nI (k_ + 1))), (0, .ref m), (1, .int k), (2, .int v), (3, .int (nI nr))]) (pc := 100) Xc (dT hX7_reader 64 rfl) 4 rfl rfl (by decide) rfl ?_
              refine e_goto (tgt := 79) (pc := 103) Xc (dT hX7_reader 65 rfl) rfl ?_
              refine Ev.pick (L' := [(0, .ref m), (1, .int k), (2, .int v), (3, .int (nI nr)), (4, .int (nI (k_ + 1)))]) [1, 2, 3, 4, 0] rfl ?_
              exact ih79 (k_ + 1) σ19 (by omega) (by omega) (by rw [zero_id (by rw [upd_n (by omega), upd_n (by omega), upd_n (by omega)]; have := hR (4 * nr + k_) (by omega) (by omega); rwa [show 28 + (4 * nr + k_) = 28 + 4 * nr + k_ by omega] at this)] at hP20; exact hP20) (ho.tr ho21)
        refine Ev.pick (L' := [(0, .ref m), (1, .int k), (2, .int v), (3, .int (nI nr)), (4, .int 0)]) [2, 3, 4, 1, 0] rfl ?_
        exact lp79 ((4 - 0) + 1) 0 σ13 (Nat.lt_succ_self _) (Nat.zero_le _) hP14 ((ho9.tr ho12).tr ho15)
      · skip
        refine e_bipush (v := -4) (pc := 36) Xc (dT hX7_reader 20 rfl) rfl ?_
        refine e_iret (pc := 38) Xc hQ (dT hX7_reader 21 rfl) (Nat.le_refl _) (Nat.le_refl _) ?_
        have hz : v_reader (A 1) nr k v = ((-4), A 1) := by
          try simp only [bI_0, bI_1, Bool.not_eq_true, Bool.not_eq_false] at c7 c19 c33
          first | (simp [v_reader, c7, c19, c33]; done) | (clear hK hG hT hS hPl hNo hTa hA hJ hR hD hQ Xc; simp_all [v_reader]; done)
        rw [hz]
        exact ⟨rfl, ⟨_, _, _, hP, rfl, rfl, rfl, rfl, rfl⟩, Off.rf⟩
    · skip
      refine e_bipush (v := -2) (pc := 22) Xc (dT hX7_reader 12 rfl) rfl ?_
      refine e_iret (pc := 24) Xc hQ (dT hX7_reader 13 rfl) (Nat.le_refl _) (Nat.le_refl _) ?_
      have hz : v_reader (A 1) nr k v = ((-2), A 1) := by
        try simp only [bI_0, bI_1, Bool.not_eq_true, Bool.not_eq_false] at c7 c19
        first | (simp [v_reader, c7, c19]; done) | (clear hK hG hT hS hPl hNo hTa hA hJ hR hD hQ Xc; simp_all [v_reader]; done)
      rw [hz]
      exact ⟨rfl, ⟨_, _, _, hP, rfl, rfl, rfl, rfl, rfl⟩, Off.rf⟩
  · skip
    refine e_iconst (v := -1) (pc := 10) Xc (dT hX7_reader 5 rfl) rfl ?_
    refine e_iret (pc := 11) Xc hQ (dT hX7_reader 6 rfl) (Nat.le_refl _) (Nat.le_refl _) ?_
    have hz : v_reader (A 1) nr k v = ((-1), A 1) := by
      try simp only [bI_0, bI_1, Bool.not_eq_true, Bool.not_eq_false] at c7
      first | (simp [v_reader, c7]; done) | (clear hK hG hT hS hPl hNo hTa hA hJ hR hD hQ Xc; simp_all [v_reader]; done)
    rw [hz]
    exact ⟨rfl, ⟨_, _, _, hP, rfl, rfl, rfl, rfl, rfl⟩, Off.rf⟩
set_option maxRecDepth 100000 in
set_option maxHeartbeats 4000000 in
theorem p_of {G : xG} {σ : xS} {m : Nat} {X Y bd : Nat → Int32} {hi rn : Int32} (hM : MK σ m X Y bd hi rn) {nr nb ns np nn nt na dy : Nat} {t : xT} (hK : OK X nr nb t ns np nn nt na dy) (v : Int32) (w : Int32) : CI G yX7_of cX7_of 3 (some .int) 4 0 0 [.ref m, .int v, .int w] σ (fun z σ1 => z = v_of X t nr nb v w ∧ MK σ1 m X Y bd hi rn ∧ Off m σ σ1) := by
  refine Met.ofX (by decide +kernel) (Nat.le_of_ble_eq_true rfl) (fun μ Xc hQ hnm => ?_)
  have Xc : xC G μ cX7_of 3 RX7 (some .int) 4 0 0 := Xc
  obtain ⟨F, T, A, hP, e1, e2, e3, e4, e5⟩ := hM
  subst e1 e2 e3 e4 e5
  obtain ⟨hG, hT, hS, hPl, hNo, hTa, hA, hJ, hR, hD⟩ := id hK
  have hr4 := hG.r4
  have hb7 := hG.b7
  have hs6 := hS.1
  have hp8 := hPl.1
  have hn8 := hNo.1
  have ht100 := hTa.1
  have ha5 := hA.1
  have hd9 := hD.1
  show Ev G μ 3 0 0 0 [(0, .ref m), (1, .int v), (2, .int w)] [] σ
  refine e_aload_n (pc := 0) Xc (dT hX7_of 0 rfl) 0 rfl ?_
  refine e_iload_n (pc := 1) Xc (dT hX7_of 1 rfl) 1 rfl ?_
  refine cl_X7_165 (pc := 2) (k := 0) (n := 0) (S := []) Xc hP.o (c_isReader hP hG v) (dT hX7_of 2 rfl) rfl (Nat.le_of_ble_eq_true rfl) (Nat.le_of_ble_eq_true rfl) (Nat.le_of_ble_eq_true rfl) rfl (Nat.le_of_ble_eq_true rfl) (fun r1 σ2 hq3 => ?_)
  obtain ⟨r1e, r1s⟩ := hq3
  have r1e := r1e.symm; subst r1e; have r1s := r1s.symm; subst r1s
  refine e_if_eq (tgt := 17) (pc := 5) Xc (dT hX7_of 3 rfl) rfl (fun c5 => ?_) (fun c5 => ?_)
  · skip
    refine e_iconst (v := -1) (pc := 17) Xc (dT hX7_of 9 rfl) rfl ?_
    refine e_iret (pc := 18) Xc hQ (dT hX7_of 10 rfl) (Nat.le_refl _) (Nat.le_refl _) ?_
    have hz : v_of (A 1) t nr nb v w = (-1) := by
      try simp only [bI_0, bI_1, Bool.not_eq_true, Bool.not_eq_false, nI_0, nl1, nl2, nl3, nl4, nl5, nl6, nl7, nl8, nl9, nl10] at c5
      first | (simp [v_of, c5, nI_0, nl1, nl2, nl3, nl4, nl5, nl6, nl7, nl8, nl9, nl10]; done) | (clear hK hG hT hS hPl hNo hTa hA hJ hR hD hQ Xc; simp_all [v_of, nI_0, nl1, nl2, nl3, nl4, nl5, nl6, nl7, nl8, nl9, nl10]; done)
    exact ⟨hz.symm, ⟨_, _, _, hP, rfl, rfl, rfl, rfl, rfl⟩, Off.rf⟩
  · skip
    obtain ⟨q, hq, rfl⟩ := inF_nat (v := v) (n := nr) (by omega) (by simpa [bI_0, bI_1] using c5)
    have hc_q : cl (nI q) = q := cl_nI (by omega)
    refine e_iload_n (pc := 8) Xc (dT hX7_of 4 rfl) 2 rfl ?_
    refine e_iconst (v := 0) (pc := 9) Xc (dT hX7_of 5 rfl) rfl ?_
    refine e_iconst (v := 4) (pc := 10) Xc (dT hX7_of 6 rfl) rfl ?_
    refine cl_X7_50 (pc := 11) (k := 0) (n := 0) (S := []) Xc (c_in w 0 4) (dT hX7_of 7 rfl) rfl (Nat.le_of_ble_eq_true rfl) (Nat.le_of_ble_eq_true rfl) (Nat.le_of_ble_eq_true rfl) rfl (Nat.le_of_ble_eq_true rfl) (fun r4 σ5 hq6 => ?_)
    obtain ⟨r4e, r4s⟩ := hq6
    have r4e := r4e.symm; subst r4e; have r4s := r4s.symm; subst r4s
    refine e_if_ne (tgt := 19) (pc := 14) Xc (dT hX7_of 8 rfl) rfl (fun c14 => ?_) (fun c14 => ?_)
    · skip
      obtain ⟨wk, hwk, rfl⟩ := in_N (w := w) (n := 4) (by omega) (by have hcc := c14; simp only [bI_0, bI_1, Bool.not_eq_true, Bool.not_eq_false] at hcc; exact hcc)
      have hc_wk : cl (nI wk) = wk := cl_nI (by omega)
      refine e_iload_n (pc := 19) Xc (dT hX7_of 11 rfl) 2 rfl ?_
      
      
      
      
      
      have hcs : wk = 0 ∨ wk = 1 ∨ wk = 2 ∨ wk = 3 ∨ wk = 4 := by omega
      rcases hcs with rfl | rfl | rfl | rfl | rfl
      · skip
        refine e_tableIn (x := 0) (off := 32) (tgt := 52) (pc := 20) Xc (dT hX7_of 12 rfl) (by decide) (by decide) rfl rfl ?_
        refine e_aload_n (pc := 52) Xc (dT hX7_of 13 rfl) 0 rfl ?_
        refine gf_X7_9 (pc := 53) Xc (dT hX7_of 14 rfl) hP.o rfl ?_
        refine e_bipush (v := 20) (pc := 56) Xc (dT hX7_of 15 rfl) rfl ?_
        refine e_iload_n (pc := 58) Xc (dT hX7_of 16 rfl) 1 rfl ?_
        refine e_iaddN (a := 20) (b := q) (pc := 59) Xc (dT hX7_of 17 rfl) ?_
        refine e_ialdN (pc := 60) Xc (dT hX7_of 18 rfl) hP.a1 (by decide) rfl (20 + q) rfl (by omega) (by decide) ?_
        refine e_iret (pc := 61) Xc hQ (dT hX7_of 19 rfl) (Nat.le_refl _) (Nat.le_refl _) ?_
        have hz : v_of (A 1) t nr nb (nI q) (nI 0) = A 1 (20 + q) := by
          try simp only [bI_0, bI_1, Bool.not_eq_true, Bool.not_eq_false, nI_0, nl1, nl2, nl3, nl4, nl5, nl6, nl7, nl8, nl9, nl10] at c5 c14
          first | (simp [v_of, c5, c14, hc_q, hc_wk, nI_0, nl1, nl2, nl3, nl4, nl5, nl6, nl7, nl8, nl9, nl10]; done) | (clear hK hG hT hS hPl hNo hTa hA hJ hR hD hQ Xc; simp_all [v_of, nI_0, nl1, nl2, nl3, nl4, nl5, nl6, nl7, nl8, nl9, nl10]; done)
        exact ⟨hz.symm, ⟨_, _, _, hP, rfl, rfl, rfl, rfl, rfl⟩, Off.rf⟩
      · skip
        refine e_tableIn (x := 1) (off := 42) (tgt := 62) (pc := 20) Xc (dT hX7_of 12 rfl) (by decide) (by decide) rfl rfl ?_
        refine e_aload_n (pc := 62) Xc (dT hX7_of 20 rfl) 0 rfl ?_
        refine gf_X7_9 (pc := 63) Xc (dT hX7_of 21 rfl) hP.o rfl ?_
        refine e_bipush (v := 24) (pc := 66) Xc (dT hX7_of 22 rfl) rfl ?_
        refine e_iload_n (pc := 68) Xc (dT hX7_of 23 rfl) 1 rfl ?_
        refine e_iaddN (a := 24) (b := q) (pc := 69) Xc (dT hX7_of 24 rfl) ?_
        refine e_ialdN (pc := 70) Xc (dT hX7_of 25 rfl) hP.a1 (by decide) rfl (24 + q) rfl (by omega) (by decide) ?_
        refine e_iret (pc := 71) Xc hQ (dT hX7_of 26 rfl) (Nat.le_refl _) (Nat.le_refl _) ?_
        have hz : v_of (A 1) t nr nb (nI q) (nI 1) = A 1 (24 + q) := by
          try simp only [bI_0, bI_1, Bool.not_eq_true, Bool.not_eq_false, nI_0, nl1, nl2, nl3, nl4, nl5, nl6, nl7, nl8, nl9, nl10] at c5 c14
          first | (simp [v_of, c5, c14, hc_q, hc_wk, nI_0, nl1, nl2, nl3, nl4, nl5, nl6, nl7, nl8, nl9, nl10]; done) | (clear hK hG hT hS hPl hNo hTa hA hJ hR hD hQ Xc; simp_all [v_of, nI_0, nl1, nl2, nl3, nl4, nl5, nl6, nl7, nl8, nl9, nl10]; done)
        exact ⟨hz.symm, ⟨_, _, _, hP, rfl, rfl, rfl, rfl, rfl⟩, Off.rf⟩
      · skip
        refine e_tableIn (x := 2) (off := 52) (tgt := 72) (pc := 20) Xc (dT hX7_of 12 rfl) (by decide) (by decide) rfl rfl ?_
        refine e_aload_n (pc := 72) Xc (dT hX7_of 27 rfl) 0 rfl ?_
        refine e_aload_n (pc := 73) Xc (dT hX7_of 28 rfl) 0 rfl ?_
        refine gf_X7_9 (pc := 74) Xc (dT hX7_of 29 rfl) hP.o rfl ?_
        refine e_iconst (v := 1) (pc := 77) Xc (dT hX7_of 30 rfl) rfl ?_
        refine e_iload_n (pc := 78) Xc (dT hX7_of 31 rfl) 1 rfl ?_
        refine e_iaddN (a := 1) (b := q) (pc := 79) Xc (dT hX7_of 32 rfl) ?_
        refine e_ialdN (pc := 80) Xc (dT hX7_of 33 rfl) hP.a1 (by decide) rfl (1 + q) rfl (by omega) (by decide) ?_
        refine cl_X7_168 (pc := 81) (k := 0) (n := 0) (S := []) Xc hP.o (c_orNone hP (A 1 (1 + q))) (dT hX7_of 34 rfl) rfl (Nat.le_of_ble_eq_true rfl) (Nat.le_of_ble_eq_true rfl) (Nat.le_of_ble_eq_true rfl) rfl (Nat.le_of_ble_eq_true rfl) (fun r7 σ8 hq9 => ?_)
        obtain ⟨r7e, r7s⟩ := hq9
        have r7e := r7e.symm; subst r7e; have r7s := r7s.symm; subst r7s
        refine e_iret (pc := 84) Xc hQ (dT hX7_of 35 rfl) (Nat.le_refl _) (Nat.le_refl _) ?_
        have hz : v_of (A 1) t nr nb (nI q) (nI 2) = orN (A 1 (1 + q)) := by
          try simp only [bI_0, bI_1, Bool.not_eq_true, Bool.not_eq_false, nI_0, nl1, nl2, nl3, nl4, nl5, nl6, nl7, nl8, nl9, nl10] at c5 c14
          first | (simp [v_of, c5, c14, hc_q, hc_wk, nI_0, nl1, nl2, nl3, nl4, nl5, nl6, nl7, nl8, nl9, nl10]; done) | (clear hK hG hT hS hPl hNo hTa hA hJ hR hD hQ Xc; simp_all [v_of, nI_0, nl1, nl2, nl3, nl4, nl5, nl6, nl7, nl8, nl9, nl10]; done)
        exact ⟨hz.symm, ⟨_, _, _, hP, rfl, rfl, rfl, rfl, rfl⟩, Off.rf⟩
      · skip
        refine e_tableIn (x := 3) (off := 65) (tgt := 85) (pc := 20) Xc (dT hX7_of 12 rfl) (by decide) (by decide) rfl rfl ?_
        refine e_aload_n (pc := 85) Xc (dT hX7_of 36 rfl) 0 rfl ?_
        refine e_aload_n (pc := 86) Xc (dT hX7_of 37 rfl) 0 rfl ?_
        refine e_iload_n (pc := 87) Xc (dT hX7_of 38 rfl) 1 rfl ?_
        refine cl_X7_171 (pc := 88) (k := 0) (n := 0) (S := [.ref m]) Xc hP.o (c_choiceOf hP hG hT q (by omega)) (dT hX7_of 39 rfl) rfl (Nat.le_of_ble_eq_true rfl) (Nat.le_of_ble_eq_true rfl) (Nat.le_of_ble_eq_true rfl) rfl (Nat.le_of_ble_eq_true rfl) (fun r10 σ11 hq12 => ?_)
        obtain ⟨r10e, hP13, ho14⟩ := hq12
        have r10e := r10e.symm; subst r10e
        refine cl_X7_168 (pc := 91) (k := 0) (n := 0) (S := []) Xc hP13.o (c_orNone hP13 (choF (A 1) t nr nb q)) (dT hX7_of 40 rfl) rfl (Nat.le_of_ble_eq_true rfl) (Nat.le_of_ble_eq_true rfl) (Nat.le_of_ble_eq_true rfl) rfl (Nat.le_of_ble_eq_true rfl) (fun r15 σ16 hq17 => ?_)
        obtain ⟨r15e, r15s⟩ := hq17
        have r15e := r15e.symm; subst r15e; have r15s := r15s.symm; subst r15s
        refine e_iret (pc := 94) Xc hQ (dT hX7_of 41 rfl) (Nat.le_refl _) (Nat.le_refl _) ?_
        have hz : v_of (A 1) t nr nb (nI q) (nI 3) = orN (choF (A 1) t nr nb q) := by
          try simp only [bI_0, bI_1, Bool.not_eq_true, Bool.not_eq_false, nI_0, nl1, nl2, nl3, nl4, nl5, nl6, nl7, nl8, nl9, nl10] at c5 c14
          first | (simp [v_of, c5, c14, hc_q, hc_wk, nI_0, nl1, nl2, nl3, nl4, nl5, nl6, nl7, nl8, nl9, nl10]; done) | (clear hK hG hT hS hPl hNo hTa hA hJ hR hD hQ Xc; simp_all [v_of, nI_0, nl1, nl2, nl3, nl4, nl5, nl6, nl7, nl8, nl9, nl10]; done)
        exact ⟨hz.symm, ⟨_, _, _, hP13, rfl, rfl, rfl, rfl, rfl⟩, ho14⟩
      · skip
        refine e_tableOut (x := 4) (tgt := 95) (pc := 20) Xc (dT hX7_of 12 rfl) (by decide) rfl ?_
        refine e_aload_n (pc := 95) Xc (dT hX7_of 42 rfl) 0 rfl ?_
        refine e_iload_n (pc := 96) Xc (dT hX7_of 43 rfl) 1 rfl ?_
        refine cl_X7_174 (pc := 97) (k := 0) (n := 0) (S := []) Xc hP.o (c_mayTake hP hG q (by omega)) (dT hX7_of 44 rfl) rfl (Nat.le_of_ble_eq_true rfl) (Nat.le_of_ble_eq_true rfl) (Nat.le_of_ble_eq_true rfl) rfl (Nat.le_of_ble_eq_true rfl) (fun r18 σ19 hq20 => ?_)
        obtain ⟨r18e, r18s⟩ := hq20
        have r18e := r18e.symm; subst r18e; have r18s := r18s.symm; subst r18s
        refine e_iret (pc := 100) Xc hQ (dT hX7_of 45 rfl) (Nat.le_refl _) (Nat.le_refl _) ?_
        have hz : v_of (A 1) t nr nb (nI q) (nI 4) = mayTakeF (A 1) nr nb q := by
          try simp only [bI_0, bI_1, Bool.not_eq_true, Bool.not_eq_false, nI_0, nl1, nl2, nl3, nl4, nl5, nl6, nl7, nl8, nl9, nl10] at c5 c14
          first | (simp [v_of, c5, c14, hc_q, hc_wk, nI_0, nl1, nl2, nl3, nl4, nl5, nl6, nl7, nl8, nl9, nl10]; done) | (clear hK hG hT hS hPl hNo hTa hA hJ hR hD hQ Xc; simp_all [v_of, nI_0, nl1, nl2, nl3, nl4, nl5, nl6, nl7, nl8, nl9, nl10]; done)
        exact ⟨hz.symm, ⟨_, _, _, hP, rfl, rfl, rfl, rfl, rfl⟩, Off.rf⟩
    · skip
      refine e_iconst (v := -1) (pc := 17) Xc (dT hX7_of 9 rfl) rfl ?_
      refine e_iret (pc := 18) Xc hQ (dT hX7_of 10 rfl) (Nat.le_refl _) (Nat.le_refl _) ?_
      have hz : v_of (A 1) t nr nb (nI q) w = (-1) := by
        try simp only [bI_0, bI_1, Bool.not_eq_true, Bool.not_eq_false, nI_0, nl1, nl2, nl3, nl4, nl5, nl6, nl7, nl8, nl9, nl10] at c5 c14
        first | (simp [v_of, c5, c14, hc_q, nI_0, nl1, nl2, nl3, nl4, nl5, nl6, nl7, nl8, nl9, nl10]; done) | (clear hK hG hT hS hPl hNo hTa hA hJ hR hD hQ Xc; simp_all [v_of, nI_0, nl1, nl2, nl3, nl4, nl5, nl6, nl7, nl8, nl9, nl10]; done)
      exact ⟨hz.symm, ⟨_, _, _, hP, rfl, rfl, rfl, rfl, rfl⟩, Off.rf⟩
set_option maxRecDepth 100000 in
set_option maxHeartbeats 4000000 in
theorem p_likes {G : xG} {σ : xS} {m : Nat} {X Y bd : Nat → Int32} {hi rn : Int32} (hM : MK σ m X Y bd hi rn) {nr nb ns np nn nt na dy : Nat} {t : xT} (hK : OK X nr nb t ns np nn nt na dy) (v : Int32) (b : Int32) : CI G yX7_likes cX7_likes 3 (some .int) 3 0 0 [.ref m, .int v, .int b] σ (fun z σ1 => z = v_likes X t nr nb v b ∧ MK σ1 m X Y bd hi rn ∧ Off m σ σ1) := by
  refine Met.ofX (by decide +kernel) (Nat.le_of_ble_eq_true rfl) (fun μ Xc hQ hnm => ?_)
  have Xc : xC G μ cX7_likes 3 RX7 (some .int) 3 0 0 := Xc
  obtain ⟨F, T, A, hP, e1, e2, e3, e4, e5⟩ := hM
  subst e1 e2 e3 e4 e5
  obtain ⟨hG, hT, hS, hPl, hNo, hTa, hA, hJ, hR, hD⟩ := id hK
  have hr4 := hG.r4
  have hb7 := hG.b7
  have hs6 := hS.1
  have hp8 := hPl.1
  have hn8 := hNo.1
  have ht100 := hTa.1
  have ha5 := hA.1
  have hd9 := hD.1
  show Ev G μ 3 0 0 0 [(0, .ref m), (1, .int v), (2, .int b)] [] σ
  refine e_aload_n (pc := 0) Xc (dT hX7_likes 0 rfl) 0 rfl ?_
  refine e_iload_n (pc := 1) Xc (dT hX7_likes 1 rfl) 1 rfl ?_
  refine cl_X7_165 (pc := 2) (k := 0) (n := 0) (S := []) Xc hP.o (c_isReader hP hG v) (dT hX7_likes 2 rfl) rfl (Nat.le_of_ble_eq_true rfl) (Nat.le_of_ble_eq_true rfl) (Nat.le_of_ble_eq_true rfl) rfl (Nat.le_of_ble_eq_true rfl) (fun r1 σ2 hq3 => ?_)
  obtain ⟨r1e, r1s⟩ := hq3
  have r1e := r1e.symm; subst r1e; have r1s := r1s.symm; subst r1s
  refine e_if_eq (tgt := 25) (pc := 5) Xc (dT hX7_likes 3 rfl) rfl (fun c5 => ?_) (fun c5 => ?_)
  · skip
    refine e_sipush (v := -10001) (pc := 25) Xc (dT hX7_likes 13 rfl) rfl ?_
    refine e_iret (pc := 28) Xc hQ (dT hX7_likes 14 rfl) (Nat.le_refl _) (Nat.le_refl _) ?_
    have hz : v_likes (A 1) t nr nb v b = (-10001) := by
      try simp only [bI_0, bI_1, Bool.not_eq_true, Bool.not_eq_false] at c5
      first | (simp [v_likes, c5]; done) | (clear hK hG hT hS hPl hNo hTa hA hJ hR hD hQ Xc; simp_all [v_likes]; done)
    exact ⟨hz.symm, ⟨_, _, _, hP, rfl, rfl, rfl, rfl, rfl⟩, Off.rf⟩
  · skip
    obtain ⟨q, hq, rfl⟩ := inF_nat (v := v) (n := nr) (by omega) (by simpa [bI_0, bI_1] using c5)
    have hc_q : cl (nI q) = q := cl_nI (by omega)
    refine e_aload_n (pc := 8) Xc (dT hX7_likes 4 rfl) 0 rfl ?_
    refine e_iload_n (pc := 9) Xc (dT hX7_likes 5 rfl) 2 rfl ?_
    refine cl_X7_177 (pc := 10) (k := 0) (n := 0) (S := []) Xc hP.o (c_isBook hP hG b) (dT hX7_likes 6 rfl) rfl (Nat.le_of_ble_eq_true rfl) (Nat.le_of_ble_eq_true rfl) (Nat.le_of_ble_eq_true rfl) rfl (Nat.le_of_ble_eq_true rfl) (fun r4 σ5 hq6 => ?_)
    obtain ⟨r4e, r4s⟩ := hq6
    have r4e := r4e.symm; subst r4e; have r4s := r4s.symm; subst r4s
    refine e_if_eq (tgt := 25) (pc := 13) Xc (dT hX7_likes 7 rfl) rfl (fun c13 => ?_) (fun c13 => ?_)
    · skip
      refine e_sipush (v := -10001) (pc := 25) Xc (dT hX7_likes 13 rfl) rfl ?_
      refine e_iret (pc := 28) Xc hQ (dT hX7_likes 14 rfl) (Nat.le_refl _) (Nat.le_refl _) ?_
      have hz : v_likes (A 1) t nr nb (nI q) b = (-10001) := by
        try simp only [bI_0, bI_1, Bool.not_eq_true, Bool.not_eq_false] at c5 c13
        first | (simp [v_likes, c5, c13, hc_q]; done) | (clear hK hG hT hS hPl hNo hTa hA hJ hR hD hQ Xc; simp_all [v_likes]; done)
      exact ⟨hz.symm, ⟨_, _, _, hP, rfl, rfl, rfl, rfl, rfl⟩, Off.rf⟩
    · skip
      obtain ⟨p, hp, rfl⟩ := inF_nat (v := b) (n := nb) (by omega) (by simpa [bI_0, bI_1] using c13)
      have hc_p : cl (nI p) = p := cl_nI (by omega)
      refine e_aload_n (pc := 16) Xc (dT hX7_likes 8 rfl) 0 rfl ?_
      refine e_iload_n (pc := 17) Xc (dT hX7_likes 9 rfl) 1 rfl ?_
      refine e_iload_n (pc := 18) Xc (dT hX7_likes 10 rfl) 2 rfl ?_
      refine cl_X7_162 (pc := 19) (k := 0) (n := 0) (S := []) Xc hP.o (c_likingOf hP hG hT q p (by omega) (by omega)) (dT hX7_likes 11 rfl) rfl (Nat.le_of_ble_eq_true rfl) (Nat.le_of_ble_eq_true rfl) (Nat.le_of_ble_eq_true rfl) rfl (Nat.le_of_ble_eq_true rfl) (fun r7 σ8 hq9 => ?_)
      obtain ⟨r7e, hP10, ho11⟩ := hq9
      have r7e := r7e.symm; subst r7e
      refine e_goto (tgt := 28) (pc := 22) Xc (dT hX7_likes 12 rfl) rfl ?_
      refine e_iret (pc := 28) Xc hQ (dT hX7_likes 14 rfl) (Nat.le_refl _) (Nat.le_refl _) ?_
      have hz : v_likes (A 1) t nr nb (nI q) (nI p) = likF (A 1) t q p := by
        try simp only [bI_0, bI_1, Bool.not_eq_true, Bool.not_eq_false] at c5 c13
        first | (simp [v_likes, c5, c13, hc_q, hc_p]; done) | (clear hK hG hT hS hPl hNo hTa hA hJ hR hD hQ Xc; simp_all [v_likes]; done)
      exact ⟨hz.symm, ⟨_, _, _, hP10, rfl, rfl, rfl, rfl, rfl⟩, ho11⟩
set_option maxRecDepth 100000 in
set_option maxHeartbeats 4000000 in
theorem p_at {G : xG} {σ : xS} {m : Nat} {X Y bd : Nat → Int32} {hi rn : Int32} (hM : MK σ m X Y bd hi rn) {nr nb ns np nn nt na dy : Nat} {t : xT} (hK : OK X nr nb t ns np nn nt na dy) (b : Int32) (w : Int32) : CI G yX7_at cX7_at 3 (some .int) 2 0 0 [.ref m, .int b, .int w] σ (fun z σ1 => z = v_at X nr nb b w ∧ MK σ1 m X Y bd hi rn ∧ Off m σ σ1) := by
  refine Met.ofX (by decide +kernel) (Nat.le_of_ble_eq_true rfl) (fun μ Xc hQ hnm => ?_)
  have Xc : xC G μ cX7_at 3 RX7 (some .int) 2 0 0 := Xc
  obtain ⟨F, T, A, hP, e1, e2, e3, e4, e5⟩ := hM
  subst e1 e2 e3 e4 e5
  obtain ⟨hG, hT, hS, hPl, hNo, hTa, hA, hJ, hR, hD⟩ := id hK
  have hr4 := hG.r4
  have hb7 := hG.b7
  have hs6 := hS.1
  have hp8 := hPl.1
  have hn8 := hNo.1
  have ht100 := hTa.1
  have ha5 := hA.1
  have hd9 := hD.1
  show Ev G μ 3 0 0 0 [(0, .ref m), (1, .int b), (2, .int w)] [] σ
  refine e_aload_n (pc := 0) Xc (dT hX7_at 0 rfl) 0 rfl ?_
  refine e_iload_n (pc := 1) Xc (dT hX7_at 1 rfl) 1 rfl ?_
  refine cl_X7_177 (pc := 2) (k := 0) (n := 0) (S := []) Xc hP.o (c_isBook hP hG b) (dT hX7_at 2 rfl) rfl (Nat.le_of_ble_eq_true rfl) (Nat.le_of_ble_eq_true rfl) (Nat.le_of_ble_eq_true rfl) rfl (Nat.le_of_ble_eq_true rfl) (fun r1 σ2 hq3 => ?_)
  obtain ⟨r1e, r1s⟩ := hq3
  have r1e := r1e.symm; subst r1e; have r1s := r1s.symm; subst r1s
  refine e_if_eq (tgt := 17) (pc := 5) Xc (dT hX7_at 3 rfl) rfl (fun c5 => ?_) (fun c5 => ?_)
  · skip
    refine e_iconst (v := -1) (pc := 17) Xc (dT hX7_at 9 rfl) rfl ?_
    refine e_iret (pc := 18) Xc hQ (dT hX7_at 10 rfl) (Nat.le_refl _) (Nat.le_refl _) ?_
    have hz : v_at (A 1) nr nb b w = (-1) := by
      try simp only [bI_0, bI_1, Bool.not_eq_true, Bool.not_eq_false] at c5
      first | (simp [v_at, c5]; done) | (clear hK hG hT hS hPl hNo hTa hA hJ hR hD hQ Xc; simp_all [v_at]; done)
    exact ⟨hz.symm, ⟨_, _, _, hP, rfl, rfl, rfl, rfl, rfl⟩, Off.rf⟩
  · skip
    obtain ⟨p, hp, rfl⟩ := inF_nat (v := b) (n := nb) (by omega) (by simpa [bI_0, bI_1] using c5)
    have hc_p : cl (nI p) = p := cl_nI (by omega)
    refine e_iload_n (pc := 8) Xc (dT hX7_at 4 rfl) 2 rfl ?_
    refine e_iconst (v := 0) (pc := 9) Xc (dT hX7_at 5 rfl) rfl ?_
    refine e_iconst (v := 1) (pc := 10) Xc (dT hX7_at 6 rfl) rfl ?_
    refine cl_X7_50 (pc := 11) (k := 0) (n := 0) (S := []) Xc (c_in w 0 1) (dT hX7_at 7 rfl) rfl (Nat.le_of_ble_eq_true rfl) (Nat.le_of_ble_eq_true rfl) (Nat.le_of_ble_eq_true rfl) rfl (Nat.le_of_ble_eq_true rfl) (fun r4 σ5 hq6 => ?_)
    obtain ⟨r4e, r4s⟩ := hq6
    have r4e := r4e.symm; subst r4e; have r4s := r4s.symm; subst r4s
    refine e_if_ne (tgt := 19) (pc := 14) Xc (dT hX7_at 8 rfl) rfl (fun c14 => ?_) (fun c14 => ?_)
    · skip
      refine e_iload_n (pc := 19) Xc (dT hX7_at 11 rfl) 2 rfl ?_
      refine e_if_ne (tgt := 34) (pc := 20) Xc (dT hX7_at 12 rfl) rfl (fun c20 => ?_) (fun c20 => ?_)
      · skip
        refine e_aload_n (pc := 34) Xc (dT hX7_at 20 rfl) 0 rfl ?_
        refine e_aload_n (pc := 35) Xc (dT hX7_at 21 rfl) 0 rfl ?_
        refine e_iload_n (pc := 36) Xc (dT hX7_at 22 rfl) 1 rfl ?_
        refine cl_X7_143 (pc := 37) (k := 0) (n := 0) (S := [.ref m]) Xc hP.o (c_holderOf hP hG (nI p)) (dT hX7_at 23 rfl) rfl (Nat.le_of_ble_eq_true rfl) (Nat.le_of_ble_eq_true rfl) (Nat.le_of_ble_eq_true rfl) rfl (Nat.le_of_ble_eq_true rfl) (fun r7 σ8 hq9 => ?_)
        obtain ⟨r7e, r7s⟩ := hq9
        have r7e := r7e.symm; subst r7e; have r7s := r7s.symm; subst r7s
        refine cl_X7_168 (pc := 40) (k := 0) (n := 0) (S := []) Xc hP.o (c_orNone hP (holdF (A 1) nr (nI p))) (dT hX7_at 24 rfl) rfl (Nat.le_of_ble_eq_true rfl) (Nat.le_of_ble_eq_true rfl) (Nat.le_of_ble_eq_true rfl) rfl (Nat.le_of_ble_eq_true rfl) (fun r10 σ11 hq12 => ?_)
        obtain ⟨r10e, r10s⟩ := hq12
        have r10e := r10e.symm; subst r10e; have r10s := r10s.symm; subst r10s
        refine e_iret (pc := 43) Xc hQ (dT hX7_at 25 rfl) (Nat.le_refl _) (Nat.le_refl _) ?_
        have hz : v_at (A 1) nr nb (nI p) w = orN (holdF (A 1) nr (nI p)) := by
          try simp only [bI_0, bI_1, Bool.not_eq_true, Bool.not_eq_false] at c5 c14 c20
          first | (simp [v_at, c5, c14, c20, hc_p]; done) | (clear hK hG hT hS hPl hNo hTa hA hJ hR hD hQ Xc; simp_all [v_at]; done)
        exact ⟨hz.symm, ⟨_, _, _, hP, rfl, rfl, rfl, rfl, rfl⟩, Off.rf⟩
      · skip
        refine e_aload_n (pc := 23) Xc (dT hX7_at 13 rfl) 0 rfl ?_
        refine gf_X7_9 (pc := 24) Xc (dT hX7_at 14 rfl) hP.o rfl ?_
        refine e_iconst (v := 5) (pc := 27) Xc (dT hX7_at 15 rfl) rfl ?_
        refine e_iload_n (pc := 28) Xc (dT hX7_at 16 rfl) 1 rfl ?_
        refine e_iaddN (a := 5) (b := p) (pc := 29) Xc (dT hX7_at 17 rfl) ?_
        refine e_ialdN (pc := 30) Xc (dT hX7_at 18 rfl) hP.a1 (by decide) rfl (5 + p) rfl (by omega) (by decide) ?_
        refine e_goto (tgt := 43) (pc := 31) Xc (dT hX7_at 19 rfl) rfl ?_
        refine e_iret (pc := 43) Xc hQ (dT hX7_at 25 rfl) (Nat.le_refl _) (Nat.le_refl _) ?_
        have hz : v_at (A 1) nr nb (nI p) w = A 1 (5 + p) := by
          try simp only [bI_0, bI_1, Bool.not_eq_true, Bool.not_eq_false] at c5 c14 c20
          first | (simp [v_at, c5, c14, c20, hc_p]; done) | (clear hK hG hT hS hPl hNo hTa hA hJ hR hD hQ Xc; simp_all [v_at]; done)
        exact ⟨hz.symm, ⟨_, _, _, hP, rfl, rfl, rfl, rfl, rfl⟩, Off.rf⟩
    · skip
      refine e_iconst (v := -1) (pc := 17) Xc (dT hX7_at 9 rfl) rfl ?_
      refine e_iret (pc := 18) Xc hQ (dT hX7_at 10 rfl) (Nat.le_refl _) (Nat.le_refl _) ?_
      have hz : v_at (A 1) nr nb (nI p) w = (-1) := by
        try simp only [bI_0, bI_1, Bool.not_eq_true, Bool.not_eq_false] at c5 c14
        first | (simp [v_at, c5, c14, hc_p]; done) | (clear hK hG hT hS hPl hNo hTa hA hJ hR hD hQ Xc; simp_all [v_at]; done)
      exact ⟨hz.symm, ⟨_, _, _, hP, rfl, rfl, rfl, rfl, rfl⟩, Off.rf⟩
set_option maxRecDepth 100000 in
set_option maxHeartbeats 4000000 in
theorem p_row {G : xG} {σ : xS} {m : Nat} {X Y bd : Nat → Int32} {hi rn : Int32} (hM : MK σ m X Y bd hi rn) {nr nb ns np nn nt na dy : Nat} {t : xT} (hK : OK X nr nb t ns np nn nt na dy) (v : Int32) (k : Int32) (n : Int32) : CI G yX7_row cX7_row 5 (some .int) 2 0 0 [.ref m, .int v, .int k, .int n] σ (fun z σ1 => z = (v_row X nr v k n).1 ∧ MK σ1 m (v_row X nr v k n).2 Y bd hi rn ∧ Off m σ σ1) := by
  refine Met.ofX (by decide +kernel) (Nat.le_of_ble_eq_true rfl) (fun μ Xc hQ hnm => ?_)
  have Xc : xC G μ cX7_row 5 RX7 (some .int) 2 0 0 := Xc
  obtain ⟨F, T, A, hP, e1, e2, e3, e4, e5⟩ := hM
  subst e1 e2 e3 e4 e5
  obtain ⟨hG, hT, hS, hPl, hNo, hTa, hA, hJ, hR, hD⟩ := id hK
  have hr4 := hG.r4
  have hb7 := hG.b7
  have hs6 := hS.1
  have hp8 := hPl.1
  have hn8 := hNo.1
  have ht100 := hTa.1
  have ha5 := hA.1
  have hd9 := hD.1
  show Ev G μ 5 0 0 0 [(0, .ref m), (1, .int v), (2, .int k), (3, .int n)] [] σ
  refine e_aload_n (pc := 0) Xc (dT hX7_row 0 rfl) 0 rfl ?_
  refine e_iload_n (pc := 1) Xc (dT hX7_row 1 rfl) 1 rfl ?_
  refine cl_X7_165 (pc := 2) (k := 0) (n := 0) (S := []) Xc hP.o (c_isReader hP hG v) (dT hX7_row 2 rfl) rfl (Nat.le_of_ble_eq_true rfl) (Nat.le_of_ble_eq_true rfl) (Nat.le_of_ble_eq_true rfl) rfl (Nat.le_of_ble_eq_true rfl) (fun r1 σ2 hq3 => ?_)
  obtain ⟨r1e, r1s⟩ := hq3
  have r1e := r1e.symm; subst r1e; have r1s := r1s.symm; subst r1s
  refine e_if_eq (tgt := 17) (pc := 5) Xc (dT hX7_row 3 rfl) rfl (fun c5 => ?_) (fun c5 => ?_)
  · skip
    refine e_iconst (v := -1) (pc := 17) Xc (dT hX7_row 9 rfl) rfl ?_
    refine e_iret (pc := 18) Xc hQ (dT hX7_row 10 rfl) (Nat.le_refl _) (Nat.le_refl _) ?_
    have hz : v_row (A 1) nr v k n = ((-1), A 1) := by
      try simp only [bI_0, bI_1, Bool.not_eq_true, Bool.not_eq_false] at c5
      first | (simp [v_row, c5]; done) | (clear hK hG hT hS hPl hNo hTa hA hJ hR hD hQ Xc; simp_all [v_row]; done)
    rw [hz]
    exact ⟨rfl, ⟨_, _, _, hP, rfl, rfl, rfl, rfl, rfl⟩, Off.rf⟩
  · skip
    obtain ⟨q, hq, rfl⟩ := inF_nat (v := v) (n := nr) (by omega) (by simpa [bI_0, bI_1] using c5)
    have hc_q : cl (nI q) = q := cl_nI (by omega)
    refine e_iload_n (pc := 8) Xc (dT hX7_row 4 rfl) 2 rfl ?_
    refine e_iconst (v := 0) (pc := 9) Xc (dT hX7_row 5 rfl) rfl ?_
    refine e_iconst (v := 3) (pc := 10) Xc (dT hX7_row 6 rfl) rfl ?_
    refine cl_X7_50 (pc := 11) (k := 0) (n := 0) (S := []) Xc (c_in k 0 3) (dT hX7_row 7 rfl) rfl (Nat.le_of_ble_eq_true rfl) (Nat.le_of_ble_eq_true rfl) (Nat.le_of_ble_eq_true rfl) rfl (Nat.le_of_ble_eq_true rfl) (fun r4 σ5 hq6 => ?_)
    obtain ⟨r4e, r4s⟩ := hq6
    have r4e := r4e.symm; subst r4e; have r4s := r4s.symm; subst r4s
    refine e_if_ne (tgt := 19) (pc := 14) Xc (dT hX7_row 8 rfl) rfl (fun c14 => ?_) (fun c14 => ?_)
    · skip
      obtain ⟨kk, hkk, rfl⟩ := in_N (w := k) (n := 3) (by omega) (by have hcc := c14; simp only [bI_0, bI_1, Bool.not_eq_true, Bool.not_eq_false] at hcc; exact hcc)
      have hc_kk : cl (nI kk) = kk := cl_nI (by omega)
      refine e_iload_n (pc := 19) Xc (dT hX7_row 11 rfl) 3 rfl ?_
      refine e_iconst (v := 0) (pc := 20) Xc (dT hX7_row 12 rfl) rfl ?_
      refine e_bipush (v := 9) (pc := 21) Xc (dT hX7_row 13 rfl) rfl ?_
      refine cl_X7_50 (pc := 23) (k := 0) (n := 0) (S := []) Xc (c_in n 0 9) (dT hX7_row 14 rfl) rfl (Nat.le_of_ble_eq_true rfl) (Nat.le_of_ble_eq_true rfl) (Nat.le_of_ble_eq_true rfl) rfl (Nat.le_of_ble_eq_true rfl) (fun r7 σ8 hq9 => ?_)
      obtain ⟨r7e, r7s⟩ := hq9
      have r7e := r7e.symm; subst r7e; have r7s := r7s.symm; subst r7s
      refine e_if_ne (tgt := 32) (pc := 26) Xc (dT hX7_row 15 rfl) rfl (fun c26 => ?_) (fun c26 => ?_)
      · skip
        refine e_aload_n (pc := 32) Xc (dT hX7_row 18 rfl) 0 rfl ?_
        refine gf_X7_9 (pc := 33) Xc (dT hX7_row 19 rfl) hP.o rfl ?_
        refine e_bipush (v := 20) (pc := 36) Xc (dT hX7_row 20 rfl) rfl ?_
        refine e_iload_n (pc := 38) Xc (dT hX7_row 21 rfl) 1 rfl ?_
        refine e_iaddN (a := 20) (b := q) (pc := 39) Xc (dT hX7_row 22 rfl) ?_
        refine e_ialdN (pc := 40) Xc (dT hX7_row 23 rfl) hP.a1 (by decide) rfl (20 + q) rfl (by omega) (by decide) ?_
        refine e_bipush (v := 6) (pc := 41) Xc (dT hX7_row 24 rfl) rfl ?_
        refine e_icmp_eq (tgt := 49) (pc := 43) Xc (dT hX7_row 25 rfl) rfl (fun c43 => ?_) (fun c43 => ?_)
        · skip
          refine e_aload_n (pc := 49) Xc (dT hX7_row 28 rfl) 0 rfl ?_
          refine gf_X7_9 (pc := 50) Xc (dT hX7_row 29 rfl) hP.o rfl ?_
          refine e_bipush (v := 28) (pc := 53) Xc (dT hX7_row 30 rfl) rfl ?_
          refine e_iconst (v := 4) (pc := 55) Xc (dT hX7_row 31 rfl) rfl ?_
          refine e_iload_n (pc := 56) Xc (dT hX7_row 32 rfl) 1 rfl ?_
          refine e_imulN (a := 4) (b := q) (pc := 57) Xc (dT hX7_row 33 rfl) ?_
          refine e_iaddN (a := 28) (b := 4 * q) (pc := 58) Xc (dT hX7_row 34 rfl) ?_
          refine e_iload_n (pc := 59) Xc (dT hX7_row 35 rfl) 2 rfl ?_
          refine e_iaddN (a := 28 + (4 * q)) (b := kk) (pc := 60) Xc (dT hX7_row 36 rfl) ?_
          refine e_ialdN (pc := 61) Xc (dT hX7_row 37 rfl) hP.a1 (by decide) rfl ((28 + (4 * q)) + kk) rfl (by omega) (by decide) ?_
          refine e_istore (L' := [(4, .int (A 1 ((28 + (4 * q)) + kk))), (0, .ref m), (1, .int (nI q)), (2, .int (nI kk)), (3, .int n)]) (pc := 62) Xc (dT hX7_row 38 rfl) (by decide) rfl ?_
          refine e_aload_n (pc := 64) Xc (dT hX7_row 39 rfl) 1 rfl ?_
          refine gf_X7_9 (pc := 65) Xc (dT hX7_row 40 rfl) hP.o rfl ?_
          refine e_bipush (v := 28) (pc := 68) Xc (dT hX7_row 41 rfl) rfl ?_
          refine e_iconst (v := 4) (pc := 70) Xc (dT hX7_row 42 rfl) rfl ?_
          refine e_iload_n (pc := 71) Xc (dT hX7_row 43 rfl) 2 rfl ?_
          refine e_imulN (a := 4) (b := q) (pc := 72) Xc (dT hX7_row 44 rfl) ?_
          refine e_iaddN (a := 28) (b := 4 * q) (pc := 73) Xc (dT hX7_row 45 rfl) ?_
          refine e_iload_n (pc := 74) Xc (dT hX7_row 46 rfl) 3 rfl ?_
          refine e_iaddN (a := 28 + (4 * q)) (b := kk) (pc := 75) Xc (dT hX7_row 47 rfl) ?_
          refine e_iload_n (pc := 76) Xc (dT hX7_row 48 rfl) 4 rfl ?_
          refine e_iastN (pc := 77) Xc (dT hX7_row 49 rfl) hP.a1 rfl ((28 + (4 * q)) + kk) rfl (by omega) (by decide) ?_
          refine Ev.gen (fun z => PX7 z m F T (upA A 1 (upd (A 1) ((28 + (4 * q)) + kk) n))) (hP.wa1 (g := (upd (A 1) ((28 + (4 * q)) + kk) n))) Off.set (fun σ10 hP11 ho12 => ?_)
          refine e_iload (pc := 78) Xc (dT hX7_row 50 rfl) 0 rfl ?_
          refine e_iret (pc := 80) Xc hQ (dT hX7_row 51 rfl) (Nat.le_refl _) (Nat.le_refl _) ?_
          have hz : v_row (A 1) nr (nI q) (nI kk) n = (A 1 ((28 + (4 * q)) + kk), (upd (A 1) ((28 + (4 * q)) + kk) n)) := by
            try simp only [bI_0, bI_1, Bool.not_eq_true, Bool.not_eq_false] at c5 c14 c26 c43
            first | (simp [v_row, c5, c14, c26, c43, hc_q, hc_kk]; done) | (clear hK hG hT hS hPl hNo hTa hA hJ hR hD hQ Xc; simp_all [v_row]; done)
          rw [hz]
          exact ⟨rfl, ⟨_, _, _, hP11, rfl, rfl, rfl, rfl, rfl⟩, ho12⟩
        · skip
          refine e_bipush (v := -3) (pc := 46) Xc (dT hX7_row 26 rfl) rfl ?_
          refine e_iret (pc := 48) Xc hQ (dT hX7_row 27 rfl) (Nat.le_refl _) (Nat.le_refl _) ?_
          have hz : v_row (A 1) nr (nI q) (nI kk) n = ((-3), A 1) := by
            try simp only [bI_0, bI_1, Bool.not_eq_true, Bool.not_eq_false] at c5 c14 c26 c43
            first | (simp [v_row, c5, c14, c26, c43, hc_q, hc_kk]; done) | (clear hK hG hT hS hPl hNo hTa hA hJ hR hD hQ Xc; simp_all [v_row]; done)
          rw [hz]
          exact ⟨rfl, ⟨_, _, _, hP, rfl, rfl, rfl, rfl, rfl⟩, Off.rf⟩
      · skip
        refine e_bipush (v := -2) (pc := 29) Xc (dT hX7_row 16 rfl) rfl ?_
        refine e_iret (pc := 31) Xc hQ (dT hX7_row 17 rfl) (Nat.le_refl _) (Nat.le_refl _) ?_
        have hz : v_row (A 1) nr (nI q) (nI kk) n = ((-2), A 1) := by
          try simp only [bI_0, bI_1, Bool.not_eq_true, Bool.not_eq_false] at c5 c14 c26
          first | (simp [v_row, c5, c14, c26, hc_q, hc_kk]; done) | (clear hK hG hT hS hPl hNo hTa hA hJ hR hD hQ Xc; simp_all [v_row]; done)
        rw [hz]
        exact ⟨rfl, ⟨_, _, _, hP, rfl, rfl, rfl, rfl, rfl⟩, Off.rf⟩
    · skip
      refine e_iconst (v := -1) (pc := 17) Xc (dT hX7_row 9 rfl) rfl ?_
      refine e_iret (pc := 18) Xc hQ (dT hX7_row 10 rfl) (Nat.le_refl _) (Nat.le_refl _) ?_
      have hz : v_row (A 1) nr (nI q) k n = ((-1), A 1) := by
        try simp only [bI_0, bI_1, Bool.not_eq_true, Bool.not_eq_false] at c5 c14
        first | (simp [v_row, c5, c14, hc_q]; done) | (clear hK hG hT hS hPl hNo hTa hA hJ hR hD hQ Xc; simp_all [v_row]; done)
      rw [hz]
      exact ⟨rfl, ⟨_, _, _, hP, rfl, rfl, rfl, rfl, rfl⟩, Off.rf⟩
set_option maxRecDepth 100000 in
set_option maxHeartbeats 4000000 in
theorem p_lend {G : xG} {σ : xS} {m : Nat} {X Y bd : Nat → Int32} {hi rn : Int32} (hM : MK σ m X Y bd hi rn) {nr nb ns np nn nt na dy : Nat} {t : xT} (hK : OK X nr nb t ns np nn nt na dy) (v : Int32) (b : Int32) : CI G yX7_lend cX7_lend 5 (some .int) 3 0 0 [.ref m, .int v, .int b] σ (fun z σ1 => z = (v_lend X nr nb v b).1 ∧ MK σ1 m (v_lend X nr nb v b).2 Y bd hi rn ∧ Off m σ σ1) := by
  refine Met.ofX (by decide +kernel) (Nat.le_of_ble_eq_true rfl) (fun μ Xc hQ hnm => ?_)
  have Xc : xC G μ cX7_lend 5 RX7 (some .int) 3 0 0 := Xc
  obtain ⟨F, T, A, hP, e1, e2, e3, e4, e5⟩ := hM
  subst e1 e2 e3 e4 e5
  obtain ⟨hG, hT, hS, hPl, hNo, hTa, hA, hJ, hR, hD⟩ := id hK
  have hr4 := hG.r4
  have hb7 := hG.b7
  have hs6 := hS.1
  have hp8 := hPl.1
  have hn8 := hNo.1
  have ht100 := hTa.1
  have ha5 := hA.1
  have hd9 := hD.1
  show Ev G μ 5 0 0 0 [(0, .ref m), (1, .int v), (2, .int b)] [] σ
  refine e_aload_n (pc := 0) Xc (dT hX7_lend 0 rfl) 0 rfl ?_
  refine e_iload_n (pc := 1) Xc (dT hX7_lend 1 rfl) 1 rfl ?_
  refine cl_X7_165 (pc := 2) (k := 0) (n := 0) (S := []) Xc hP.o (c_isReader hP hG v) (dT hX7_lend 2 rfl) rfl (Nat.le_of_ble_eq_true rfl) (Nat.le_of_ble_eq_true rfl) (Nat.le_of_ble_eq_true rfl) rfl (Nat.le_of_ble_eq_true rfl) (fun r1 σ2 hq3 => ?_)
  obtain ⟨r1e, r1s⟩ := hq3
  have r1e := r1e.symm; subst r1e; have r1s := r1s.symm; subst r1s
  refine e_if_eq (tgt := 21) (pc := 5) Xc (dT hX7_lend 3 rfl) rfl (fun c5 => ?_) (fun c5 => ?_)
  · skip
    refine e_iconst (v := -1) (pc := 21) Xc (dT hX7_lend 11 rfl) rfl ?_
    refine e_iret (pc := 22) Xc hQ (dT hX7_lend 12 rfl) (Nat.le_refl _) (Nat.le_refl _) ?_
    have hz : v_lend (A 1) nr nb v b = ((-1), A 1) := by
      try simp only [bI_0, bI_1, Bool.not_eq_true, Bool.not_eq_false] at c5
      first | (simp [v_lend, c5]; done) | (clear hK hG hT hS hPl hNo hTa hA hJ hR hD hQ Xc; simp_all [v_lend]; done)
    rw [hz]
    exact ⟨rfl, ⟨_, _, _, hP, rfl, rfl, rfl, rfl, rfl⟩, Off.rf⟩
  · skip
    obtain ⟨q, hq, rfl⟩ := inF_nat (v := v) (n := nr) (by omega) (by simpa [bI_0, bI_1] using c5)
    have hc_q : cl (nI q) = q := cl_nI (by omega)
    refine e_iload_n (pc := 8) Xc (dT hX7_lend 4 rfl) 2 rfl ?_
    refine e_iconst (v := -1) (pc := 9) Xc (dT hX7_lend 5 rfl) rfl ?_
    refine e_icmp_eq (tgt := 23) (pc := 10) Xc (dT hX7_lend 6 rfl) rfl (fun c10 => ?_) (fun c10 => ?_)
    · skip
      refine e_iload_n (pc := 23) Xc (dT hX7_lend 13 rfl) 2 rfl ?_
      refine e_iconst (v := -1) (pc := 24) Xc (dT hX7_lend 14 rfl) rfl ?_
      refine e_icmp_ne (tgt := 32) (pc := 25) Xc (dT hX7_lend 15 rfl) rfl (fun c25 => ?_) (fun c25 => ?_)
      · skip
        refine e_aload_n (pc := 32) Xc (dT hX7_lend 18 rfl) 0 rfl ?_
        refine e_iload_n (pc := 33) Xc (dT hX7_lend 19 rfl) 2 rfl ?_
        refine cl_X7_143 (pc := 34) (k := 0) (n := 0) (S := []) Xc hP.o (c_holderOf hP hG b) (dT hX7_lend 20 rfl) rfl (Nat.le_of_ble_eq_true rfl) (Nat.le_of_ble_eq_true rfl) (Nat.le_of_ble_eq_true rfl) rfl (Nat.le_of_ble_eq_true rfl) (fun r4 σ5 hq6 => ?_)
        obtain ⟨r4e, r4s⟩ := hq6
        have r4e := r4e.symm; subst r4e; have r4s := r4s.symm; subst r4s
        refine e_istore_n (L' := [(3, .int (holdF (A 1) nr b)), (0, .ref m), (1, .int (nI q)), (2, .int b)]) (pc := 37) Xc (dT hX7_lend 21 rfl) (by decide) rfl ?_
        refine e_iload_n (pc := 38) Xc (dT hX7_lend 22 rfl) 0 rfl ?_
        refine e_iconst (v := -1) (pc := 39) Xc (dT hX7_lend 23 rfl) rfl ?_
        refine e_icmp_eq (tgt := 51) (pc := 40) Xc (dT hX7_lend 24 rfl) rfl (fun c40 => ?_) (fun c40 => ?_)
        · skip
          refine e_aload_n (pc := 51) Xc (dT hX7_lend 30 rfl) 1 rfl ?_
          refine e_aload_n (pc := 52) Xc (dT hX7_lend 31 rfl) 1 rfl ?_
          refine gf_X7_9 (pc := 53) Xc (dT hX7_lend 32 rfl) hP.o rfl ?_
          refine e_iconst (v := 1) (pc := 56) Xc (dT hX7_lend 33 rfl) rfl ?_
          refine e_iload_n (pc := 57) Xc (dT hX7_lend 34 rfl) 2 rfl ?_
          refine e_iaddN (a := 1) (b := q) (pc := 58) Xc (dT hX7_lend 35 rfl) ?_
          refine e_ialdN (pc := 59) Xc (dT hX7_lend 36 rfl) hP.a1 (by decide) rfl (1 + q) rfl (by omega) (by decide) ?_
          refine cl_X7_168 (pc := 60) (k := 0) (n := 0) (S := []) Xc hP.o (c_orNone hP (A 1 (1 + q))) (dT hX7_lend 37 rfl) rfl (Nat.le_of_ble_eq_true rfl) (Nat.le_of_ble_eq_true rfl) (Nat.le_of_ble_eq_true rfl) rfl (Nat.le_of_ble_eq_true rfl) (fun r7 σ8 hq9 => ?_)
          obtain ⟨r7e, r7s⟩ := hq9
          have r7e := r7e.symm; subst r7e; have r7s := r7s.symm; subst r7s
          refine e_istore (L' := [(4, .int (orN (A 1 (1 + q)))), (3, .int (holdF (A 1) nr b)), (0, .ref m), (1, .int (nI q)), (2, .int b)]) (pc := 63) Xc (dT hX7_lend 38 rfl) (by decide) rfl ?_
          refine e_aload_n (pc := 65) Xc (dT hX7_lend 39 rfl) 2 rfl ?_
          refine gf_X7_9 (pc := 66) Xc (dT hX7_lend 40 rfl) hP.o rfl ?_
          refine e_iconst (v := 1) (pc := 69) Xc (dT hX7_lend 41 rfl) rfl ?_
          refine e_iload_n (pc := 70) Xc (dT hX7_lend 42 rfl) 3 rfl ?_
          refine e_iaddN (a := 1) (b := q) (pc := 71) Xc (dT hX7_lend 43 rfl) ?_
          refine e_iload_n (pc := 72) Xc (dT hX7_lend 44 rfl) 4 rfl ?_
          refine e_iastN (pc := 73) Xc (dT hX7_lend 45 rfl) hP.a1 rfl (1 + q) rfl (by omega) (by decide) ?_
          refine Ev.gen (fun z => PX7 z m F T (upA A 1 (upd (A 1) (1 + q) b))) (hP.wa1 (g := (upd (A 1) (1 + q) b))) Off.set (fun σ10 hP11 ho12 => ?_)
          refine e_iload (pc := 74) Xc (dT hX7_lend 46 rfl) 0 rfl ?_
          refine e_iret (pc := 76) Xc hQ (dT hX7_lend 47 rfl) (Nat.le_refl _) (Nat.le_refl _) ?_
          have hz : v_lend (A 1) nr nb (nI q) b = (orN (A 1 (1 + q)), (upd (A 1) (1 + q) b)) := by
            try simp only [bI_0, bI_1, Bool.not_eq_true, Bool.not_eq_false] at c5 c10 c25 c40
            first | (simp [v_lend, c5, c10, c25, c40, hc_q]; done) | (clear hK hG hT hS hPl hNo hTa hA hJ hR hD hQ Xc; simp_all [v_lend]; done)
          rw [hz]
          exact ⟨rfl, ⟨_, _, _, hP11, rfl, rfl, rfl, rfl, rfl⟩, ho12⟩
        · skip
          refine e_iload_n (pc := 43) Xc (dT hX7_lend 25 rfl) 0 rfl ?_
          refine e_iload_n (pc := 44) Xc (dT hX7_lend 26 rfl) 2 rfl ?_
          refine e_icmp_eq (tgt := 51) (pc := 45) Xc (dT hX7_lend 27 rfl) rfl (fun c45 => ?_) (fun c45 => ?_)
          · skip
            refine e_aload_n (pc := 51) Xc (dT hX7_lend 30 rfl) 1 rfl ?_
            refine e_aload_n (pc := 52) Xc (dT hX7_lend 31 rfl) 1 rfl ?_
            refine gf_X7_9 (pc := 53) Xc (dT hX7_lend 32 rfl) hP.o rfl ?_
            refine e_iconst (v := 1) (pc := 56) Xc (dT hX7_lend 33 rfl) rfl ?_
            refine e_iload_n (pc := 57) Xc (dT hX7_lend 34 rfl) 2 rfl ?_
            refine e_iaddN (a := 1) (b := q) (pc := 58) Xc (dT hX7_lend 35 rfl) ?_
            refine e_ialdN (pc := 59) Xc (dT hX7_lend 36 rfl) hP.a1 (by decide) rfl (1 + q) rfl (by omega) (by decide) ?_
            refine cl_X7_168 (pc := 60) (k := 0) (n := 0) (S := []) Xc hP.o (c_orNone hP (A 1 (1 + q))) (dT hX7_lend 37 rfl) rfl (Nat.le_of_ble_eq_true rfl) (Nat.le_of_ble_eq_true rfl) (Nat.le_of_ble_eq_true rfl) rfl (Nat.le_of_ble_eq_true rfl) (fun r13 σ14 hq15 => ?_)
            obtain ⟨r13e, r13s⟩ := hq15
            have r13e := r13e.symm; subst r13e; have r13s := r13s.symm; subst r13s
            refine e_istore (L' := [(4, .int (orN (A 1 (1 + q)))), (3, .int (holdF (A 1) nr b)), (0, .ref m), (1, .int (nI q)), (2, .int b)]) (pc := 63) Xc (dT hX7_lend 38 rfl) (by decide) rfl ?_
            refine e_aload_n (pc := 65) Xc (dT hX7_lend 39 rfl) 2 rfl ?_
            refine gf_X7_9 (pc := 66) Xc (dT hX7_lend 40 rfl) hP.o rfl ?_
            refine e_iconst (v := 1) (pc := 69) Xc (dT hX7_lend 41 rfl) rfl ?_
            refine e_iload_n (pc := 70) Xc (dT hX7_lend 42 rfl) 3 rfl ?_
            refine e_iaddN (a := 1) (b := q) (pc := 71) Xc (dT hX7_lend 43 rfl) ?_
            refine e_iload_n (pc := 72) Xc (dT hX7_lend 44 rfl) 4 rfl ?_
            refine e_iastN (pc := 73) Xc (dT hX7_lend 45 rfl) hP.a1 rfl (1 + q) rfl (by omega) (by decide) ?_
            refine Ev.gen (fun z => PX7 z m F T (upA A 1 (upd (A 1) (1 + q) b))) (hP.wa1 (g := (upd (A 1) (1 + q) b))) Off.set (fun σ16 hP17 ho18 => ?_)
            refine e_iload (pc := 74) Xc (dT hX7_lend 46 rfl) 0 rfl ?_
            refine e_iret (pc := 76) Xc hQ (dT hX7_lend 47 rfl) (Nat.le_refl _) (Nat.le_refl _) ?_
            have hz : v_lend (A 1) nr nb (nI q) b = (orN (A 1 (1 + q)), (upd (A 1) (1 + q) b)) := by
              try simp only [bI_0, bI_1, Bool.not_eq_true, Bool.not_eq_false] at c5 c10 c25 c40 c45
              first | (simp [v_lend, c5, c10, c25, c40, c45, hc_q]; done) | (clear hK hG hT hS hPl hNo hTa hA hJ hR hD hQ Xc; simp_all [v_lend]; done)
            rw [hz]
            exact ⟨rfl, ⟨_, _, _, hP17, rfl, rfl, rfl, rfl, rfl⟩, ho18⟩
          · skip
            refine e_bipush (v := -3) (pc := 48) Xc (dT hX7_lend 28 rfl) rfl ?_
            refine e_iret (pc := 50) Xc hQ (dT hX7_lend 29 rfl) (Nat.le_refl _) (Nat.le_refl _) ?_
            have hz : v_lend (A 1) nr nb (nI q) b = ((-3), A 1) := by
              try simp only [bI_0, bI_1, Bool.not_eq_true, Bool.not_eq_false] at c5 c10 c25 c40 c45
              first | (simp [v_lend, c5, c10, c25, c40, c45, hc_q]; done) | (clear hK hG hT hS hPl hNo hTa hA hJ hR hD hQ Xc; simp_all [v_lend]; done)
            rw [hz]
            exact ⟨rfl, ⟨_, _, _, hP, rfl, rfl, rfl, rfl, rfl⟩, Off.rf⟩
      · skip
        refine e_iconst (v := -1) (pc := 28) Xc (dT hX7_lend 16 rfl) rfl ?_
        refine e_goto (tgt := 37) (pc := 29) Xc (dT hX7_lend 17 rfl) rfl ?_
        refine e_istore_n (L' := [(3, .int (-1)), (0, .ref m), (1, .int (nI q)), (2, .int b)]) (pc := 37) Xc (dT hX7_lend 21 rfl) (by decide) rfl ?_
        refine e_iload_n (pc := 38) Xc (dT hX7_lend 22 rfl) 0 rfl ?_
        refine e_iconst (v := -1) (pc := 39) Xc (dT hX7_lend 23 rfl) rfl ?_
        refine e_icmp_eq (tgt := 51) (pc := 40) Xc (dT hX7_lend 24 rfl) rfl (fun c40 => ?_) (fun c40 => ?_)
        · skip
          refine e_aload_n (pc := 51) Xc (dT hX7_lend 30 rfl) 1 rfl ?_
          refine e_aload_n (pc := 52) Xc (dT hX7_lend 31 rfl) 1 rfl ?_
          refine gf_X7_9 (pc := 53) Xc (dT hX7_lend 32 rfl) hP.o rfl ?_
          refine e_iconst (v := 1) (pc := 56) Xc (dT hX7_lend 33 rfl) rfl ?_
          refine e_iload_n (pc := 57) Xc (dT hX7_lend 34 rfl) 2 rfl ?_
          refine e_iaddN (a := 1) (b := q) (pc := 58) Xc (dT hX7_lend 35 rfl) ?_
          refine e_ialdN (pc := 59) Xc (dT hX7_lend 36 rfl) hP.a1 (by decide) rfl (1 + q) rfl (by omega) (by decide) ?_
          refine cl_X7_168 (pc := 60) (k := 0) (n := 0) (S := []) Xc hP.o (c_orNone hP (A 1 (1 + q))) (dT hX7_lend 37 rfl) rfl (Nat.le_of_ble_eq_true rfl) (Nat.le_of_ble_eq_true rfl) (Nat.le_of_ble_eq_true rfl) rfl (Nat.le_of_ble_eq_true rfl) (fun r19 σ20 hq21 => ?_)
          obtain ⟨r19e, r19s⟩ := hq21
          have r19e := r19e.symm; subst r19e; have r19s := r19s.symm; subst r19s
          refine e_istore (L' := [(4, .int (orN (A 1 (1 + q)))), (3, .int (-1)), (0, .ref m), (1, .int (nI q)), (2, .int b)]) (pc := 63) Xc (dT hX7_lend 38 rfl) (by decide) rfl ?_
          refine e_aload_n (pc := 65) Xc (dT hX7_lend 39 rfl) 2 rfl ?_
          refine gf_X7_9 (pc := 66) Xc (dT hX7_lend 40 rfl) hP.o rfl ?_
          refine e_iconst (v := 1) (pc := 69) Xc (dT hX7_lend 41 rfl) rfl ?_
          refine e_iload_n (pc := 70) Xc (dT hX7_lend 42 rfl) 3 rfl ?_
          refine e_iaddN (a := 1) (b := q) (pc := 71) Xc (dT hX7_lend 43 rfl) ?_
          refine e_iload_n (pc := 72) Xc (dT hX7_lend 44 rfl) 4 rfl ?_
          refine e_iastN (pc := 73) Xc (dT hX7_lend 45 rfl) hP.a1 rfl (1 + q) rfl (by omega) (by decide) ?_
          refine Ev.gen (fun z => PX7 z m F T (upA A 1 (upd (A 1) (1 + q) b))) (hP.wa1 (g := (upd (A 1) (1 + q) b))) Off.set (fun σ22 hP23 ho24 => ?_)
          refine e_iload (pc := 74) Xc (dT hX7_lend 46 rfl) 0 rfl ?_
          refine e_iret (pc := 76) Xc hQ (dT hX7_lend 47 rfl) (Nat.le_refl _) (Nat.le_refl _) ?_
          have hz : v_lend (A 1) nr nb (nI q) b = (orN (A 1 (1 + q)), (upd (A 1) (1 + q) b)) := by
            try simp only [bI_0, bI_1, Bool.not_eq_true, Bool.not_eq_false] at c5 c10 c25 c40
            first | (simp [v_lend, c5, c10, c25, c40, hc_q]; done) | (clear hK hG hT hS hPl hNo hTa hA hJ hR hD hQ Xc; simp_all [v_lend]; done)
          rw [hz]
          exact ⟨rfl, ⟨_, _, _, hP23, rfl, rfl, rfl, rfl, rfl⟩, ho24⟩
        · skip
          exact absurd c40 (by decide)
    · skip
      refine e_aload_n (pc := 13) Xc (dT hX7_lend 7 rfl) 0 rfl ?_
      refine e_iload_n (pc := 14) Xc (dT hX7_lend 8 rfl) 2 rfl ?_
      refine cl_X7_177 (pc := 15) (k := 0) (n := 0) (S := []) Xc hP.o (c_isBook hP hG b) (dT hX7_lend 9 rfl) rfl (Nat.le_of_ble_eq_true rfl) (Nat.le_of_ble_eq_true rfl) (Nat.le_of_ble_eq_true rfl) rfl (Nat.le_of_ble_eq_true rfl) (fun r25 σ26 hq27 => ?_)
      obtain ⟨r25e, r25s⟩ := hq27
      have r25e := r25e.symm; subst r25e; have r25s := r25s.symm; subst r25s
      refine e_if_ne (tgt := 23) (pc := 18) Xc (dT hX7_lend 10 rfl) rfl (fun c18 => ?_) (fun c18 => ?_)
      · skip
        refine e_iload_n (pc := 23) Xc (dT hX7_lend 13 rfl) 2 rfl ?_
        refine e_iconst (v := -1) (pc := 24) Xc (dT hX7_lend 14 rfl) rfl ?_
        refine e_icmp_ne (tgt := 32) (pc := 25) Xc (dT hX7_lend 15 rfl) rfl (fun c25 => ?_) (fun c25 => ?_)
        · skip
          refine e_aload_n (pc := 32) Xc (dT hX7_lend 18 rfl) 0 rfl ?_
          refine e_iload_n (pc := 33) Xc (dT hX7_lend 19 rfl) 2 rfl ?_
          refine cl_X7_143 (pc := 34) (k := 0) (n := 0) (S := []) Xc hP.o (c_holderOf hP hG b) (dT hX7_lend 20 rfl) rfl (Nat.le_of_ble_eq_true rfl) (Nat.le_of_ble_eq_true rfl) (Nat.le_of_ble_eq_true rfl) rfl (Nat.le_of_ble_eq_true rfl) (fun r28 σ29 hq30 => ?_)
          obtain ⟨r28e, r28s⟩ := hq30
          have r28e := r28e.symm; subst r28e; have r28s := r28s.symm; subst r28s
          refine e_istore_n (L' := [(3, .int (holdF (A 1) nr b)), (0, .ref m), (1, .int (nI q)), (2, .int b)]) (pc := 37) Xc (dT hX7_lend 21 rfl) (by decide) rfl ?_
          refine e_iload_n (pc := 38) Xc (dT hX7_lend 22 rfl) 0 rfl ?_
          refine e_iconst (v := -1) (pc := 39) Xc (dT hX7_lend 23 rfl) rfl ?_
          refine e_icmp_eq (tgt := 51) (pc := 40) Xc (dT hX7_lend 24 rfl) rfl (fun c40 => ?_) (fun c40 => ?_)
          · skip
            refine e_aload_n (pc := 51) Xc (dT hX7_lend 30 rfl) 1 rfl ?_
            refine e_aload_n (pc := 52) Xc (dT hX7_lend 31 rfl) 1 rfl ?_
            refine gf_X7_9 (pc := 53) Xc (dT hX7_lend 32 rfl) hP.o rfl ?_
            refine e_iconst (v := 1) (pc := 56) Xc (dT hX7_lend 33 rfl) rfl ?_
            refine e_iload_n (pc := 57) Xc (dT hX7_lend 34 rfl) 2 rfl ?_
            refine e_iaddN (a := 1) (b := q) (pc := 58) Xc (dT hX7_lend 35 rfl) ?_
            refine e_ialdN (pc := 59) Xc (dT hX7_lend 36 rfl) hP.a1 (by decide) rfl (1 + q) rfl (by omega) (by decide) ?_
            refine cl_X7_168 (pc := 60) (k := 0) (n := 0) (S := []) Xc hP.o (c_orNone hP (A 1 (1 + q))) (dT hX7_lend 37 rfl) rfl (Nat.le_of_ble_eq_true rfl) (Nat.le_of_ble_eq_true rfl) (Nat.le_of_ble_eq_true rfl) rfl (Nat.le_of_ble_eq_true rfl) (fun r31 σ32 hq33 => ?_)
            obtain ⟨r31e, r31s⟩ := hq33
            have r31e := r31e.symm; subst r31e; have r31s := r31s.symm; subst r31s
            refine e_istore (L' := [(4, .int (orN (A 1 (1 + q)))), (3, .int (holdF (A 1) nr b)), (0, .ref m), (1, .int (nI q)), (2, .int b)]) (pc := 63) Xc (dT hX7_lend 38 rfl) (by decide) rfl ?_
            refine e_aload_n (pc := 65) Xc (dT hX7_lend 39 rfl) 2 rfl ?_
            refine gf_X7_9 (pc := 66) Xc (dT hX7_lend 40 rfl) hP.o rfl ?_
            refine e_iconst (v := 1) (pc := 69) Xc (dT hX7_lend 41 rfl) rfl ?_
            refine e_iload_n (pc := 70) Xc (dT hX7_lend 42 rfl) 3 rfl ?_
            refine e_iaddN (a := 1) (b := q) (pc := 71) Xc (dT hX7_lend 43 rfl) ?_
            refine e_iload_n (pc := 72) Xc (dT hX7_lend 44 rfl) 4 rfl ?_
            refine e_iastN (pc := 73) Xc (dT hX7_lend 45 rfl) hP.a1 rfl (1 + q) rfl (by omega) (by decide) ?_
            refine Ev.gen (fun z => PX7 z m F T (upA A 1 (upd (A 1) (1 + q) b))) (hP.wa1 (g := (upd (A 1) (1 + q) b))) Off.set (fun σ34 hP35 ho36 => ?_)
            refine e_iload (pc := 74) Xc (dT hX7_lend 46 rfl) 0 rfl ?_
            refine e_iret (pc := 76) Xc hQ (dT hX7_lend 47 rfl) (Nat.le_refl _) (Nat.le_refl _) ?_
            have hz : v_lend (A 1) nr nb (nI q) b = (orN (A 1 (1 + q)), (upd (A 1) (1 + q) b)) := by
              try simp only [bI_0, bI_1, Bool.not_eq_true, Bool.not_eq_false] at c5 c10 c18 c25 c40
              first | (simp [v_lend, c5, c10, c18, c25, c40, hc_q]; done) | (clear hK hG hT hS hPl hNo hTa hA hJ hR hD hQ Xc; simp_all [v_lend]; done)
            rw [hz]
            exact ⟨rfl, ⟨_, _, _, hP35, rfl, rfl, rfl, rfl, rfl⟩, ho36⟩
          · skip
            refine e_iload_n (pc := 43) Xc (dT hX7_lend 25 rfl) 0 rfl ?_
            refine e_iload_n (pc := 44) Xc (dT hX7_lend 26 rfl) 2 rfl ?_
            refine e_icmp_eq (tgt := 51) (pc := 45) Xc (dT hX7_lend 27 rfl) rfl (fun c45 => ?_) (fun c45 => ?_)
            · skip
              refine e_aload_n (pc := 51) Xc (dT hX7_lend 30 rfl) 1 rfl ?_
              refine e_aload_n (pc := 52) Xc (dT hX7_lend 31 rfl) 1 rfl ?_
              refine gf_X7_9 (pc := 53) Xc (dT hX7_lend 32 rfl) hP.o rfl ?_
              refine e_iconst (v := 1) (pc := 56) Xc (dT hX7_lend 33 rfl) rfl ?_
              refine e_iload_n (pc := 57) Xc (dT hX7_lend 34 rfl) 2 rfl ?_
              refine e_iaddN (a := 1) (b := q) (pc := 58) Xc (dT hX7_lend 35 rfl) ?_
              refine e_ialdN (pc := 59) Xc (dT hX7_lend 36 rfl) hP.a1 (by decide) rfl (1 + q) rfl (by omega) (by decide) ?_
              refine cl_X7_168 (pc := 60) (k := 0) (n := 0) (S := []) Xc hP.o (c_orNone hP (A 1 (1 + q))) (dT hX7_lend 37 rfl) rfl (Nat.le_of_ble_eq_true rfl) (Nat.le_of_ble_eq_true rfl) (Nat.le_of_ble_eq_true rfl) rfl (Nat.le_of_ble_eq_true rfl) (fun r37 σ38 hq39 => ?_)
              obtain ⟨r37e, r37s⟩ := hq39
              have r37e := r37e.symm; subst r37e; have r37s := r37s.symm; subst r37s
              refine e_istore (L' := [(4, .int (orN (A 1 (1 + q)))), (3, .int (holdF (A 1) nr b)), (0, .ref m), (1, .int (nI q)), (2, .int b)]) (pc := 63) Xc (dT hX7_lend 38 rfl) (by decide) rfl ?_
              refine e_aload_n (pc := 65) Xc (dT hX7_lend 39 rfl) 2 rfl ?_
              refine gf_X7_9 (pc := 66) Xc (dT hX7_lend 40 rfl) hP.o rfl ?_
              refine e_iconst (v := 1) (pc := 69) Xc (dT hX7_lend 41 rfl) rfl ?_
              refine e_iload_n (pc := 70) Xc (dT hX7_lend 42 rfl) 3 rfl ?_
              refine e_iaddN (a := 1) (b := q) (pc := 71) Xc (dT hX7_lend 43 rfl) ?_
              refine e_iload_n (pc := 72) Xc (dT hX7_lend 44 rfl) 4 rfl ?_
              refine e_iastN (pc := 73) Xc (dT hX7_lend 45 rfl) hP.a1 rfl (1 + q) rfl (by omega) (by decide) ?_
              refine Ev.gen (fun z => PX7 z m F T (upA A 1 (upd (A 1) (1 + q) b))) (hP.wa1 (g := (upd (A 1) (1 + q) b))) Off.set (fun σ40 hP41 ho42 => ?_)
              refine e_iload (pc := 74) Xc (dT hX7_lend 46 rfl) 0 rfl ?_
              refine e_iret (pc := 76) Xc hQ (dT hX7_lend 47 rfl) (Nat.le_refl _) (Nat.le_refl _) ?_
              have hz : v_lend (A 1) nr nb (nI q) b = (orN (A 1 (1 + q)), (upd (A 1) (1 + q) b)) := by
                try simp only [bI_0, bI_1, Bool.not_eq_true, Bool.not_eq_false] at c5 c10 c18 c25 c40 c45
                first | (simp [v_lend, c5, c10, c18, c25, c40, c45, hc_q]; done) | (clear hK hG hT hS hPl hNo hTa hA hJ hR hD hQ Xc; simp_all [v_lend]; done)
              rw [hz]
              exact ⟨rfl, ⟨_, _, _, hP41, rfl, rfl, rfl, rfl, rfl⟩, ho42⟩
            · skip
              refine e_bipush (v := -3) (pc := 48) Xc (dT hX7_lend 28 rfl) rfl ?_
              refine e_iret (pc := 50) Xc hQ (dT hX7_lend 29 rfl) (Nat.le_refl _) (Nat.le_refl _) ?_
              have hz : v_lend (A 1) nr nb (nI q) b = ((-3), A 1) := by
                try simp only [bI_0, bI_1, Bool.not_eq_true, Bool.not_eq_false] at c5 c10 c18 c25 c40 c45
                first | (simp [v_lend, c5, c10, c18, c25, c40, c45, hc_q]; done) | (clear hK hG hT hS hPl hNo hTa hA hJ hR hD hQ Xc; simp_all [v_lend]; done)
              rw [hz]
              exact ⟨rfl, ⟨_, _, _, hP, rfl, rfl, rfl, rfl, rfl⟩, Off.rf⟩
        · skip
          refine e_iconst (v := -1) (pc := 28) Xc (dT hX7_lend 16 rfl) rfl ?_
          refine e_goto (tgt := 37) (pc := 29) Xc (dT hX7_lend 17 rfl) rfl ?_
          refine e_istore_n (L' := [(3, .int (-1)), (0, .ref m), (1, .int (nI q)), (2, .int b)]) (pc := 37) Xc (dT hX7_lend 21 rfl) (by decide) rfl ?_
          refine e_iload_n (pc := 38) Xc (dT hX7_lend 22 rfl) 0 rfl ?_
          refine e_iconst (v := -1) (pc := 39) Xc (dT hX7_lend 23 rfl) rfl ?_
          refine e_icmp_eq (tgt := 51) (pc := 40) Xc (dT hX7_lend 24 rfl) rfl (fun c40 => ?_) (fun c40 => ?_)
          · skip
            refine e_aload_n (pc := 51) Xc (dT hX7_lend 30 rfl) 1 rfl ?_
            refine e_aload_n (pc := 52) Xc (dT hX7_lend 31 rfl) 1 rfl ?_
            refine gf_X7_9 (pc := 53) Xc (dT hX7_lend 32 rfl) hP.o rfl ?_
            refine e_iconst (v := 1) (pc := 56) Xc (dT hX7_lend 33 rfl) rfl ?_
            refine e_iload_n (pc := 57) Xc (dT hX7_lend 34 rfl) 2 rfl ?_
            refine e_iaddN (a := 1) (b := q) (pc := 58) Xc (dT hX7_lend 35 rfl) ?_
            refine e_ialdN (pc := 59) Xc (dT hX7_lend 36 rfl) hP.a1 (by decide) rfl (1 + q) rfl (by omega) (by decide) ?_
            refine cl_X7_168 (pc := 60) (k := 0) (n := 0) (S := []) Xc hP.o (c_orNone hP (A 1 (1 + q))) (dT hX7_lend 37 rfl) rfl (Nat.le_of_ble_eq_true rfl) (Nat.le_of_ble_eq_true rfl) (Nat.le_of_ble_eq_true rfl) rfl (Nat.le_of_ble_eq_true rfl) (fun r43 σ44 hq45 => ?_)
            obtain ⟨r43e, r43s⟩ := hq45
            have r43e := r43e.symm; subst r43e; have r43s := r43s.symm; subst r43s
            refine e_istore (L' := [(4, .int (orN (A 1 (1 + q)))), (3, .int (-1)), (0, .ref m), (1, .int (nI q)), (2, .int b)]) (pc := 63) Xc (dT hX7_lend 38 rfl) (by decide) rfl ?_
            refine e_aload_n (pc := 65) Xc (dT hX7_lend 39 rfl) 2 rfl ?_
            refine gf_X7_9 (pc := 66) Xc (dT hX7_lend 40 rfl) hP.o rfl ?_
            refine e_iconst (v := 1) (pc := 69) Xc (dT hX7_lend 41 rfl) rfl ?_
            refine e_iload_n (pc := 70) Xc (dT hX7_lend 42 rfl) 3 rfl ?_
            refine e_iaddN (a := 1) (b := q) (pc := 71) Xc (dT hX7_lend 43 rfl) ?_
            refine e_iload_n (pc := 72) Xc (dT hX7_lend 44 rfl) 4 rfl ?_
            refine e_iastN (pc := 73) Xc (dT hX7_lend 45 rfl) hP.a1 rfl (1 + q) rfl (by omega) (by decide) ?_
            refine Ev.gen (fun z => PX7 z m F T (upA A 1 (upd (A 1) (1 + q) b))) (hP.wa1 (g := (upd (A 1) (1 + q) b))) Off.set (fun σ46 hP47 ho48 => ?_)
            refine e_iload (pc := 74) Xc (dT hX7_lend 46 rfl) 0 rfl ?_
            refine e_iret (pc := 76) Xc hQ (dT hX7_lend 47 rfl) (Nat.le_refl _) (Nat.le_refl _) ?_
            have hz : v_lend (A 1) nr nb (nI q) b = (orN (A 1 (1 + q)), (upd (A 1) (1 + q) b)) := by
              try simp only [bI_0, bI_1, Bool.not_eq_true, Bool.not_eq_false] at c5 c10 c18 c25 c40
              first | (simp [v_lend, c5, c10, c18, c25, c40, hc_q]; done) | (clear hK hG hT hS hPl hNo hTa hA hJ hR hD hQ Xc; simp_all [v_lend]; done)
            rw [hz]
            exact ⟨rfl, ⟨_, _, _, hP47, rfl, rfl, rfl, rfl, rfl⟩, ho48⟩
          · skip
            exact absurd c40 (by decide)
      · skip
        refine e_iconst (v := -1) (pc := 21) Xc (dT hX7_lend 11 rfl) rfl ?_
        refine e_iret (pc := 22) Xc hQ (dT hX7_lend 12 rfl) (Nat.le_refl _) (Nat.le_refl _) ?_
        have hz : v_lend (A 1) nr nb (nI q) b = ((-1), A 1) := by
          try simp only [bI_0, bI_1, Bool.not_eq_true, Bool.not_eq_false] at c5 c10 c18
          first | (simp [v_lend, c5, c10, c18, hc_q]; done) | (clear hK hG hT hS hPl hNo hTa hA hJ hR hD hQ Xc; simp_all [v_lend]; done)
        rw [hz]
        exact ⟨rfl, ⟨_, _, _, hP, rfl, rfl, rfl, rfl, rfl⟩, Off.rf⟩
set_option maxRecDepth 100000 in
set_option maxHeartbeats 4000000 in
theorem p_told {G : xG} {σ : xS} {m : Nat} {X Y bd : Nat → Int32} {hi rn : Int32} (hM : MK σ m X Y bd hi rn) {nr nb ns np nn nt na dy : Nat} {t : xT} (hK : OK X nr nb t ns np nn nt na dy) (w : Int32) : CI G yX7_told cX7_told 2 (some .int) 4 0 0 [.ref m, .int w] σ (fun z σ1 => z = v_told X t nr nb dy w ∧ MK σ1 m X Y bd hi rn ∧ Off m σ σ1) := by
  refine Met.ofX (by decide +kernel) (Nat.le_of_ble_eq_true rfl) (fun μ Xc hQ hnm => ?_)
  have Xc : xC G μ cX7_told 2 RX7 (some .int) 4 0 0 := Xc
  obtain ⟨F, T, A, hP, e1, e2, e3, e4, e5⟩ := hM
  subst e1 e2 e3 e4 e5
  obtain ⟨hG, hT, hS, hPl, hNo, hTa, hA, hJ, hR, hD⟩ := id hK
  have hr4 := hG.r4
  have hb7 := hG.b7
  have hs6 := hS.1
  have hp8 := hPl.1
  have hn8 := hNo.1
  have ht100 := hTa.1
  have ha5 := hA.1
  have hd9 := hD.1
  show Ev G μ 2 0 0 0 [(0, .ref m), (1, .int w)] [] σ
  refine e_iload_n (pc := 0) Xc (dT hX7_told 0 rfl) 1 rfl ?_
  by_cases sw1_0 : w = 0
  · skip
    refine e_val (y := 0) sw1_0 ?_
    refine e_tableIn (x := 0) (off := 35) (tgt := 36) (pc := 1) Xc (dT hX7_told 1 rfl) (by decide) (by decide) rfl rfl ?_
    refine e_aload_n (pc := 36) Xc (dT hX7_told 2 rfl) 0 rfl ?_
    refine gf_X7_9 (pc := 37) Xc (dT hX7_told 3 rfl) hP.o rfl ?_
    refine e_iconst (v := 0) (pc := 40) Xc (dT hX7_told 4 rfl) rfl ?_
    refine e_ialdN (pc := 41) Xc (dT hX7_told 5 rfl) hP.a1 (by decide) rfl 0 rfl (by omega) (by decide) ?_
    refine e_val (y := nI dy) hD.2 ?_
    refine e_iret (pc := 42) Xc hQ (dT hX7_told 6 rfl) (Nat.le_refl _) (Nat.le_refl _) ?_
    have hz : v_told (A 1) t nr nb dy w = nI dy := by
      first | (simp [v_told, nI_0, nl1, nl2, nl3, nl4, nl5, nl6, nl7, nl8, nl9, nl10]; done) | (clear hK hG hT hS hPl hNo hTa hA hJ hR hD hQ Xc; simp_all [v_told, nI_0, nl1, nl2, nl3, nl4, nl5, nl6, nl7, nl8, nl9, nl10]; done)
    exact ⟨hz.symm, ⟨_, _, _, hP, rfl, rfl, rfl, rfl, rfl⟩, Off.rf⟩
  by_cases sw1_1 : w = 1
  · skip
    refine e_val (y := 1) sw1_1 ?_
    refine e_tableIn (x := 1) (off := 42) (tgt := 43) (pc := 1) Xc (dT hX7_told 1 rfl) (by decide) (by decide) rfl rfl ?_
    refine e_aload_n (pc := 43) Xc (dT hX7_told 7 rfl) 0 rfl ?_
    refine cl_X7_151 (pc := 44) (k := 0) (n := 0) (S := []) Xc hP.o (c_gapNow hP hG) (dT hX7_told 8 rfl) rfl (Nat.le_of_ble_eq_true rfl) (Nat.le_of_ble_eq_true rfl) (Nat.le_of_ble_eq_true rfl) rfl (Nat.le_of_ble_eq_true rfl) (fun r1 σ2 hq3 => ?_)
    obtain ⟨r1e, r1s⟩ := hq3
    have r1e := r1e.symm; subst r1e; have r1s := r1s.symm; subst r1s
    refine e_iret (pc := 47) Xc hQ (dT hX7_told 9 rfl) (Nat.le_refl _) (Nat.le_refl _) ?_
    have hz : v_told (A 1) t nr nb dy w = gapF (A 1) := by
      first | (simp [v_told, nI_0, nl1, nl2, nl3, nl4, nl5, nl6, nl7, nl8, nl9, nl10]; done) | (clear hK hG hT hS hPl hNo hTa hA hJ hR hD hQ Xc; simp_all [v_told, nI_0, nl1, nl2, nl3, nl4, nl5, nl6, nl7, nl8, nl9, nl10]; done)
    exact ⟨hz.symm, ⟨_, _, _, hP, rfl, rfl, rfl, rfl, rfl⟩, Off.rf⟩
  by_cases sw1_2 : w = 2
  · skip
    refine e_val (y := 2) sw1_2 ?_
    refine e_tableIn (x := 2) (off := 47) (tgt := 48) (pc := 1) Xc (dT hX7_told 1 rfl) (by decide) (by decide) rfl rfl ?_
    refine e_aload_n (pc := 48) Xc (dT hX7_told 10 rfl) 0 rfl ?_
    refine cl_X7_180 (pc := 49) (k := 0) (n := 0) (S := []) Xc hP.o (c_pasteNow hP hG) (dT hX7_told 11 rfl) rfl (Nat.le_of_ble_eq_true rfl) (Nat.le_of_ble_eq_true rfl) (Nat.le_of_ble_eq_true rfl) rfl (Nat.le_of_ble_eq_true rfl) (fun r4 σ5 hq6 => ?_)
    obtain ⟨r4e, r4s⟩ := hq6
    have r4e := r4e.symm; subst r4e; have r4s := r4s.symm; subst r4s
    refine e_iret (pc := 52) Xc hQ (dT hX7_told 12 rfl) (Nat.le_refl _) (Nat.le_refl _) ?_
    have hz : v_told (A 1) t nr nb dy w = pasteF (A 1) := by
      first | (simp [v_told, nI_0, nl1, nl2, nl3, nl4, nl5, nl6, nl7, nl8, nl9, nl10]; done) | (clear hK hG hT hS hPl hNo hTa hA hJ hR hD hQ Xc; simp_all [v_told, nI_0, nl1, nl2, nl3, nl4, nl5, nl6, nl7, nl8, nl9, nl10]; done)
    exact ⟨hz.symm, ⟨_, _, _, hP, rfl, rfl, rfl, rfl, rfl⟩, Off.rf⟩
  by_cases sw1_3 : w = 3
  · skip
    refine e_val (y := 3) sw1_3 ?_
    refine e_tableIn (x := 3) (off := 52) (tgt := 53) (pc := 1) Xc (dT hX7_told 1 rfl) (by decide) (by decide) rfl rfl ?_
    refine e_aload_n (pc := 53) Xc (dT hX7_told 13 rfl) 0 rfl ?_
    refine cl_X7_183 (pc := 54) (k := 0) (n := 0) (S := []) Xc hP.o (c_totalNow hP hG hT) (dT hX7_told 14 rfl) rfl (Nat.le_of_ble_eq_true rfl) (Nat.le_of_ble_eq_true rfl) (Nat.le_of_ble_eq_true rfl) rfl (Nat.le_of_ble_eq_true rfl) (fun r7 σ8 hq9 => ?_)
    obtain ⟨r7e, hP10, ho11⟩ := hq9
    have r7e := r7e.symm; subst r7e
    refine e_iret (pc := 57) Xc hQ (dT hX7_told 15 rfl) (Nat.le_refl _) (Nat.le_refl _) ?_
    have hz : v_told (A 1) t nr nb dy w = totF (A 1) t nr := by
      first | (simp [v_told, nI_0, nl1, nl2, nl3, nl4, nl5, nl6, nl7, nl8, nl9, nl10]; done) | (clear hK hG hT hS hPl hNo hTa hA hJ hR hD hQ Xc; simp_all [v_told, nI_0, nl1, nl2, nl3, nl4, nl5, nl6, nl7, nl8, nl9, nl10]; done)
    exact ⟨hz.symm, ⟨_, _, _, hP10, rfl, rfl, rfl, rfl, rfl⟩, ho11⟩
  by_cases sw1_4 : w = 4
  · skip
    refine e_val (y := 4) sw1_4 ?_
    refine e_tableIn (x := 4) (off := 57) (tgt := 58) (pc := 1) Xc (dT hX7_told 1 rfl) (by decide) (by decide) rfl rfl ?_
    refine e_aload_n (pc := 58) Xc (dT hX7_told 16 rfl) 0 rfl ?_
    refine cl_X7_186 (pc := 59) (k := 0) (n := 0) (S := []) Xc hP.o (c_shelf hP hG) (dT hX7_told 17 rfl) rfl (Nat.le_of_ble_eq_true rfl) (Nat.le_of_ble_eq_true rfl) (Nat.le_of_ble_eq_true rfl) rfl (Nat.le_of_ble_eq_true rfl) (fun r12 σ13 hq14 => ?_)
    obtain ⟨r12e, r12s⟩ := hq14
    have r12e := r12e.symm; subst r12e; have r12s := r12s.symm; subst r12s
    refine e_iret (pc := 62) Xc hQ (dT hX7_told 18 rfl) (Nat.le_refl _) (Nat.le_refl _) ?_
    have hz : v_told (A 1) t nr nb dy w = shelfF (A 1) nr nb := by
      first | (simp [v_told, nI_0, nl1, nl2, nl3, nl4, nl5, nl6, nl7, nl8, nl9, nl10]; done) | (clear hK hG hT hS hPl hNo hTa hA hJ hR hD hQ Xc; simp_all [v_told, nI_0, nl1, nl2, nl3, nl4, nl5, nl6, nl7, nl8, nl9, nl10]; done)
    exact ⟨hz.symm, ⟨_, _, _, hP, rfl, rfl, rfl, rfl, rfl⟩, Off.rf⟩
  have so1_0 := lv_neT sw1_0 (a := 0) rfl
  have so1_1 := lv_neT sw1_1 (a := 1) rfl
  have so1_2 := lv_neT sw1_2 (a := 2) rfl
  have so1_3 := lv_neT sw1_3 (a := 3) rfl
  have so1_4 := lv_neT sw1_4 (a := 4) rfl
  refine e_tableOut (tgt := 63) (pc := 1) Xc (dT hX7_told 1 rfl) (by omega) rfl ?_
  refine e_iconst (v := -1) (pc := 63) Xc (dT hX7_told 19 rfl) rfl ?_
  refine e_iret (pc := 64) Xc hQ (dT hX7_told 20 rfl) (Nat.le_refl _) (Nat.le_refl _) ?_
  have hz : v_told (A 1) t nr nb dy w = (-1) := by
    first | (simp [v_told, nI_0, nl1, nl2, nl3, nl4, nl5, nl6, nl7, nl8, nl9, nl10]; done) | (clear hK hG hT hS hPl hNo hTa hA hJ hR hD hQ Xc; simp_all [v_told, nI_0, nl1, nl2, nl3, nl4, nl5, nl6, nl7, nl8, nl9, nl10]; done)
  exact ⟨hz.symm, ⟨_, _, _, hP, rfl, rfl, rfl, rfl, rfl⟩, Off.rf⟩
set_option maxRecDepth 100000 in
set_option maxHeartbeats 4000000 in
theorem p_come {G : xG} {σ : xS} {m : Nat} {X Y bd : Nat → Int32} {hi rn : Int32} (hM : MK σ m X Y bd hi rn) {nr nb ns np nn nt na dy : Nat} {t : xT} (hK : OK X nr nb t ns np nn nt na dy) (v : Int32) : CI G yX7_come cX7_come 2 (some .int) 5 0 0 [.ref m, .int v] σ (fun z σ1 => z = (v_come X t nr nb v).1 ∧ MK σ1 m (v_come X t nr nb v).2 Y bd hi rn ∧ Off m σ σ1) := by
  refine Met.ofX (by decide +kernel) (Nat.le_of_ble_eq_true rfl) (fun μ Xc hQ hnm => ?_)
  have Xc : xC G μ cX7_come 2 RX7 (some .int) 5 0 0 := Xc
  obtain ⟨F, T, A, hP, e1, e2, e3, e4, e5⟩ := hM
  subst e1 e2 e3 e4 e5
  obtain ⟨hG, hT, hS, hPl, hNo, hTa, hA, hJ, hR, hD⟩ := id hK
  have hr4 := hG.r4
  have hb7 := hG.b7
  have hs6 := hS.1
  have hp8 := hPl.1
  have hn8 := hNo.1
  have ht100 := hTa.1
  have ha5 := hA.1
  have hd9 := hD.1
  show Ev G μ 2 0 0 0 [(0, .ref m), (1, .int v)] [] σ
  refine e_aload_n (pc := 0) Xc (dT hX7_come 0 rfl) 0 rfl ?_
  refine e_iload_n (pc := 1) Xc (dT hX7_come 1 rfl) 1 rfl ?_
  refine cl_X7_165 (pc := 2) (k := 0) (n := 0) (S := []) Xc hP.o (c_isReader hP hG v) (dT hX7_come 2 rfl) rfl (Nat.le_of_ble_eq_true rfl) (Nat.le_of_ble_eq_true rfl) (Nat.le_of_ble_eq_true rfl) rfl (Nat.le_of_ble_eq_true rfl) (fun r1 σ2 hq3 => ?_)
  obtain ⟨r1e, r1s⟩ := hq3
  have r1e := r1e.symm; subst r1e; have r1s := r1s.symm; subst r1s
  refine e_if_ne (tgt := 10) (pc := 5) Xc (dT hX7_come 3 rfl) rfl (fun c5 => ?_) (fun c5 => ?_)
  · skip
    obtain ⟨q, hq, rfl⟩ := inF_nat (v := v) (n := nr) (by omega) (by simpa [bI_0, bI_1] using c5)
    have hc_q : cl (nI q) = q := cl_nI (by omega)
    refine e_aload_n (pc := 10) Xc (dT hX7_come 6 rfl) 0 rfl ?_
    refine e_iload_n (pc := 11) Xc (dT hX7_come 7 rfl) 1 rfl ?_
    refine cl_X7_189 (pc := 12) (k := 0) (n := 0) (S := []) Xc hP.o (c_comes hP hG hT q (by omega)) (dT hX7_come 8 rfl) rfl (Nat.le_of_ble_eq_true rfl) (Nat.le_of_ble_eq_true rfl) (Nat.le_of_ble_eq_true rfl) rfl (Nat.le_of_ble_eq_true rfl) (fun r4 σ5 hq6 => ?_)
    obtain ⟨r4e, hP7, ho8⟩ := hq6
    have r4e := r4e.symm; subst r4e
    refine e_pop (pc := 15) Xc (dT hX7_come 9 rfl) rfl ?_
    refine e_aload_n (pc := 16) Xc (dT hX7_come 10 rfl) 0 rfl ?_
    refine e_aload_n (pc := 17) Xc (dT hX7_come 11 rfl) 0 rfl ?_
    refine gf_X7_9 (pc := 18) Xc (dT hX7_come 12 rfl) hP7.o rfl ?_
    refine e_iconst (v := 1) (pc := 21) Xc (dT hX7_come 13 rfl) rfl ?_
    refine e_iload_n (pc := 22) Xc (dT hX7_come 14 rfl) 1 rfl ?_
    refine e_iaddN (a := 1) (b := q) (pc := 23) Xc (dT hX7_come 15 rfl) ?_
    refine e_ialdN (pc := 24) Xc (dT hX7_come 16 rfl) hP7.a1 (by decide) rfl (1 + q) rfl (by omega) (by decide) ?_
    refine e_val (y := (comeF (A 1) t nr nb q) (1 + q)) rfl ?_
    refine cl_X7_168 (pc := 25) (k := 0) (n := 0) (S := []) Xc hP7.o (c_orNone hP7 ((comeF (A 1) t nr nb q) (1 + q))) (dT hX7_come 17 rfl) rfl (Nat.le_of_ble_eq_true rfl) (Nat.le_of_ble_eq_true rfl) (Nat.le_of_ble_eq_true rfl) rfl (Nat.le_of_ble_eq_true rfl) (fun r9 σ10 hq11 => ?_)
    obtain ⟨r9e, r9s⟩ := hq11
    have r9e := r9e.symm; subst r9e; have r9s := r9s.symm; subst r9s
    refine e_val (y := orN ((comeF (A 1) t nr nb q) (1 + q))) rfl ?_
    refine e_iret (pc := 28) Xc hQ (dT hX7_come 18 rfl) (Nat.le_refl _) (Nat.le_refl _) ?_
    have hz : v_come (A 1) t nr nb (nI q) = (orN ((comeF (A 1) t nr nb q) (1 + q)), (comeF (A 1) t nr nb q)) := by
      try simp only [bI_0, bI_1, Bool.not_eq_true, Bool.not_eq_false] at c5
      first | (simp [v_come, c5, hc_q]; done) | (clear hK hG hT hS hPl hNo hTa hA hJ hR hD hQ Xc; simp_all [v_come]; done)
    rw [hz]
    exact ⟨rfl, ⟨_, _, _, hP7, rfl, rfl, rfl, rfl, rfl⟩, ho8⟩
  · skip
    refine e_iconst (v := -1) (pc := 8) Xc (dT hX7_come 4 rfl) rfl ?_
    refine e_iret (pc := 9) Xc hQ (dT hX7_come 5 rfl) (Nat.le_refl _) (Nat.le_refl _) ?_
    have hz : v_come (A 1) t nr nb v = ((-1), A 1) := by
      try simp only [bI_0, bI_1, Bool.not_eq_true, Bool.not_eq_false] at c5
      first | (simp [v_come, c5]; done) | (clear hK hG hT hS hPl hNo hTa hA hJ hR hD hQ Xc; simp_all [v_come]; done)
    rw [hz]
    exact ⟨rfl, ⟨_, _, _, hP, rfl, rfl, rfl, rfl, rfl⟩, Off.rf⟩
set_option maxRecDepth 100000 in
set_option maxHeartbeats 4000000 in
theorem p_paste {G : xG} {σ : xS} {m : Nat} {X Y bd : Nat → Int32} {hi rn : Int32} (hM : MK σ m X Y bd hi rn) {nr nb ns np nn nt na dy : Nat} {t : xT} (hK : OK X nr nb t ns np nn nt na dy) (v : Int32) (is : Int32) : CI G yX7_paste cX7_paste 3 (some .int) 4 0 0 [.ref m, .int v, .int is] σ (fun z σ1 => z = (v_paste X nr v is).1 ∧ MK σ1 m (v_paste X nr v is).2 Y bd hi rn ∧ Off m σ σ1) := by
  refine Met.ofX (by decide +kernel) (Nat.le_of_ble_eq_true rfl) (fun μ Xc hQ hnm => ?_)
  have Xc : xC G μ cX7_paste 3 RX7 (some .int) 4 0 0 := Xc
  obtain ⟨F, T, A, hP, e1, e2, e3, e4, e5⟩ := hM
  subst e1 e2 e3 e4 e5
  obtain ⟨hG, hT, hS, hPl, hNo, hTa, hA, hJ, hR, hD⟩ := id hK
  have hr4 := hG.r4
  have hb7 := hG.b7
  have hs6 := hS.1
  have hp8 := hPl.1
  have hn8 := hNo.1
  have ht100 := hTa.1
  have ha5 := hA.1
  have hd9 := hD.1
  show Ev G μ 3 0 0 0 [(0, .ref m), (1, .int v), (2, .int is)] [] σ
  refine e_aload_n (pc := 0) Xc (dT hX7_paste 0 rfl) 0 rfl ?_
  refine e_iload_n (pc := 1) Xc (dT hX7_paste 1 rfl) 1 rfl ?_
  refine cl_X7_165 (pc := 2) (k := 0) (n := 0) (S := []) Xc hP.o (c_isReader hP hG v) (dT hX7_paste 2 rfl) rfl (Nat.le_of_ble_eq_true rfl) (Nat.le_of_ble_eq_true rfl) (Nat.le_of_ble_eq_true rfl) rfl (Nat.le_of_ble_eq_true rfl) (fun r1 σ2 hq3 => ?_)
  obtain ⟨r1e, r1s⟩ := hq3
  have r1e := r1e.symm; subst r1e; have r1s := r1s.symm; subst r1s
  refine e_if_ne (tgt := 10) (pc := 5) Xc (dT hX7_paste 3 rfl) rfl (fun c5 => ?_) (fun c5 => ?_)
  · skip
    obtain ⟨q, hq, rfl⟩ := inF_nat (v := v) (n := nr) (by omega) (by simpa [bI_0, bI_1] using c5)
    have hc_q : cl (nI q) = q := cl_nI (by omega)
    refine e_aload_n (pc := 10) Xc (dT hX7_paste 6 rfl) 0 rfl ?_
    refine gf_X7_9 (pc := 11) Xc (dT hX7_paste 7 rfl) hP.o rfl ?_
    refine e_iconst (v := 1) (pc := 14) Xc (dT hX7_paste 8 rfl) rfl ?_
    refine e_iload_n (pc := 15) Xc (dT hX7_paste 9 rfl) 1 rfl ?_
    refine e_iaddN (a := 1) (b := q) (pc := 16) Xc (dT hX7_paste 10 rfl) ?_
    refine e_ialdN (pc := 17) Xc (dT hX7_paste 11 rfl) hP.a1 (by decide) rfl (1 + q) rfl (by omega) (by decide) ?_
    refine e_iconst (v := -1) (pc := 18) Xc (dT hX7_paste 12 rfl) rfl ?_
    refine e_icmp_ne (tgt := 25) (pc := 19) Xc (dT hX7_paste 13 rfl) rfl (fun c19 => ?_) (fun c19 => ?_)
    · skip
      obtain ⟨h, hl, he⟩ := hG.has (by omega) c19
      have hc_h : cl (nI h) = h := cl_nI (by omega)
      refine e_aload_n (pc := 25) Xc (dT hX7_paste 16 rfl) 0 rfl ?_
      refine e_iload_n (pc := 26) Xc (dT hX7_paste 17 rfl) 1 rfl ?_
      refine e_iload_n (pc := 27) Xc (dT hX7_paste 18 rfl) 2 rfl ?_
      refine cl_X7_195 (pc := 28) (k := 0) (n := 0) (S := []) Xc hP.o (c_pastes hP hG q (by omega) is) (dT hX7_paste 19 rfl) rfl (Nat.le_of_ble_eq_true rfl) (Nat.le_of_ble_eq_true rfl) (Nat.le_of_ble_eq_true rfl) rfl (Nat.le_of_ble_eq_true rfl) (fun σ5 hq6 => ?_)
      obtain ⟨hP7, ho8⟩ := hq6
      refine e_aload_n (pc := 31) Xc (dT hX7_paste 20 rfl) 0 rfl ?_
      refine gf_X7_9 (pc := 32) Xc (dT hX7_paste 21 rfl) hP7.o rfl ?_
      refine e_iconst (v := 5) (pc := 35) Xc (dT hX7_paste 22 rfl) rfl ?_
      refine e_aload_n (pc := 36) Xc (dT hX7_paste 23 rfl) 0 rfl ?_
      refine gf_X7_9 (pc := 37) Xc (dT hX7_paste 24 rfl) hP7.o rfl ?_
      refine e_iconst (v := 1) (pc := 40) Xc (dT hX7_paste 25 rfl) rfl ?_
      refine e_iload_n (pc := 41) Xc (dT hX7_paste 26 rfl) 1 rfl ?_
      refine e_iaddN (a := 1) (b := q) (pc := 42) Xc (dT hX7_paste 27 rfl) ?_
      refine e_ialdN (pc := 43) Xc (dT hX7_paste 28 rfl) hP7.a1 (by decide) rfl (1 + q) rfl (by omega) (by decide) ?_
      refine e_val (y := (pastF (A 1) q is) (1 + q)) rfl ?_
      refine e_val (y := A 1 (1 + q)) (past_lo (by omega)) ?_
      refine e_val (y := nI h) he ?_
      refine e_iaddN (a := 5) (b := h) (pc := 44) Xc (dT hX7_paste 29 rfl) ?_
      refine e_ialdN (pc := 45) Xc (dT hX7_paste 30 rfl) hP7.a1 (by decide) rfl (5 + h) rfl (by omega) (by decide) ?_
      refine e_val (y := (pastF (A 1) q is) (5 + h)) rfl ?_
      refine e_iret (pc := 46) Xc hQ (dT hX7_paste 31 rfl) (Nat.le_refl _) (Nat.le_refl _) ?_
      have hz : v_paste (A 1) nr (nI q) is = ((pastF (A 1) q is) (5 + h), (pastF (A 1) q is)) := by
        try simp only [bI_0, bI_1, Bool.not_eq_true, Bool.not_eq_false] at c5 c19
        first | (simp [v_paste, c5, c19, hc_q, hc_h, he]; done) | (clear hK hG hT hS hPl hNo hTa hA hJ hR hD hQ Xc; simp_all [v_paste]; done)
      rw [hz]
      exact ⟨rfl, ⟨_, _, _, hP7, rfl, rfl, rfl, rfl, rfl⟩, ho8⟩
    · skip
      refine e_bipush (v := -3) (pc := 22) Xc (dT hX7_paste 14 rfl) rfl ?_
      refine e_iret (pc := 24) Xc hQ (dT hX7_paste 15 rfl) (Nat.le_refl _) (Nat.le_refl _) ?_
      have hz : v_paste (A 1) nr (nI q) is = ((-3), A 1) := by
        try simp only [bI_0, bI_1, Bool.not_eq_true, Bool.not_eq_false] at c5 c19
        first | (simp [v_paste, c5, c19, hc_q]; done) | (clear hK hG hT hS hPl hNo hTa hA hJ hR hD hQ Xc; simp_all [v_paste]; done)
      rw [hz]
      exact ⟨rfl, ⟨_, _, _, hP, rfl, rfl, rfl, rfl, rfl⟩, Off.rf⟩
  · skip
    refine e_iconst (v := -1) (pc := 8) Xc (dT hX7_paste 4 rfl) rfl ?_
    refine e_iret (pc := 9) Xc hQ (dT hX7_paste 5 rfl) (Nat.le_refl _) (Nat.le_refl _) ?_
    have hz : v_paste (A 1) nr v is = ((-1), A 1) := by
      try simp only [bI_0, bI_1, Bool.not_eq_true, Bool.not_eq_false] at c5
      first | (simp [v_paste, c5]; done) | (clear hK hG hT hS hPl hNo hTa hA hJ hR hD hQ Xc; simp_all [v_paste]; done)
    rw [hz]
    exact ⟨rfl, ⟨_, _, _, hP, rfl, rfl, rfl, rfl, rfl⟩, Off.rf⟩
