set_option maxRecDepth 100000 in
set_option maxHeartbeats 4000000 in
theorem c_likingBy {G : xG} {σ : xS} {m : Nat} {F : Nat → Int32} {T : Nat → Nat} {A : Nat → Nat → Int32} (hP : PX7 σ m F T A) {nr nb : Nat} (hG : Gd (A 1) nr nb) (r b : Nat) (hr : r < nr) (hb : b < nb) (pl : Int32) : CI G yX7_likingBy cX7_likingBy 6 (some .int) 0 0 0 [.ref m, .int (nI r), .int (nI b), .int pl] σ (fun z σ1 => z = likB (A 1) r b pl ∧ σ1 = σ) := by
  refine Met.ofX (by decide +kernel) (Nat.le_of_ble_eq_true rfl) (fun μ Xc hQ hnm => ?_)
  have Xc : xC G μ cX7_likingBy 6 RX7 (some .int) 0 0 0 := Xc
  have jn35 : Ev G μ 6 0 0 35 [(0, .ref m), (1, .int (nI r)), (2, .int (nI b)), (3, .int pl), (4, .int (A 1 (5 + b)))] [.int (firmF (A 1) r b)] σ := by
    refine e_istore (L' := [(5, .int (firmF (A 1) r b)), (0, .ref m), (1, .int (nI r)), (2, .int (nI b)), (3, .int pl), (4, .int (A 1 (5 + b)))]) (pc := 35) Xc (dT hX7_likingBy 23 rfl) (by decide) rfl ?_
    obtain ⟨k, hk, hke⟩ := hG.2.2.2.2.1 r hr
    refine e_aload_n (pc := 37) Xc (dT hX7_likingBy 24 rfl) 1 rfl ?_
    refine gf_X7_9 (pc := 38) Xc (dT hX7_likingBy 25 rfl) hP.o rfl ?_
    refine e_bipush (v := 20) (pc := 41) Xc (dT hX7_likingBy 26 rfl) rfl ?_
    refine e_iload_n (pc := 43) Xc (dT hX7_likingBy 27 rfl) 2 rfl ?_
    refine e_iaddN (a := 20) (b := r) (pc := 44) Xc (dT hX7_likingBy 28 rfl) ?_
    refine e_ialdN (pc := 45) Xc (dT hX7_likingBy 29 rfl) hP.a1 (by decide) rfl (20 + r) rfl (by have := hG.1; omega) (by decide) ?_
    refine e_val (y := nI k) hke ?_
    
    
    
    
    
    
    
    have hcs : k = 0 ∨ k = 1 ∨ k = 2 ∨ k = 3 ∨ k = 4 ∨ k = 5 ∨ k = 6 := by omega
    rcases hcs with rfl | rfl | rfl | rfl | rfl | rfl | rfl
    · skip
      refine e_tableOut (x := 0) (tgt := 149) (pc := 46) Xc (dT hX7_likingBy 30 rfl) (by decide) rfl ?_
      refine e_iload_n (pc := 149) Xc (dT hX7_likingBy 83 rfl) 4 rfl ?_
      refine e_iret (pc := 150) Xc hQ (dT hX7_likingBy 84 rfl) (Nat.le_refl _) (Nat.le_refl _) ?_
      refine ⟨?_, rfl⟩
      rw [likB, hke]
      rfl
    · skip
      refine e_tableIn (x := 1) (off := 38) (tgt := 84) (pc := 46) Xc (dT hX7_likingBy 30 rfl) (by decide) (by decide) rfl rfl ?_
      refine e_iload_n (pc := 84) Xc (dT hX7_likingBy 31 rfl) 4 rfl ?_
      refine e_iload (pc := 85) Xc (dT hX7_likingBy 32 rfl) 5 rfl ?_
      refine e_iconst (v := 5) (pc := 87) Xc (dT hX7_likingBy 33 rfl) rfl ?_
      refine e_idiv (pc := 88) Xc (dT hX7_likingBy 34 rfl) (by decide) ?_
      refine e_isub (pc := 89) Xc (dT hX7_likingBy 35 rfl) ?_
      refine e_iret (pc := 90) Xc hQ (dT hX7_likingBy 36 rfl) (Nat.le_refl _) (Nat.le_refl _) ?_
      refine ⟨?_, rfl⟩
      rw [likB, hke]
      rfl
    · skip
      refine e_tableIn (x := 2) (off := 45) (tgt := 91) (pc := 46) Xc (dT hX7_likingBy 30 rfl) (by decide) (by decide) rfl rfl ?_
      refine e_iconst (v := 2) (pc := 91) Xc (dT hX7_likingBy 37 rfl) rfl ?_
      refine e_iload_n (pc := 92) Xc (dT hX7_likingBy 38 rfl) 4 rfl ?_
      refine e_imul (pc := 93) Xc (dT hX7_likingBy 39 rfl) ?_
      refine e_iret (pc := 94) Xc hQ (dT hX7_likingBy 40 rfl) (Nat.le_refl _) (Nat.le_refl _) ?_
      refine ⟨?_, rfl⟩
      rw [likB, hke]
      rfl
    · skip
      refine e_tableIn (x := 3) (off := 49) (tgt := 95) (pc := 46) Xc (dT hX7_likingBy 30 rfl) (by decide) (by decide) rfl rfl ?_
      refine e_iload_n (pc := 95) Xc (dT hX7_likingBy 41 rfl) 4 rfl ?_
      refine e_iload (pc := 96) Xc (dT hX7_likingBy 42 rfl) 0 rfl ?_
      refine e_iadd (pc := 98) Xc (dT hX7_likingBy 43 rfl) ?_
      refine e_iret (pc := 99) Xc hQ (dT hX7_likingBy 44 rfl) (Nat.le_refl _) (Nat.le_refl _) ?_
      refine ⟨?_, rfl⟩
      rw [likB, hke]
      rfl
    · skip
      refine e_tableIn (x := 4) (off := 54) (tgt := 100) (pc := 46) Xc (dT hX7_likingBy 30 rfl) (by decide) (by decide) rfl rfl ?_
      refine e_iload_n (pc := 100) Xc (dT hX7_likingBy 45 rfl) 4 rfl ?_
      refine e_iload (pc := 101) Xc (dT hX7_likingBy 46 rfl) 5 rfl ?_
      refine e_iconst (v := 5) (pc := 103) Xc (dT hX7_likingBy 47 rfl) rfl ?_
      refine e_idiv (pc := 104) Xc (dT hX7_likingBy 48 rfl) (by decide) ?_
      refine e_isub (pc := 105) Xc (dT hX7_likingBy 49 rfl) ?_
      refine e_aload_n (pc := 106) Xc (dT hX7_likingBy 50 rfl) 1 rfl ?_
      refine gf_X7_9 (pc := 107) Xc (dT hX7_likingBy 51 rfl) hP.o rfl ?_
      refine e_bipush (v := 24) (pc := 110) Xc (dT hX7_likingBy 52 rfl) rfl ?_
      refine e_iload_n (pc := 112) Xc (dT hX7_likingBy 53 rfl) 2 rfl ?_
      refine e_iaddN (a := 24) (b := r) (pc := 113) Xc (dT hX7_likingBy 54 rfl) ?_
      refine e_ialdN (pc := 114) Xc (dT hX7_likingBy 55 rfl) hP.a1 (by decide) rfl (24 + r) rfl (by have := hG.1; omega) (by decide) ?_
      refine e_iadd (pc := 115) Xc (dT hX7_likingBy 56 rfl) ?_
      refine e_iret (pc := 116) Xc hQ (dT hX7_likingBy 57 rfl) (Nat.le_refl _) (Nat.le_refl _) ?_
      refine ⟨?_, rfl⟩
      rw [likB, hke]
      rfl
    · skip
      refine e_tableIn (x := 5) (off := 71) (tgt := 117) (pc := 46) Xc (dT hX7_likingBy 30 rfl) (by decide) (by decide) rfl rfl ?_
      refine e_iconst (v := 2) (pc := 117) Xc (dT hX7_likingBy 58 rfl) rfl ?_
      refine e_iload_n (pc := 118) Xc (dT hX7_likingBy 59 rfl) 4 rfl ?_
      refine e_imul (pc := 119) Xc (dT hX7_likingBy 60 rfl) ?_
      refine e_iload (pc := 120) Xc (dT hX7_likingBy 61 rfl) 5 rfl ?_
      refine e_bipush (v := 10) (pc := 122) Xc (dT hX7_likingBy 62 rfl) rfl ?_
      refine e_idiv (pc := 124) Xc (dT hX7_likingBy 63 rfl) (by decide) ?_
      refine e_iadd (pc := 125) Xc (dT hX7_likingBy 64 rfl) ?_
      refine e_iret (pc := 126) Xc hQ (dT hX7_likingBy 65 rfl) (Nat.le_refl _) (Nat.le_refl _) ?_
      refine ⟨?_, rfl⟩
      rw [likB, hke]
      rfl
    · skip
      refine e_tableIn (x := 6) (off := 81) (tgt := 127) (pc := 46) Xc (dT hX7_likingBy 30 rfl) (by decide) (by decide) rfl rfl ?_
      refine e_iload_n (pc := 127) Xc (dT hX7_likingBy 66 rfl) 4 rfl ?_
      refine e_iload (pc := 128) Xc (dT hX7_likingBy 67 rfl) 0 rfl ?_
      refine e_iadd (pc := 130) Xc (dT hX7_likingBy 68 rfl) ?_
      refine e_aload_n (pc := 131) Xc (dT hX7_likingBy 69 rfl) 1 rfl ?_
      refine gf_X7_9 (pc := 132) Xc (dT hX7_likingBy 70 rfl) hP.o rfl ?_
      refine e_bipush (v := 28) (pc := 135) Xc (dT hX7_likingBy 71 rfl) rfl ?_
      refine e_iconst (v := 4) (pc := 137) Xc (dT hX7_likingBy 72 rfl) rfl ?_
      refine e_iload_n (pc := 138) Xc (dT hX7_likingBy 73 rfl) 2 rfl ?_
      refine e_imulN (a := 4) (b := r) (pc := 139) Xc (dT hX7_likingBy 74 rfl) ?_
      refine e_iaddN (a := 28) (b := 4 * r) (pc := 140) Xc (dT hX7_likingBy 75 rfl) ?_
      refine e_iload (pc := 141) Xc (dT hX7_likingBy 76 rfl) 5 rfl ?_
      refine e_iconst (v := 4) (pc := 143) Xc (dT hX7_likingBy 77 rfl) rfl ?_
      refine e_irem (pc := 144) Xc (dT hX7_likingBy 78 rfl) (by decide) ?_
      refine e_iadd (pc := 145) Xc (dT hX7_likingBy 79 rfl) ?_
      obtain ⟨tk, htk1, htk2, htk⟩ := hG.2.2.1 b hb
      refine e_ialdN (pc := 146) Xc (dT hX7_likingBy 80 rfl) hP.a1 (by decide) rfl (28 + 4 * r + tk % 4) (by rw [htk, show (4 : Int32) = nI 4 from rfl, pk_rem (by omega) (by decide) (by decide), nI_add]) (by have := hG.1; omega) (by decide) ?_
      refine e_iadd (pc := 147) Xc (dT hX7_likingBy 81 rfl) ?_
      refine e_iret (pc := 148) Xc hQ (dT hX7_likingBy 82 rfl) (Nat.le_refl _) (Nat.le_refl _) ?_
      refine ⟨?_, rfl⟩
      rw [likB, hke, htk, nI_clamp (by omega)]
      rfl
  show Ev G μ 6 0 0 0 [(0, .ref m), (1, .int (nI r)), (2, .int (nI b)), (3, .int pl)] [] σ
  refine e_aload_n (pc := 0) Xc (dT hX7_likingBy 0 rfl) 0 rfl ?_
  refine gf_X7_9 (pc := 1) Xc (dT hX7_likingBy 1 rfl) hP.o rfl ?_
  refine e_iconst (v := 5) (pc := 4) Xc (dT hX7_likingBy 2 rfl) rfl ?_
  refine e_iload_n (pc := 5) Xc (dT hX7_likingBy 3 rfl) 2 rfl ?_
  refine e_iaddN (a := 5) (b := b) (pc := 6) Xc (dT hX7_likingBy 4 rfl) ?_
  refine e_ialdN (pc := 7) Xc (dT hX7_likingBy 5 rfl) hP.a1 (by decide) rfl (5 + b) rfl (by have := hG.1; omega) (by decide) ?_
  refine e_istore (L' := [(4, .int (A 1 (5 + b))), (0, .ref m), (1, .int (nI r)), (2, .int (nI b)), (3, .int pl)]) (pc := 8) Xc (dT hX7_likingBy 6 rfl) (by decide) rfl ?_
  refine e_aload_n (pc := 10) Xc (dT hX7_likingBy 7 rfl) 1 rfl ?_
  refine gf_X7_9 (pc := 11) Xc (dT hX7_likingBy 8 rfl) hP.o rfl ?_
  refine e_iconst (v := 1) (pc := 14) Xc (dT hX7_likingBy 9 rfl) rfl ?_
  refine e_iload_n (pc := 15) Xc (dT hX7_likingBy 10 rfl) 2 rfl ?_
  refine e_iaddN (a := 1) (b := r) (pc := 16) Xc (dT hX7_likingBy 11 rfl) ?_
  refine e_ialdN (pc := 17) Xc (dT hX7_likingBy 12 rfl) hP.a1 (by decide) rfl (1 + r) rfl (by have := hG.1; omega) (by decide) ?_
  refine e_iload_n (pc := 18) Xc (dT hX7_likingBy 13 rfl) 3 rfl ?_
  refine e_icmp_ne (tgt := 34) (pc := 19) Xc (dT hX7_likingBy 14 rfl) rfl (fun c19 => ?_) (fun c19 => ?_)
  · skip
    refine e_iconst (v := 0) (pc := 34) Xc (dT hX7_likingBy 22 rfl) rfl ?_
    refine e_val (y := firmF (A 1) r b) (by rw [firmF, if_neg c19]) ?_
    refine Ev.pick (L' := [(0, .ref m), (1, .int (nI r)), (2, .int (nI b)), (3, .int pl), (4, .int (A 1 (5 + b)))]) [1, 2, 3, 4, 0] rfl ?_
    exact jn35  
  · skip
    refine e_aload_n (pc := 22) Xc (dT hX7_likingBy 15 rfl) 1 rfl ?_
    refine gf_X7_9 (pc := 23) Xc (dT hX7_likingBy 16 rfl) hP.o rfl ?_
    refine e_bipush (v := 24) (pc := 26) Xc (dT hX7_likingBy 17 rfl) rfl ?_
    refine e_iload_n (pc := 28) Xc (dT hX7_likingBy 18 rfl) 2 rfl ?_
    refine e_iaddN (a := 24) (b := r) (pc := 29) Xc (dT hX7_likingBy 19 rfl) ?_
    refine e_ialdN (pc := 30) Xc (dT hX7_likingBy 20 rfl) hP.a1 (by decide) rfl (24 + r) rfl (by have := hG.1; omega) (by decide) ?_
    refine e_goto (tgt := 35) (pc := 31) Xc (dT hX7_likingBy 21 rfl) rfl ?_
    refine e_val (y := firmF (A 1) r b) (by rw [firmF, if_pos c19]) ?_
    refine Ev.pick (L' := [(0, .ref m), (1, .int (nI r)), (2, .int (nI b)), (3, .int pl), (4, .int (A 1 (5 + b)))]) [1, 2, 3, 4, 0] rfl ?_
    exact jn35  
set_option maxRecDepth 100000 in
set_option maxHeartbeats 4000000 in
theorem c_likingOf {G : xG} {σ : xS} {m : Nat} {F : Nat → Int32} {T : Nat → Nat} {A : Nat → Nat → Int32} (hP : PX7 σ m F T A) {nr nb : Nat} (hG : Gd (A 1) nr nb) {t : xT} (hT : Hd (A 1) t) (r b : Nat) (hr : r < nr) (hb : b < nb) : CI G yX7_likingOf cX7_likingOf 3 (some .int) 2 0 0 [.ref m, .int (nI r), .int (nI b)] σ (fun z σ1 => z = likF (A 1) t r b ∧ PX7 σ1 m F T A ∧ Off m σ σ1) := by
  refine Met.ofX (by decide +kernel) (Nat.le_of_ble_eq_true rfl) (fun μ Xc hQ hnm => ?_)
  have Xc : xC G μ cX7_likingOf 3 RX7 (some .int) 2 0 0 := Xc
  show Ev G μ 3 0 0 0 [(0, .ref m), (1, .int (nI r)), (2, .int (nI b))] [] σ
  refine e_aload_n (pc := 0) Xc (dT hX7_likingOf 0 rfl) 0 rfl ?_
  refine e_iload_n (pc := 1) Xc (dT hX7_likingOf 1 rfl) 1 rfl ?_
  refine e_iload_n (pc := 2) Xc (dT hX7_likingOf 2 rfl) 2 rfl ?_
  refine e_aload_n (pc := 3) Xc (dT hX7_likingOf 3 rfl) 0 rfl ?_
  refine e_iload_n (pc := 4) Xc (dT hX7_likingOf 4 rfl) 1 rfl ?_
  refine e_iload_n (pc := 5) Xc (dT hX7_likingOf 5 rfl) 2 rfl ?_
  refine cl_X7_136 (pc := 6) (k := 0) (n := 0) (S := [.int (nI b), .int (nI r), .ref m]) Xc hP.o (c_looks hP hG hT r b (by omega) (by omega)) (dT hX7_likingOf 6 rfl) rfl (Nat.le_of_ble_eq_true rfl) (Nat.le_of_ble_eq_true rfl) (Nat.le_of_ble_eq_true rfl) rfl (Nat.le_of_ble_eq_true rfl) (fun r1 σ2 hq3 => ?_)
  obtain ⟨r1e, hP4, ho5⟩ := hq3
  have r1e := r1e.symm; subst r1e
  refine cl_X7_139 (pc := 9) (k := 0) (n := 0) (S := []) Xc hP4.o (c_likingBy hP4 hG r b (by omega) (by omega) (plainF (A 1) t r b)) (dT hX7_likingOf 7 rfl) rfl (Nat.le_of_ble_eq_true rfl) (Nat.le_of_ble_eq_true rfl) (Nat.le_of_ble_eq_true rfl) rfl (Nat.le_of_ble_eq_true rfl) (fun r6 σ7 hq8 => ?_)
  obtain ⟨r6e, r6s⟩ := hq8
  have r6e := r6e.symm; subst r6e; have r6s := r6s.symm; subst r6s
  refine e_iret (pc := 12) Xc hQ (dT hX7_likingOf 8 rfl) (Nat.le_refl _) (Nat.le_refl _) ?_
  exact ⟨rfl, hP4, ho5⟩
set_option maxRecDepth 100000 in
set_option maxHeartbeats 4000000 in
theorem c_choiceOf {G : xG} {σ : xS} {m : Nat} {F : Nat → Int32} {T : Nat → Nat} {A : Nat → Nat → Int32} (hP : PX7 σ m F T A) {nr nb : Nat} (hG : Gd (A 1) nr nb) {t : xT} (hT : Hd (A 1) t) (r : Nat) (hr : r < nr) : CI G yX7_choiceOf cX7_choiceOf 6 (some .int) 3 0 0 [.ref m, .int (nI r)] σ (fun z σ1 => z = choF (A 1) t nr nb r ∧ PX7 σ1 m F T A ∧ Off m σ σ1) := by
  refine Met.ofX (by decide +kernel) (Nat.le_of_ble_eq_true rfl) (fun μ Xc hQ hnm => ?_)
  have Xc : xC G μ cX7_choiceOf 6 RX7 (some .int) 3 0 0 := Xc
  have lp42 : ∀ (n42 : Nat) (b : Nat) (be mo : Int32) (σ2 : xS), nb - b < n42 → (b ≤ nb) → ((be, mo) = itr (choStep (A 1) t nr r) (-1, choTop (A 1) t r) b) → (PX7 σ2 m F T A) → (Off m σ σ2) → Ev G μ 6 0 0 42 [(0, .ref m), (1, .int (nI r)), (2, .int be), (3, .int mo), (4, .int (nI b))] [] σ2 := by
    intro n42
    induction n42 with
    | zero => intro b be mo σ2 hn; exact absurd hn (Nat.not_lt_zero _)
    | succ n42 ih42 =>
      intro b be mo σ2 hn42 hb hq hp ho
      refine e_iload (pc := 42) Xc (dT hX7_choiceOf 28 rfl) 4 rfl ?_
      refine e_aload_n (pc := 44) Xc (dT hX7_choiceOf 29 rfl) 0 rfl ?_
      refine gf_X7_9 (pc := 45) Xc (dT hX7_choiceOf 30 rfl) hp.o rfl ?_
      refine e_bipush (v := 13) (pc := 48) Xc (dT hX7_choiceOf 31 rfl) rfl ?_
      refine e_ialdN (pc := 50) Xc (dT hX7_choiceOf 32 rfl) hp.a1 (by decide) rfl 13 rfl (by have := hG.1; omega) (by decide) ?_
      refine e_val (y := nI nb) hG.1.2.2.2 ?_
      refine e_icmp_geN (x := b) (y := nb) (tgt := 126) (pc := 51) Xc (dT hX7_choiceOf 33 rfl) rfl (by have := hG.1; omega) (by have := hG.1; omega) (fun c51 => ?_) (fun c51 => ?_)
      · skip
        refine e_iload_n (pc := 126) Xc (dT hX7_choiceOf 72 rfl) 2 rfl ?_
        refine e_iret (pc := 127) Xc hQ (dT hX7_choiceOf 73 rfl) (Nat.le_refl _) (Nat.le_refl _) ?_
        have hbe : b = nb := by omega
        subst hbe
        exact ⟨by rw [choF, ← hq], hp, ho⟩
      · skip
        refine e_aload_n (pc := 54) Xc (dT hX7_choiceOf 34 rfl) 0 rfl ?_
        refine e_iload_n (pc := 55) Xc (dT hX7_choiceOf 35 rfl) 1 rfl ?_
        refine e_iload (pc := 56) Xc (dT hX7_choiceOf 36 rfl) 4 rfl ?_
        refine cl_X7_154 (pc := 58) (k := 0) (n := 0) (S := []) Xc hp.o (c_may hp hG r b (by omega) (by omega)) (dT hX7_choiceOf 37 rfl) rfl (Nat.le_of_ble_eq_true rfl) (Nat.le_of_ble_eq_true rfl) (Nat.le_of_ble_eq_true rfl) rfl (Nat.le_of_ble_eq_true rfl) (fun r1 σ2 hq3 => ?_)
        obtain ⟨r1e, r1s⟩ := hq3
        have r1e := r1e.symm; subst r1e; have r1s := r1s.symm; subst r1s
        refine e_if_eq (tgt := 120) (pc := 61) Xc (dT hX7_choiceOf 38 rfl) rfl (fun c61 => ?_) (fun c61 => ?_)
        · skip
          refine e_iincN (a := b) (b := 1) (L' := [(4, .int (nI (b + 1))), (0, .ref m), (1, .int (nI r)), (2, .int be), (3, .int mo)]) (pc := 120) Xc (dT hX7_choiceOf 70 rfl) 4 rfl rfl (by decide) rfl ?_
          refine e_goto (tgt := 42) (pc := 123) Xc (dT hX7_choiceOf 71 rfl) rfl ?_
          refine Ev.pick (L' := [(0, .ref m), (1, .int (nI r)), (2, .int be), (3, .int mo), (4, .int (nI (b + 1)))]) [1, 2, 3, 4, 0] rfl ?_
          exact ih42 (b + 1) be mo σ2 (by omega) (by omega) (by simp only [bI_0] at c61; rw [itr, ← hq]; simp [choStep, c61]) hp ho
        · skip
          refine e_aload_n (pc := 64) Xc (dT hX7_choiceOf 39 rfl) 0 rfl ?_
          refine e_iload_n (pc := 65) Xc (dT hX7_choiceOf 40 rfl) 1 rfl ?_
          refine cl_X7_159 (pc := 66) (k := 0) (n := 0) (S := []) Xc hp.o (c_isThin hp hG r (by omega)) (dT hX7_choiceOf 41 rfl) rfl (Nat.le_of_ble_eq_true rfl) (Nat.le_of_ble_eq_true rfl) (Nat.le_of_ble_eq_true rfl) rfl (Nat.le_of_ble_eq_true rfl) (fun r4 σ5 hq6 => ?_)
          obtain ⟨r4e, r4s⟩ := hq6
          have r4e := r4e.symm; subst r4e; have r4s := r4s.symm; subst r4s
          refine e_if_eq (tgt := 85) (pc := 69) Xc (dT hX7_choiceOf 42 rfl) rfl (fun c69 => ?_) (fun c69 => ?_)
          · skip
            refine e_aload_n (pc := 85) Xc (dT hX7_choiceOf 51 rfl) 0 rfl ?_
            refine e_iload_n (pc := 86) Xc (dT hX7_choiceOf 52 rfl) 1 rfl ?_
            refine e_iload (pc := 87) Xc (dT hX7_choiceOf 53 rfl) 4 rfl ?_
            refine cl_X7_162 (pc := 89) (k := 0) (n := 0) (S := []) Xc hp.o (c_likingOf hp hG hT r b (by omega) (by omega)) (dT hX7_choiceOf 54 rfl) rfl (Nat.le_of_ble_eq_true rfl) (Nat.le_of_ble_eq_true rfl) (Nat.le_of_ble_eq_true rfl) rfl (Nat.le_of_ble_eq_true rfl) (fun r7 σ8 hq9 => ?_)
            obtain ⟨r7e, hP10, ho11⟩ := hq9
            have r7e := r7e.symm; subst r7e
            refine e_istore (L' := [(5, .int (likF (A 1) t r b)), (0, .ref m), (1, .int (nI r)), (2, .int be), (3, .int mo), (4, .int (nI b))]) (pc := 92) Xc (dT hX7_choiceOf 55 rfl) (by decide) rfl ?_
            refine e_iload (pc := 94) Xc (dT hX7_choiceOf 56 rfl) 0 rfl ?_
            refine e_iload_n (pc := 96) Xc (dT hX7_choiceOf 57 rfl) 4 rfl ?_
            refine e_icmp_le (tgt := 105) (pc := 97) Xc (dT hX7_choiceOf 58 rfl) rfl (fun c97 => ?_) (fun c97 => ?_)
            · skip
              refine e_iload_n (pc := 105) Xc (dT hX7_choiceOf 61 rfl) 3 rfl ?_
              refine e_istore_n (L' := [(2, .int be), (5, .int (likF (A 1) t r b)), (0, .ref m), (1, .int (nI r)), (3, .int mo), (4, .int (nI b))]) (pc := 106) Xc (dT hX7_choiceOf 62 rfl) (by decide) rfl ?_
              refine e_iload (pc := 107) Xc (dT hX7_choiceOf 63 rfl) 1 rfl ?_
              refine e_iload_n (pc := 109) Xc (dT hX7_choiceOf 64 rfl) 4 rfl ?_
              refine e_icmp_le (tgt := 118) (pc := 110) Xc (dT hX7_choiceOf 65 rfl) rfl (fun c110 => ?_) (fun c110 => ?_)
              · skip
                refine e_iload_n (pc := 118) Xc (dT hX7_choiceOf 68 rfl) 4 rfl ?_
                refine e_istore_n (L' := [(3, .int mo), (2, .int be), (5, .int (likF (A 1) t r b)), (0, .ref m), (1, .int (nI r)), (4, .int (nI b))]) (pc := 119) Xc (dT hX7_choiceOf 69 rfl) (by decide) rfl ?_
                refine e_iincN (a := b) (b := 1) (L' := [(4, .int (nI (b + 1))), (3, .int mo), (2, .int be), (5, .int (likF (A 1) t r b)), (0, .ref m), (1, .int (nI r))]) (pc := 120) Xc (dT hX7_choiceOf 70 rfl) 5 rfl rfl (by decide) rfl ?_
                refine e_goto (tgt := 42) (pc := 123) Xc (dT hX7_choiceOf 71 rfl) rfl ?_
                refine Ev.pick (L' := [(0, .ref m), (1, .int (nI r)), (2, .int be), (3, .int mo), (4, .int (nI (b + 1)))]) [4, 5, 2, 1, 0] rfl ?_
                exact ih42 (b + 1) be mo σ8 (by omega) (by omega) (by simp only [bI_0, Bool.not_eq_false] at c61 c69; rw [itr, ← hq]; first | simp [choStep, c61, c69, Int32.not_lt.mpr c97] | simp [choStep, c61, c69, Int32.not_le.mp c97]) hP10 (ho.tr ho11)
              · skip
                exact absurd c97 c110
            · skip
              refine e_iload (pc := 100) Xc (dT hX7_choiceOf 59 rfl) 5 rfl ?_
              refine e_goto (tgt := 106) (pc := 102) Xc (dT hX7_choiceOf 60 rfl) rfl ?_
              refine e_istore_n (L' := [(2, .int (nI b)), (5, .int (likF (A 1) t r b)), (0, .ref m), (1, .int (nI r)), (3, .int mo), (4, .int (nI b))]) (pc := 106) Xc (dT hX7_choiceOf 62 rfl) (by decide) rfl ?_
              refine e_iload (pc := 107) Xc (dT hX7_choiceOf 63 rfl) 1 rfl ?_
              refine e_iload_n (pc := 109) Xc (dT hX7_choiceOf 64 rfl) 4 rfl ?_
              refine e_icmp_le (tgt := 118) (pc := 110) Xc (dT hX7_choiceOf 65 rfl) rfl (fun c110 => ?_) (fun c110 => ?_)
              · skip
                exact absurd c110 c97
              · skip
                refine e_iload (pc := 113) Xc (dT hX7_choiceOf 66 rfl) 1 rfl ?_
                refine e_goto (tgt := 119) (pc := 115) Xc (dT hX7_choiceOf 67 rfl) rfl ?_
                refine e_istore_n (L' := [(3, .int (likF (A 1) t r b)), (2, .int (nI b)), (5, .int (likF (A 1) t r b)), (0, .ref m), (1, .int (nI r)), (4, .int (nI b))]) (pc := 119) Xc (dT hX7_choiceOf 69 rfl) (by decide) rfl ?_
                refine e_iincN (a := b) (b := 1) (L' := [(4, .int (nI (b + 1))), (3, .int (likF (A 1) t r b)), (2, .int (nI b)), (5, .int (likF (A 1) t r b)), (0, .ref m), (1, .int (nI r))]) (pc := 120) Xc (dT hX7_choiceOf 70 rfl) 5 rfl rfl (by decide) rfl ?_
                refine e_goto (tgt := 42) (pc := 123) Xc (dT hX7_choiceOf 71 rfl) rfl ?_
                refine Ev.pick (L' := [(0, .ref m), (1, .int (nI r)), (2, .int (nI b)), (3, .int (likF (A 1) t r b)), (4, .int (nI (b + 1)))]) [4, 5, 2, 1, 0] rfl ?_
                exact ih42 (b + 1) (nI b) (likF (A 1) t r b) σ8 (by omega) (by omega) (by simp only [bI_0, Bool.not_eq_false] at c61 c69; rw [itr, ← hq]; first | simp [choStep, c61, c69, Int32.not_lt.mpr c97] | simp [choStep, c61, c69, Int32.not_le.mp c97]) hP10 (ho.tr ho11)
          · skip
            refine e_aload_n (pc := 72) Xc (dT hX7_choiceOf 43 rfl) 0 rfl ?_
            refine gf_X7_9 (pc := 73) Xc (dT hX7_choiceOf 44 rfl) hp.o rfl ?_
            refine e_iconst (v := 5) (pc := 76) Xc (dT hX7_choiceOf 45 rfl) rfl ?_
            refine e_iload (pc := 77) Xc (dT hX7_choiceOf 46 rfl) 4 rfl ?_
            refine e_iaddN (a := 5) (b := b) (pc := 79) Xc (dT hX7_choiceOf 47 rfl) ?_
            refine e_ialdN (pc := 80) Xc (dT hX7_choiceOf 48 rfl) hp.a1 (by decide) rfl (5 + b) rfl (by have := hG.1; omega) (by decide) ?_
            refine e_ineg (pc := 81) Xc (dT hX7_choiceOf 49 rfl) ?_
            refine e_goto (tgt := 92) (pc := 82) Xc (dT hX7_choiceOf 50 rfl) rfl ?_
            refine e_istore (L' := [(5, .int (-(A 1 (5 + b)))), (0, .ref m), (1, .int (nI r)), (2, .int be), (3, .int mo), (4, .int (nI b))]) (pc := 92) Xc (dT hX7_choiceOf 55 rfl) (by decide) rfl ?_
            refine e_iload (pc := 94) Xc (dT hX7_choiceOf 56 rfl) 0 rfl ?_
            refine e_iload_n (pc := 96) Xc (dT hX7_choiceOf 57 rfl) 4 rfl ?_
            refine e_icmp_le (tgt := 105) (pc := 97) Xc (dT hX7_choiceOf 58 rfl) rfl (fun c97 => ?_) (fun c97 => ?_)
            · skip
              refine e_iload_n (pc := 105) Xc (dT hX7_choiceOf 61 rfl) 3 rfl ?_
              refine e_istore_n (L' := [(2, .int be), (5, .int (-(A 1 (5 + b)))), (0, .ref m), (1, .int (nI r)), (3, .int mo), (4, .int (nI b))]) (pc := 106) Xc (dT hX7_choiceOf 62 rfl) (by decide) rfl ?_
              refine e_iload (pc := 107) Xc (dT hX7_choiceOf 63 rfl) 1 rfl ?_
              refine e_iload_n (pc := 109) Xc (dT hX7_choiceOf 64 rfl) 4 rfl ?_
              refine e_icmp_le (tgt := 118) (pc := 110) Xc (dT hX7_choiceOf 65 rfl) rfl (fun c110 => ?_) (fun c110 => ?_)
              · skip
                refine e_iload_n (pc := 118) Xc (dT hX7_choiceOf 68 rfl) 4 rfl ?_
                refine e_istore_n (L' := [(3, .int mo), (2, .int be), (5, .int (-(A 1 (5 + b)))), (0, .ref m), (1, .int (nI r)), (4, .int (nI b))]) (pc := 119) Xc (dT hX7_choiceOf 69 rfl) (by decide) rfl ?_
                refine e_iincN (a := b) (b := 1) (L' := [(4, .int (nI (b + 1))), (3, .int mo), (2, .int be), (5, .int (-(A 1 (5 + b)))), (0, .ref m), (1, .int (nI r))]) (pc := 120) Xc (dT hX7_choiceOf 70 rfl) 5 rfl rfl (by decide) rfl ?_
                refine e_goto (tgt := 42) (pc := 123) Xc (dT hX7_choiceOf 71 rfl) rfl ?_
                refine Ev.pick (L' := [(0, .ref m), (1, .int (nI r)), (2, .int be), (3, .int mo), (4, .int (nI (b + 1)))]) [4, 5, 2, 1, 0] rfl ?_
                exact ih42 (b + 1) be mo σ2 (by omega) (by omega) (by simp only [bI_0, Bool.not_eq_false] at c61 c69; rw [itr, ← hq]; first | simp [choStep, c61, c69, Int32.not_lt.mpr c97] | simp [choStep, c61, c69, Int32.not_le.mp c97]) hp ho
              · skip
                exact absurd c97 c110
            · skip
              refine e_iload (pc := 100) Xc (dT hX7_choiceOf 59 rfl) 5 rfl ?_
              refine e_goto (tgt := 106) (pc := 102) Xc (dT hX7_choiceOf 60 rfl) rfl ?_
              refine e_istore_n (L' := [(2, .int (nI b)), (5, .int (-(A 1 (5 + b)))), (0, .ref m), (1, .int (nI r)), (3, .int mo), (4, .int (nI b))]) (pc := 106) Xc (dT hX7_choiceOf 62 rfl) (by decide) rfl ?_
              refine e_iload (pc := 107) Xc (dT hX7_choiceOf 63 rfl) 1 rfl ?_
              refine e_iload_n (pc := 109) Xc (dT hX7_choiceOf 64 rfl) 4 rfl ?_
              refine e_icmp_le (tgt := 118) (pc := 110) Xc (dT hX7_choiceOf 65 rfl) rfl (fun c110 => ?_) (fun c110 => ?_)
              · skip
                exact absurd c110 c97
              · skip
                refine e_iload (pc := 113) Xc (dT hX7_choiceOf 66 rfl) 1 rfl ?_
                refine e_goto (tgt := 119) (pc := 115) Xc (dT hX7_choiceOf 67 rfl) rfl ?_
                refine e_istore_n (L' := [(3, .int (-(A 1 (5 + b)))), (2, .int (nI b)), (5, .int (-(A 1 (5 + b)))), (0, .ref m), (1, .int (nI r)), (4, .int (nI b))]) (pc := 119) Xc (dT hX7_choiceOf 69 rfl) (by decide) rfl ?_
                refine e_iincN (a := b) (b := 1) (L' := [(4, .int (nI (b + 1))), (3, .int (-(A 1 (5 + b)))), (2, .int (nI b)), (5, .int (-(A 1 (5 + b)))), (0, .ref m), (1, .int (nI r))]) (pc := 120) Xc (dT hX7_choiceOf 70 rfl) 5 rfl rfl (by decide) rfl ?_
                refine e_goto (tgt := 42) (pc := 123) Xc (dT hX7_choiceOf 71 rfl) rfl ?_
                refine Ev.pick (L' := [(0, .ref m), (1, .int (nI r)), (2, .int (nI b)), (3, .int (-(A 1 (5 + b)))), (4, .int (nI (b + 1)))]) [4, 5, 2, 1, 0] rfl ?_
                exact ih42 (b + 1) (nI b) (-(A 1 (5 + b))) σ2 (by omega) (by omega) (by simp only [bI_0, Bool.not_eq_false] at c61 c69; rw [itr, ← hq]; first | simp [choStep, c61, c69, Int32.not_lt.mpr c97] | simp [choStep, c61, c69, Int32.not_le.mp c97]) hp ho
  show Ev G μ 6 0 0 0 [(0, .ref m), (1, .int (nI r))] [] σ
  refine e_iconst (v := -1) (pc := 0) Xc (dT hX7_choiceOf 0 rfl) rfl ?_
  refine e_istore_n (L' := [(2, .int (-1)), (0, .ref m), (1, .int (nI r))]) (pc := 1) Xc (dT hX7_choiceOf 1 rfl) (by decide) rfl ?_
  refine e_ldc (pc := 2) Xc (dT hX7_choiceOf 2 rfl) w_k_X7_158 ?_
  refine e_istore_n (L' := [(3, .int (-1000000)), (2, .int (-1)), (0, .ref m), (1, .int (nI r))]) (pc := 4) Xc (dT hX7_choiceOf 3 rfl) (by decide) rfl ?_
  refine e_aload_n (pc := 5) Xc (dT hX7_choiceOf 4 rfl) 2 rfl ?_
  refine gf_X7_9 (pc := 6) Xc (dT hX7_choiceOf 5 rfl) hP.o rfl ?_
  refine e_iconst (v := 1) (pc := 9) Xc (dT hX7_choiceOf 6 rfl) rfl ?_
  refine e_iload_n (pc := 10) Xc (dT hX7_choiceOf 7 rfl) 3 rfl ?_
  refine e_iaddN (a := 1) (b := r) (pc := 11) Xc (dT hX7_choiceOf 8 rfl) ?_
  refine e_ialdN (pc := 12) Xc (dT hX7_choiceOf 9 rfl) hP.a1 (by decide) rfl (1 + r) rfl (by have := hG.1; omega) (by decide) ?_
  refine e_iconst (v := -1) (pc := 13) Xc (dT hX7_choiceOf 10 rfl) rfl ?_
  refine e_icmp_eq (tgt := 39) (pc := 14) Xc (dT hX7_choiceOf 11 rfl) rfl (fun c14 => ?_) (fun c14 => ?_)
  · skip
    refine e_iconst (v := 0) (pc := 39) Xc (dT hX7_choiceOf 26 rfl) rfl ?_
    refine e_istore (L' := [(4, .int 0), (3, .int (-1000000)), (2, .int (-1)), (0, .ref m), (1, .int (nI r))]) (pc := 40) Xc (dT hX7_choiceOf 27 rfl) (by decide) rfl ?_
    refine Ev.pick (L' := [(0, .ref m), (1, .int (nI r)), (2, .int (-1)), (3, .int (-1000000)), (4, .int 0)]) [3, 4, 2, 1, 0] rfl ?_
    exact lp42 ((nb - 0) + 1) 0 (-1) (-1000000) σ (Nat.lt_succ_self _) (Nat.zero_le _) (by simp only [itr, choTop]; rw [if_neg (fun q => q.1 c14)]) hP Off.rf
  · skip
    obtain ⟨h, hl, he⟩ := hG.has (by omega) c14
    refine e_aload_n (pc := 17) Xc (dT hX7_choiceOf 12 rfl) 2 rfl ?_
    refine e_iload_n (pc := 18) Xc (dT hX7_choiceOf 13 rfl) 3 rfl ?_
    refine cl_X7_159 (pc := 19) (k := 0) (n := 0) (S := []) Xc hP.o (c_isThin hP hG r (by omega)) (dT hX7_choiceOf 14 rfl) rfl (Nat.le_of_ble_eq_true rfl) (Nat.le_of_ble_eq_true rfl) (Nat.le_of_ble_eq_true rfl) rfl (Nat.le_of_ble_eq_true rfl) (fun r12 σ13 hq14 => ?_)
    obtain ⟨r12e, r12s⟩ := hq14
    have r12e := r12e.symm; subst r12e; have r12s := r12s.symm; subst r12s
    refine e_if_ne (tgt := 39) (pc := 22) Xc (dT hX7_choiceOf 15 rfl) rfl (fun c22 => ?_) (fun c22 => ?_)
    · skip
      refine e_iconst (v := 0) (pc := 39) Xc (dT hX7_choiceOf 26 rfl) rfl ?_
      refine e_istore (L' := [(4, .int 0), (3, .int (-1000000)), (2, .int (-1)), (0, .ref m), (1, .int (nI r))]) (pc := 40) Xc (dT hX7_choiceOf 27 rfl) (by decide) rfl ?_
      refine Ev.pick (L' := [(0, .ref m), (1, .int (nI r)), (2, .int (-1)), (3, .int (-1000000)), (4, .int 0)]) [3, 4, 2, 1, 0] rfl ?_
      exact lp42 ((nb - 0) + 1) 0 (-1) (-1000000) σ (Nat.lt_succ_self _) (Nat.zero_le _) (by simp only [bI_0, Bool.not_eq_false] at c22; simp only [itr, choTop]; rw [if_neg (fun q => by rw [c22] at q; exact absurd q.2 (by decide))]) hP Off.rf
    · skip
      refine e_aload_n (pc := 25) Xc (dT hX7_choiceOf 16 rfl) 2 rfl ?_
      refine e_iload_n (pc := 26) Xc (dT hX7_choiceOf 17 rfl) 3 rfl ?_
      refine e_aload_n (pc := 27) Xc (dT hX7_choiceOf 18 rfl) 2 rfl ?_
      refine gf_X7_9 (pc := 28) Xc (dT hX7_choiceOf 19 rfl) hP.o rfl ?_
      refine e_iconst (v := 1) (pc := 31) Xc (dT hX7_choiceOf 20 rfl) rfl ?_
      refine e_iload_n (pc := 32) Xc (dT hX7_choiceOf 21 rfl) 3 rfl ?_
      refine e_iaddN (a := 1) (b := r) (pc := 33) Xc (dT hX7_choiceOf 22 rfl) ?_
      refine e_ialdN (pc := 34) Xc (dT hX7_choiceOf 23 rfl) hP.a1 (by decide) rfl (1 + r) rfl (by have := hG.1; omega) (by decide) ?_
      refine e_val (y := nI h) he ?_
      refine cl_X7_162 (pc := 35) (k := 0) (n := 0) (S := []) Xc hP.o (c_likingOf hP hG hT r h (by omega) (by omega)) (dT hX7_choiceOf 24 rfl) rfl (Nat.le_of_ble_eq_true rfl) (Nat.le_of_ble_eq_true rfl) (Nat.le_of_ble_eq_true rfl) rfl (Nat.le_of_ble_eq_true rfl) (fun r15 σ16 hq17 => ?_)
      obtain ⟨r15e, hP18, ho19⟩ := hq17
      have r15e := r15e.symm; subst r15e
      refine e_istore_n (L' := [(3, .int (likF (A 1) t r h)), (2, .int (-1)), (0, .ref m), (1, .int (nI r))]) (pc := 38) Xc (dT hX7_choiceOf 25 rfl) (by decide) rfl ?_
      refine e_iconst (v := 0) (pc := 39) Xc (dT hX7_choiceOf 26 rfl) rfl ?_
      refine e_istore (L' := [(4, .int 0), (3, .int (likF (A 1) t r h)), (2, .int (-1)), (0, .ref m), (1, .int (nI r))]) (pc := 40) Xc (dT hX7_choiceOf 27 rfl) (by decide) rfl ?_
      refine Ev.pick (L' := [(0, .ref m), (1, .int (nI r)), (2, .int (-1)), (3, .int (likF (A 1) t r h)), (4, .int 0)]) [3, 4, 2, 1, 0] rfl ?_
      exact lp42 ((nb - 0) + 1) 0 (-1) (likF (A 1) t r h) σ16 (Nat.lt_succ_self _) (Nat.zero_le _) (by simp only [bI_0, Bool.not_eq_false, Decidable.not_not] at c22; simp only [itr, choTop]; rw [if_pos ⟨c14, c22⟩, he, nI_clamp (by have := hG.1; omega)]) hP18 ho19
