theorem upA_id' {A : Nat → Nat → Int32} {i k : Nat} {g : Nat → Int32} (h : i ≠ k := by decide) : upA (upA A k g) i (A i) = upA A k g := by
  have e : (upA A k g) i = A i := upA_n h
  have := upA_id (A := upA A k g) (i := i)
  rw [e] at this
  exact this
theorem loveL : ∀ n : Fin 100, ((-10 : Int32) - nI n < 0) ∧ ¬ ((-10 : Int32) - nI n = -1) ∧ ((-10 : Int32) - nI n ≤ -10) ∧ ¬ ((-10 : Int32) - nI n ≤ -200) ∧ (-10 : Int32) - ((-10) - nI n) = nI n := by decide +kernel
theorem boreL : ∀ n : Fin 100, ((-200 : Int32) - nI n < 0) ∧ ¬ ((-200 : Int32) - nI n = -1) ∧ ((-200 : Int32) - nI n ≤ -10) ∧ ((-200 : Int32) - nI n ≤ -200) ∧ (-200 : Int32) - ((-200) - nI n) = nI n := by decide +kernel
set_option maxRecDepth 100000 in
set_option maxHeartbeats 4000000 in
theorem c_looks {G : xG} {σ : xS} {m : Nat} {F : Nat → Int32} {T : Nat → Nat} {A : Nat → Nat → Int32} (hP : PX7 σ m F T A) {nr nb : Nat} (hG : Gd (A 1) nr nb) {t : xT} (hT : Hd (A 1) t) (r b : Nat) (hr : r < nr) (hb : b < nb) : CI G yX7_looks cX7_looks 12 (some .int) 1 0 0 [.ref m, .int (nI r), .int (nI b)] σ (fun z σ1 => z = plainF (A 1) t r b ∧ PX7 σ1 m F T A ∧ Off m σ σ1) := by
  refine Met.ofX (by decide +kernel) (Nat.le_of_ble_eq_true rfl) (fun μ Xc hQ hnm => ?_)
  have Xc : xC G μ cX7_looks 12 RX7 (some .int) 1 0 0 := Xc
  have hr4 := hG.1.1
  have hb7 := hG.1.2.1
  obtain ⟨A0, hB, hA0⟩ := hP.pb
  have e1 : A0 1 = A 1 := hA0 1 (by decide) (by decide)
  rw [← e1] at hG hT
  obtain ⟨fr, hf1, hf2, hf3, hf4, hf5, hf6⟩ := hT.flat
  obtain ⟨L, hL⟩ : ∃ L, L = (t.2.2.flatMap flR).length := ⟨_, rfl⟩
  rw [← hL] at hf2 hf4 hf5
  show Ev G μ 12 0 0 0 [(0, .ref m), (1, .int (nI r)), (2, .int (nI b))] [] σ
  refine e_aload_n (pc := 0) Xc (dT hX7_looks 0 rfl) 0 rfl ?_
  refine gf_X7_21 (pc := 1) Xc (dT hX7_looks 1 rfl) hB.o rfl ?_
  refine e_iconst (v := 0) (pc := 4) Xc (dT hX7_looks 2 rfl) rfl ?_
  refine e_iload_n (pc := 5) Xc (dT hX7_looks 3 rfl) 1 rfl ?_
  refine e_iastN (pc := 6) Xc (dT hX7_looks 4 rfl) hB.a4 rfl 0 rfl (by have := hr4; have := hb7; omega) (by decide) ?_
  refine Ev.gen (fun z => PB7 z m F T (upA A0 4 (upd (A0 4) 0 (nI r)))) (hB.wa4 (g := (upd (A0 4) 0 (nI r)))) Off.set (fun σ1 hP2 ho3 => ?_)
  refine e_aload_n (pc := 7) Xc (dT hX7_looks 5 rfl) 0 rfl ?_
  refine gf_X7_21 (pc := 8) Xc (dT hX7_looks 6 rfl) hP2.o rfl ?_
  refine e_iconst (v := 1) (pc := 11) Xc (dT hX7_looks 7 rfl) rfl ?_
  refine e_aload_n (pc := 12) Xc (dT hX7_looks 8 rfl) 0 rfl ?_
  refine gf_X7_9 (pc := 13) Xc (dT hX7_looks 9 rfl) hP2.o rfl ?_
  refine e_bipush (v := 20) (pc := 16) Xc (dT hX7_looks 10 rfl) rfl ?_
  refine e_iload_n (pc := 18) Xc (dT hX7_looks 11 rfl) 1 rfl ?_
  refine e_iaddN (a := 20) (b := r) (pc := 19) Xc (dT hX7_looks 12 rfl) ?_
  refine e_ialdN (pc := 20) Xc (dT hX7_looks 13 rfl) hP2.a1 (by decide) rfl (20 + r) rfl (by have := hr4; have := hb7; omega) (by decide) ?_
  refine e_val (y := A0 1 (20 + r)) rfl ?_
  refine e_iastN (pc := 21) Xc (dT hX7_looks 14 rfl) hP2.a4 rfl 1 rfl (by have := hr4; have := hb7; omega) (by decide) ?_
  refine Ev.gen (fun z => PB7 z m F T (upA (upA A0 4 (upd (A0 4) 0 (nI r))) 4 (upd (upd (A0 4) 0 (nI r)) 1 (A0 1 (20 + r))))) (hP2.wa4 (g := (upd (upd (A0 4) 0 (nI r)) 1 (A0 1 (20 + r))))) Off.set (fun σ4 hP5 ho6 => ?_)
  have hP5 : PB7 σ4 m F T (upA A0 4 (upd (upd (A0 4) 0 (nI r)) 1 (A0 1 (20 + r)))) := by rw [upA_2] at hP5; exact hP5
  refine e_aload_n (pc := 22) Xc (dT hX7_looks 15 rfl) 0 rfl ?_
  refine gf_X7_21 (pc := 23) Xc (dT hX7_looks 16 rfl) hP5.o rfl ?_
  refine e_iconst (v := 2) (pc := 26) Xc (dT hX7_looks 17 rfl) rfl ?_
  refine e_aload_n (pc := 27) Xc (dT hX7_looks 18 rfl) 0 rfl ?_
  refine gf_X7_9 (pc := 28) Xc (dT hX7_looks 19 rfl) hP5.o rfl ?_
  refine e_bipush (v := 24) (pc := 31) Xc (dT hX7_looks 20 rfl) rfl ?_
  refine e_iload_n (pc := 33) Xc (dT hX7_looks 21 rfl) 1 rfl ?_
  refine e_iaddN (a := 24) (b := r) (pc := 34) Xc (dT hX7_looks 22 rfl) ?_
  refine e_ialdN (pc := 35) Xc (dT hX7_looks 23 rfl) hP5.a1 (by decide) rfl (24 + r) rfl (by have := hr4; have := hb7; omega) (by decide) ?_
  refine e_val (y := A0 1 (24 + r)) rfl ?_
  refine e_iastN (pc := 36) Xc (dT hX7_looks 24 rfl) hP5.a4 rfl 2 rfl (by have := hr4; have := hb7; omega) (by decide) ?_
  refine Ev.gen (fun z => PB7 z m F T (upA (upA A0 4 (upd (upd (A0 4) 0 (nI r)) 1 (A0 1 (20 + r)))) 4 (upd (upd (upd (A0 4) 0 (nI r)) 1 (A0 1 (20 + r))) 2 (A0 1 (24 + r))))) (hP5.wa4 (g := (upd (upd (upd (A0 4) 0 (nI r)) 1 (A0 1 (20 + r))) 2 (A0 1 (24 + r))))) Off.set (fun σ7 hP8 ho9 => ?_)
  have hP8 : PB7 σ7 m F T (upA A0 4 (upd (upd (upd (A0 4) 0 (nI r)) 1 (A0 1 (20 + r))) 2 (A0 1 (24 + r)))) := by rw [upA_2] at hP8; exact hP8
  refine e_aload_n (pc := 37) Xc (dT hX7_looks 25 rfl) 0 rfl ?_
  refine gf_X7_21 (pc := 38) Xc (dT hX7_looks 26 rfl) hP8.o rfl ?_
  refine e_iconst (v := 3) (pc := 41) Xc (dT hX7_looks 27 rfl) rfl ?_
  refine e_iload_n (pc := 42) Xc (dT hX7_looks 28 rfl) 2 rfl ?_
  refine e_iastN (pc := 43) Xc (dT hX7_looks 29 rfl) hP8.a4 rfl 3 rfl (by have := hr4; have := hb7; omega) (by decide) ?_
  refine Ev.gen (fun z => PB7 z m F T (upA (upA A0 4 (upd (upd (upd (A0 4) 0 (nI r)) 1 (A0 1 (20 + r))) 2 (A0 1 (24 + r)))) 4 (upd (upd (upd (upd (A0 4) 0 (nI r)) 1 (A0 1 (20 + r))) 2 (A0 1 (24 + r))) 3 (nI b)))) (hP8.wa4 (g := (upd (upd (upd (upd (A0 4) 0 (nI r)) 1 (A0 1 (20 + r))) 2 (A0 1 (24 + r))) 3 (nI b)))) Off.set (fun σ10 hP11 ho12 => ?_)
  refine e_aload_n (pc := 44) Xc (dT hX7_looks 30 rfl) 0 rfl ?_
  refine gf_X7_21 (pc := 45) Xc (dT hX7_looks 31 rfl) hP11.o rfl ?_
  refine e_iconst (v := 4) (pc := 48) Xc (dT hX7_looks 32 rfl) rfl ?_
  refine e_aload_n (pc := 49) Xc (dT hX7_looks 33 rfl) 0 rfl ?_
  refine gf_X7_9 (pc := 50) Xc (dT hX7_looks 34 rfl) hP11.o rfl ?_
  refine e_iconst (v := 5) (pc := 53) Xc (dT hX7_looks 35 rfl) rfl ?_
  refine e_iload_n (pc := 54) Xc (dT hX7_looks 36 rfl) 2 rfl ?_
  refine e_iaddN (a := 5) (b := b) (pc := 55) Xc (dT hX7_looks 37 rfl) ?_
  refine e_ialdN (pc := 56) Xc (dT hX7_looks 38 rfl) hP11.a1 (by decide) rfl (5 + b) rfl (by have := hr4; have := hb7; omega) (by decide) ?_
  refine e_val (y := A0 1 (5 + b)) rfl ?_
  refine e_bipush (v := 10) (pc := 57) Xc (dT hX7_looks 39 rfl) rfl ?_
  refine e_idiv (pc := 59) Xc (dT hX7_looks 40 rfl) (by decide) ?_
  refine e_iastN (pc := 60) Xc (dT hX7_looks 41 rfl) hP11.a4 rfl 4 rfl (by have := hr4; have := hb7; omega) (by decide) ?_
  refine Ev.gen (fun z => PB7 z m F T (upA (upA (upA A0 4 (upd (upd (upd (A0 4) 0 (nI r)) 1 (A0 1 (20 + r))) 2 (A0 1 (24 + r)))) 4 (upd (upd (upd (upd (A0 4) 0 (nI r)) 1 (A0 1 (20 + r))) 2 (A0 1 (24 + r))) 3 (nI b))) 4 (upd (upd (upd (upd (upd (A0 4) 0 (nI r)) 1 (A0 1 (20 + r))) 2 (A0 1 (24 + r))) 3 (nI b)) 4 ((A0 1 (5 + b)) / 10)))) (hP11.wa4 (g := (upd (upd (upd (upd (upd (A0 4) 0 (nI r)) 1 (A0 1 (20 + r))) 2 (A0 1 (24 + r))) 3 (nI b)) 4 ((A0 1 (5 + b)) / 10)))) Off.set (fun σ13 hP14 ho15 => ?_)
  refine e_aload_n (pc := 61) Xc (dT hX7_looks 42 rfl) 0 rfl ?_
  refine gf_X7_21 (pc := 62) Xc (dT hX7_looks 43 rfl) hP14.o rfl ?_
  refine e_iconst (v := 5) (pc := 65) Xc (dT hX7_looks 44 rfl) rfl ?_
  refine e_aload_n (pc := 66) Xc (dT hX7_looks 45 rfl) 0 rfl ?_
  refine gf_X7_9 (pc := 67) Xc (dT hX7_looks 46 rfl) hP14.o rfl ?_
  refine e_iconst (v := 0) (pc := 70) Xc (dT hX7_looks 47 rfl) rfl ?_
  refine e_ialdN (pc := 71) Xc (dT hX7_looks 48 rfl) hP14.a1 (by decide) rfl 0 rfl (by have := hr4; have := hb7; omega) (by decide) ?_
  refine e_val (y := A0 1 0) rfl ?_
  refine e_bipush (v := 10) (pc := 72) Xc (dT hX7_looks 49 rfl) rfl ?_
  refine e_irem (pc := 74) Xc (dT hX7_looks 50 rfl) (by decide) ?_
  refine e_iastN (pc := 75) Xc (dT hX7_looks 51 rfl) hP14.a4 rfl 5 rfl (by have := hr4; have := hb7; omega) (by decide) ?_
  refine Ev.gen (fun z => PB7 z m F T (upA (upA (upA (upA A0 4 (upd (upd (upd (A0 4) 0 (nI r)) 1 (A0 1 (20 + r))) 2 (A0 1 (24 + r)))) 4 (upd (upd (upd (upd (A0 4) 0 (nI r)) 1 (A0 1 (20 + r))) 2 (A0 1 (24 + r))) 3 (nI b))) 4 (upd (upd (upd (upd (upd (A0 4) 0 (nI r)) 1 (A0 1 (20 + r))) 2 (A0 1 (24 + r))) 3 (nI b)) 4 ((A0 1 (5 + b)) / 10))) 4 (upd (upd (upd (upd (upd (upd (A0 4) 0 (nI r)) 1 (A0 1 (20 + r))) 2 (A0 1 (24 + r))) 3 (nI b)) 4 ((A0 1 (5 + b)) / 10)) 5 ((A0 1 0) - (A0 1 0) / 10 * 10)))) (hP14.wa4 (g := (upd (upd (upd (upd (upd (upd (A0 4) 0 (nI r)) 1 (A0 1 (20 + r))) 2 (A0 1 (24 + r))) 3 (nI b)) 4 ((A0 1 (5 + b)) / 10)) 5 ((A0 1 0) - (A0 1 0) / 10 * 10)))) Off.set (fun σ16 hP17 ho18 => ?_)
  refine e_iconst (v := 0) (pc := 76) Xc (dT hX7_looks 52 rfl) rfl ?_
  refine e_istore_n (L' := [(3, .int 0), (0, .ref m), (1, .int (nI r)), (2, .int (nI b))]) (pc := 77) Xc (dT hX7_looks 53 rfl) (by decide) rfl ?_
  refine e_aload_n (pc := 78) Xc (dT hX7_looks 54 rfl) 1 rfl ?_
  refine e_sipush (v := 204) (pc := 79) Xc (dT hX7_looks 55 rfl) rfl ?_
  refine e_iconst (v := 0) (pc := 82) Xc (dT hX7_looks 56 rfl) rfl ?_
  refine cl_X7_132 (pc := 83) (k := 0) (n := 0) (S := []) Xc hP17.o (c_tellsOf hP17.px hG 204 (by decide) 0) (dT hX7_looks 57 rfl) rfl (Nat.le_of_ble_eq_true rfl) (Nat.le_of_ble_eq_true rfl) (Nat.le_of_ble_eq_true rfl) rfl (Nat.le_of_ble_eq_true rfl) (fun r19 σ20 hq21 => ?_)
  obtain ⟨r19e, r19s⟩ := hq21
  have r19e := r19e.symm; subst r19e; have r19s := r19s.symm; subst r19s
  refine e_val (y := tellF (A0 1) 204 0) rfl ?_
  refine e_val (y := nI L) hf2 ?_
  refine e_istore (L' := [(4, .int (nI L)), (3, .int 0), (0, .ref m), (1, .int (nI r)), (2, .int (nI b))]) (pc := 86) Xc (dT hX7_looks 58 rfl) (by decide) rfl ?_
  refine e_sipush (v := 209) (pc := 88) Xc (dT hX7_looks 59 rfl) rfl ?_
  refine e_sipush (v := 140) (pc := 91) Xc (dT hX7_looks 60 rfl) rfl ?_
  refine e_aload_n (pc := 94) Xc (dT hX7_looks 61 rfl) 2 rfl ?_
  refine gf_X7_9 (pc := 95) Xc (dT hX7_looks 62 rfl) hP17.o rfl ?_
  refine e_bipush (v := 19) (pc := 98) Xc (dT hX7_looks 63 rfl) rfl ?_
  refine e_ialdN (pc := 100) Xc (dT hX7_looks 64 rfl) hP17.a1 (by decide) rfl 19 rfl (by have := hr4; have := hb7; omega) (by decide) ?_
  refine e_val (y := A0 1 19) rfl ?_
  refine e_imul (pc := 101) Xc (dT hX7_looks 65 rfl) ?_
  refine e_iadd (pc := 102) Xc (dT hX7_looks 66 rfl) ?_
  refine e_val (y := nI fr) hf1 ?_
  refine e_istore (L' := [(5, .int (nI fr)), (4, .int (nI L)), (3, .int 0), (0, .ref m), (1, .int (nI r)), (2, .int (nI b))]) (pc := 103) Xc (dT hX7_looks 67 rfl) (by decide) rfl ?_
  obtain ⟨su, hsu⟩ : ∃ su, su = (upd (upd (upd (upd (upd (upd (A0 4) 0 (nI r)) 1 (A0 1 (20 + r))) 2 (A0 1 (24 + r))) 3 (nI b)) 4 ((A0 1 (5 + b)) / 10)) 5 ((A0 1 0) - (A0 1 0) / 10 * 10)) := ⟨_, rfl⟩
  have hpl : plT t su = plainF (A0 1) t r b := by
    rw [plainF]
    refine plT_congr hf6 (fun i hi => ?_)
    rw [hsu]
    match i, hi with
    | 0, _ => rfl
    | 1, _ => rfl
    | 2, _ => rfl
    | 3, _ => rfl
    | 4, _ => rfl
    | 5, _ => rfl
    | i + 6, hi => omega
  have hB9 : PB7 σ16 m F T (upA A0 4 su) := by rw [hsu]; exact hP17
  refine e_iconst (v := 0) (pc := 105) Xc (dT hX7_looks 68 rfl) rfl ?_
  refine e_istore (L' := [(6, .int 0), (5, .int (nI fr)), (4, .int (nI L)), (3, .int 0), (0, .ref m), (1, .int (nI r)), (2, .int (nI b))]) (pc := 106) Xc (dT hX7_looks 69 rfl) (by decide) rfl ?_
  refine e_iload (pc := 108) Xc (dT hX7_looks 70 rfl) 1 rfl ?_
  refine e_istore (L' := [(7, .int (nI fr)), (6, .int 0), (5, .int (nI fr)), (4, .int (nI L)), (3, .int 0), (0, .ref m), (1, .int (nI r)), (2, .int (nI b))]) (pc := 110) Xc (dT hX7_looks 71 rfl) (by decide) rfl ?_
  have lp112 : ∀ (n112 : Nat) (j : Nat) (s : List Bool) (ac : Int32) (tr : Nat → Int32) (σ2 : xS), L - j < n112 → (j ≤ L) → (lkI t su j s ac) → (trOK tr s) → (PB7 σ2 m F T (upA (upA A0 4 su) 5 tr)) → (Off m σ σ2) → Ev G μ 12 0 0 112 [(0, .ref m), (1, .int (nI r)), (2, .int (nI b)), (3, .int ac), (4, .int (nI L)), (5, .int (nI fr)), (6, .int (nI s.length)), (7, .int (nI (fr + j)))] [] σ2 := by
    intro n112
    induction n112 with
    | zero => intro j s ac tr σ2 hn; exact absurd hn (Nat.not_lt_zero _)
    | succ n112 ih112 =>
      intro j s ac tr σ2 hn112 hj hI htr hp ho
      refine e_iload (pc := 112) Xc (dT hX7_looks 72 rfl) 7 rfl ?_
      refine e_iload (pc := 114) Xc (dT hX7_looks 73 rfl) 5 rfl ?_
      refine e_iload (pc := 116) Xc (dT hX7_looks 74 rfl) 4 rfl ?_
      refine e_iaddN (a := fr) (b := L) (pc := 118) Xc (dT hX7_looks 75 rfl) ?_
      refine e_icmp_geN (x := fr + j) (y := fr + L) (tgt := 419) (pc := 119) Xc (dT hX7_looks 76 rfl) rfl (by have := hr4; have := hb7; omega) (by have := hr4; have := hb7; omega) (fun c119 => ?_) (fun c119 => ?_)
      · skip
        refine e_iload_n (pc := 419) Xc (dT hX7_looks 232 rfl) 3 rfl ?_
        refine e_iret (pc := 420) Xc hQ (dT hX7_looks 233 rfl) (Nat.le_refl _) (Nat.le_refl _) ?_
        have hje : j = L := by omega
        have hac : ac = plT t su := by
          rcases hI with ⟨-, h⟩ | ⟨items, f, rest, -, -, -, -, -, hdr, -, -⟩
          · exact h
          · rw [hje, hL, List.drop_length] at hdr
            exact absurd hdr.symm (by simp)
        exact ⟨by rw [hac, hpl, e1], hp.px.cong (fun i e4 e5 => ((upA_n e5).trans ((upA_n e4).trans (hA0 i e4 e5))).symm), ho⟩
      · skip
        refine e_aload_n (pc := 122) Xc (dT hX7_looks 77 rfl) 0 rfl ?_
        refine gf_X7_9 (pc := 123) Xc (dT hX7_looks 78 rfl) hp.o rfl ?_
        refine e_iload (pc := 126) Xc (dT hX7_looks 79 rfl) 7 rfl ?_
        refine e_ialdN (pc := 128) Xc (dT hX7_looks 80 rfl) hp.a1 (by decide) rfl (fr + j) rfl (by have := hr4; have := hb7; omega) (by decide) ?_
        refine e_val (y := A0 1 (fr + j)) rfl ?_
        have hjl : j < L := by omega
        have hvx := hf5 j hjl
        rcases hI with ⟨hje, -⟩ | ⟨items, f, rest, hof, hor, hia, hdp, hsl, hdr, hev, hsum⟩
        · exact absurd hje (by omega)
        rcases items with _ | ⟨it, its⟩
        · skip
          obtain ⟨hdr1, -, hget⟩ := drop1 (show (t.2.2.flatMap flR).drop j = cloR f :: rest.flatMap flR from hdr)
          rw [List.getD_eq_getElem?_getD, hget] at hvx
          have hvx : A0 1 (fr + j) = cloR f := hvx
          have hd1 : s.length = 1 := by rw [depI] at hdp; exact Option.some.inj hdp
          obtain ⟨a, rfl⟩ : ∃ a, s = [a] := by
            match s, hd1 with
            | [a], _ => exact ⟨a, rfl⟩
          have hea : evI su f.1 = a := hev.symm
          have hf100 := hof.2.2
          have htr0 : tr 0 = bI a := htr.1
          obtain ⟨l1, l2, l3, l4, l5⟩ := loveL ⟨f.2.2, hf100⟩
          obtain ⟨k1, k2, k3, k4, k5⟩ := boreL ⟨f.2.2, hf100⟩
          have hfe : feS su ac f = if a then ac + wor f else ac := by rw [feS, hea]
          rcases hlv : f.2.1 with _ | _
          · skip
            have hcl : cloR f = (-200 - nI f.2.2) := by rw [cloR, hlv]; rfl
            have hwo : wor f = -nI f.2.2 := by rw [wor, hlv]; rfl
            rcases a with _ | _
            · skip
              refine e_val (y := (-200 - nI f.2.2)) (hvx.trans hcl) ?_
              refine e_istore (L' := [(8, .int (-200 - nI f.2.2)), (0, .ref m), (1, .int (nI r)), (2, .int (nI b)), (3, .int ac), (4, .int (nI L)), (5, .int (nI fr)), (6, .int 1), (7, .int (nI (fr + j)))]) (pc := 129) Xc (dT hX7_looks 81 rfl) (by decide) rfl ?_
              refine e_iload (pc := 131) Xc (dT hX7_looks 82 rfl) 0 rfl ?_
              refine e_if_lt (tgt := 230) (pc := 133) Xc (dT hX7_looks 83 rfl) rfl (fun c133 => ?_) (fun c133 => ?_)
              · skip
                refine e_iload (pc := 230) Xc (dT hX7_looks 132 rfl) 0 rfl ?_
                refine e_iconst (v := -1) (pc := 232) Xc (dT hX7_looks 133 rfl) rfl ?_
                refine e_icmp_ne (tgt := 265) (pc := 233) Xc (dT hX7_looks 134 rfl) rfl (fun c233 => ?_) (fun c233 => ?_)
                · skip
                  refine e_iload (pc := 265) Xc (dT hX7_looks 152 rfl) 0 rfl ?_
                  refine e_bipush (v := -10) (pc := 267) Xc (dT hX7_looks 153 rfl) rfl ?_
                  refine e_icmp_le (tgt := 351) (pc := 269) Xc (dT hX7_looks 154 rfl) rfl (fun c269 => ?_) (fun c269 => ?_)
                  · skip
                    refine e_iconst (v := 0) (pc := 351) Xc (dT hX7_looks 197 rfl) rfl ?_
                    refine e_istore (L' := [(6, .int 0), (8, .int (-200 - nI f.2.2)), (0, .ref m), (1, .int (nI r)), (2, .int (nI b)), (3, .int ac), (4, .int (nI L)), (5, .int (nI fr)), (7, .int (nI (fr + j)))]) (pc := 352) Xc (dT hX7_looks 198 rfl) (by decide) rfl ?_
                    refine e_aload_n (pc := 354) Xc (dT hX7_looks 199 rfl) 2 rfl ?_
                    refine gf_X7_24 (pc := 355) Xc (dT hX7_looks 200 rfl) hp.o rfl ?_
                    refine e_iconst (v := 0) (pc := 358) Xc (dT hX7_looks 201 rfl) rfl ?_
                    refine e_zaldN (pc := 359) Xc (dT hX7_looks 202 rfl) hp.a5 rfl 0 rfl (by have := hr4; have := hb7; omega) (by decide) ?_
                    refine e_val (y := tr 0) rfl ?_
                    refine e_val (y := 0) htr0 ?_
                    refine e_istore (L' := [(9, .int 0), (6, .int 0), (8, .int (-200 - nI f.2.2)), (0, .ref m), (1, .int (nI r)), (2, .int (nI b)), (3, .int ac), (4, .int (nI L)), (5, .int (nI fr)), (7, .int (nI (fr + j)))]) (pc := 360) Xc (dT hX7_looks 203 rfl) (by decide) rfl ?_
                    refine e_iload_n (pc := 362) Xc (dT hX7_looks 204 rfl) 6 rfl ?_
                    refine e_iload (pc := 363) Xc (dT hX7_looks 205 rfl) 0 rfl ?_
                    refine e_if_eq (tgt := 384) (pc := 365) Xc (dT hX7_looks 206 rfl) rfl (fun c365 => ?_) (fun c365 => ?_)
                    · skip
                      refine e_iconst (v := 0) (pc := 384) Xc (dT hX7_looks 214 rfl) rfl ?_
                      refine e_iadd (pc := 385) Xc (dT hX7_looks 215 rfl) ?_
                      refine e_istore_n (L' := [(3, .int (ac + 0)), (9, .int 0), (6, .int 0), (8, .int (-200 - nI f.2.2)), (0, .ref m), (1, .int (nI r)), (2, .int (nI b)), (4, .int (nI L)), (5, .int (nI fr)), (7, .int (nI (fr + j)))]) (pc := 386) Xc (dT hX7_looks 216 rfl) (by decide) rfl ?_
                      refine e_iload_n (pc := 387) Xc (dT hX7_looks 217 rfl) 0 rfl ?_
                      refine e_iload (pc := 388) Xc (dT hX7_looks 218 rfl) 1 rfl ?_
                      refine e_if_eq (tgt := 410) (pc := 390) Xc (dT hX7_looks 219 rfl) rfl (fun c390 => ?_) (fun c390 => ?_)
                      · skip
                        refine e_iconst (v := 0) (pc := 410) Xc (dT hX7_looks 227 rfl) rfl ?_
                        refine e_isub (pc := 411) Xc (dT hX7_looks 228 rfl) ?_
                        refine e_istore_n (L' := [(3, .int ((ac + 0) - 0)), (9, .int 0), (6, .int 0), (8, .int (-200 - nI f.2.2)), (0, .ref m), (1, .int (nI r)), (2, .int (nI b)), (4, .int (nI L)), (5, .int (nI fr)), (7, .int (nI (fr + j)))]) (pc := 412) Xc (dT hX7_looks 229 rfl) (by decide) rfl ?_
                        refine e_iincN (a := fr + j) (b := 1) (L' := [(7, .int (nI ((fr + j) + 1))), (3, .int ((ac + 0) - 0)), (9, .int 0), (6, .int 0), (8, .int (-200 - nI f.2.2)), (0, .ref m), (1, .int (nI r)), (2, .int (nI b)), (4, .int (nI L)), (5, .int (nI fr))]) (pc := 413) Xc (dT hX7_looks 230 rfl) 9 rfl rfl (by decide) rfl ?_
                        refine e_goto (tgt := 112) (pc := 416) Xc (dT hX7_looks 231 rfl) rfl ?_
                        refine Ev.pick (L' := [(0, .ref m), (1, .int (nI r)), (2, .int (nI b)), (3, .int ((ac + 0) - 0)), (4, .int (nI L)), (5, .int (nI fr)), (6, .int 0), (7, .int (nI ((fr + j) + 1)))]) [5, 6, 7, 1, 8, 9, 3, 0] rfl ?_
                        exact ih112 (j + 1) ([]) ((ac + 0) - 0) tr σ2 (by omega) (by omega) (by have hz : feS su ac f = (ac + 0) - 0 := hfe.trans (by show ac = ac + 0 - 0; rw [Int32.add_zero, Int32.sub_zero]); rw [← hz]; exact lkI_next (rs := rest) hor hdr1 (by omega) hsum) trivial hp ho
                      · skip
                        exact absurd c390 (by decide)
                    · skip
                      exact absurd c365 (by decide)
                  · skip
                    exact absurd k3 c269
                · skip
                  exact absurd c233 k2
              · skip
                exact absurd k1 c133
            · skip
              refine e_val (y := (-200 - nI f.2.2)) (hvx.trans hcl) ?_
              refine e_istore (L' := [(8, .int (-200 - nI f.2.2)), (0, .ref m), (1, .int (nI r)), (2, .int (nI b)), (3, .int ac), (4, .int (nI L)), (5, .int (nI fr)), (6, .int 1), (7, .int (nI (fr + j)))]) (pc := 129) Xc (dT hX7_looks 81 rfl) (by decide) rfl ?_
              refine e_iload (pc := 131) Xc (dT hX7_looks 82 rfl) 0 rfl ?_
              refine e_if_lt (tgt := 230) (pc := 133) Xc (dT hX7_looks 83 rfl) rfl (fun c133 => ?_) (fun c133 => ?_)
              · skip
                refine e_iload (pc := 230) Xc (dT hX7_looks 132 rfl) 0 rfl ?_
                refine e_iconst (v := -1) (pc := 232) Xc (dT hX7_looks 133 rfl) rfl ?_
                refine e_icmp_ne (tgt := 265) (pc := 233) Xc (dT hX7_looks 134 rfl) rfl (fun c233 => ?_) (fun c233 => ?_)
                · skip
                  refine e_iload (pc := 265) Xc (dT hX7_looks 152 rfl) 0 rfl ?_
                  refine e_bipush (v := -10) (pc := 267) Xc (dT hX7_looks 153 rfl) rfl ?_
                  refine e_icmp_le (tgt := 351) (pc := 269) Xc (dT hX7_looks 154 rfl) rfl (fun c269 => ?_) (fun c269 => ?_)
                  · skip
                    refine e_iconst (v := 0) (pc := 351) Xc (dT hX7_looks 197 rfl) rfl ?_
                    refine e_istore (L' := [(6, .int 0), (8, .int (-200 - nI f.2.2)), (0, .ref m), (1, .int (nI r)), (2, .int (nI b)), (3, .int ac), (4, .int (nI L)), (5, .int (nI fr)), (7, .int (nI (fr + j)))]) (pc := 352) Xc (dT hX7_looks 198 rfl) (by decide) rfl ?_
                    refine e_aload_n (pc := 354) Xc (dT hX7_looks 199 rfl) 2 rfl ?_
                    refine gf_X7_24 (pc := 355) Xc (dT hX7_looks 200 rfl) hp.o rfl ?_
                    refine e_iconst (v := 0) (pc := 358) Xc (dT hX7_looks 201 rfl) rfl ?_
                    refine e_zaldN (pc := 359) Xc (dT hX7_looks 202 rfl) hp.a5 rfl 0 rfl (by have := hr4; have := hb7; omega) (by decide) ?_
                    refine e_val (y := tr 0) rfl ?_
                    refine e_val (y := 1) htr0 ?_
                    refine e_istore (L' := [(9, .int 1), (6, .int 0), (8, .int (-200 - nI f.2.2)), (0, .ref m), (1, .int (nI r)), (2, .int (nI b)), (3, .int ac), (4, .int (nI L)), (5, .int (nI fr)), (7, .int (nI (fr + j)))]) (pc := 360) Xc (dT hX7_looks 203 rfl) (by decide) rfl ?_
                    refine e_iload_n (pc := 362) Xc (dT hX7_looks 204 rfl) 6 rfl ?_
                    refine e_iload (pc := 363) Xc (dT hX7_looks 205 rfl) 0 rfl ?_
                    refine e_if_eq (tgt := 384) (pc := 365) Xc (dT hX7_looks 206 rfl) rfl (fun c365 => ?_) (fun c365 => ?_)
                    · skip
                      exact absurd c365 (by decide)
                    · skip
                      refine e_iload (pc := 368) Xc (dT hX7_looks 207 rfl) 2 rfl ?_
                      refine e_sipush (v := -200) (pc := 370) Xc (dT hX7_looks 208 rfl) rfl ?_
                      refine e_icmp_le (tgt := 384) (pc := 373) Xc (dT hX7_looks 209 rfl) rfl (fun c373 => ?_) (fun c373 => ?_)
                      · skip
                        refine e_iconst (v := 0) (pc := 384) Xc (dT hX7_looks 214 rfl) rfl ?_
                        refine e_iadd (pc := 385) Xc (dT hX7_looks 215 rfl) ?_
                        refine e_istore_n (L' := [(3, .int (ac + 0)), (9, .int 1), (6, .int 0), (8, .int (-200 - nI f.2.2)), (0, .ref m), (1, .int (nI r)), (2, .int (nI b)), (4, .int (nI L)), (5, .int (nI fr)), (7, .int (nI (fr + j)))]) (pc := 386) Xc (dT hX7_looks 216 rfl) (by decide) rfl ?_
                        refine e_iload_n (pc := 387) Xc (dT hX7_looks 217 rfl) 0 rfl ?_
                        refine e_iload (pc := 388) Xc (dT hX7_looks 218 rfl) 1 rfl ?_
                        refine e_if_eq (tgt := 410) (pc := 390) Xc (dT hX7_looks 219 rfl) rfl (fun c390 => ?_) (fun c390 => ?_)
                        · skip
                          exact absurd c390 (by decide)
                        · skip
                          refine e_iload (pc := 393) Xc (dT hX7_looks 220 rfl) 3 rfl ?_
                          refine e_sipush (v := -200) (pc := 395) Xc (dT hX7_looks 221 rfl) rfl ?_
                          refine e_icmp_gt (tgt := 410) (pc := 398) Xc (dT hX7_looks 222 rfl) rfl (fun c398 => ?_) (fun c398 => ?_)
                          · skip
                            exact absurd k4 (Int32.not_le.mpr c398)
                          · skip
                            refine e_sipush (v := -200) (pc := 401) Xc (dT hX7_looks 223 rfl) rfl ?_
                            refine e_iload (pc := 404) Xc (dT hX7_looks 224 rfl) 3 rfl ?_
                            refine e_isub (pc := 406) Xc (dT hX7_looks 225 rfl) ?_
                            refine e_goto (tgt := 411) (pc := 407) Xc (dT hX7_looks 226 rfl) rfl ?_
                            refine e_isub (pc := 411) Xc (dT hX7_looks 228 rfl) ?_
                            refine e_istore_n (L' := [(3, .int ((ac + 0) - ((-200) - (-200 - nI f.2.2)))), (9, .int 1), (6, .int 0), (8, .int (-200 - nI f.2.2)), (0, .ref m), (1, .int (nI r)), (2, .int (nI b)), (4, .int (nI L)), (5, .int (nI fr)), (7, .int (nI (fr + j)))]) (pc := 412) Xc (dT hX7_looks 229 rfl) (by decide) rfl ?_
                            refine e_iincN (a := fr + j) (b := 1) (L' := [(7, .int (nI ((fr + j) + 1))), (3, .int ((ac + 0) - ((-200) - (-200 - nI f.2.2)))), (9, .int 1), (6, .int 0), (8, .int (-200 - nI f.2.2)), (0, .ref m), (1, .int (nI r)), (2, .int (nI b)), (4, .int (nI L)), (5, .int (nI fr))]) (pc := 413) Xc (dT hX7_looks 230 rfl) 9 rfl rfl (by decide) rfl ?_
                            refine e_goto (tgt := 112) (pc := 416) Xc (dT hX7_looks 231 rfl) rfl ?_
                            refine Ev.pick (L' := [(0, .ref m), (1, .int (nI r)), (2, .int (nI b)), (3, .int ((ac + 0) - ((-200) - (-200 - nI f.2.2)))), (4, .int (nI L)), (5, .int (nI fr)), (6, .int 0), (7, .int (nI ((fr + j) + 1)))]) [5, 6, 7, 1, 8, 9, 3, 0] rfl ?_
                            exact ih112 (j + 1) ([]) ((ac + 0) - ((-200) - (-200 - nI f.2.2))) tr σ2 (by omega) (by omega) (by have hz : feS su ac f = (ac + 0) - ((-200) - (-200 - nI f.2.2)) := hfe.trans (by rw [hwo]; show ac + -nI f.2.2 = ac + 0 - ((-200) - ((-200) - nI f.2.2)); rw [show (-200 : Int32) - ((-200) - nI f.2.2) = nI f.2.2 from k5, Int32.add_zero, Int32.sub_eq_add_neg]); rw [← hz]; exact lkI_next (rs := rest) hor hdr1 (by omega) hsum) trivial hp ho
                      · skip
                        exact absurd k4 c373
                  · skip
                    exact absurd k3 c269
                · skip
                  exact absurd c233 k2
              · skip
                exact absurd k1 c133
          · skip
            have hcl : cloR f = (-10 - nI f.2.2) := by rw [cloR, hlv]; rfl
            have hwo : wor f = nI f.2.2 := by rw [wor, hlv]; rfl
            rcases a with _ | _
            · skip
              refine e_val (y := (-10 - nI f.2.2)) (hvx.trans hcl) ?_
              refine e_istore (L' := [(8, .int (-10 - nI f.2.2)), (0, .ref m), (1, .int (nI r)), (2, .int (nI b)), (3, .int ac), (4, .int (nI L)), (5, .int (nI fr)), (6, .int 1), (7, .int (nI (fr + j)))]) (pc := 129) Xc (dT hX7_looks 81 rfl) (by decide) rfl ?_
              refine e_iload (pc := 131) Xc (dT hX7_looks 82 rfl) 0 rfl ?_
              refine e_if_lt (tgt := 230) (pc := 133) Xc (dT hX7_looks 83 rfl) rfl (fun c133 => ?_) (fun c133 => ?_)
              · skip
                refine e_iload (pc := 230) Xc (dT hX7_looks 132 rfl) 0 rfl ?_
                refine e_iconst (v := -1) (pc := 232) Xc (dT hX7_looks 133 rfl) rfl ?_
                refine e_icmp_ne (tgt := 265) (pc := 233) Xc (dT hX7_looks 134 rfl) rfl (fun c233 => ?_) (fun c233 => ?_)
                · skip
                  refine e_iload (pc := 265) Xc (dT hX7_looks 152 rfl) 0 rfl ?_
                  refine e_bipush (v := -10) (pc := 267) Xc (dT hX7_looks 153 rfl) rfl ?_
                  refine e_icmp_le (tgt := 351) (pc := 269) Xc (dT hX7_looks 154 rfl) rfl (fun c269 => ?_) (fun c269 => ?_)
                  · skip
                    refine e_iconst (v := 0) (pc := 351) Xc (dT hX7_looks 197 rfl) rfl ?_
                    refine e_istore (L' := [(6, .int 0), (8, .int (-10 - nI f.2.2)), (0, .ref m), (1, .int (nI r)), (2, .int (nI b)), (3, .int ac), (4, .int (nI L)), (5, .int (nI fr)), (7, .int (nI (fr + j)))]) (pc := 352) Xc (dT hX7_looks 198 rfl) (by decide) rfl ?_
                    refine e_aload_n (pc := 354) Xc (dT hX7_looks 199 rfl) 2 rfl ?_
                    refine gf_X7_24 (pc := 355) Xc (dT hX7_looks 200 rfl) hp.o rfl ?_
                    refine e_iconst (v := 0) (pc := 358) Xc (dT hX7_looks 201 rfl) rfl ?_
                    refine e_zaldN (pc := 359) Xc (dT hX7_looks 202 rfl) hp.a5 rfl 0 rfl (by have := hr4; have := hb7; omega) (by decide) ?_
                    refine e_val (y := tr 0) rfl ?_
                    refine e_val (y := 0) htr0 ?_
                    refine e_istore (L' := [(9, .int 0), (6, .int 0), (8, .int (-10 - nI f.2.2)), (0, .ref m), (1, .int (nI r)), (2, .int (nI b)), (3, .int ac), (4, .int (nI L)), (5, .int (nI fr)), (7, .int (nI (fr + j)))]) (pc := 360) Xc (dT hX7_looks 203 rfl) (by decide) rfl ?_
                    refine e_iload_n (pc := 362) Xc (dT hX7_looks 204 rfl) 6 rfl ?_
                    refine e_iload (pc := 363) Xc (dT hX7_looks 205 rfl) 0 rfl ?_
                    refine e_if_eq (tgt := 384) (pc := 365) Xc (dT hX7_looks 206 rfl) rfl (fun c365 => ?_) (fun c365 => ?_)
                    · skip
                      refine e_iconst (v := 0) (pc := 384) Xc (dT hX7_looks 214 rfl) rfl ?_
                      refine e_iadd (pc := 385) Xc (dT hX7_looks 215 rfl) ?_
                      refine e_istore_n (L' := [(3, .int (ac + 0)), (9, .int 0), (6, .int 0), (8, .int (-10 - nI f.2.2)), (0, .ref m), (1, .int (nI r)), (2, .int (nI b)), (4, .int (nI L)), (5, .int (nI fr)), (7, .int (nI (fr + j)))]) (pc := 386) Xc (dT hX7_looks 216 rfl) (by decide) rfl ?_
                      refine e_iload_n (pc := 387) Xc (dT hX7_looks 217 rfl) 0 rfl ?_
                      refine e_iload (pc := 388) Xc (dT hX7_looks 218 rfl) 1 rfl ?_
                      refine e_if_eq (tgt := 410) (pc := 390) Xc (dT hX7_looks 219 rfl) rfl (fun c390 => ?_) (fun c390 => ?_)
                      · skip
                        refine e_iconst (v := 0) (pc := 410) Xc (dT hX7_looks 227 rfl) rfl ?_
                        refine e_isub (pc := 411) Xc (dT hX7_looks 228 rfl) ?_
                        refine e_istore_n (L' := [(3, .int ((ac + 0) - 0)), (9, .int 0), (6, .int 0), (8, .int (-10 - nI f.2.2)), (0, .ref m), (1, .int (nI r)), (2, .int (nI b)), (4, .int (nI L)), (5, .int (nI fr)), (7, .int (nI (fr + j)))]) (pc := 412) Xc (dT hX7_looks 229 rfl) (by decide) rfl ?_
                        refine e_iincN (a := fr + j) (b := 1) (L' := [(7, .int (nI ((fr + j) + 1))), (3, .int ((ac + 0) - 0)), (9, .int 0), (6, .int 0), (8, .int (-10 - nI f.2.2)), (0, .ref m), (1, .int (nI r)), (2, .int (nI b)), (4, .int (nI L)), (5, .int (nI fr))]) (pc := 413) Xc (dT hX7_looks 230 rfl) 9 rfl rfl (by decide) rfl ?_
                        refine e_goto (tgt := 112) (pc := 416) Xc (dT hX7_looks 231 rfl) rfl ?_
                        refine Ev.pick (L' := [(0, .ref m), (1, .int (nI r)), (2, .int (nI b)), (3, .int ((ac + 0) - 0)), (4, .int (nI L)), (5, .int (nI fr)), (6, .int 0), (7, .int (nI ((fr + j) + 1)))]) [5, 6, 7, 1, 8, 9, 3, 0] rfl ?_
                        exact ih112 (j + 1) ([]) ((ac + 0) - 0) tr σ2 (by omega) (by omega) (by have hz : feS su ac f = (ac + 0) - 0 := hfe.trans (by show ac = ac + 0 - 0; rw [Int32.add_zero, Int32.sub_zero]); rw [← hz]; exact lkI_next (rs := rest) hor hdr1 (by omega) hsum) trivial hp ho
                      · skip
                        exact absurd c390 (by decide)
                    · skip
                      exact absurd c365 (by decide)
                  · skip
                    exact absurd l3 c269
                · skip
                  exact absurd c233 l2
              · skip
                exact absurd l1 c133
            · skip
              refine e_val (y := (-10 - nI f.2.2)) (hvx.trans hcl) ?_
              refine e_istore (L' := [(8, .int (-10 - nI f.2.2)), (0, .ref m), (1, .int (nI r)), (2, .int (nI b)), (3, .int ac), (4, .int (nI L)), (5, .int (nI fr)), (6, .int 1), (7, .int (nI (fr + j)))]) (pc := 129) Xc (dT hX7_looks 81 rfl) (by decide) rfl ?_
              refine e_iload (pc := 131) Xc (dT hX7_looks 82 rfl) 0 rfl ?_
              refine e_if_lt (tgt := 230) (pc := 133) Xc (dT hX7_looks 83 rfl) rfl (fun c133 => ?_) (fun c133 => ?_)
              · skip
                refine e_iload (pc := 230) Xc (dT hX7_looks 132 rfl) 0 rfl ?_
                refine e_iconst (v := -1) (pc := 232) Xc (dT hX7_looks 133 rfl) rfl ?_
                refine e_icmp_ne (tgt := 265) (pc := 233) Xc (dT hX7_looks 134 rfl) rfl (fun c233 => ?_) (fun c233 => ?_)
                · skip
                  refine e_iload (pc := 265) Xc (dT hX7_looks 152 rfl) 0 rfl ?_
                  refine e_bipush (v := -10) (pc := 267) Xc (dT hX7_looks 153 rfl) rfl ?_
                  refine e_icmp_le (tgt := 351) (pc := 269) Xc (dT hX7_looks 154 rfl) rfl (fun c269 => ?_) (fun c269 => ?_)
                  · skip
                    refine e_iconst (v := 0) (pc := 351) Xc (dT hX7_looks 197 rfl) rfl ?_
                    refine e_istore (L' := [(6, .int 0), (8, .int (-10 - nI f.2.2)), (0, .ref m), (1, .int (nI r)), (2, .int (nI b)), (3, .int ac), (4, .int (nI L)), (5, .int (nI fr)), (7, .int (nI (fr + j)))]) (pc := 352) Xc (dT hX7_looks 198 rfl) (by decide) rfl ?_
                    refine e_aload_n (pc := 354) Xc (dT hX7_looks 199 rfl) 2 rfl ?_
                    refine gf_X7_24 (pc := 355) Xc (dT hX7_looks 200 rfl) hp.o rfl ?_
                    refine e_iconst (v := 0) (pc := 358) Xc (dT hX7_looks 201 rfl) rfl ?_
                    refine e_zaldN (pc := 359) Xc (dT hX7_looks 202 rfl) hp.a5 rfl 0 rfl (by have := hr4; have := hb7; omega) (by decide) ?_
                    refine e_val (y := tr 0) rfl ?_
                    refine e_val (y := 1) htr0 ?_
                    refine e_istore (L' := [(9, .int 1), (6, .int 0), (8, .int (-10 - nI f.2.2)), (0, .ref m), (1, .int (nI r)), (2, .int (nI b)), (3, .int ac), (4, .int (nI L)), (5, .int (nI fr)), (7, .int (nI (fr + j)))]) (pc := 360) Xc (dT hX7_looks 203 rfl) (by decide) rfl ?_
                    refine e_iload_n (pc := 362) Xc (dT hX7_looks 204 rfl) 6 rfl ?_
                    refine e_iload (pc := 363) Xc (dT hX7_looks 205 rfl) 0 rfl ?_
                    refine e_if_eq (tgt := 384) (pc := 365) Xc (dT hX7_looks 206 rfl) rfl (fun c365 => ?_) (fun c365 => ?_)
                    · skip
                      exact absurd c365 (by decide)
                    · skip
                      refine e_iload (pc := 368) Xc (dT hX7_looks 207 rfl) 2 rfl ?_
                      refine e_sipush (v := -200) (pc := 370) Xc (dT hX7_looks 208 rfl) rfl ?_
                      refine e_icmp_le (tgt := 384) (pc := 373) Xc (dT hX7_looks 209 rfl) rfl (fun c373 => ?_) (fun c373 => ?_)
                      · skip
                        exact absurd c373 l4
                      · skip
                        refine e_bipush (v := -10) (pc := 376) Xc (dT hX7_looks 210 rfl) rfl ?_
                        refine e_iload (pc := 378) Xc (dT hX7_looks 211 rfl) 2 rfl ?_
                        refine e_isub (pc := 380) Xc (dT hX7_looks 212 rfl) ?_
                        refine e_goto (tgt := 385) (pc := 381) Xc (dT hX7_looks 213 rfl) rfl ?_
                        refine e_iadd (pc := 385) Xc (dT hX7_looks 215 rfl) ?_
                        refine e_istore_n (L' := [(3, .int (ac + ((-10) - (-10 - nI f.2.2)))), (9, .int 1), (6, .int 0), (8, .int (-10 - nI f.2.2)), (0, .ref m), (1, .int (nI r)), (2, .int (nI b)), (4, .int (nI L)), (5, .int (nI fr)), (7, .int (nI (fr + j)))]) (pc := 386) Xc (dT hX7_looks 216 rfl) (by decide) rfl ?_
                        refine e_iload_n (pc := 387) Xc (dT hX7_looks 217 rfl) 0 rfl ?_
                        refine e_iload (pc := 388) Xc (dT hX7_looks 218 rfl) 1 rfl ?_
                        refine e_if_eq (tgt := 410) (pc := 390) Xc (dT hX7_looks 219 rfl) rfl (fun c390 => ?_) (fun c390 => ?_)
                        · skip
                          exact absurd c390 (by decide)
                        · skip
                          refine e_iload (pc := 393) Xc (dT hX7_looks 220 rfl) 3 rfl ?_
                          refine e_sipush (v := -200) (pc := 395) Xc (dT hX7_looks 221 rfl) rfl ?_
                          refine e_icmp_gt (tgt := 410) (pc := 398) Xc (dT hX7_looks 222 rfl) rfl (fun c398 => ?_) (fun c398 => ?_)
                          · skip
                            refine e_iconst (v := 0) (pc := 410) Xc (dT hX7_looks 227 rfl) rfl ?_
                            refine e_isub (pc := 411) Xc (dT hX7_looks 228 rfl) ?_
                            refine e_istore_n (L' := [(3, .int ((ac + ((-10) - (-10 - nI f.2.2))) - 0)), (9, .int 1), (6, .int 0), (8, .int (-10 - nI f.2.2)), (0, .ref m), (1, .int (nI r)), (2, .int (nI b)), (4, .int (nI L)), (5, .int (nI fr)), (7, .int (nI (fr + j)))]) (pc := 412) Xc (dT hX7_looks 229 rfl) (by decide) rfl ?_
                            refine e_iincN (a := fr + j) (b := 1) (L' := [(7, .int (nI ((fr + j) + 1))), (3, .int ((ac + ((-10) - (-10 - nI f.2.2))) - 0)), (9, .int 1), (6, .int 0), (8, .int (-10 - nI f.2.2)), (0, .ref m), (1, .int (nI r)), (2, .int (nI b)), (4, .int (nI L)), (5, .int (nI fr))]) (pc := 413) Xc (dT hX7_looks 230 rfl) 9 rfl rfl (by decide) rfl ?_
                            refine e_goto (tgt := 112) (pc := 416) Xc (dT hX7_looks 231 rfl) rfl ?_
                            refine Ev.pick (L' := [(0, .ref m), (1, .int (nI r)), (2, .int (nI b)), (3, .int ((ac + ((-10) - (-10 - nI f.2.2))) - 0)), (4, .int (nI L)), (5, .int (nI fr)), (6, .int 0), (7, .int (nI ((fr + j) + 1)))]) [5, 6, 7, 1, 8, 9, 3, 0] rfl ?_
                            exact ih112 (j + 1) ([]) ((ac + ((-10) - (-10 - nI f.2.2))) - 0) tr σ2 (by omega) (by omega) (by have hz : feS su ac f = (ac + ((-10) - (-10 - nI f.2.2))) - 0 := hfe.trans (by rw [hwo]; show ac + nI f.2.2 = ac + ((-10) - ((-10) - nI f.2.2)) - 0; rw [show (-10 : Int32) - ((-10) - nI f.2.2) = nI f.2.2 from l5, Int32.sub_zero]); rw [← hz]; exact lkI_next (rs := rest) hor hdr1 (by omega) hsum) trivial hp ho
                          · skip
                            exact absurd (Int32.not_lt.mp c398) l4
                  · skip
                    exact absurd l3 c269
                · skip
                  exact absurd c233 l2
              · skip
                exact absurd l1 c133
        · skip
          obtain ⟨hdr1, -, hget⟩ := drop1 (show (t.2.2.flatMap flR).drop j = encR it :: (its.map encR ++ cloR f :: rest.flatMap flR) from hdr)
          rw [List.getD_eq_getElem?_getD, hget] at hvx
          have hvx : A0 1 (fr + j) = encR it := hvx
          rw [List.all_cons, Bool.and_eq_true] at hia
          obtain ⟨hok, hia'⟩ := hia
          rcases it with ⟨w, h, v⟩ | kk
          · skip
            obtain ⟨hd30, hdp'⟩ := dep_test hdp
            simp only [okI, Bool.and_eq_true, decide_eq_true_eq] at hok
            obtain ⟨hw, hh, hv⟩ := hok
            have hdm := dm8 (v := v) hw hh
            have h3 : h = 0 ∨ h = 1 ∨ h = 2 := by omega
            rcases h3 with rfl | rfl | rfl
            · skip
              refine e_val (y := nI (w + 8 * 0 + 32 * v)) hvx ?_
              refine e_istore (L' := [(8, .int (nI (w + 8 * 0 + 32 * v))), (0, .ref m), (1, .int (nI r)), (2, .int (nI b)), (3, .int ac), (4, .int (nI L)), (5, .int (nI fr)), (6, .int (nI s.length)), (7, .int (nI (fr + j)))]) (pc := 129) Xc (dT hX7_looks 81 rfl) (by decide) rfl ?_
              refine e_iload (pc := 131) Xc (dT hX7_looks 82 rfl) 0 rfl ?_
              refine e_if_lt (tgt := 230) (pc := 133) Xc (dT hX7_looks 83 rfl) rfl (fun c133 => ?_) (fun c133 => ?_)
              · skip
                exact absurd c133 (nI_pos (by omega))
              · skip
                refine e_aload_n (pc := 136) Xc (dT hX7_looks 84 rfl) 1 rfl ?_
                refine gf_X7_21 (pc := 137) Xc (dT hX7_looks 85 rfl) hp.o rfl ?_
                refine e_iload (pc := 140) Xc (dT hX7_looks 86 rfl) 0 rfl ?_
                refine e_bipush (v := 8) (pc := 142) Xc (dT hX7_looks 87 rfl) rfl ?_
                refine e_iremN (a := w + 8 * 0 + 32 * v) (b := 8) (pc := 144) Xc (dT hX7_looks 88 rfl) (by have := hr4; have := hb7; omega) (by decide) (by decide) ?_
                refine e_val (y := nI w) (congrArg nI (hdm.1)) ?_
                refine e_ialdN (pc := 145) Xc (dT hX7_looks 89 rfl) hp.a4 (by decide) rfl w rfl (by have := hr4; have := hb7; omega) (by decide) ?_
                refine e_val (y := su w) rfl ?_
                refine e_istore (L' := [(9, .int (su w)), (8, .int (nI (w + 8 * 0 + 32 * v))), (0, .ref m), (1, .int (nI r)), (2, .int (nI b)), (3, .int ac), (4, .int (nI L)), (5, .int (nI fr)), (6, .int (nI s.length)), (7, .int (nI (fr + j)))]) (pc := 146) Xc (dT hX7_looks 90 rfl) (by decide) rfl ?_
                refine e_iload (pc := 148) Xc (dT hX7_looks 91 rfl) 1 rfl ?_
                refine e_bipush (v := 8) (pc := 150) Xc (dT hX7_looks 92 rfl) rfl ?_
                refine e_idivN (a := w + 8 * 0 + 32 * v) (b := 8) (pc := 152) Xc (dT hX7_looks 93 rfl) (by have := hr4; have := hb7; omega) (by decide) (by decide) ?_
                refine e_iconst (v := 4) (pc := 153) Xc (dT hX7_looks 94 rfl) rfl ?_
                refine e_iremN (a := (w + 8 * 0 + 32 * v) / 8) (b := 4) (pc := 154) Xc (dT hX7_looks 95 rfl) (by have := hr4; have := hb7; omega) (by decide) (by decide) ?_
                refine e_val (y := 0) (congrArg nI (hdm.2.1)) ?_
                refine e_istore (L' := [(10, .int 0), (9, .int (su w)), (8, .int (nI (w + 8 * 0 + 32 * v))), (0, .ref m), (1, .int (nI r)), (2, .int (nI b)), (3, .int ac), (4, .int (nI L)), (5, .int (nI fr)), (6, .int (nI s.length)), (7, .int (nI (fr + j)))]) (pc := 155) Xc (dT hX7_looks 96 rfl) (by decide) rfl ?_
                refine e_iload (pc := 157) Xc (dT hX7_looks 97 rfl) 2 rfl ?_
                refine e_bipush (v := 32) (pc := 159) Xc (dT hX7_looks 98 rfl) rfl ?_
                refine e_idivN (a := w + 8 * 0 + 32 * v) (b := 32) (pc := 161) Xc (dT hX7_looks 99 rfl) (by have := hr4; have := hb7; omega) (by decide) (by decide) ?_
                refine e_val (y := nI v) (congrArg nI (hdm.2.2)) ?_
                refine e_istore (L' := [(11, .int (nI v)), (10, .int 0), (9, .int (su w)), (8, .int (nI (w + 8 * 0 + 32 * v))), (0, .ref m), (1, .int (nI r)), (2, .int (nI b)), (3, .int ac), (4, .int (nI L)), (5, .int (nI fr)), (6, .int (nI s.length)), (7, .int (nI (fr + j)))]) (pc := 162) Xc (dT hX7_looks 100 rfl) (by decide) rfl ?_
                refine e_aload_n (pc := 164) Xc (dT hX7_looks 101 rfl) 4 rfl ?_
                refine gf_X7_24 (pc := 165) Xc (dT hX7_looks 102 rfl) hp.o rfl ?_
                refine e_iload (pc := 168) Xc (dT hX7_looks 103 rfl) 10 rfl ?_
                refine e_iload (pc := 170) Xc (dT hX7_looks 104 rfl) 1 rfl ?_
                refine e_if_ne (tgt := 190) (pc := 172) Xc (dT hX7_looks 105 rfl) rfl (fun c172 => ?_) (fun c172 => ?_)
                · skip
                  exact absurd c172 (by decide)
                · skip
                  refine e_iload (pc := 175) Xc (dT hX7_looks 106 rfl) 2 rfl ?_
                  refine e_iload (pc := 177) Xc (dT hX7_looks 107 rfl) 0 rfl ?_
                  refine e_icmp_ge (tgt := 186) (pc := 179) Xc (dT hX7_looks 108 rfl) rfl (fun c179 => ?_) (fun c179 => ?_)
                  · skip
                    refine e_iconst (v := 0) (pc := 186) Xc (dT hX7_looks 111 rfl) rfl ?_
                    refine e_goto (tgt := 223) (pc := 187) Xc (dT hX7_looks 112 rfl) rfl ?_
                    refine e_zastN (pc := 223) Xc (dT hX7_looks 129 rfl) hp.a5 rfl s.length rfl (by have := hr4; have := hb7; omega) (by decide) (Or.inl rfl) ?_
                    refine Ev.gen (fun z => PB7 z m F T (upA (upA (upA A0 4 su) 5 tr) 5 (upd tr s.length 0))) (hp.wa5 (g := (upd tr s.length 0))) Off.set (fun σ22 hP23 ho24 => ?_)
                    have hP23 : PB7 σ22 m F T (upA (upA A0 4 su) 5 (upd tr s.length 0)) := by rw [upA_2] at hP23; exact hP23
                    refine e_iincN (a := s.length) (b := 1) (L' := [(6, .int (nI (s.length + 1))), (11, .int (nI v)), (10, .int 0), (9, .int (su w)), (8, .int (nI (w + 8 * 0 + 32 * v))), (0, .ref m), (1, .int (nI r)), (2, .int (nI b)), (3, .int ac), (4, .int (nI L)), (5, .int (nI fr)), (7, .int (nI (fr + j)))]) (pc := 224) Xc (dT hX7_looks 130 rfl) 10 rfl rfl (by decide) rfl ?_
                    refine e_goto (tgt := 413) (pc := 227) Xc (dT hX7_looks 131 rfl) rfl ?_
                    refine e_iincN (a := fr + j) (b := 1) (L' := [(7, .int (nI ((fr + j) + 1))), (6, .int (nI (s.length + 1))), (11, .int (nI v)), (10, .int 0), (9, .int (su w)), (8, .int (nI (w + 8 * 0 + 32 * v))), (0, .ref m), (1, .int (nI r)), (2, .int (nI b)), (3, .int ac), (4, .int (nI L)), (5, .int (nI fr))]) (pc := 413) Xc (dT hX7_looks 230 rfl) 11 rfl rfl (by decide) rfl ?_
                    refine e_goto (tgt := 112) (pc := 416) Xc (dT hX7_looks 231 rfl) rfl ?_
                    refine Ev.pick (L' := [(0, .ref m), (1, .int (nI r)), (2, .int (nI b)), (3, .int ac), (4, .int (nI L)), (5, .int (nI fr)), (6, .int (nI (s.length + 1))), (7, .int (nI ((fr + j) + 1)))]) [6, 7, 8, 9, 10, 11, 1, 0] rfl ?_
                    exact ih112 (j + 1) (false :: s) ac (upd tr s.length 0) σ22 (by omega) (by omega) (Or.inr ⟨its, f, rest, hof, hor, hia', hdp', (by simp only [List.length_cons]; omega), hdr1, (by have hns : stI su (Sum.inl (w, 0, v)) s = (false :: s) := (by have hq : tst (su w) 0 v = false := (by exact decide_eq_false (Int32.not_lt.mpr c179)); show tst (su w) 0 v :: s = false :: s; rw [hq]); rw [← hns]; exact hev), hsum⟩) (⟨pk_us, trOK_upd htr (Nat.le_refl _)⟩) hP23 (ho.tr ho24)
                  · skip
                    refine e_iconst (v := 1) (pc := 182) Xc (dT hX7_looks 109 rfl) rfl ?_
                    refine e_goto (tgt := 223) (pc := 183) Xc (dT hX7_looks 110 rfl) rfl ?_
                    refine e_zastN (pc := 223) Xc (dT hX7_looks 129 rfl) hp.a5 rfl s.length rfl (by have := hr4; have := hb7; omega) (by decide) (Or.inr rfl) ?_
                    refine Ev.gen (fun z => PB7 z m F T (upA (upA (upA A0 4 su) 5 tr) 5 (upd tr s.length 1))) (hp.wa5 (g := (upd tr s.length 1))) Off.set (fun σ25 hP26 ho27 => ?_)
                    have hP26 : PB7 σ25 m F T (upA (upA A0 4 su) 5 (upd tr s.length 1)) := by rw [upA_2] at hP26; exact hP26
                    refine e_iincN (a := s.length) (b := 1) (L' := [(6, .int (nI (s.length + 1))), (11, .int (nI v)), (10, .int 0), (9, .int (su w)), (8, .int (nI (w + 8 * 0 + 32 * v))), (0, .ref m), (1, .int (nI r)), (2, .int (nI b)), (3, .int ac), (4, .int (nI L)), (5, .int (nI fr)), (7, .int (nI (fr + j)))]) (pc := 224) Xc (dT hX7_looks 130 rfl) 10 rfl rfl (by decide) rfl ?_
                    refine e_goto (tgt := 413) (pc := 227) Xc (dT hX7_looks 131 rfl) rfl ?_
                    refine e_iincN (a := fr + j) (b := 1) (L' := [(7, .int (nI ((fr + j) + 1))), (6, .int (nI (s.length + 1))), (11, .int (nI v)), (10, .int 0), (9, .int (su w)), (8, .int (nI (w + 8 * 0 + 32 * v))), (0, .ref m), (1, .int (nI r)), (2, .int (nI b)), (3, .int ac), (4, .int (nI L)), (5, .int (nI fr))]) (pc := 413) Xc (dT hX7_looks 230 rfl) 11 rfl rfl (by decide) rfl ?_
                    refine e_goto (tgt := 112) (pc := 416) Xc (dT hX7_looks 231 rfl) rfl ?_
                    refine Ev.pick (L' := [(0, .ref m), (1, .int (nI r)), (2, .int (nI b)), (3, .int ac), (4, .int (nI L)), (5, .int (nI fr)), (6, .int (nI (s.length + 1))), (7, .int (nI ((fr + j) + 1)))]) [6, 7, 8, 9, 10, 11, 1, 0] rfl ?_
                    exact ih112 (j + 1) (true :: s) ac (upd tr s.length 1) σ25 (by omega) (by omega) (Or.inr ⟨its, f, rest, hof, hor, hia', hdp', (by simp only [List.length_cons]; omega), hdr1, (by have hns : stI su (Sum.inl (w, 0, v)) s = (true :: s) := (by have hq : tst (su w) 0 v = true := (by exact decide_eq_true (Int32.not_le.mp c179)); show tst (su w) 0 v :: s = true :: s; rw [hq]); rw [← hns]; exact hev), hsum⟩) (⟨pk_us, trOK_upd htr (Nat.le_refl _)⟩) hP26 (ho.tr ho27)
            · skip
              refine e_val (y := nI (w + 8 * 1 + 32 * v)) hvx ?_
              refine e_istore (L' := [(8, .int (nI (w + 8 * 1 + 32 * v))), (0, .ref m), (1, .int (nI r)), (2, .int (nI b)), (3, .int ac), (4, .int (nI L)), (5, .int (nI fr)), (6, .int (nI s.length)), (7, .int (nI (fr + j)))]) (pc := 129) Xc (dT hX7_looks 81 rfl) (by decide) rfl ?_
              refine e_iload (pc := 131) Xc (dT hX7_looks 82 rfl) 0 rfl ?_
              refine e_if_lt (tgt := 230) (pc := 133) Xc (dT hX7_looks 83 rfl) rfl (fun c133 => ?_) (fun c133 => ?_)
              · skip
                exact absurd c133 (nI_pos (by omega))
              · skip
                refine e_aload_n (pc := 136) Xc (dT hX7_looks 84 rfl) 1 rfl ?_
                refine gf_X7_21 (pc := 137) Xc (dT hX7_looks 85 rfl) hp.o rfl ?_
                refine e_iload (pc := 140) Xc (dT hX7_looks 86 rfl) 0 rfl ?_
                refine e_bipush (v := 8) (pc := 142) Xc (dT hX7_looks 87 rfl) rfl ?_
                refine e_iremN (a := w + 8 * 1 + 32 * v) (b := 8) (pc := 144) Xc (dT hX7_looks 88 rfl) (by have := hr4; have := hb7; omega) (by decide) (by decide) ?_
                refine e_val (y := nI w) (congrArg nI (hdm.1)) ?_
                refine e_ialdN (pc := 145) Xc (dT hX7_looks 89 rfl) hp.a4 (by decide) rfl w rfl (by have := hr4; have := hb7; omega) (by decide) ?_
                refine e_val (y := su w) rfl ?_
                refine e_istore (L' := [(9, .int (su w)), (8, .int (nI (w + 8 * 1 + 32 * v))), (0, .ref m), (1, .int (nI r)), (2, .int (nI b)), (3, .int ac), (4, .int (nI L)), (5, .int (nI fr)), (6, .int (nI s.length)), (7, .int (nI (fr + j)))]) (pc := 146) Xc (dT hX7_looks 90 rfl) (by decide) rfl ?_
                refine e_iload (pc := 148) Xc (dT hX7_looks 91 rfl) 1 rfl ?_
                refine e_bipush (v := 8) (pc := 150) Xc (dT hX7_looks 92 rfl) rfl ?_
                refine e_idivN (a := w + 8 * 1 + 32 * v) (b := 8) (pc := 152) Xc (dT hX7_looks 93 rfl) (by have := hr4; have := hb7; omega) (by decide) (by decide) ?_
                refine e_iconst (v := 4) (pc := 153) Xc (dT hX7_looks 94 rfl) rfl ?_
                refine e_iremN (a := (w + 8 * 1 + 32 * v) / 8) (b := 4) (pc := 154) Xc (dT hX7_looks 95 rfl) (by have := hr4; have := hb7; omega) (by decide) (by decide) ?_
                refine e_val (y := 1) (congrArg nI (hdm.2.1)) ?_
                refine e_istore (L' := [(10, .int 1), (9, .int (su w)), (8, .int (nI (w + 8 * 1 + 32 * v))), (0, .ref m), (1, .int (nI r)), (2, .int (nI b)), (3, .int ac), (4, .int (nI L)), (5, .int (nI fr)), (6, .int (nI s.length)), (7, .int (nI (fr + j)))]) (pc := 155) Xc (dT hX7_looks 96 rfl) (by decide) rfl ?_
                refine e_iload (pc := 157) Xc (dT hX7_looks 97 rfl) 2 rfl ?_
                refine e_bipush (v := 32) (pc := 159) Xc (dT hX7_looks 98 rfl) rfl ?_
                refine e_idivN (a := w + 8 * 1 + 32 * v) (b := 32) (pc := 161) Xc (dT hX7_looks 99 rfl) (by have := hr4; have := hb7; omega) (by decide) (by decide) ?_
                refine e_val (y := nI v) (congrArg nI (hdm.2.2)) ?_
                refine e_istore (L' := [(11, .int (nI v)), (10, .int 1), (9, .int (su w)), (8, .int (nI (w + 8 * 1 + 32 * v))), (0, .ref m), (1, .int (nI r)), (2, .int (nI b)), (3, .int ac), (4, .int (nI L)), (5, .int (nI fr)), (6, .int (nI s.length)), (7, .int (nI (fr + j)))]) (pc := 162) Xc (dT hX7_looks 100 rfl) (by decide) rfl ?_
                refine e_aload_n (pc := 164) Xc (dT hX7_looks 101 rfl) 4 rfl ?_
                refine gf_X7_24 (pc := 165) Xc (dT hX7_looks 102 rfl) hp.o rfl ?_
                refine e_iload (pc := 168) Xc (dT hX7_looks 103 rfl) 10 rfl ?_
                refine e_iload (pc := 170) Xc (dT hX7_looks 104 rfl) 1 rfl ?_
                refine e_if_ne (tgt := 190) (pc := 172) Xc (dT hX7_looks 105 rfl) rfl (fun c172 => ?_) (fun c172 => ?_)
                · skip
                  refine e_iload (pc := 190) Xc (dT hX7_looks 113 rfl) 1 rfl ?_
                  refine e_iconst (v := 1) (pc := 192) Xc (dT hX7_looks 114 rfl) rfl ?_
                  refine e_icmp_neN (x := 1) (y := 1) (tgt := 211) (pc := 193) Xc (dT hX7_looks 115 rfl) rfl (by have := hr4; have := hb7; omega) (by have := hr4; have := hb7; omega) (fun c193 => ?_) (fun c193 => ?_)
                  · skip
                    exact absurd c193 (by decide)
                  · skip
                    refine e_iload (pc := 196) Xc (dT hX7_looks 116 rfl) 2 rfl ?_
                    refine e_iload (pc := 198) Xc (dT hX7_looks 117 rfl) 0 rfl ?_
                    refine e_icmp_ne (tgt := 207) (pc := 200) Xc (dT hX7_looks 118 rfl) rfl (fun c200 => ?_) (fun c200 => ?_)
                    · skip
                      refine e_iconst (v := 0) (pc := 207) Xc (dT hX7_looks 121 rfl) rfl ?_
                      refine e_goto (tgt := 223) (pc := 208) Xc (dT hX7_looks 122 rfl) rfl ?_
                      refine e_zastN (pc := 223) Xc (dT hX7_looks 129 rfl) hp.a5 rfl s.length rfl (by have := hr4; have := hb7; omega) (by decide) (Or.inl rfl) ?_
                      refine Ev.gen (fun z => PB7 z m F T (upA (upA (upA A0 4 su) 5 tr) 5 (upd tr s.length 0))) (hp.wa5 (g := (upd tr s.length 0))) Off.set (fun σ28 hP29 ho30 => ?_)
                      have hP29 : PB7 σ28 m F T (upA (upA A0 4 su) 5 (upd tr s.length 0)) := by rw [upA_2] at hP29; exact hP29
                      refine e_iincN (a := s.length) (b := 1) (L' := [(6, .int (nI (s.length + 1))), (11, .int (nI v)), (10, .int 1), (9, .int (su w)), (8, .int (nI (w + 8 * 1 + 32 * v))), (0, .ref m), (1, .int (nI r)), (2, .int (nI b)), (3, .int ac), (4, .int (nI L)), (5, .int (nI fr)), (7, .int (nI (fr + j)))]) (pc := 224) Xc (dT hX7_looks 130 rfl) 10 rfl rfl (by decide) rfl ?_
                      refine e_goto (tgt := 413) (pc := 227) Xc (dT hX7_looks 131 rfl) rfl ?_
                      refine e_iincN (a := fr + j) (b := 1) (L' := [(7, .int (nI ((fr + j) + 1))), (6, .int (nI (s.length + 1))), (11, .int (nI v)), (10, .int 1), (9, .int (su w)), (8, .int (nI (w + 8 * 1 + 32 * v))), (0, .ref m), (1, .int (nI r)), (2, .int (nI b)), (3, .int ac), (4, .int (nI L)), (5, .int (nI fr))]) (pc := 413) Xc (dT hX7_looks 230 rfl) 11 rfl rfl (by decide) rfl ?_
                      refine e_goto (tgt := 112) (pc := 416) Xc (dT hX7_looks 231 rfl) rfl ?_
                      refine Ev.pick (L' := [(0, .ref m), (1, .int (nI r)), (2, .int (nI b)), (3, .int ac), (4, .int (nI L)), (5, .int (nI fr)), (6, .int (nI (s.length + 1))), (7, .int (nI ((fr + j) + 1)))]) [6, 7, 8, 9, 10, 11, 1, 0] rfl ?_
                      exact ih112 (j + 1) (false :: s) ac (upd tr s.length 0) σ28 (by omega) (by omega) (Or.inr ⟨its, f, rest, hof, hor, hia', hdp', (by simp only [List.length_cons]; omega), hdr1, (by have hns : stI su (Sum.inl (w, 1, v)) s = (false :: s) := (by have hq : tst (su w) 1 v = false := (by exact decide_eq_false c200); show tst (su w) 1 v :: s = false :: s; rw [hq]); rw [← hns]; exact hev), hsum⟩) (⟨pk_us, trOK_upd htr (Nat.le_refl _)⟩) hP29 (ho.tr ho30)
                    · skip
                      refine e_iconst (v := 1) (pc := 203) Xc (dT hX7_looks 119 rfl) rfl ?_
                      refine e_goto (tgt := 223) (pc := 204) Xc (dT hX7_looks 120 rfl) rfl ?_
                      refine e_zastN (pc := 223) Xc (dT hX7_looks 129 rfl) hp.a5 rfl s.length rfl (by have := hr4; have := hb7; omega) (by decide) (Or.inr rfl) ?_
                      refine Ev.gen (fun z => PB7 z m F T (upA (upA (upA A0 4 su) 5 tr) 5 (upd tr s.length 1))) (hp.wa5 (g := (upd tr s.length 1))) Off.set (fun σ31 hP32 ho33 => ?_)
                      have hP32 : PB7 σ31 m F T (upA (upA A0 4 su) 5 (upd tr s.length 1)) := by rw [upA_2] at hP32; exact hP32
                      refine e_iincN (a := s.length) (b := 1) (L' := [(6, .int (nI (s.length + 1))), (11, .int (nI v)), (10, .int 1), (9, .int (su w)), (8, .int (nI (w + 8 * 1 + 32 * v))), (0, .ref m), (1, .int (nI r)), (2, .int (nI b)), (3, .int ac), (4, .int (nI L)), (5, .int (nI fr)), (7, .int (nI (fr + j)))]) (pc := 224) Xc (dT hX7_looks 130 rfl) 10 rfl rfl (by decide) rfl ?_
                      refine e_goto (tgt := 413) (pc := 227) Xc (dT hX7_looks 131 rfl) rfl ?_
                      refine e_iincN (a := fr + j) (b := 1) (L' := [(7, .int (nI ((fr + j) + 1))), (6, .int (nI (s.length + 1))), (11, .int (nI v)), (10, .int 1), (9, .int (su w)), (8, .int (nI (w + 8 * 1 + 32 * v))), (0, .ref m), (1, .int (nI r)), (2, .int (nI b)), (3, .int ac), (4, .int (nI L)), (5, .int (nI fr))]) (pc := 413) Xc (dT hX7_looks 230 rfl) 11 rfl rfl (by decide) rfl ?_
                      refine e_goto (tgt := 112) (pc := 416) Xc (dT hX7_looks 231 rfl) rfl ?_
                      refine Ev.pick (L' := [(0, .ref m), (1, .int (nI r)), (2, .int (nI b)), (3, .int ac), (4, .int (nI L)), (5, .int (nI fr)), (6, .int (nI (s.length + 1))), (7, .int (nI ((fr + j) + 1)))]) [6, 7, 8, 9, 10, 11, 1, 0] rfl ?_
                      exact ih112 (j + 1) (true :: s) ac (upd tr s.length 1) σ31 (by omega) (by omega) (Or.inr ⟨its, f, rest, hof, hor, hia', hdp', (by simp only [List.length_cons]; omega), hdr1, (by have hns : stI su (Sum.inl (w, 1, v)) s = (true :: s) := (by have hq : tst (su w) 1 v = true := (by exact decide_eq_true c200); show tst (su w) 1 v :: s = true :: s; rw [hq]); rw [← hns]; exact hev), hsum⟩) (⟨pk_us, trOK_upd htr (Nat.le_refl _)⟩) hP32 (ho.tr ho33)
                · skip
                  exact absurd c172 (by decide)
            · skip
              refine e_val (y := nI (w + 8 * 2 + 32 * v)) hvx ?_
              refine e_istore (L' := [(8, .int (nI (w + 8 * 2 + 32 * v))), (0, .ref m), (1, .int (nI r)), (2, .int (nI b)), (3, .int ac), (4, .int (nI L)), (5, .int (nI fr)), (6, .int (nI s.length)), (7, .int (nI (fr + j)))]) (pc := 129) Xc (dT hX7_looks 81 rfl) (by decide) rfl ?_
              refine e_iload (pc := 131) Xc (dT hX7_looks 82 rfl) 0 rfl ?_
              refine e_if_lt (tgt := 230) (pc := 133) Xc (dT hX7_looks 83 rfl) rfl (fun c133 => ?_) (fun c133 => ?_)
              · skip
                exact absurd c133 (nI_pos (by omega))
              · skip
                refine e_aload_n (pc := 136) Xc (dT hX7_looks 84 rfl) 1 rfl ?_
                refine gf_X7_21 (pc := 137) Xc (dT hX7_looks 85 rfl) hp.o rfl ?_
                refine e_iload (pc := 140) Xc (dT hX7_looks 86 rfl) 0 rfl ?_
                refine e_bipush (v := 8) (pc := 142) Xc (dT hX7_looks 87 rfl) rfl ?_
                refine e_iremN (a := w + 8 * 2 + 32 * v) (b := 8) (pc := 144) Xc (dT hX7_looks 88 rfl) (by have := hr4; have := hb7; omega) (by decide) (by decide) ?_
                refine e_val (y := nI w) (congrArg nI (hdm.1)) ?_
                refine e_ialdN (pc := 145) Xc (dT hX7_looks 89 rfl) hp.a4 (by decide) rfl w rfl (by have := hr4; have := hb7; omega) (by decide) ?_
                refine e_val (y := su w) rfl ?_
                refine e_istore (L' := [(9, .int (su w)), (8, .int (nI (w + 8 * 2 + 32 * v))), (0, .ref m), (1, .int (nI r)), (2, .int (nI b)), (3, .int ac), (4, .int (nI L)), (5, .int (nI fr)), (6, .int (nI s.length)), (7, .int (nI (fr + j)))]) (pc := 146) Xc (dT hX7_looks 90 rfl) (by decide) rfl ?_
                refine e_iload (pc := 148) Xc (dT hX7_looks 91 rfl) 1 rfl ?_
                refine e_bipush (v := 8) (pc := 150) Xc (dT hX7_looks 92 rfl) rfl ?_
                refine e_idivN (a := w + 8 * 2 + 32 * v) (b := 8) (pc := 152) Xc (dT hX7_looks 93 rfl) (by have := hr4; have := hb7; omega) (by decide) (by decide) ?_
                refine e_iconst (v := 4) (pc := 153) Xc (dT hX7_looks 94 rfl) rfl ?_
                refine e_iremN (a := (w + 8 * 2 + 32 * v) / 8) (b := 4) (pc := 154) Xc (dT hX7_looks 95 rfl) (by have := hr4; have := hb7; omega) (by decide) (by decide) ?_
                refine e_val (y := 2) (congrArg nI (hdm.2.1)) ?_
                refine e_istore (L' := [(10, .int 2), (9, .int (su w)), (8, .int (nI (w + 8 * 2 + 32 * v))), (0, .ref m), (1, .int (nI r)), (2, .int (nI b)), (3, .int ac), (4, .int (nI L)), (5, .int (nI fr)), (6, .int (nI s.length)), (7, .int (nI (fr + j)))]) (pc := 155) Xc (dT hX7_looks 96 rfl) (by decide) rfl ?_
                refine e_iload (pc := 157) Xc (dT hX7_looks 97 rfl) 2 rfl ?_
                refine e_bipush (v := 32) (pc := 159) Xc (dT hX7_looks 98 rfl) rfl ?_
                refine e_idivN (a := w + 8 * 2 + 32 * v) (b := 32) (pc := 161) Xc (dT hX7_looks 99 rfl) (by have := hr4; have := hb7; omega) (by decide) (by decide) ?_
                refine e_val (y := nI v) (congrArg nI (hdm.2.2)) ?_
                refine e_istore (L' := [(11, .int (nI v)), (10, .int 2), (9, .int (su w)), (8, .int (nI (w + 8 * 2 + 32 * v))), (0, .ref m), (1, .int (nI r)), (2, .int (nI b)), (3, .int ac), (4, .int (nI L)), (5, .int (nI fr)), (6, .int (nI s.length)), (7, .int (nI (fr + j)))]) (pc := 162) Xc (dT hX7_looks 100 rfl) (by decide) rfl ?_
                refine e_aload_n (pc := 164) Xc (dT hX7_looks 101 rfl) 4 rfl ?_
                refine gf_X7_24 (pc := 165) Xc (dT hX7_looks 102 rfl) hp.o rfl ?_
                refine e_iload (pc := 168) Xc (dT hX7_looks 103 rfl) 10 rfl ?_
                refine e_iload (pc := 170) Xc (dT hX7_looks 104 rfl) 1 rfl ?_
                refine e_if_ne (tgt := 190) (pc := 172) Xc (dT hX7_looks 105 rfl) rfl (fun c172 => ?_) (fun c172 => ?_)
                · skip
                  refine e_iload (pc := 190) Xc (dT hX7_looks 113 rfl) 1 rfl ?_
                  refine e_iconst (v := 1) (pc := 192) Xc (dT hX7_looks 114 rfl) rfl ?_
                  refine e_icmp_neN (x := 2) (y := 1) (tgt := 211) (pc := 193) Xc (dT hX7_looks 115 rfl) rfl (by have := hr4; have := hb7; omega) (by have := hr4; have := hb7; omega) (fun c193 => ?_) (fun c193 => ?_)
                  · skip
                    refine e_iload (pc := 211) Xc (dT hX7_looks 123 rfl) 2 rfl ?_
                    refine e_iload (pc := 213) Xc (dT hX7_looks 124 rfl) 0 rfl ?_
                    refine e_icmp_le (tgt := 222) (pc := 215) Xc (dT hX7_looks 125 rfl) rfl (fun c215 => ?_) (fun c215 => ?_)
                    · skip
                      refine e_iconst (v := 0) (pc := 222) Xc (dT hX7_looks 128 rfl) rfl ?_
                      refine e_zastN (pc := 223) Xc (dT hX7_looks 129 rfl) hp.a5 rfl s.length rfl (by have := hr4; have := hb7; omega) (by decide) (Or.inl rfl) ?_
                      refine Ev.gen (fun z => PB7 z m F T (upA (upA (upA A0 4 su) 5 tr) 5 (upd tr s.length 0))) (hp.wa5 (g := (upd tr s.length 0))) Off.set (fun σ34 hP35 ho36 => ?_)
                      have hP35 : PB7 σ34 m F T (upA (upA A0 4 su) 5 (upd tr s.length 0)) := by rw [upA_2] at hP35; exact hP35
                      refine e_iincN (a := s.length) (b := 1) (L' := [(6, .int (nI (s.length + 1))), (11, .int (nI v)), (10, .int 2), (9, .int (su w)), (8, .int (nI (w + 8 * 2 + 32 * v))), (0, .ref m), (1, .int (nI r)), (2, .int (nI b)), (3, .int ac), (4, .int (nI L)), (5, .int (nI fr)), (7, .int (nI (fr + j)))]) (pc := 224) Xc (dT hX7_looks 130 rfl) 10 rfl rfl (by decide) rfl ?_
                      refine e_goto (tgt := 413) (pc := 227) Xc (dT hX7_looks 131 rfl) rfl ?_
                      refine e_iincN (a := fr + j) (b := 1) (L' := [(7, .int (nI ((fr + j) + 1))), (6, .int (nI (s.length + 1))), (11, .int (nI v)), (10, .int 2), (9, .int (su w)), (8, .int (nI (w + 8 * 2 + 32 * v))), (0, .ref m), (1, .int (nI r)), (2, .int (nI b)), (3, .int ac), (4, .int (nI L)), (5, .int (nI fr))]) (pc := 413) Xc (dT hX7_looks 230 rfl) 11 rfl rfl (by decide) rfl ?_
                      refine e_goto (tgt := 112) (pc := 416) Xc (dT hX7_looks 231 rfl) rfl ?_
                      refine Ev.pick (L' := [(0, .ref m), (1, .int (nI r)), (2, .int (nI b)), (3, .int ac), (4, .int (nI L)), (5, .int (nI fr)), (6, .int (nI (s.length + 1))), (7, .int (nI ((fr + j) + 1)))]) [6, 7, 8, 9, 10, 11, 1, 0] rfl ?_
                      exact ih112 (j + 1) (false :: s) ac (upd tr s.length 0) σ34 (by omega) (by omega) (Or.inr ⟨its, f, rest, hof, hor, hia', hdp', (by simp only [List.length_cons]; omega), hdr1, (by have hns : stI su (Sum.inl (w, 2, v)) s = (false :: s) := (by have hq : tst (su w) 2 v = false := (by exact decide_eq_false (Int32.not_lt.mpr c215)); show tst (su w) 2 v :: s = false :: s; rw [hq]); rw [← hns]; exact hev), hsum⟩) (⟨pk_us, trOK_upd htr (Nat.le_refl _)⟩) hP35 (ho.tr ho36)
                    · skip
                      refine e_iconst (v := 1) (pc := 218) Xc (dT hX7_looks 126 rfl) rfl ?_
                      refine e_goto (tgt := 223) (pc := 219) Xc (dT hX7_looks 127 rfl) rfl ?_
                      refine e_zastN (pc := 223) Xc (dT hX7_looks 129 rfl) hp.a5 rfl s.length rfl (by have := hr4; have := hb7; omega) (by decide) (Or.inr rfl) ?_
                      refine Ev.gen (fun z => PB7 z m F T (upA (upA (upA A0 4 su) 5 tr) 5 (upd tr s.length 1))) (hp.wa5 (g := (upd tr s.length 1))) Off.set (fun σ37 hP38 ho39 => ?_)
                      have hP38 : PB7 σ37 m F T (upA (upA A0 4 su) 5 (upd tr s.length 1)) := by rw [upA_2] at hP38; exact hP38
                      refine e_iincN (a := s.length) (b := 1) (L' := [(6, .int (nI (s.length + 1))), (11, .int (nI v)), (10, .int 2), (9, .int (su w)), (8, .int (nI (w + 8 * 2 + 32 * v))), (0, .ref m), (1, .int (nI r)), (2, .int (nI b)), (3, .int ac), (4, .int (nI L)), (5, .int (nI fr)), (7, .int (nI (fr + j)))]) (pc := 224) Xc (dT hX7_looks 130 rfl) 10 rfl rfl (by decide) rfl ?_
                      refine e_goto (tgt := 413) (pc := 227) Xc (dT hX7_looks 131 rfl) rfl ?_
                      refine e_iincN (a := fr + j) (b := 1) (L' := [(7, .int (nI ((fr + j) + 1))), (6, .int (nI (s.length + 1))), (11, .int (nI v)), (10, .int 2), (9, .int (su w)), (8, .int (nI (w + 8 * 2 + 32 * v))), (0, .ref m), (1, .int (nI r)), (2, .int (nI b)), (3, .int ac), (4, .int (nI L)), (5, .int (nI fr))]) (pc := 413) Xc (dT hX7_looks 230 rfl) 11 rfl rfl (by decide) rfl ?_
                      refine e_goto (tgt := 112) (pc := 416) Xc (dT hX7_looks 231 rfl) rfl ?_
                      refine Ev.pick (L' := [(0, .ref m), (1, .int (nI r)), (2, .int (nI b)), (3, .int ac), (4, .int (nI L)), (5, .int (nI fr)), (6, .int (nI (s.length + 1))), (7, .int (nI ((fr + j) + 1)))]) [6, 7, 8, 9, 10, 11, 1, 0] rfl ?_
                      exact ih112 (j + 1) (true :: s) ac (upd tr s.length 1) σ37 (by omega) (by omega) (Or.inr ⟨its, f, rest, hof, hor, hia', hdp', (by simp only [List.length_cons]; omega), hdr1, (by have hns : stI su (Sum.inl (w, 2, v)) s = (true :: s) := (by have hq : tst (su w) 2 v = true := (by exact decide_eq_true (Int32.not_le.mp c215)); show tst (su w) 2 v :: s = true :: s; rw [hq]); rw [← hns]; exact hev), hsum⟩) (⟨pk_us, trOK_upd htr (Nat.le_refl _)⟩) hP38 (ho.tr ho39)
                  · skip
                    exact absurd c193 (by decide)
                · skip
                  exact absurd c172 (by decide)
          · skip
            have hkk : kk = 0 ∨ kk = 1 ∨ kk = 2 := by simp only [okI, decide_eq_true_eq] at hok; omega
            rcases hkk with rfl | rfl | rfl
            · skip
              obtain ⟨d', hde, hdp'⟩ := dep_not hdp
              obtain ⟨a, s, rfl⟩ : ∃ a s', s = a :: s' := by
                cases s with
                | nil => simp at hde
                | cons a s => exact ⟨a, s, rfl⟩
              have hsl' : s.length ≤ 29 := by simp only [List.length_cons] at hsl; omega
              refine e_val (y := (-1)) hvx ?_
              refine e_istore (L' := [(8, .int (-1)), (0, .ref m), (1, .int (nI r)), (2, .int (nI b)), (3, .int ac), (4, .int (nI L)), (5, .int (nI fr)), (6, .int (nI (s.length + 1))), (7, .int (nI (fr + j)))]) (pc := 129) Xc (dT hX7_looks 81 rfl) (by decide) rfl ?_
              refine e_iload (pc := 131) Xc (dT hX7_looks 82 rfl) 0 rfl ?_
              refine e_if_lt (tgt := 230) (pc := 133) Xc (dT hX7_looks 83 rfl) rfl (fun c133 => ?_) (fun c133 => ?_)
              · skip
                refine e_iload (pc := 230) Xc (dT hX7_looks 132 rfl) 0 rfl ?_
                refine e_iconst (v := -1) (pc := 232) Xc (dT hX7_looks 133 rfl) rfl ?_
                refine e_icmp_ne (tgt := 265) (pc := 233) Xc (dT hX7_looks 134 rfl) rfl (fun c233 => ?_) (fun c233 => ?_)
                · skip
                  exact absurd c233 (by decide)
                · skip
                  refine e_aload_n (pc := 236) Xc (dT hX7_looks 135 rfl) 1 rfl ?_
                  refine gf_X7_24 (pc := 237) Xc (dT hX7_looks 136 rfl) hp.o rfl ?_
                  refine e_iload (pc := 240) Xc (dT hX7_looks 137 rfl) 7 rfl ?_
                  refine e_iconst (v := 1) (pc := 242) Xc (dT hX7_looks 138 rfl) rfl ?_
                  refine e_isubN (a := s.length + 1) (b := 1) (pc := 243) Xc (dT hX7_looks 139 rfl) (by have := hr4; have := hb7; omega) ?_
                  refine e_val (y := nI s.length) rfl ?_
                  refine e_aload_n (pc := 244) Xc (dT hX7_looks 140 rfl) 1 rfl ?_
                  refine gf_X7_24 (pc := 245) Xc (dT hX7_looks 141 rfl) hp.o rfl ?_
                  refine e_iload (pc := 248) Xc (dT hX7_looks 142 rfl) 7 rfl ?_
                  refine e_iconst (v := 1) (pc := 250) Xc (dT hX7_looks 143 rfl) rfl ?_
                  refine e_isubN (a := s.length + 1) (b := 1) (pc := 251) Xc (dT hX7_looks 144 rfl) (by have := hr4; have := hb7; omega) ?_
                  refine e_val (y := nI s.length) rfl ?_
                  refine e_zaldN (pc := 252) Xc (dT hX7_looks 145 rfl) hp.a5 rfl s.length rfl (by have := hr4; have := hb7; omega) (by decide) ?_
                  refine e_val (y := tr s.length) rfl ?_
                  refine e_val (y := bI a) htr.1 ?_
                  refine e_if_ne (tgt := 260) (pc := 253) Xc (dT hX7_looks 146 rfl) rfl (fun c253 => ?_) (fun c253 => ?_)
                  · skip
                    refine e_iconst (v := 0) (pc := 260) Xc (dT hX7_looks 149 rfl) rfl ?_
                    refine e_zastN (pc := 261) Xc (dT hX7_looks 150 rfl) hp.a5 rfl s.length rfl (by have := hr4; have := hb7; omega) (by decide) (Or.inl rfl) ?_
                    refine Ev.gen (fun z => PB7 z m F T (upA (upA (upA A0 4 su) 5 tr) 5 (upd tr s.length 0))) (hp.wa5 (g := (upd tr s.length 0))) Off.set (fun σ40 hP41 ho42 => ?_)
                    have hP41 : PB7 σ40 m F T (upA (upA A0 4 su) 5 (upd tr s.length 0)) := by rw [upA_2] at hP41; exact hP41
                    refine e_goto (tgt := 413) (pc := 262) Xc (dT hX7_looks 151 rfl) rfl ?_
                    refine e_iincN (a := fr + j) (b := 1) (L' := [(7, .int (nI ((fr + j) + 1))), (8, .int (-1)), (0, .ref m), (1, .int (nI r)), (2, .int (nI b)), (3, .int ac), (4, .int (nI L)), (5, .int (nI fr)), (6, .int (nI (s.length + 1)))]) (pc := 413) Xc (dT hX7_looks 230 rfl) 8 rfl rfl (by decide) rfl ?_
                    refine e_goto (tgt := 112) (pc := 416) Xc (dT hX7_looks 231 rfl) rfl ?_
                    refine Ev.pick (L' := [(0, .ref m), (1, .int (nI r)), (2, .int (nI b)), (3, .int ac), (4, .int (nI L)), (5, .int (nI fr)), (6, .int (nI (s.length + 1))), (7, .int (nI ((fr + j) + 1)))]) [2, 3, 4, 5, 6, 7, 8, 0] rfl ?_
                    exact ih112 (j + 1) (false :: s) ac (upd tr s.length 0) σ40 (by omega) (by omega) (Or.inr ⟨its, f, rest, hof, hor, hia', (by have e : s.length = d' := (by simp only [List.length_cons] at hde; omega); simp only [List.length_cons]; rw [e]; exact hdp'), (by simp only [List.length_cons]; omega), hdr1, (by have hns : stI su (Sum.inr 0) (a :: s) = (false :: s) := (by simp only [bI_0, Bool.not_eq_false] at c253; show (!a) :: s = false :: s; rw [c253]; rfl); rw [← hns]; exact hev), hsum⟩) (⟨pk_us, trOK_upd htr.2 (Nat.le_refl _)⟩) hP41 (ho.tr ho42)
                  · skip
                    refine e_iconst (v := 1) (pc := 256) Xc (dT hX7_looks 147 rfl) rfl ?_
                    refine e_goto (tgt := 261) (pc := 257) Xc (dT hX7_looks 148 rfl) rfl ?_
                    refine e_zastN (pc := 261) Xc (dT hX7_looks 150 rfl) hp.a5 rfl s.length rfl (by have := hr4; have := hb7; omega) (by decide) (Or.inr rfl) ?_
                    refine Ev.gen (fun z => PB7 z m F T (upA (upA (upA A0 4 su) 5 tr) 5 (upd tr s.length 1))) (hp.wa5 (g := (upd tr s.length 1))) Off.set (fun σ43 hP44 ho45 => ?_)
                    have hP44 : PB7 σ43 m F T (upA (upA A0 4 su) 5 (upd tr s.length 1)) := by rw [upA_2] at hP44; exact hP44
                    refine e_goto (tgt := 413) (pc := 262) Xc (dT hX7_looks 151 rfl) rfl ?_
                    refine e_iincN (a := fr + j) (b := 1) (L' := [(7, .int (nI ((fr + j) + 1))), (8, .int (-1)), (0, .ref m), (1, .int (nI r)), (2, .int (nI b)), (3, .int ac), (4, .int (nI L)), (5, .int (nI fr)), (6, .int (nI (s.length + 1)))]) (pc := 413) Xc (dT hX7_looks 230 rfl) 8 rfl rfl (by decide) rfl ?_
                    refine e_goto (tgt := 112) (pc := 416) Xc (dT hX7_looks 231 rfl) rfl ?_
                    refine Ev.pick (L' := [(0, .ref m), (1, .int (nI r)), (2, .int (nI b)), (3, .int ac), (4, .int (nI L)), (5, .int (nI fr)), (6, .int (nI (s.length + 1))), (7, .int (nI ((fr + j) + 1)))]) [2, 3, 4, 5, 6, 7, 8, 0] rfl ?_
                    exact ih112 (j + 1) (true :: s) ac (upd tr s.length 1) σ43 (by omega) (by omega) (Or.inr ⟨its, f, rest, hof, hor, hia', (by have e : s.length = d' := (by simp only [List.length_cons] at hde; omega); simp only [List.length_cons]; rw [e]; exact hdp'), (by simp only [List.length_cons]; omega), hdr1, (by have hns : stI su (Sum.inr 0) (a :: s) = (true :: s) := (by simp only [bI_0, Bool.not_eq_false] at c253; show (!a) :: s = true :: s; rw [c253]; rfl); rw [← hns]; exact hev), hsum⟩) (⟨pk_us, trOK_upd htr.2 (Nat.le_refl _)⟩) hP44 (ho.tr ho45)
              · skip
                exact absurd c133 (by decide)
            · skip
              obtain ⟨d', hde, hdp'⟩ := dep_bin hdp
              obtain ⟨b', a, s, rfl⟩ : ∃ b a s', s = b :: a :: s' := by
                match s, hde with
                | [], hde => simp at hde
                | [_], hde => simp at hde
                | b :: a :: s, _ => exact ⟨b, a, s, rfl⟩
              have hsl' : s.length ≤ 28 := by simp only [List.length_cons] at hsl; omega
              refine e_val (y := (-2)) hvx ?_
              refine e_istore (L' := [(8, .int (-2)), (0, .ref m), (1, .int (nI r)), (2, .int (nI b)), (3, .int ac), (4, .int (nI L)), (5, .int (nI fr)), (6, .int (nI (s.length + 1 + 1))), (7, .int (nI (fr + j)))]) (pc := 129) Xc (dT hX7_looks 81 rfl) (by decide) rfl ?_
              refine e_iload (pc := 131) Xc (dT hX7_looks 82 rfl) 0 rfl ?_
              refine e_if_lt (tgt := 230) (pc := 133) Xc (dT hX7_looks 83 rfl) rfl (fun c133 => ?_) (fun c133 => ?_)
              · skip
                refine e_iload (pc := 230) Xc (dT hX7_looks 132 rfl) 0 rfl ?_
                refine e_iconst (v := -1) (pc := 232) Xc (dT hX7_looks 133 rfl) rfl ?_
                refine e_icmp_ne (tgt := 265) (pc := 233) Xc (dT hX7_looks 134 rfl) rfl (fun c233 => ?_) (fun c233 => ?_)
                · skip
                  refine e_iload (pc := 265) Xc (dT hX7_looks 152 rfl) 0 rfl ?_
                  refine e_bipush (v := -10) (pc := 267) Xc (dT hX7_looks 153 rfl) rfl ?_
                  refine e_icmp_le (tgt := 351) (pc := 269) Xc (dT hX7_looks 154 rfl) rfl (fun c269 => ?_) (fun c269 => ?_)
                  · skip
                    exact absurd c269 (by decide)
                  · skip
                    refine e_iinc (v := nI (s.length + 1)) (L' := [(6, .int (nI (s.length + 1))), (8, .int (-2)), (0, .ref m), (1, .int (nI r)), (2, .int (nI b)), (3, .int ac), (4, .int (nI L)), (5, .int (nI fr)), (7, .int (nI (fr + j)))]) (pc := 272) Xc (dT hX7_looks 155 rfl) 7 rfl (pk_m1 (s.length + 1)) (by decide) rfl ?_
                    refine e_aload_n (pc := 275) Xc (dT hX7_looks 156 rfl) 2 rfl ?_
                    refine gf_X7_24 (pc := 276) Xc (dT hX7_looks 157 rfl) hp.o rfl ?_
                    refine e_iload (pc := 279) Xc (dT hX7_looks 158 rfl) 0 rfl ?_
                    refine e_iconst (v := 1) (pc := 281) Xc (dT hX7_looks 159 rfl) rfl ?_
                    refine e_isubN (a := s.length + 1) (b := 1) (pc := 282) Xc (dT hX7_looks 160 rfl) (by have := hr4; have := hb7; omega) ?_
                    refine e_val (y := nI s.length) rfl ?_
                    refine e_iload (pc := 283) Xc (dT hX7_looks 161 rfl) 1 rfl ?_
                    refine e_bipush (v := -2) (pc := 285) Xc (dT hX7_looks 162 rfl) rfl ?_
                    refine e_icmp_ne (tgt := 320) (pc := 287) Xc (dT hX7_looks 163 rfl) rfl (fun c287 => ?_) (fun c287 => ?_)
                    · skip
                      exact absurd c287 (by decide)
                    · skip
                      refine e_aload_n (pc := 290) Xc (dT hX7_looks 164 rfl) 2 rfl ?_
                      refine gf_X7_24 (pc := 291) Xc (dT hX7_looks 165 rfl) hp.o rfl ?_
                      refine e_iload (pc := 294) Xc (dT hX7_looks 166 rfl) 0 rfl ?_
                      refine e_iconst (v := 1) (pc := 296) Xc (dT hX7_looks 167 rfl) rfl ?_
                      refine e_isubN (a := s.length + 1) (b := 1) (pc := 297) Xc (dT hX7_looks 168 rfl) (by have := hr4; have := hb7; omega) ?_
                      refine e_val (y := nI s.length) rfl ?_
                      refine e_zaldN (pc := 298) Xc (dT hX7_looks 169 rfl) hp.a5 rfl s.length rfl (by have := hr4; have := hb7; omega) (by decide) ?_
                      refine e_val (y := tr s.length) rfl ?_
                      refine e_val (y := bI a) htr.2.1 ?_
                      refine e_if_eq (tgt := 316) (pc := 299) Xc (dT hX7_looks 170 rfl) rfl (fun c299 => ?_) (fun c299 => ?_)
                      · skip
                        refine e_iconst (v := 0) (pc := 316) Xc (dT hX7_looks 178 rfl) rfl ?_
                        refine e_goto (tgt := 347) (pc := 317) Xc (dT hX7_looks 179 rfl) rfl ?_
                        refine e_zastN (pc := 347) Xc (dT hX7_looks 195 rfl) hp.a5 rfl s.length rfl (by have := hr4; have := hb7; omega) (by decide) (Or.inl rfl) ?_
                        refine Ev.gen (fun z => PB7 z m F T (upA (upA (upA A0 4 su) 5 tr) 5 (upd tr s.length 0))) (hp.wa5 (g := (upd tr s.length 0))) Off.set (fun σ46 hP47 ho48 => ?_)
                        have hP47 : PB7 σ46 m F T (upA (upA A0 4 su) 5 (upd tr s.length 0)) := by rw [upA_2] at hP47; exact hP47
                        refine e_goto (tgt := 413) (pc := 348) Xc (dT hX7_looks 196 rfl) rfl ?_
                        refine e_iincN (a := fr + j) (b := 1) (L' := [(7, .int (nI ((fr + j) + 1))), (6, .int (nI (s.length + 1))), (8, .int (-2)), (0, .ref m), (1, .int (nI r)), (2, .int (nI b)), (3, .int ac), (4, .int (nI L)), (5, .int (nI fr))]) (pc := 413) Xc (dT hX7_looks 230 rfl) 8 rfl rfl (by decide) rfl ?_
                        refine e_goto (tgt := 112) (pc := 416) Xc (dT hX7_looks 231 rfl) rfl ?_
                        refine Ev.pick (L' := [(0, .ref m), (1, .int (nI r)), (2, .int (nI b)), (3, .int ac), (4, .int (nI L)), (5, .int (nI fr)), (6, .int (nI (s.length + 1))), (7, .int (nI ((fr + j) + 1)))]) [3, 4, 5, 6, 7, 8, 1, 0] rfl ?_
                        exact ih112 (j + 1) (false :: s) ac (upd tr s.length 0) σ46 (by omega) (by omega) (Or.inr ⟨its, f, rest, hof, hor, hia', (by have e : s.length = d' := (by simp only [List.length_cons] at hde; omega); simp only [List.length_cons]; rw [e]; exact hdp'), (by simp only [List.length_cons]; omega), hdr1, (by have hns : stI su (Sum.inr 1) (b' :: a :: s) = (false :: s) := (by simp only [bI_0, Bool.not_eq_false] at c299; show (a && b') :: s = false :: s; simp [c299]); rw [← hns]; exact hev), hsum⟩) (⟨pk_us, trOK_upd htr.2.2 (Nat.le_refl _)⟩) hP47 (ho.tr ho48)
                      · skip
                        refine e_aload_n (pc := 302) Xc (dT hX7_looks 171 rfl) 2 rfl ?_
                        refine gf_X7_24 (pc := 303) Xc (dT hX7_looks 172 rfl) hp.o rfl ?_
                        refine e_iload (pc := 306) Xc (dT hX7_looks 173 rfl) 0 rfl ?_
                        refine e_zaldN (pc := 308) Xc (dT hX7_looks 174 rfl) hp.a5 rfl (s.length + 1) rfl (by have := hr4; have := hb7; omega) (by decide) ?_
                        refine e_val (y := tr (s.length + 1)) rfl ?_
                        refine e_val (y := bI b') htr.1 ?_
                        refine e_if_eq (tgt := 316) (pc := 309) Xc (dT hX7_looks 175 rfl) rfl (fun c309 => ?_) (fun c309 => ?_)
                        · skip
                          refine e_iconst (v := 0) (pc := 316) Xc (dT hX7_looks 178 rfl) rfl ?_
                          refine e_goto (tgt := 347) (pc := 317) Xc (dT hX7_looks 179 rfl) rfl ?_
                          refine e_zastN (pc := 347) Xc (dT hX7_looks 195 rfl) hp.a5 rfl s.length rfl (by have := hr4; have := hb7; omega) (by decide) (Or.inl rfl) ?_
                          refine Ev.gen (fun z => PB7 z m F T (upA (upA (upA A0 4 su) 5 tr) 5 (upd tr s.length 0))) (hp.wa5 (g := (upd tr s.length 0))) Off.set (fun σ49 hP50 ho51 => ?_)
                          have hP50 : PB7 σ49 m F T (upA (upA A0 4 su) 5 (upd tr s.length 0)) := by rw [upA_2] at hP50; exact hP50
                          refine e_goto (tgt := 413) (pc := 348) Xc (dT hX7_looks 196 rfl) rfl ?_
                          refine e_iincN (a := fr + j) (b := 1) (L' := [(7, .int (nI ((fr + j) + 1))), (6, .int (nI (s.length + 1))), (8, .int (-2)), (0, .ref m), (1, .int (nI r)), (2, .int (nI b)), (3, .int ac), (4, .int (nI L)), (5, .int (nI fr))]) (pc := 413) Xc (dT hX7_looks 230 rfl) 8 rfl rfl (by decide) rfl ?_
                          refine e_goto (tgt := 112) (pc := 416) Xc (dT hX7_looks 231 rfl) rfl ?_
                          refine Ev.pick (L' := [(0, .ref m), (1, .int (nI r)), (2, .int (nI b)), (3, .int ac), (4, .int (nI L)), (5, .int (nI fr)), (6, .int (nI (s.length + 1))), (7, .int (nI ((fr + j) + 1)))]) [3, 4, 5, 6, 7, 8, 1, 0] rfl ?_
                          exact ih112 (j + 1) (false :: s) ac (upd tr s.length 0) σ49 (by omega) (by omega) (Or.inr ⟨its, f, rest, hof, hor, hia', (by have e : s.length = d' := (by simp only [List.length_cons] at hde; omega); simp only [List.length_cons]; rw [e]; exact hdp'), (by simp only [List.length_cons]; omega), hdr1, (by have hns : stI su (Sum.inr 1) (b' :: a :: s) = (false :: s) := (by simp only [bI_0, Bool.not_eq_false] at c299 c309; show (a && b') :: s = false :: s; simp [c299, c309]); rw [← hns]; exact hev), hsum⟩) (⟨pk_us, trOK_upd htr.2.2 (Nat.le_refl _)⟩) hP50 (ho.tr ho51)
                        · skip
                          refine e_iconst (v := 1) (pc := 312) Xc (dT hX7_looks 176 rfl) rfl ?_
                          refine e_goto (tgt := 347) (pc := 313) Xc (dT hX7_looks 177 rfl) rfl ?_
                          refine e_zastN (pc := 347) Xc (dT hX7_looks 195 rfl) hp.a5 rfl s.length rfl (by have := hr4; have := hb7; omega) (by decide) (Or.inr rfl) ?_
                          refine Ev.gen (fun z => PB7 z m F T (upA (upA (upA A0 4 su) 5 tr) 5 (upd tr s.length 1))) (hp.wa5 (g := (upd tr s.length 1))) Off.set (fun σ52 hP53 ho54 => ?_)
                          have hP53 : PB7 σ52 m F T (upA (upA A0 4 su) 5 (upd tr s.length 1)) := by rw [upA_2] at hP53; exact hP53
                          refine e_goto (tgt := 413) (pc := 348) Xc (dT hX7_looks 196 rfl) rfl ?_
                          refine e_iincN (a := fr + j) (b := 1) (L' := [(7, .int (nI ((fr + j) + 1))), (6, .int (nI (s.length + 1))), (8, .int (-2)), (0, .ref m), (1, .int (nI r)), (2, .int (nI b)), (3, .int ac), (4, .int (nI L)), (5, .int (nI fr))]) (pc := 413) Xc (dT hX7_looks 230 rfl) 8 rfl rfl (by decide) rfl ?_
                          refine e_goto (tgt := 112) (pc := 416) Xc (dT hX7_looks 231 rfl) rfl ?_
                          refine Ev.pick (L' := [(0, .ref m), (1, .int (nI r)), (2, .int (nI b)), (3, .int ac), (4, .int (nI L)), (5, .int (nI fr)), (6, .int (nI (s.length + 1))), (7, .int (nI ((fr + j) + 1)))]) [3, 4, 5, 6, 7, 8, 1, 0] rfl ?_
                          exact ih112 (j + 1) (true :: s) ac (upd tr s.length 1) σ52 (by omega) (by omega) (Or.inr ⟨its, f, rest, hof, hor, hia', (by have e : s.length = d' := (by simp only [List.length_cons] at hde; omega); simp only [List.length_cons]; rw [e]; exact hdp'), (by simp only [List.length_cons]; omega), hdr1, (by have hns : stI su (Sum.inr 1) (b' :: a :: s) = (true :: s) := (by simp only [bI_0, Bool.not_eq_false] at c299 c309; show (a && b') :: s = true :: s; simp [c299, c309]); rw [← hns]; exact hev), hsum⟩) (⟨pk_us, trOK_upd htr.2.2 (Nat.le_refl _)⟩) hP53 (ho.tr ho54)
                · skip
                  exact absurd c233 (by decide)
              · skip
                exact absurd c133 (by decide)
            · skip
              obtain ⟨d', hde, hdp'⟩ := dep_bin hdp
              obtain ⟨b', a, s, rfl⟩ : ∃ b a s', s = b :: a :: s' := by
                match s, hde with
                | [], hde => simp at hde
                | [_], hde => simp at hde
                | b :: a :: s, _ => exact ⟨b, a, s, rfl⟩
              have hsl' : s.length ≤ 28 := by simp only [List.length_cons] at hsl; omega
              refine e_val (y := (-3)) hvx ?_
              refine e_istore (L' := [(8, .int (-3)), (0, .ref m), (1, .int (nI r)), (2, .int (nI b)), (3, .int ac), (4, .int (nI L)), (5, .int (nI fr)), (6, .int (nI (s.length + 1 + 1))), (7, .int (nI (fr + j)))]) (pc := 129) Xc (dT hX7_looks 81 rfl) (by decide) rfl ?_
              refine e_iload (pc := 131) Xc (dT hX7_looks 82 rfl) 0 rfl ?_
              refine e_if_lt (tgt := 230) (pc := 133) Xc (dT hX7_looks 83 rfl) rfl (fun c133 => ?_) (fun c133 => ?_)
              · skip
                refine e_iload (pc := 230) Xc (dT hX7_looks 132 rfl) 0 rfl ?_
                refine e_iconst (v := -1) (pc := 232) Xc (dT hX7_looks 133 rfl) rfl ?_
                refine e_icmp_ne (tgt := 265) (pc := 233) Xc (dT hX7_looks 134 rfl) rfl (fun c233 => ?_) (fun c233 => ?_)
                · skip
                  refine e_iload (pc := 265) Xc (dT hX7_looks 152 rfl) 0 rfl ?_
                  refine e_bipush (v := -10) (pc := 267) Xc (dT hX7_looks 153 rfl) rfl ?_
                  refine e_icmp_le (tgt := 351) (pc := 269) Xc (dT hX7_looks 154 rfl) rfl (fun c269 => ?_) (fun c269 => ?_)
                  · skip
                    exact absurd c269 (by decide)
                  · skip
                    refine e_iinc (v := nI (s.length + 1)) (L' := [(6, .int (nI (s.length + 1))), (8, .int (-3)), (0, .ref m), (1, .int (nI r)), (2, .int (nI b)), (3, .int ac), (4, .int (nI L)), (5, .int (nI fr)), (7, .int (nI (fr + j)))]) (pc := 272) Xc (dT hX7_looks 155 rfl) 7 rfl (pk_m1 (s.length + 1)) (by decide) rfl ?_
                    refine e_aload_n (pc := 275) Xc (dT hX7_looks 156 rfl) 2 rfl ?_
                    refine gf_X7_24 (pc := 276) Xc (dT hX7_looks 157 rfl) hp.o rfl ?_
                    refine e_iload (pc := 279) Xc (dT hX7_looks 158 rfl) 0 rfl ?_
                    refine e_iconst (v := 1) (pc := 281) Xc (dT hX7_looks 159 rfl) rfl ?_
                    refine e_isubN (a := s.length + 1) (b := 1) (pc := 282) Xc (dT hX7_looks 160 rfl) (by have := hr4; have := hb7; omega) ?_
                    refine e_val (y := nI s.length) rfl ?_
                    refine e_iload (pc := 283) Xc (dT hX7_looks 161 rfl) 1 rfl ?_
                    refine e_bipush (v := -2) (pc := 285) Xc (dT hX7_looks 162 rfl) rfl ?_
                    refine e_icmp_ne (tgt := 320) (pc := 287) Xc (dT hX7_looks 163 rfl) rfl (fun c287 => ?_) (fun c287 => ?_)
                    · skip
                      refine e_aload_n (pc := 320) Xc (dT hX7_looks 180 rfl) 2 rfl ?_
                      refine gf_X7_24 (pc := 321) Xc (dT hX7_looks 181 rfl) hp.o rfl ?_
                      refine e_iload (pc := 324) Xc (dT hX7_looks 182 rfl) 0 rfl ?_
                      refine e_iconst (v := 1) (pc := 326) Xc (dT hX7_looks 183 rfl) rfl ?_
                      refine e_isubN (a := s.length + 1) (b := 1) (pc := 327) Xc (dT hX7_looks 184 rfl) (by have := hr4; have := hb7; omega) ?_
                      refine e_val (y := nI s.length) rfl ?_
                      refine e_zaldN (pc := 328) Xc (dT hX7_looks 185 rfl) hp.a5 rfl s.length rfl (by have := hr4; have := hb7; omega) (by decide) ?_
                      refine e_val (y := tr s.length) rfl ?_
                      refine e_val (y := bI a) htr.2.1 ?_
                      refine e_if_ne (tgt := 342) (pc := 329) Xc (dT hX7_looks 186 rfl) rfl (fun c329 => ?_) (fun c329 => ?_)
                      · skip
                        refine e_iconst (v := 1) (pc := 342) Xc (dT hX7_looks 192 rfl) rfl ?_
                        refine e_goto (tgt := 347) (pc := 343) Xc (dT hX7_looks 193 rfl) rfl ?_
                        refine e_zastN (pc := 347) Xc (dT hX7_looks 195 rfl) hp.a5 rfl s.length rfl (by have := hr4; have := hb7; omega) (by decide) (Or.inr rfl) ?_
                        refine Ev.gen (fun z => PB7 z m F T (upA (upA (upA A0 4 su) 5 tr) 5 (upd tr s.length 1))) (hp.wa5 (g := (upd tr s.length 1))) Off.set (fun σ55 hP56 ho57 => ?_)
                        have hP56 : PB7 σ55 m F T (upA (upA A0 4 su) 5 (upd tr s.length 1)) := by rw [upA_2] at hP56; exact hP56
                        refine e_goto (tgt := 413) (pc := 348) Xc (dT hX7_looks 196 rfl) rfl ?_
                        refine e_iincN (a := fr + j) (b := 1) (L' := [(7, .int (nI ((fr + j) + 1))), (6, .int (nI (s.length + 1))), (8, .int (-3)), (0, .ref m), (1, .int (nI r)), (2, .int (nI b)), (3, .int ac), (4, .int (nI L)), (5, .int (nI fr))]) (pc := 413) Xc (dT hX7_looks 230 rfl) 8 rfl rfl (by decide) rfl ?_
                        refine e_goto (tgt := 112) (pc := 416) Xc (dT hX7_looks 231 rfl) rfl ?_
                        refine Ev.pick (L' := [(0, .ref m), (1, .int (nI r)), (2, .int (nI b)), (3, .int ac), (4, .int (nI L)), (5, .int (nI fr)), (6, .int (nI (s.length + 1))), (7, .int (nI ((fr + j) + 1)))]) [3, 4, 5, 6, 7, 8, 1, 0] rfl ?_
                        exact ih112 (j + 1) (true :: s) ac (upd tr s.length 1) σ55 (by omega) (by omega) (Or.inr ⟨its, f, rest, hof, hor, hia', (by have e : s.length = d' := (by simp only [List.length_cons] at hde; omega); simp only [List.length_cons]; rw [e]; exact hdp'), (by simp only [List.length_cons]; omega), hdr1, (by have hns : stI su (Sum.inr 2) (b' :: a :: s) = (true :: s) := (by simp only [bI_0, Bool.not_eq_false] at c329; show (a || b') :: s = true :: s; simp [c329]); rw [← hns]; exact hev), hsum⟩) (⟨pk_us, trOK_upd htr.2.2 (Nat.le_refl _)⟩) hP56 (ho.tr ho57)
                      · skip
                        refine e_aload_n (pc := 332) Xc (dT hX7_looks 187 rfl) 2 rfl ?_
                        refine gf_X7_24 (pc := 333) Xc (dT hX7_looks 188 rfl) hp.o rfl ?_
                        refine e_iload (pc := 336) Xc (dT hX7_looks 189 rfl) 0 rfl ?_
                        refine e_zaldN (pc := 338) Xc (dT hX7_looks 190 rfl) hp.a5 rfl (s.length + 1) rfl (by have := hr4; have := hb7; omega) (by decide) ?_
                        refine e_val (y := tr (s.length + 1)) rfl ?_
                        refine e_val (y := bI b') htr.1 ?_
                        refine e_if_eq (tgt := 346) (pc := 339) Xc (dT hX7_looks 191 rfl) rfl (fun c339 => ?_) (fun c339 => ?_)
                        · skip
                          refine e_iconst (v := 0) (pc := 346) Xc (dT hX7_looks 194 rfl) rfl ?_
                          refine e_zastN (pc := 347) Xc (dT hX7_looks 195 rfl) hp.a5 rfl s.length rfl (by have := hr4; have := hb7; omega) (by decide) (Or.inl rfl) ?_
                          refine Ev.gen (fun z => PB7 z m F T (upA (upA (upA A0 4 su) 5 tr) 5 (upd tr s.length 0))) (hp.wa5 (g := (upd tr s.length 0))) Off.set (fun σ58 hP59 ho60 => ?_)
                          have hP59 : PB7 σ58 m F T (upA (upA A0 4 su) 5 (upd tr s.length 0)) := by rw [upA_2] at hP59; exact hP59
                          refine e_goto (tgt := 413) (pc := 348) Xc (dT hX7_looks 196 rfl) rfl ?_
                          refine e_iincN (a := fr + j) (b := 1) (L' := [(7, .int (nI ((fr + j) + 1))), (6, .int (nI (s.length + 1))), (8, .int (-3)), (0, .ref m), (1, .int (nI r)), (2, .int (nI b)), (3, .int ac), (4, .int (nI L)), (5, .int (nI fr))]) (pc := 413) Xc (dT hX7_looks 230 rfl) 8 rfl rfl (by decide) rfl ?_
                          refine e_goto (tgt := 112) (pc := 416) Xc (dT hX7_looks 231 rfl) rfl ?_
                          refine Ev.pick (L' := [(0, .ref m), (1, .int (nI r)), (2, .int (nI b)), (3, .int ac), (4, .int (nI L)), (5, .int (nI fr)), (6, .int (nI (s.length + 1))), (7, .int (nI ((fr + j) + 1)))]) [3, 4, 5, 6, 7, 8, 1, 0] rfl ?_
                          exact ih112 (j + 1) (false :: s) ac (upd tr s.length 0) σ58 (by omega) (by omega) (Or.inr ⟨its, f, rest, hof, hor, hia', (by have e : s.length = d' := (by simp only [List.length_cons] at hde; omega); simp only [List.length_cons]; rw [e]; exact hdp'), (by simp only [List.length_cons]; omega), hdr1, (by have hns : stI su (Sum.inr 2) (b' :: a :: s) = (false :: s) := (by simp only [bI_0, Bool.not_eq_false] at c329 c339; show (a || b') :: s = false :: s; simp [c329, c339]); rw [← hns]; exact hev), hsum⟩) (⟨pk_us, trOK_upd htr.2.2 (Nat.le_refl _)⟩) hP59 (ho.tr ho60)
                        · skip
                          refine e_iconst (v := 1) (pc := 342) Xc (dT hX7_looks 192 rfl) rfl ?_
                          refine e_goto (tgt := 347) (pc := 343) Xc (dT hX7_looks 193 rfl) rfl ?_
                          refine e_zastN (pc := 347) Xc (dT hX7_looks 195 rfl) hp.a5 rfl s.length rfl (by have := hr4; have := hb7; omega) (by decide) (Or.inr rfl) ?_
                          refine Ev.gen (fun z => PB7 z m F T (upA (upA (upA A0 4 su) 5 tr) 5 (upd tr s.length 1))) (hp.wa5 (g := (upd tr s.length 1))) Off.set (fun σ61 hP62 ho63 => ?_)
                          have hP62 : PB7 σ61 m F T (upA (upA A0 4 su) 5 (upd tr s.length 1)) := by rw [upA_2] at hP62; exact hP62
                          refine e_goto (tgt := 413) (pc := 348) Xc (dT hX7_looks 196 rfl) rfl ?_
                          refine e_iincN (a := fr + j) (b := 1) (L' := [(7, .int (nI ((fr + j) + 1))), (6, .int (nI (s.length + 1))), (8, .int (-3)), (0, .ref m), (1, .int (nI r)), (2, .int (nI b)), (3, .int ac), (4, .int (nI L)), (5, .int (nI fr))]) (pc := 413) Xc (dT hX7_looks 230 rfl) 8 rfl rfl (by decide) rfl ?_
                          refine e_goto (tgt := 112) (pc := 416) Xc (dT hX7_looks 231 rfl) rfl ?_
                          refine Ev.pick (L' := [(0, .ref m), (1, .int (nI r)), (2, .int (nI b)), (3, .int ac), (4, .int (nI L)), (5, .int (nI fr)), (6, .int (nI (s.length + 1))), (7, .int (nI ((fr + j) + 1)))]) [3, 4, 5, 6, 7, 8, 1, 0] rfl ?_
                          exact ih112 (j + 1) (true :: s) ac (upd tr s.length 1) σ61 (by omega) (by omega) (Or.inr ⟨its, f, rest, hof, hor, hia', (by have e : s.length = d' := (by simp only [List.length_cons] at hde; omega); simp only [List.length_cons]; rw [e]; exact hdp'), (by simp only [List.length_cons]; omega), hdr1, (by have hns : stI su (Sum.inr 2) (b' :: a :: s) = (true :: s) := (by simp only [bI_0, Bool.not_eq_false] at c329 c339; show (a || b') :: s = true :: s; simp [c329, c339]); rw [← hns]; exact hev), hsum⟩) (⟨pk_us, trOK_upd htr.2.2 (Nat.le_refl _)⟩) hP62 (ho.tr ho63)
                    · skip
                      exact absurd c287 (by decide)
                · skip
                  exact absurd c233 (by decide)
              · skip
                exact absurd c133 (by decide)
  refine Ev.pick (L' := [(0, .ref m), (1, .int (nI r)), (2, .int (nI b)), (3, .int 0), (4, .int (nI L)), (5, .int (nI fr)), (6, .int 0), (7, .int (nI fr))]) [5, 6, 7, 4, 3, 2, 1, 0] rfl ?_
  exact lp112 ((L - 0) + 1) 0 ([]) 0 (A0 5) σ16 (Nat.lt_succ_self _) (Nat.zero_le _) (lkI_next (rs := t.2.2) hf6 rfl (Nat.zero_le _) rfl) trivial (by rw [upA_id']; exact hB9) (((((ho3.tr ho6).tr ho9).tr ho12).tr ho15).tr ho18)
