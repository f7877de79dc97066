set_option maxRecDepth 100000 in
set_option maxHeartbeats 4000000 in
theorem c5_learnK {G : xG} {σ : xS} {w tw : Nat} {X : Nat → Int32} {nr nb : Nat} {t : xT} {ln : Nat} (hX : WX σ w tw X nr nb t ln) {dy : Nat} (hdy : dy ≤ 20000) (hd0 : X 0 = nI dy) (hlt : ln < 1024) (e0 : Nat) (hk0 : ln.testBit e0 = true) : CV G yX5_learn cX5_learn 4 none 5 0 0 [.ref w] σ (fun σ1 => WLk σ1 w tw X nr nb t dy e0 ∧ Off w σ σ1) := by
  refine Met.ofX (by decide +kernel) (Nat.le_of_ble_eq_true rfl) (fun μ Xc hQ hnm => ?_)
  have Xc : xC G μ cX5_learn 4 RX5 none 5 0 0 := Xc
  obtain ⟨F, T, A, hB, htw⟩ := id hX
  obtain ⟨hP, hW, hTw, hne, hG, hT⟩ := id hB
  have hr4 := hG.r4
  have hb7 := hG.b7
  have hln := hlt
  have hF7 : F 7 = nI ln := hW.2.2.2.2.2.2.2.2.2.2.1.resolve_right (by omega)
  have hdm : dy % 10 < 10 := Nat.mod_lt _ (by decide)
  show Ev G μ 4 0 0 0 [(0, .ref w)] [] σ
  refine e_aload_n (pc := 0) Xc (dT hX5_learn 0 rfl) 0 rfl ?_
  refine gf_X5_43 (pc := 1) Xc (dT hX5_learn 1 rfl) hP.o rfl ?_
  refine e_val (y := X 0) hW.day ?_
  refine e_val (y := nI dy) hd0 ?_
  refine e_bipush (v := 10) (pc := 4) Xc (dT hX5_learn 2 rfl) rfl ?_
  refine e_iremN (a := dy) (b := 10) (pc := 6) Xc (dT hX5_learn 3 rfl) (by omega) (by decide) (by decide) ?_
  refine e_istore_n (L' := [(1, .int (nI (dy % 10))), (0, .ref w)]) (pc := 7) Xc (dT hX5_learn 4 rfl) (by decide) rfl ?_
  refine e_aload_n (pc := 8) Xc (dT hX5_learn 5 rfl) 1 rfl ?_
  refine gf_X5_33 (pc := 9) Xc (dT hX5_learn 6 rfl) hP.o rfl ?_
  refine e_val (y := nI ln) hF7 ?_
  refine e_iload_n (pc := 12) Xc (dT hX5_learn 7 rfl) 0 rfl ?_
  refine e_ishr (pc := 13) Xc (dT hX5_learn 8 rfl) ?_
  refine e_val (y := nI (ln / 2 ^ (dy % 10))) (shrN (by omega) (by omega)) ?_
  refine e_iconst (v := 1) (pc := 14) Xc (dT hX5_learn 9 rfl) rfl ?_
  refine e_iand (pc := 15) Xc (dT hX5_learn 10 rfl) ?_
  have hdl : ln / 2 ^ (dy % 10) < 2 ^ 31 := Nat.lt_of_le_of_lt (Nat.div_le_self _ _) (by omega)
  refine e_val (y := nI (ln / 2 ^ (dy % 10) % 2)) (and1 _ hdl) ?_
  refine e_if_eq (tgt := 20) (pc := 16) Xc (dT hX5_learn 11 rfl) rfl (fun c16 => ?_) (fun c16 => ?_)
  · skip
    have hbit : ln / 2 ^ (dy % 10) % 2 = 0 := by
      have e : (0 : Int32) = nI 0 := rfl
      rw [e, nI_eq (by omega) (by decide)] at c16
      exact c16
    refine e_aload_n (pc := 20) Xc (dT hX5_learn 13 rfl) 1 rfl ?_
    refine e_dup (pc := 21) Xc (dT hX5_learn 14 rfl) rfl ?_
    refine gf_X5_33 (pc := 22) Xc (dT hX5_learn 15 rfl) hP.o rfl ?_
    refine e_val (y := nI ln) hF7 ?_
    refine e_iconst (v := 1) (pc := 25) Xc (dT hX5_learn 16 rfl) rfl ?_
    refine e_iload_n (pc := 26) Xc (dT hX5_learn 17 rfl) 0 rfl ?_
    refine e_ishl (pc := 27) Xc (dT hX5_learn 18 rfl) ?_
    refine e_val (y := nI (2 ^ (dy % 10))) (sh1 (by omega)) ?_
    refine e_ior (pc := 28) Xc (dT hX5_learn 19 rfl) ?_
    refine e_val (y := nI (ln ||| 2 ^ (dy % 10))) (nI_or _ _) ?_
    refine pf_X5_33 (fs' := olX5 w (upd F 7 (nI (ln ||| 2 ^ (dy % 10)))) T) (pc := 29) Xc (dT hX5_learn 20 rfl) hP.o (Nat.le_of_ble_eq_true rfl) rfl ?_
    refine Ev.gen (fun z => PX5 z w (upd F 7 (nI (ln ||| 2 ^ (dy % 10)))) T A) (hP.wf7 (x := nI (ln ||| 2 ^ (dy % 10)))) Off.set (fun σ1 hP2 ho3 => ?_)
    refine e_aload_n (pc := 32) Xc (dT hX5_learn 21 rfl) 1 rfl ?_
    refine gf_X5_30 (pc := 33) Xc (dT hX5_learn 22 rfl) hP2.o rfl ?_
    refine e_iconst (v := 5) (pc := 36) Xc (dT hX5_learn 23 rfl) rfl ?_
    refine e_iload_n (pc := 37) Xc (dT hX5_learn 24 rfl) 0 rfl ?_
    refine cl_X5_60 (pc := 38) (k := 0) (n := 0) (S := []) Xc (c_put hP2.a7 (by decide) 5 (by omega) (nI (dy % 10))) (dT hX5_learn 25 rfl) rfl (Nat.le_of_ble_eq_true rfl) (Nat.le_of_ble_eq_true rfl) (Nat.le_of_ble_eq_true rfl) rfl (Nat.le_of_ble_eq_true rfl) (fun σ5 hq6 => ?_)
    subst hq6
    refine Ev.gen (fun z => PX5 z w (upd F 7 (nI (ln ||| 2 ^ (dy % 10)))) T (upA A 7 (upd (A 7) 5 (nI (dy % 10))))) (hP2.wa7 (g := (upd (A 7) 5 (nI (dy % 10))))) Off.set (fun σ7 hP8 ho9 => ?_)
    refine e_iconst (v := 0) (pc := 41) Xc (dT hX5_learn 26 rfl) rfl ?_
    refine e_istore_n (L' := [(2, .int 0), (1, .int (nI (dy % 10))), (0, .ref w)]) (pc := 42) Xc (dT hX5_learn 27 rfl) (by decide) rfl ?_
    have lp43 : ∀ (n43 : Nat) (r : Nat) (A1 : Nat → Nat → Int32) (σ2 : xS), nr - r < n43 → (r ≤ nr) → (∀ i, i ≠ 6 → i ≠ 7 → A1 i = A i) → (A1 7 5 = nI (dy % 10)) → (∀ e, e < 10 → e ≠ dy % 10 → ∀ q, q < 4 → ∀ b, b < 7 → A1 6 ((e * 4 + q) * 7 + b) = A 6 ((e * 4 + q) * 7 + b)) → (∀ q, q < r → ∀ b, b < nb → A1 6 ((dy % 10 * 4 + q) * 7 + b) = plT t (subD X q b (dy % 10))) → (PX5 σ2 w (upd F 7 (nI (ln ||| 2 ^ (dy % 10)))) T A1) → (Off w σ σ2) → Ev G μ 4 0 0 43 [(0, .ref w), (1, .int (nI (dy % 10))), (2, .int (nI r))] [] σ2 := by
      intro n43
      induction n43 with
      | zero => intro r A1 σ2 hn; exact absurd hn (Nat.not_lt_zero _)
      | succ n43 ih43 =>
        intro r A1 σ2 hn43 hr hA hs5 hp0 hp1 hp ho
        refine e_iload_n (pc := 43) Xc (dT hX5_learn 28 rfl) 2 rfl ?_
        refine e_aload_n (pc := 44) Xc (dT hX5_learn 29 rfl) 0 rfl ?_
        refine gf_X5_40 (pc := 45) Xc (dT hX5_learn 30 rfl) hp.o rfl ?_
        refine e_val (y := F 9) rfl ?_
        refine e_val (y := nI nr) hW.2.2.2.2.2.2.1 ?_
        refine e_icmp_geN (x := r) (y := nr) (tgt := 170) (pc := 48) Xc (dT hX5_learn 31 rfl) rfl (by omega) (by omega) (fun c48 => ?_) (fun c48 => ?_)
        · skip
          refine e_vret (pc := 170) Xc hQ (dT hX5_learn 95 rfl) (Nat.le_refl _) (Nat.le_refl _) ?_
          have hre : r = nr := by omega
          subst hre
          obtain ⟨k1, k2, k3, k4, k5, k6, k7, k8, k9, k10, k11, k12⟩ := hW
          refine ⟨⟨ln ||| 2 ^ (dy % 10), ⟨_, T, A1, ⟨hp, ?_, hTw.off ho (Ne.symm hne), hne, hG, hT⟩, htw⟩, hdy, hd0, tb_or.mpr (Or.inr rfl), tb_or.mpr (Or.inl hk0)⟩, ho⟩
          refine ⟨fun b hb => ?_, fun q hq => ?_, fun q hq => ?_, fun q hq => ?_, fun q hq => ?_, k6, k7, k8, k9, Nat.le_of_lt (lt_or hlt (by omega)), Or.inl rfl, fun e he hl q hq c hc => ?_⟩
          · rw [hA 1 (by decide) (by decide)]; exact k1 b hb
          · rw [hA 2 (by decide) (by decide)]; exact k2 q hq
          · rw [hA 3 (by decide) (by decide)]; exact k3 q hq
          · rw [hA 4 (by decide) (by decide)]; exact k4 q hq
          · rw [hA 5 (by decide) (by decide)]; exact k5 q hq
          · by_cases hed : e = dy % 10
            · subst hed; exact hp1 q hq c hc
            · rw [hp0 e he hed q (by omega) c (by omega)]
              rcases tb_or.mp hl with z | z
              · exact k12 e he z q hq c hc
              · exact absurd z.symm hed
        · skip
          refine e_aload_n (pc := 51) Xc (dT hX5_learn 32 rfl) 0 rfl ?_
          refine gf_X5_30 (pc := 52) Xc (dT hX5_learn 33 rfl) hp.o rfl ?_
          refine e_iconst (v := 0) (pc := 55) Xc (dT hX5_learn 34 rfl) rfl ?_
          refine e_iload_n (pc := 56) Xc (dT hX5_learn 35 rfl) 2 rfl ?_
          refine cl_X5_60 (pc := 57) (k := 0) (n := 0) (S := []) Xc (c_put hp.a7 (by decide) 0 (by omega) (nI r)) (dT hX5_learn 36 rfl) rfl (Nat.le_of_ble_eq_true rfl) (Nat.le_of_ble_eq_true rfl) (Nat.le_of_ble_eq_true rfl) rfl (Nat.le_of_ble_eq_true rfl) (fun σ11 hq12 => ?_)
          subst hq12
          refine Ev.gen (fun z => PX5 z w (upd F 7 (nI (ln ||| 2 ^ (dy % 10)))) T (upA A1 7 (upd (A1 7) 0 (nI r)))) (hp.wa7 (g := (upd (A1 7) 0 (nI r)))) Off.set (fun σ13 hP14 ho15 => ?_)
          refine e_aload_n (pc := 60) Xc (dT hX5_learn 37 rfl) 0 rfl ?_
          refine gf_X5_30 (pc := 61) Xc (dT hX5_learn 38 rfl) hP14.o rfl ?_
          refine e_iconst (v := 1) (pc := 64) Xc (dT hX5_learn 39 rfl) rfl ?_
          refine e_aload_n (pc := 65) Xc (dT hX5_learn 40 rfl) 0 rfl ?_
          refine gf_X5_15 (pc := 66) Xc (dT hX5_learn 41 rfl) hP14.o rfl ?_
          refine e_iload_n (pc := 69) Xc (dT hX5_learn 42 rfl) 2 rfl ?_
          refine cl_X5_68 (pc := 70) (k := 0) (n := 0) (S := [.int 1, .ref (w + 7)]) Xc (c_get hP14.a2 (by decide) (by decide) r (by omega)) (dT hX5_learn 43 rfl) rfl (Nat.le_of_ble_eq_true rfl) (Nat.le_of_ble_eq_true rfl) (Nat.le_of_ble_eq_true rfl) rfl (Nat.le_of_ble_eq_true rfl) (fun r16 σ17 hq18 => ?_)
          obtain ⟨r16e, r16s⟩ := hq18
          have r16e := r16e.symm; subst r16e; have r16s := r16s.symm; subst r16s
          refine e_val (y := A1 2 r) rfl ?_
          refine e_val (y := X (20 + r)) (by rw [hA 2 (by decide) (by decide)]; exact hW.2.1 r (by omega)) ?_
          refine cl_X5_60 (pc := 73) (k := 0) (n := 0) (S := []) Xc (c_put hP14.a7 (by decide) 1 (by omega) (X (20 + r))) (dT hX5_learn 44 rfl) rfl (Nat.le_of_ble_eq_true rfl) (Nat.le_of_ble_eq_true rfl) (Nat.le_of_ble_eq_true rfl) rfl (Nat.le_of_ble_eq_true rfl) (fun σ20 hq21 => ?_)
          subst hq21
          refine Ev.gen (fun z => PX5 z w (upd F 7 (nI (ln ||| 2 ^ (dy % 10)))) T (upA (upA A1 7 (upd (A1 7) 0 (nI r))) 7 (upd (upd (A1 7) 0 (nI r)) 1 (X (20 + r))))) (hP14.wa7 (g := (upd (upd (A1 7) 0 (nI r)) 1 (X (20 + r))))) Off.set (fun σ22 hP23 ho24 => ?_)
          have hP23 : PX5 σ22 w (upd F 7 (nI (ln ||| 2 ^ (dy % 10)))) T (upA A1 7 (upd (upd (A1 7) 0 (nI r)) 1 (X (20 + r)))) := by rw [upA_2] at hP23; exact hP23
          refine e_aload_n (pc := 76) Xc (dT hX5_learn 45 rfl) 0 rfl ?_
          refine gf_X5_30 (pc := 77) Xc (dT hX5_learn 46 rfl) hP23.o rfl ?_
          refine e_iconst (v := 2) (pc := 80) Xc (dT hX5_learn 47 rfl) rfl ?_
          refine e_aload_n (pc := 81) Xc (dT hX5_learn 48 rfl) 0 rfl ?_
          refine gf_X5_18 (pc := 82) Xc (dT hX5_learn 49 rfl) hP23.o rfl ?_
          refine e_iload_n (pc := 85) Xc (dT hX5_learn 50 rfl) 2 rfl ?_
          refine cl_X5_68 (pc := 86) (k := 0) (n := 0) (S := [.int 2, .ref (w + 7)]) Xc (c_get hP23.a3 (by decide) (by decide) r (by omega)) (dT hX5_learn 51 rfl) rfl (Nat.le_of_ble_eq_true rfl) (Nat.le_of_ble_eq_true rfl) (Nat.le_of_ble_eq_true rfl) rfl (Nat.le_of_ble_eq_true rfl) (fun r25 σ26 hq27 => ?_)
          obtain ⟨r25e, r25s⟩ := hq27
          have r25e := r25e.symm; subst r25e; have r25s := r25s.symm; subst r25s
          refine e_val (y := A1 3 r) rfl ?_
          refine e_val (y := X (24 + r)) (by rw [hA 3 (by decide) (by decide)]; exact hW.2.2.1 r (by omega)) ?_
          refine cl_X5_60 (pc := 89) (k := 0) (n := 0) (S := []) Xc (c_put hP23.a7 (by decide) 2 (by omega) (X (24 + r))) (dT hX5_learn 52 rfl) rfl (Nat.le_of_ble_eq_true rfl) (Nat.le_of_ble_eq_true rfl) (Nat.le_of_ble_eq_true rfl) rfl (Nat.le_of_ble_eq_true rfl) (fun σ29 hq30 => ?_)
          subst hq30
          refine Ev.gen (fun z => PX5 z w (upd F 7 (nI (ln ||| 2 ^ (dy % 10)))) T (upA (upA A1 7 (upd (upd (A1 7) 0 (nI r)) 1 (X (20 + r)))) 7 (upd (upd (upd (A1 7) 0 (nI r)) 1 (X (20 + r))) 2 (X (24 + r))))) (hP23.wa7 (g := (upd (upd (upd (A1 7) 0 (nI r)) 1 (X (20 + r))) 2 (X (24 + r))))) Off.set (fun σ31 hP32 ho33 => ?_)
          have hP32 : PX5 σ31 w (upd F 7 (nI (ln ||| 2 ^ (dy % 10)))) T (upA A1 7 (upd (upd (upd (A1 7) 0 (nI r)) 1 (X (20 + r))) 2 (X (24 + r)))) := by rw [upA_2] at hP32; exact hP32
          refine e_iconst (v := 0) (pc := 92) Xc (dT hX5_learn 53 rfl) rfl ?_
          refine e_istore_n (L' := [(3, .int 0), (0, .ref w), (1, .int (nI (dy % 10))), (2, .int (nI r))]) (pc := 93) Xc (dT hX5_learn 54 rfl) (by decide) rfl ?_
          have lp94 : ∀ (n94 : Nat) (b : Nat) (A2 : Nat → Nat → Int32) (σ3 : xS), nb - b < n94 → (b ≤ nb) → (∀ i, i ≠ 6 → i ≠ 7 → A2 i = A i) → (A2 7 0 = nI r ∧ A2 7 1 = X (20 + r) ∧ A2 7 2 = X (24 + r) ∧ A2 7 5 = nI (dy % 10)) → (∀ e, e < 10 → e ≠ dy % 10 → ∀ q, q < 4 → ∀ b, b < 7 → A2 6 ((e * 4 + q) * 7 + b) = A 6 ((e * 4 + q) * 7 + b)) → (∀ q, q < r → ∀ b, b < nb → A2 6 ((dy % 10 * 4 + q) * 7 + b) = plT t (subD X q b (dy % 10))) → (∀ c, c < b → A2 6 ((dy % 10 * 4 + r) * 7 + c) = plT t (subD X r c (dy % 10))) → (PX5 σ3 w (upd F 7 (nI (ln ||| 2 ^ (dy % 10)))) T A2) → (Off w σ σ3) → Ev G μ 4 0 0 94 [(0, .ref w), (1, .int (nI (dy % 10))), (2, .int (nI r)), (3, .int (nI b))] [] σ3 := by
            intro n94
            induction n94 with
            | zero => intro b A2 σ3 hn; exact absurd hn (Nat.not_lt_zero _)
            | succ n94 ih94 =>
              intro b A2 σ3 hn94 hb hA2 hu hp0 hp1 hp2 hp ho
              refine e_iload_n (pc := 94) Xc (dT hX5_learn 55 rfl) 3 rfl ?_
              refine e_aload_n (pc := 95) Xc (dT hX5_learn 56 rfl) 0 rfl ?_
              refine gf_X5_37 (pc := 96) Xc (dT hX5_learn 57 rfl) hp.o rfl ?_
              refine e_val (y := F 8) rfl ?_
              refine e_val (y := nI nb) hW.2.2.2.2.2.1 ?_
              refine e_icmp_geN (x := b) (y := nb) (tgt := 164) (pc := 99) Xc (dT hX5_learn 58 rfl) rfl (by omega) (by omega) (fun c99 => ?_) (fun c99 => ?_)
              · skip
                refine e_iincN (a := r) (b := 1) (L' := [(2, .int (nI (r + 1))), (0, .ref w), (1, .int (nI (dy % 10))), (3, .int (nI b))]) (pc := 164) Xc (dT hX5_learn 93 rfl) 2 rfl rfl (by decide) rfl ?_
                refine e_goto (tgt := 43) (pc := 167) Xc (dT hX5_learn 94 rfl) rfl ?_
                refine Ev.pick (L' := [(0, .ref w), (1, .int (nI (dy % 10))), (2, .int (nI (r + 1)))]) [1, 2, 0] rfl ?_
                exact ih43 (r + 1) A2 σ3 (by omega) (by omega) hA2 hu.2.2.2 hp0 (fun q hq c hc => by by_cases e : q = r; (· subst e; exact hp2 c (by omega)); (· exact hp1 q (by omega) c hc)) hp ho
              · skip
                refine e_aload_n (pc := 102) Xc (dT hX5_learn 59 rfl) 0 rfl ?_
                refine gf_X5_30 (pc := 103) Xc (dT hX5_learn 60 rfl) hp.o rfl ?_
                refine e_iconst (v := 3) (pc := 106) Xc (dT hX5_learn 61 rfl) rfl ?_
                refine e_iload_n (pc := 107) Xc (dT hX5_learn 62 rfl) 3 rfl ?_
                refine cl_X5_60 (pc := 108) (k := 0) (n := 0) (S := []) Xc (c_put hp.a7 (by decide) 3 (by omega) (nI b)) (dT hX5_learn 63 rfl) rfl (Nat.le_of_ble_eq_true rfl) (Nat.le_of_ble_eq_true rfl) (Nat.le_of_ble_eq_true rfl) rfl (Nat.le_of_ble_eq_true rfl) (fun σ35 hq36 => ?_)
                subst hq36
                refine Ev.gen (fun z => PX5 z w (upd F 7 (nI (ln ||| 2 ^ (dy % 10)))) T (upA A2 7 (upd (A2 7) 3 (nI b)))) (hp.wa7 (g := (upd (A2 7) 3 (nI b)))) Off.set (fun σ37 hP38 ho39 => ?_)
                refine e_aload_n (pc := 111) Xc (dT hX5_learn 64 rfl) 0 rfl ?_
                refine gf_X5_30 (pc := 112) Xc (dT hX5_learn 65 rfl) hP38.o rfl ?_
                refine e_iconst (v := 4) (pc := 115) Xc (dT hX5_learn 66 rfl) rfl ?_
                refine e_aload_n (pc := 116) Xc (dT hX5_learn 67 rfl) 0 rfl ?_
                refine gf_X5_9 (pc := 117) Xc (dT hX5_learn 68 rfl) hP38.o rfl ?_
                refine e_iload_n (pc := 120) Xc (dT hX5_learn 69 rfl) 3 rfl ?_
                refine cl_X5_68 (pc := 121) (k := 0) (n := 0) (S := [.int 4, .ref (w + 7)]) Xc (c_get hP38.a1 (by decide) (by decide) b (by omega)) (dT hX5_learn 70 rfl) rfl (Nat.le_of_ble_eq_true rfl) (Nat.le_of_ble_eq_true rfl) (Nat.le_of_ble_eq_true rfl) rfl (Nat.le_of_ble_eq_true rfl) (fun r40 σ41 hq42 => ?_)
                obtain ⟨r40e, r40s⟩ := hq42
                have r40e := r40e.symm; subst r40e; have r40s := r40s.symm; subst r40s
                refine e_val (y := A2 1 b) rfl ?_
                refine e_val (y := X (5 + b)) (by rw [hA2 1 (by decide) (by decide)]; exact hW.1 b (by omega)) ?_
                refine e_bipush (v := 10) (pc := 124) Xc (dT hX5_learn 71 rfl) rfl ?_
                refine e_idiv (pc := 126) Xc (dT hX5_learn 72 rfl) (by decide) ?_
                refine cl_X5_60 (pc := 127) (k := 0) (n := 0) (S := []) Xc (c_put hP38.a7 (by decide) 4 (by omega) ((X (5 + b)) / 10)) (dT hX5_learn 73 rfl) rfl (Nat.le_of_ble_eq_true rfl) (Nat.le_of_ble_eq_true rfl) (Nat.le_of_ble_eq_true rfl) rfl (Nat.le_of_ble_eq_true rfl) (fun σ44 hq45 => ?_)
                subst hq45
                refine Ev.gen (fun z => PX5 z w (upd F 7 (nI (ln ||| 2 ^ (dy % 10)))) T (upA (upA A2 7 (upd (A2 7) 3 (nI b))) 7 (upd (upd (A2 7) 3 (nI b)) 4 ((X (5 + b)) / 10)))) (hP38.wa7 (g := (upd (upd (A2 7) 3 (nI b)) 4 ((X (5 + b)) / 10)))) Off.set (fun σ46 hP47 ho48 => ?_)
                have hP47 : PX5 σ46 w (upd F 7 (nI (ln ||| 2 ^ (dy % 10)))) T (upA A2 7 (upd (upd (A2 7) 3 (nI b)) 4 ((X (5 + b)) / 10))) := by rw [upA_2] at hP47; exact hP47
                refine e_aload_n (pc := 130) Xc (dT hX5_learn 74 rfl) 0 rfl ?_
                refine gf_X5_27 (pc := 131) Xc (dT hX5_learn 75 rfl) hP47.o rfl ?_
                refine e_iload_n (pc := 134) Xc (dT hX5_learn 76 rfl) 1 rfl ?_
                refine e_iconst (v := 4) (pc := 135) Xc (dT hX5_learn 77 rfl) rfl ?_
                refine e_imulN (a := dy % 10) (b := 4) (pc := 136) Xc (dT hX5_learn 78 rfl) ?_
                refine e_iload_n (pc := 137) Xc (dT hX5_learn 79 rfl) 2 rfl ?_
                refine e_iaddN (a := (dy % 10) * 4) (b := r) (pc := 138) Xc (dT hX5_learn 80 rfl) ?_
                refine e_bipush (v := 7) (pc := 139) Xc (dT hX5_learn 81 rfl) rfl ?_
                refine e_imulN (a := ((dy % 10) * 4) + r) (b := 7) (pc := 141) Xc (dT hX5_learn 82 rfl) ?_
                refine e_iload_n (pc := 142) Xc (dT hX5_learn 83 rfl) 3 rfl ?_
                refine e_iaddN (a := (((dy % 10) * 4) + r) * 7) (b := b) (pc := 143) Xc (dT hX5_learn 84 rfl) ?_
                refine e_aload_n (pc := 144) Xc (dT hX5_learn 85 rfl) 0 rfl ?_
                refine gf_X5_52 (pc := 145) Xc (dT hX5_learn 86 rfl) hP47.o rfl ?_
                refine e_aload_n (pc := 148) Xc (dT hX5_learn 87 rfl) 0 rfl ?_
                refine gf_X5_30 (pc := 149) Xc (dT hX5_learn 88 rfl) hP47.o rfl ?_
                have hTq := hTw.off ((ho.tr ho39).tr ho48) (Ne.symm hne)
                obtain ⟨Ft, Tt, At, hTPx0, hTc0⟩ := id hTq
                have hTPx := hTPx0.o
                refine cl_X5_79 (pc := 152) (k := 0) (n := 0) (S := [.int (nI (((((dy % 10) * 4) + r) * 7) + b)), .ref (w + 6)]) Xc hTPx (c_plainOf (hTw.off ((ho.tr ho39).tr ho48) (Ne.symm hne)) hP47.a7) (dT hX5_learn 89 rfl) rfl (Nat.le_of_ble_eq_true rfl) (Nat.le_of_ble_eq_true rfl) (Nat.le_of_ble_eq_true rfl) rfl (Nat.le_of_ble_eq_true rfl) (fun r49 σ50 hq51 => ?_)
                obtain ⟨r49e, r49s⟩ := hq51
                have r49s := r49s.symm; subst r49s
                have r49p : plT t (upd (upd (A2 7) 3 (nI b)) 4 ((X (5 + b)) / 10)) = plT t (subD X r b (dy % 10)) := plT_congr hTw.ok (fun i hi => by
                  match i, hi with
                  | 0, _ => exact hu.1
                  | 1, _ => exact hu.2.1
                  | 2, _ => exact hu.2.2.1
                  | 3, _ => rfl
                  | 4, _ => rfl
                  | 5, _ => exact hu.2.2.2
                  | i + 6, hi => omega)
                have r49e : plT t (subD X r b (dy % 10)) = r49 := by rw [r49e]; exact r49p.symm
                subst r49e
                refine cl_X5_60 (pc := 155) (k := 0) (n := 0) (S := []) Xc (c_put hP47.a6 (by decide) (((((dy % 10) * 4) + r) * 7) + b) (by omega) (plT t (subD X r b (dy % 10)))) (dT hX5_learn 90 rfl) rfl (Nat.le_of_ble_eq_true rfl) (Nat.le_of_ble_eq_true rfl) (Nat.le_of_ble_eq_true rfl) rfl (Nat.le_of_ble_eq_true rfl) (fun σ53 hq54 => ?_)
                subst hq54
                refine Ev.gen (fun z => PX5 z w (upd F 7 (nI (ln ||| 2 ^ (dy % 10)))) T (upA (upA A2 7 (upd (upd (A2 7) 3 (nI b)) 4 ((X (5 + b)) / 10))) 6 (upd (A2 6) (((((dy % 10) * 4) + r) * 7) + b) (plT t (subD X r b (dy % 10)))))) (hP47.wa6 (g := (upd (A2 6) (((((dy % 10) * 4) + r) * 7) + b) (plT t (subD X r b (dy % 10)))))) Off.set (fun σ55 hP56 ho57 => ?_)
                refine e_iincN (a := b) (b := 1) (L' := [(3, .int (nI (b + 1))), (0, .ref w), (1, .int (nI (dy % 10))), (2, .int (nI r))]) (pc := 158) Xc (dT hX5_learn 91 rfl) 3 rfl rfl (by decide) rfl ?_
                refine e_goto (tgt := 94) (pc := 161) Xc (dT hX5_learn 92 rfl) rfl ?_
                refine Ev.pick (L' := [(0, .ref w), (1, .int (nI (dy % 10))), (2, .int (nI r)), (3, .int (nI (b + 1)))]) [1, 2, 3, 0] rfl ?_
                exact ih94 (b + 1) (upA (upA A2 7 (upd (upd (A2 7) 3 (nI b)) 4 ((X (5 + b)) / 10))) 6 (upd (A2 6) (((((dy % 10) * 4) + r) * 7) + b) (plT t (subD X r b (dy % 10))))) σ55 (by omega) (by omega) (fun i h6 h7 => (upA_n h6).trans ((upA_n h7).trans (hA2 i h6 h7))) (⟨hu.1, hu.2.1, hu.2.2.1, hu.2.2.2⟩) (fun e he hne q hq c hc => (upd_n (by have := hne; omega)).trans (hp0 e he hne q hq c hc)) (fun q hq c hc => (upd_n (by omega)).trans (hp1 q hq c hc)) (fun c hc => by by_cases e : c = b; (· subst e; exact upd_s); (· exact (upd_n (by omega)).trans (hp2 c (by omega)))) hP56 (((ho.tr ho39).tr ho48).tr ho57)
          refine Ev.pick (L' := [(0, .ref w), (1, .int (nI (dy % 10))), (2, .int (nI r)), (3, .int 0)]) [1, 2, 3, 0] rfl ?_
          exact lp94 ((nb - 0) + 1) 0 (upA A1 7 (upd (upd (upd (A1 7) 0 (nI r)) 1 (X (20 + r))) 2 (X (24 + r)))) σ31 (Nat.lt_succ_self _) (Nat.zero_le _) (fun i h6 h7 => (upA_n h7).trans (hA i h6 h7)) (⟨rfl, rfl, rfl, hs5⟩) (fun e he hne q hq b hb => hp0 e he hne q hq b hb) (fun q hq b hb => hp1 q hq b hb) (fun c hc => absurd hc (Nat.not_lt_zero c)) hP32 (((ho.tr ho15).tr ho24).tr ho33)
    refine Ev.pick (L' := [(0, .ref w), (1, .int (nI (dy % 10))), (2, .int 0)]) [2, 1, 0] rfl ?_
    exact lp43 ((nr - 0) + 1) 0 (upA A 7 (upd (A 7) 5 (nI (dy % 10)))) σ7 (Nat.lt_succ_self _) (Nat.zero_le _) (fun i h6 h7 => upA_n h7) rfl (fun e he hne q hq b hb => rfl) (fun q hq => absurd hq (Nat.not_lt_zero q)) hP8 (ho3.tr ho9)
  · skip
    have hbit : ¬ ln / 2 ^ (dy % 10) % 2 = 0 := fun q => c16 (by rw [q]; rfl)
    refine e_vret (pc := 19) Xc hQ (dT hX5_learn 12 rfl) (Nat.le_refl _) (Nat.le_refl _) ?_
    exact ⟨⟨ln, hX, hdy, hd0, by rw [Nat.testBit_eq_decide_div_mod_eq]; simp only [decide_eq_true_eq]; omega, hk0⟩, Off.rf⟩
set_option maxRecDepth 100000 in
set_option maxHeartbeats 4000000 in
theorem c5_goDayK {G : xG} {σ : xS} {w tw : Nat} {X : Nat → Int32} {nr nb : Nat} {t : xT} {dy e0 : Nat} (hWL : WLk σ w tw X nr nb t dy e0) (hdy : dy < 20000) : CI G yX5_goDay cX5_goDay 3 (some .int) 6 0 0 [.ref w] σ (fun z σ1 => z = (goF X t nr nb).1 ∧ WLk σ1 w tw (goF X t nr nb).2 nr nb t (dy + 1) e0 ∧ Off w σ σ1) := by
  refine Met.ofX (by decide +kernel) (Nat.le_of_ble_eq_true rfl) (fun μ Xc hQ hnm => ?_)
  have Xc : xC G μ cX5_goDay 3 RX5 (some .int) 6 0 0 := Xc
  obtain ⟨ln, hX0, hdy1, hd0, hbit, hk0⟩ := id hWL
  have hlt := WX_lt hX0 (Nat.mod_lt _ (by decide)) hbit
  have hr4 : nr ≤ 4 := by obtain ⟨F, T, A, hB, -⟩ := id hX0; exact hB.2.2.2.2.1.r4
  have lp4 : ∀ (n4 : Nat) (r : Nat) (ac : Int32) (X1 : Nat → Int32) (σ2 : xS), nr - r < n4 → (r ≤ nr) → ((ac, X1) = itr (goStep t nr nb) (0, X) r) → (WX σ2 w tw X1 nr nb t ln) → (X1 0 = nI dy) → (Off w σ σ2) → Ev G μ 3 0 0 4 [(0, .ref w), (2, .int (nI r)), (1, .int ac)] [] σ2 := by
    intro n4
    induction n4 with
    | zero => intro r ac X1 σ2 hn; exact absurd hn (Nat.not_lt_zero _)
    | succ n4 ih4 =>
      intro r ac X1 σ2 hn4 hr hq hX1 hd1 ho
      obtain ⟨F1, T1, A1, hB1, htw1⟩ := id hX1
      obtain ⟨hP1, hW1, hTw1, hne1, hG1, hT1⟩ := id hB1
      refine e_iload_n (pc := 4) Xc (dT hX5_goDay 4 rfl) 1 rfl ?_
      refine e_aload_n (pc := 5) Xc (dT hX5_goDay 5 rfl) 0 rfl ?_
      refine gf_X5_40 (pc := 6) Xc (dT hX5_goDay 6 rfl) hP1.o rfl ?_
      refine e_val (y := nI nr) hW1.2.2.2.2.2.2.1 ?_
      refine e_icmp_geN (x := r) (y := nr) (tgt := 29) (pc := 9) Xc (dT hX5_goDay 7 rfl) rfl (by omega) (by omega) (fun c9 => ?_) (fun c9 => ?_)
      · skip
        refine e_aload_n (pc := 29) Xc (dT hX5_goDay 15 rfl) 0 rfl ?_
        refine e_dup (pc := 30) Xc (dT hX5_goDay 16 rfl) rfl ?_
        refine gf_X5_43 (pc := 31) Xc (dT hX5_goDay 17 rfl) hP1.o rfl ?_
        refine e_val (y := nI dy) (hW1.day.trans hd1) ?_
        refine e_iconst (v := 1) (pc := 34) Xc (dT hX5_goDay 18 rfl) rfl ?_
        refine e_iaddN (a := dy) (b := 1) (pc := 35) Xc (dT hX5_goDay 19 rfl) ?_
        refine pf_X5_43 (fs' := olX5 w (upd F1 10 (nI (dy + 1))) T1) (pc := 36) Xc (dT hX5_goDay 20 rfl) hP1.o (Nat.le_of_ble_eq_true rfl) rfl ?_
        refine Ev.gen (fun z => PX5 z w (upd F1 10 (nI (dy + 1))) T1 A1) (hP1.wf10 (x := nI (dy + 1))) Off.set (fun σ1 hP2 ho3 => ?_)
        refine e_aload_n (pc := 39) Xc (dT hX5_goDay 21 rfl) 0 rfl ?_
        refine cl_X5_76 (pc := 40) (k := 0) (n := 0) (S := []) Xc hP2.o (c5_learnK (X := upd X1 0 (nI (dy + 1))) ⟨_, T1, A1, ⟨hP2, hW1.set_day, hTw1.off ho3 (Ne.symm hne1), hne1, hG1.upd_day, hT1.upd (by decide)⟩, htw1⟩ (by omega) upd_s hlt e0 hk0) (dT hX5_goDay 22 rfl) rfl (Nat.le_of_ble_eq_true rfl) (Nat.le_of_ble_eq_true rfl) (Nat.le_of_ble_eq_true rfl) rfl (Nat.le_of_ble_eq_true rfl) (fun σ5 hq6 => ?_)
        obtain ⟨hL7, ho8⟩ := hq6
        refine e_iload_n (pc := 43) Xc (dT hX5_goDay 23 rfl) 2 rfl ?_
        refine e_iret (pc := 44) Xc hQ (dT hX5_goDay 24 rfl) (Nat.le_refl _) (Nat.le_refl _) ?_
        have hre : r = nr := by omega
        subst hre
        have hq' : goAll X t r nb = (ac, X1) := hq.symm
        refine ⟨by rw [goF, hq'], ?_, ((ho.tr ho3).tr ho8)⟩
        rw [goF, hq']
        have e : X1 0 + 1 = nI (dy + 1) := by rw [hd1, ← nI_succ]
        rw [e]
        exact hL7
      · skip
        refine e_aload_n (pc := 12) Xc (dT hX5_goDay 8 rfl) 0 rfl ?_
        refine e_iload_n (pc := 13) Xc (dT hX5_goDay 9 rfl) 1 rfl ?_
        refine cl_X5_108 (pc := 14) (k := 0) (n := 0) (S := []) Xc hP1.o (c5_comes hX1 ⟨dy, hdy1, hd1, hbit⟩ r (by omega)) (dT hX5_goDay 10 rfl) rfl (Nat.le_of_ble_eq_true rfl) (Nat.le_of_ble_eq_true rfl) (Nat.le_of_ble_eq_true rfl) rfl (Nat.le_of_ble_eq_true rfl) (fun r9 σ10 hq11 => ?_)
        obtain ⟨r9e, hX12, ho13⟩ := hq11
        have r9e := r9e.symm; subst r9e
        obtain ⟨F12, T12, A12, hB12, htw12⟩ := id hX12
        obtain ⟨hP12, hW12, hTw12, hne12, hG12, hT12⟩ := id hB12
        refine e_if_eq (tgt := 23) (pc := 17) Xc (dT hX5_goDay 11 rfl) rfl (fun c17 => ?_) (fun c17 => ?_)
        · skip
          refine e_iincN (a := r) (b := 1) (L' := [(2, .int (nI (r + 1))), (0, .ref w), (1, .int ac)]) (pc := 23) Xc (dT hX5_goDay 13 rfl) 1 rfl rfl (by decide) rfl ?_
          refine e_goto (tgt := 4) (pc := 26) Xc (dT hX5_goDay 14 rfl) rfl ?_
          refine Ev.pick (L' := [(0, .ref w), (2, .int (nI (r + 1))), (1, .int ac)]) [1, 0, 2] rfl ?_
          exact ih4 (r + 1) ac (comeF X1 t nr nb r) σ10 (by omega) (by omega) (by rw [itr, ← hq, goStep]; simp only [bI_0] at c17; simp at c17; simp [c17]) hX12 ((upd_n (by omega)).trans hd1) (ho.tr ho13)
        · skip
          refine e_iinc (v := ac + 1) (L' := [(1, .int (ac + 1)), (0, .ref w), (2, .int (nI r))]) (pc := 20) Xc (dT hX5_goDay 12 rfl) 2 rfl rfl (by decide) rfl ?_
          refine e_iincN (a := r) (b := 1) (L' := [(2, .int (nI (r + 1))), (1, .int (ac + 1)), (0, .ref w)]) (pc := 23) Xc (dT hX5_goDay 13 rfl) 2 rfl rfl (by decide) rfl ?_
          refine e_goto (tgt := 4) (pc := 26) Xc (dT hX5_goDay 14 rfl) rfl ?_
          refine Ev.pick (L' := [(0, .ref w), (2, .int (nI (r + 1))), (1, .int (ac + 1))]) [2, 0, 1] rfl ?_
          exact ih4 (r + 1) (ac + 1) (comeF X1 t nr nb r) σ10 (by omega) (by omega) (by rw [itr, ← hq, goStep]; simp only [bI_0] at c17; simp at c17; simp [c17]) hX12 ((upd_n (by omega)).trans hd1) (ho.tr ho13)
  show Ev G μ 3 0 0 0 [(0, .ref w)] [] σ
  refine e_iconst (v := 0) (pc := 0) Xc (dT hX5_goDay 0 rfl) rfl ?_
  refine e_istore_n (L' := [(1, .int 0), (0, .ref w)]) (pc := 1) Xc (dT hX5_goDay 1 rfl) (by decide) rfl ?_
  refine e_iconst (v := 0) (pc := 2) Xc (dT hX5_goDay 2 rfl) rfl ?_
  refine e_istore_n (L' := [(2, .int 0), (1, .int 0), (0, .ref w)]) (pc := 3) Xc (dT hX5_goDay 3 rfl) (by decide) rfl ?_
  refine Ev.pick (L' := [(0, .ref w), (2, .int 0), (1, .int 0)]) [2, 0, 1] rfl ?_
  exact lp4 ((nr - 0) + 1) 0 0 X σ (Nat.lt_succ_self _) (Nat.zero_le _) rfl hX0 hd0 Off.rf
set_option maxRecDepth 100000 in
set_option maxHeartbeats 4000000 in
theorem c6_fresh {G : xG} {σ : xS} {x : Nat} {Fx : Nat → Int32} {Ax : Nat → Nat → Int32} (hx : PX6 σ x Fx (t6 x) Ax) {tw nr nb : Nat} {X : Nat → Int32} {t : xT} {ln : Nat} (hXn : WX σ (x + 1) tw X nr nb t ln) (ht13 : tw ≠ x + 13) {F5 : Nat → Int32} {T5 : Nat → Nat} {A5 : Nat → Nat → Int32} (hP5 : PX5 σ (x + 13) F5 T5 A5) {dy : Nat} (hdy : dy ≤ 9999) (hd0 : X 0 = nI dy) : CV G yX6_fresh cX6_fresh 1 none 6 0 0 [.ref x] σ (fun σ1 => WL σ1 (x + 13) tw X nr nb t dy ∧ Off (x + 13) σ σ1) := by
  refine Met.ofX (by decide +kernel) (Nat.le_of_ble_eq_true rfl) (fun μ Xc hQ hnm => ?_)
  have Xc : xC G μ cX6_fresh 1 RX6 none 6 0 0 := Xc
  show Ev G μ 1 0 0 0 [(0, .ref x)] [] σ
  obtain ⟨Fw1, Tw1, Aw1, hBw1, htw1⟩ := id hXn
  have hWw1 := hBw1.2.1
  refine e_aload_n (pc := 0) Xc (dT hX6_fresh 0 rfl) 0 rfl ?_
  refine gf_X6_18 (pc := 1) Xc (dT hX6_fresh 1 rfl) hx.o rfl ?_
  refine e_aload_n (pc := 4) Xc (dT hX6_fresh 2 rfl) 0 rfl ?_
  refine gf_X6_12 (pc := 5) Xc (dT hX6_fresh 3 rfl) hx.o rfl ?_
  refine cl_X6_297 (pc := 8) (k := 0) (n := 0) (S := []) Xc hP5.o (c5_copy hP5 ⟨Fw1, Tw1, Aw1, hBw1, htw1⟩ (by omega) (Ne.symm ht13)) (dT hX6_fresh 4 rfl) rfl (Nat.le_of_ble_eq_true rfl) (Nat.le_of_ble_eq_true rfl) (Nat.le_of_ble_eq_true rfl) rfl (Nat.le_of_ble_eq_true rfl) (fun σ3 hq4 => ?_)
  obtain ⟨hT5, ho6⟩ := hq4
  have hP7 := hx.off ho6 (by omega)
  have hB8 := hBw1.off ho6 (by omega) (by rw [htw1]; omega)
  obtain ⟨Fw9, Tw9, Aw9, hBw9, htw9⟩ := id hT5
  have hWw9 := hBw9.2.1
  refine e_aload_n (pc := 11) Xc (dT hX6_fresh 5 rfl) 0 rfl ?_
  refine gf_X6_18 (pc := 12) Xc (dT hX6_fresh 6 rfl) hP7.o rfl ?_
  refine cl_X6_306 (pc := 15) (k := 0) (n := 0) (S := []) Xc hBw9.1.o (c5_learn ⟨Fw9, Tw9, Aw9, hBw9, htw9⟩ (by omega) hd0 (by decide)) (dT hX6_fresh 7 rfl) rfl (Nat.le_of_ble_eq_true rfl) (Nat.le_of_ble_eq_true rfl) (Nat.le_of_ble_eq_true rfl) rfl (Nat.le_of_ble_eq_true rfl) (fun σ11 hq12 => ?_)
  obtain ⟨hT13, ho14⟩ := hq12
  have hP15 := hP7.off ho14 (by omega)
  have hB16 := hB8.off ho14 (by omega) (by rw [htw1]; omega)
  obtain ⟨lnw17, hXw17, hdlw17, hd0w17, hbtw17⟩ := id hT13
  obtain ⟨Fw17, Tw17, Aw17, hBw17, htw17⟩ := id hXw17
  have hWw17 := hBw17.2.1
  refine e_vret (pc := 18) Xc hQ (dT hX6_fresh 8 rfl) (Nat.le_refl _) (Nat.le_refl _) ?_
  exact ⟨⟨lnw17, ⟨Fw17, Tw17, Aw17, hBw17, htw17⟩, hdlw17, hd0w17, hbtw17⟩, (ho6.tr ho14)⟩
set_option maxRecDepth 100000 in
set_option maxHeartbeats 4000000 in
theorem c6_goOn {G : xG} {σ : xS} {x : Nat} {Fx : Nat → Int32} {Ax : Nat → Nat → Int32} (hx : PX6 σ x Fx (t6 x) Ax) {tw nr nb : Nat} {X : Nat → Int32} {t : xT} {ln : Nat} (hXn : WX σ (x + 1) tw X nr nb t ln) (ht13 : tw ≠ x + 13) {F5 : Nat → Int32} {T5 : Nat → Nat} {A5 : Nat → Nat → Int32} (hP5 : PX5 σ (x + 13) F5 T5 A5) {dy : Nat} (hdy : dy ≤ 9999) (hd0 : X 0 = nI dy) (n : Nat) (hn : n ≤ 40) : CI G yX6_goOn cX6_goOn 4 (some .int) 7 0 0 [.ref x, .int (nI n)] σ (fun z σ1 => z = (daysF X t nr nb n).1 ∧ WL σ1 (x + 13) tw (daysF X t nr nb n).2 nr nb t (dy + n) ∧ Off (x + 13) σ σ1) := by
  refine Met.ofX (by decide +kernel) (Nat.le_of_ble_eq_true rfl) (fun μ Xc hQ hnm => ?_)
  have Xc : xC G μ cX6_goOn 4 RX6 (some .int) 7 0 0 := Xc
  show Ev G μ 4 0 0 0 [(0, .ref x), (1, .int (nI n))] [] σ
  obtain ⟨Fw1, Tw1, Aw1, hBw1, htw1⟩ := id hXn
  have hWw1 := hBw1.2.1
  refine e_aload_n (pc := 0) Xc (dT hX6_goOn 0 rfl) 0 rfl ?_
  refine cl_X6_116 (pc := 1) (k := 0) (n := 0) (S := []) Xc hx.o (c6_fresh hx ⟨Fw1, Tw1, Aw1, hBw1, htw1⟩ ht13 hP5 hdy hd0) (dT hX6_goOn 1 rfl) rfl (Nat.le_of_ble_eq_true rfl) (Nat.le_of_ble_eq_true rfl) (Nat.le_of_ble_eq_true rfl) rfl (Nat.le_of_ble_eq_true rfl) (fun σ3 hq4 => ?_)
  obtain ⟨hT5, ho6⟩ := hq4
  have hP7 := hx.off ho6 (by omega)
  have hB8 := hBw1.off ho6 (by omega) (by rw [htw1]; omega)
  obtain ⟨lnw9, hXw9, hdlw9, hd0w9, hbtw9⟩ := id hT5
  obtain ⟨Fw9, Tw9, Aw9, hBw9, htw9⟩ := id hXw9
  have hWw9 := hBw9.2.1
  refine e_iconst (v := 0) (pc := 4) Xc (dT hX6_goOn 2 rfl) rfl ?_
  refine e_istore_n (L' := [(2, .int 0), (0, .ref x), (1, .int (nI n))]) (pc := 5) Xc (dT hX6_goOn 3 rfl) (by decide) rfl ?_
  refine e_iconst (v := 0) (pc := 6) Xc (dT hX6_goOn 4 rfl) rfl ?_
  refine e_istore_n (L' := [(3, .int 0), (2, .int 0), (0, .ref x), (1, .int (nI n))]) (pc := 7) Xc (dT hX6_goOn 5 rfl) (by decide) rfl ?_
  have lp8 : ∀ (n8 : Nat) (k_ : Nat) (σ2 : xS), n - k_ < n8 → (k_ ≤ n) → (WL σ2 (x + 13) tw (daysF X t nr nb k_).2 nr nb t (dy + k_)) → (Off (x + 13) σ3 σ2) → Ev G μ 4 0 0 8 [(0, .ref x), (1, .int (nI n)), (2, .int ((daysF X t nr nb k_).1)), (3, .int (nI k_))] [] σ2 := by
    intro n8
    induction n8 with
    | zero => intro k_ σ2 hn; exact absurd hn (Nat.not_lt_zero _)
    | succ n8 ih8 =>
      intro k_ σ2 hn8 hk_ hT2 hO2
      have hP10 := hP7.off hO2 (by omega)
      have hB11 := hB8.off hO2 (by omega) (by rw [htw1]; omega)
      obtain ⟨lnw12, hXw12, hdlw12, hd0w12, hbtw12⟩ := id hT2
      obtain ⟨Fw12, Tw12, Aw12, hBw12, htw12⟩ := id hXw12
      have hWw12 := hBw12.2.1
      refine e_iload_n (pc := 8) Xc (dT hX6_goOn 6 rfl) 3 rfl ?_
      refine e_iload_n (pc := 9) Xc (dT hX6_goOn 7 rfl) 1 rfl ?_
      refine e_icmp_geN (x := k_) (y := n) (tgt := 29) (pc := 10) Xc (dT hX6_goOn 8 rfl) rfl (by omega) (by omega) (fun c10 => ?_) (fun c10 => ?_)
      · skip
        refine e_iload_n (pc := 29) Xc (dT hX6_goOn 17 rfl) 2 rfl ?_
        refine e_iret (pc := 30) Xc hQ (dT hX6_goOn 18 rfl) (Nat.le_refl _) (Nat.le_refl _) ?_
        have hke_ : k_ = n := by omega
        subst hke_
        exact ⟨rfl, ⟨lnw12, ⟨Fw12, Tw12, Aw12, hBw12, htw12⟩, hdlw12, hd0w12, hbtw12⟩, (ho6.tr hO2)⟩
      · skip
        refine e_iload_n (pc := 13) Xc (dT hX6_goOn 9 rfl) 2 rfl ?_
        refine e_aload_n (pc := 14) Xc (dT hX6_goOn 10 rfl) 0 rfl ?_
        refine gf_X6_18 (pc := 15) Xc (dT hX6_goOn 11 rfl) hP10.o rfl ?_
        refine cl_X6_168 (pc := 18) (k := 0) (n := 0) (S := [.int ((daysF X t nr nb k_).1)]) Xc hBw12.1.o (c5_goDay ⟨lnw12, ⟨Fw12, Tw12, Aw12, hBw12, htw12⟩, hdlw12, hd0w12, hbtw12⟩ (by omega)) (dT hX6_goOn 12 rfl) rfl (Nat.le_of_ble_eq_true rfl) (Nat.le_of_ble_eq_true rfl) (Nat.le_of_ble_eq_true rfl) rfl (Nat.le_of_ble_eq_true rfl) (fun r13 σ14 hq15 => ?_)
        obtain ⟨r13e, hT16, ho17⟩ := hq15
        have r13e := r13e.symm; subst r13e
        have hP18 := hP10.off ho17 (by omega)
        have hB19 := hB11.off ho17 (by omega) (by rw [htw1]; omega)
        obtain ⟨lnw20, hXw20, hdlw20, hd0w20, hbtw20⟩ := id hT16
        obtain ⟨Fw20, Tw20, Aw20, hBw20, htw20⟩ := id hXw20
        have hWw20 := hBw20.2.1
        refine e_iadd (pc := 21) Xc (dT hX6_goOn 13 rfl) ?_
        refine e_istore_n (L' := [(2, .int (((daysF X t nr nb k_).1) + ((goF (daysF X t nr nb k_).2 t nr nb).1))), (0, .ref x), (1, .int (nI n)), (3, .int (nI k_))]) (pc := 22) Xc (dT hX6_goOn 14 rfl) (by decide) rfl ?_
        refine e_iincN (a := k_) (b := 1) (L' := [(3, .int (nI (k_ + 1))), (2, .int (((daysF X t nr nb k_).1) + ((goF (daysF X t nr nb k_).2 t nr nb).1))), (0, .ref x), (1, .int (nI n))]) (pc := 23) Xc (dT hX6_goOn 15 rfl) 3 rfl rfl (by decide) rfl ?_
        refine e_goto (tgt := 8) (pc := 26) Xc (dT hX6_goOn 16 rfl) rfl ?_
        refine Ev.pick (L' := [(0, .ref x), (1, .int (nI n)), (2, .int (((daysF X t nr nb k_).1) + ((goF (daysF X t nr nb k_).2 t nr nb).1))), (3, .int (nI (k_ + 1)))]) [2, 3, 1, 0] rfl ?_
        exact ih8 (k_ + 1) σ14 (by omega) (by omega) (⟨lnw20, ⟨Fw20, Tw20, Aw20, hBw20, htw20⟩, hdlw20, hd0w20, hbtw20⟩) (hO2.tr ho17)
  refine Ev.pick (L' := [(0, .ref x), (1, .int (nI n)), (2, .int 0), (3, .int 0)]) [2, 3, 1, 0] rfl ?_
  exact lp8 ((n - 0) + 1) 0 σ3 (Nat.lt_succ_self _) (Nat.zero_le _) (⟨lnw9, ⟨Fw9, Tw9, Aw9, hBw9, htw9⟩, hdlw9, hd0w9, hbtw9⟩) Off.rf
