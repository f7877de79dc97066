set_option maxRecDepth 100000 in
set_option maxHeartbeats 4000000 in
theorem c_isAsSeen {G : xG} {σ : xS} {m : Nat} {F : Nat → Int32} {T : Nat → Nat} {A : Nat → Nat → Int32} (hP : PX7 σ m F T A) {nr nb : Nat} (hG : Gd (A 1) nr nb) {ns : Nat} (hS : Gs (A 1) nb ns) (d : Nat) (hd : d ≤ 40) : CI G yX7_isAsSeen cX7_isAsSeen 4 (some .boolean) 2 0 0 [.ref m, .int (nI d)] σ (fun z σ1 => z = bI (seenF (A 1) nr ns (nI d)) ∧ σ1 = σ) := by
  refine Met.ofX (by decide +kernel) (Nat.le_of_ble_eq_true rfl) (fun μ Xc hQ hnm => ?_)
  have Xc : xC G μ cX7_isAsSeen 4 RX7 (some .boolean) 2 0 0 := Xc
  have lp4 : ∀ (n4 : Nat) (k : Nat) (w : Bool), ns - k < n4 → (k ≤ ns) → (w = allTo (seen1 (A 1) nr (nI d)) k) → Ev G μ 4 0 0 4 [(0, .ref m), (1, .int (nI d)), (2, .int (bI w)), (3, .int (nI k))] [] σ := by
    intro n4
    induction n4 with
    | zero => intro k w hn; exact absurd hn (Nat.not_lt_zero _)
    | succ n4 ih4 =>
      intro k w hn4 hk hq
      refine e_iload_n (pc := 4) Xc (dT hX7_isAsSeen 4 rfl) 3 rfl ?_
      refine e_aload_n (pc := 5) Xc (dT hX7_isAsSeen 5 rfl) 0 rfl ?_
      refine gf_X7_9 (pc := 6) Xc (dT hX7_isAsSeen 6 rfl) hP.o rfl ?_
      refine e_bipush (v := 15) (pc := 9) Xc (dT hX7_isAsSeen 7 rfl) rfl ?_
      refine e_ialdN (pc := 11) Xc (dT hX7_isAsSeen 8 rfl) hP.a1 (by decide) rfl 15 rfl (by have := hG.1; have := hS.1; omega) (by decide) ?_
      refine e_val (y := nI ns) hS.2.1 ?_
      refine e_icmp_geN (x := k) (y := ns) (tgt := 78) (pc := 12) Xc (dT hX7_isAsSeen 9 rfl) rfl (by have := hG.1; have := hS.1; omega) (by have := hG.1; have := hS.1; omega) (fun c12 => ?_) (fun c12 => ?_)
      · skip
        refine e_iload_n (pc := 78) Xc (dT hX7_isAsSeen 46 rfl) 2 rfl ?_
        refine e_zret (pc := 79) Xc hQ (dT hX7_isAsSeen 47 rfl) (Nat.le_refl _) (Nat.le_refl _) (bI_or _) ?_
        refine ⟨?_, rfl⟩
        have hke : k = ns := by omega
        subst hke
        rw [hq]
        rfl
      · skip
        refine e_iload_n (pc := 15) Xc (dT hX7_isAsSeen 10 rfl) 2 rfl ?_
        refine e_if_eq (tgt := 70) (pc := 16) Xc (dT hX7_isAsSeen 11 rfl) rfl (fun c16 => ?_) (fun c16 => ?_)
        · skip
          refine e_iconst (v := 0) (pc := 70) Xc (dT hX7_isAsSeen 42 rfl) rfl ?_
          refine e_istore_n (L' := [(2, .int 0), (0, .ref m), (1, .int (nI d)), (3, .int (nI k))]) (pc := 71) Xc (dT hX7_isAsSeen 43 rfl) (by decide) rfl ?_
          refine e_iincN (a := k) (b := 1) (L' := [(3, .int (nI (k + 1))), (2, .int 0), (0, .ref m), (1, .int (nI d))]) (pc := 72) Xc (dT hX7_isAsSeen 44 rfl) 3 rfl rfl (by decide) rfl ?_
          refine e_goto (tgt := 4) (pc := 75) Xc (dT hX7_isAsSeen 45 rfl) rfl ?_
          refine Ev.pick (L' := [(0, .ref m), (1, .int (nI d)), (2, .int 0), (3, .int (nI (k + 1)))]) [2, 3, 1, 0] rfl ?_
          exact ih4 (k + 1) false (by omega) (by omega) (by show false = (allTo _ k && seen1 (A 1) nr (nI d) k); rw [← hq, seen1]; simp only [bI_0, bI_1] at c16; simp_all)
        · skip
          refine e_aload_n (pc := 19) Xc (dT hX7_isAsSeen 12 rfl) 0 rfl ?_
          refine gf_X7_9 (pc := 20) Xc (dT hX7_isAsSeen 13 rfl) hP.o rfl ?_
          refine e_bipush (v := 50) (pc := 23) Xc (dT hX7_isAsSeen 14 rfl) rfl ?_
          refine e_iload_n (pc := 25) Xc (dT hX7_isAsSeen 15 rfl) 3 rfl ?_
          refine e_iaddN (a := 50) (b := k) (pc := 26) Xc (dT hX7_isAsSeen 16 rfl) ?_
          refine e_ialdN (pc := 27) Xc (dT hX7_isAsSeen 17 rfl) hP.a1 (by decide) rfl (50 + k) rfl (by have := hG.1; have := hS.1; omega) (by decide) ?_
          refine e_iload_n (pc := 28) Xc (dT hX7_isAsSeen 18 rfl) 1 rfl ?_
          refine e_icmp_ne (tgt := 66) (pc := 29) Xc (dT hX7_isAsSeen 19 rfl) rfl (fun c29 => ?_) (fun c29 => ?_)
          · skip
            refine e_iconst (v := 1) (pc := 66) Xc (dT hX7_isAsSeen 40 rfl) rfl ?_
            refine e_goto (tgt := 71) (pc := 67) Xc (dT hX7_isAsSeen 41 rfl) rfl ?_
            refine e_istore_n (L' := [(2, .int 1), (0, .ref m), (1, .int (nI d)), (3, .int (nI k))]) (pc := 71) Xc (dT hX7_isAsSeen 43 rfl) (by decide) rfl ?_
            refine e_iincN (a := k) (b := 1) (L' := [(3, .int (nI (k + 1))), (2, .int 1), (0, .ref m), (1, .int (nI d))]) (pc := 72) Xc (dT hX7_isAsSeen 44 rfl) 3 rfl rfl (by decide) rfl ?_
            refine e_goto (tgt := 4) (pc := 75) Xc (dT hX7_isAsSeen 45 rfl) rfl ?_
            refine Ev.pick (L' := [(0, .ref m), (1, .int (nI d)), (2, .int 1), (3, .int (nI (k + 1)))]) [2, 3, 1, 0] rfl ?_
            exact ih4 (k + 1) true (by omega) (by omega) (by show true = (allTo _ k && seen1 (A 1) nr (nI d) k); rw [← hq, seen1]; simp only [bI_0, bI_1] at c16 c29; simp_all)
          · skip
            refine e_aload_n (pc := 32) Xc (dT hX7_isAsSeen 20 rfl) 0 rfl ?_
            refine e_aload_n (pc := 33) Xc (dT hX7_isAsSeen 21 rfl) 0 rfl ?_
            refine gf_X7_9 (pc := 34) Xc (dT hX7_isAsSeen 22 rfl) hP.o rfl ?_
            refine e_bipush (v := 44) (pc := 37) Xc (dT hX7_isAsSeen 23 rfl) rfl ?_
            refine e_iload_n (pc := 39) Xc (dT hX7_isAsSeen 24 rfl) 3 rfl ?_
            refine e_iaddN (a := 44) (b := k) (pc := 40) Xc (dT hX7_isAsSeen 25 rfl) ?_
            refine e_ialdN (pc := 41) Xc (dT hX7_isAsSeen 26 rfl) hP.a1 (by decide) rfl (44 + k) rfl (by have := hG.1; have := hS.1; omega) (by decide) ?_
            refine cl_X7_147 (pc := 42) (k := 0) (n := 0) (S := []) Xc hP.o (c_isOn hP hG (A 1 (44 + k))) (dT hX7_isAsSeen 27 rfl) rfl (Nat.le_of_ble_eq_true rfl) (Nat.le_of_ble_eq_true rfl) (Nat.le_of_ble_eq_true rfl) rfl (Nat.le_of_ble_eq_true rfl) (fun r1 σ2 hq3 => ?_)
            obtain ⟨r1e, r1s⟩ := hq3
            have r1e := r1e.symm; subst r1e; have r1s := r1s.symm; subst r1s
            refine e_aload_n (pc := 45) Xc (dT hX7_isAsSeen 28 rfl) 0 rfl ?_
            refine gf_X7_9 (pc := 46) Xc (dT hX7_isAsSeen 29 rfl) hP.o rfl ?_
            refine e_bipush (v := 56) (pc := 49) Xc (dT hX7_isAsSeen 30 rfl) rfl ?_
            refine e_iload_n (pc := 51) Xc (dT hX7_isAsSeen 31 rfl) 3 rfl ?_
            refine e_iaddN (a := 56) (b := k) (pc := 52) Xc (dT hX7_isAsSeen 32 rfl) ?_
            refine e_ialdN (pc := 53) Xc (dT hX7_isAsSeen 33 rfl) hP.a1 (by decide) rfl (56 + k) rfl (by have := hG.1; have := hS.1; omega) (by decide) ?_
            refine e_iconst (v := 1) (pc := 54) Xc (dT hX7_isAsSeen 34 rfl) rfl ?_
            refine e_icmp_ne (tgt := 62) (pc := 55) Xc (dT hX7_isAsSeen 35 rfl) rfl (fun c55 => ?_) (fun c55 => ?_)
            · skip
              refine e_iconst (v := 0) (pc := 62) Xc (dT hX7_isAsSeen 38 rfl) rfl ?_
              refine e_icmp_ne (tgt := 70) (pc := 63) Xc (dT hX7_isAsSeen 39 rfl) rfl (fun c63 => ?_) (fun c63 => ?_)
              · skip
                refine e_iconst (v := 0) (pc := 70) Xc (dT hX7_isAsSeen 42 rfl) rfl ?_
                refine e_istore_n (L' := [(2, .int 0), (0, .ref m), (1, .int (nI d)), (3, .int (nI k))]) (pc := 71) Xc (dT hX7_isAsSeen 43 rfl) (by decide) rfl ?_
                refine e_iincN (a := k) (b := 1) (L' := [(3, .int (nI (k + 1))), (2, .int 0), (0, .ref m), (1, .int (nI d))]) (pc := 72) Xc (dT hX7_isAsSeen 44 rfl) 3 rfl rfl (by decide) rfl ?_
                refine e_goto (tgt := 4) (pc := 75) Xc (dT hX7_isAsSeen 45 rfl) rfl ?_
                refine Ev.pick (L' := [(0, .ref m), (1, .int (nI d)), (2, .int 0), (3, .int (nI (k + 1)))]) [2, 3, 1, 0] rfl ?_
                exact ih4 (k + 1) false (by omega) (by omega) (by show false = (allTo _ k && seen1 (A 1) nr (nI d) k); rw [← hq, seen1]; simp only [bI_0, bI_1] at c16 c29 c55 c63; simp_all)
              · skip
                refine e_iconst (v := 1) (pc := 66) Xc (dT hX7_isAsSeen 40 rfl) rfl ?_
                refine e_goto (tgt := 71) (pc := 67) Xc (dT hX7_isAsSeen 41 rfl) rfl ?_
                refine e_istore_n (L' := [(2, .int 1), (0, .ref m), (1, .int (nI d)), (3, .int (nI k))]) (pc := 71) Xc (dT hX7_isAsSeen 43 rfl) (by decide) rfl ?_
                refine e_iincN (a := k) (b := 1) (L' := [(3, .int (nI (k + 1))), (2, .int 1), (0, .ref m), (1, .int (nI d))]) (pc := 72) Xc (dT hX7_isAsSeen 44 rfl) 3 rfl rfl (by decide) rfl ?_
                refine e_goto (tgt := 4) (pc := 75) Xc (dT hX7_isAsSeen 45 rfl) rfl ?_
                refine Ev.pick (L' := [(0, .ref m), (1, .int (nI d)), (2, .int 1), (3, .int (nI (k + 1)))]) [2, 3, 1, 0] rfl ?_
                exact ih4 (k + 1) true (by omega) (by omega) (by show true = (allTo _ k && seen1 (A 1) nr (nI d) k); rw [← hq, seen1]; simp only [bI_0, bI_1] at c16 c29 c55 c63; simp_all)
            · skip
              refine e_iconst (v := 1) (pc := 58) Xc (dT hX7_isAsSeen 36 rfl) rfl ?_
              refine e_goto (tgt := 63) (pc := 59) Xc (dT hX7_isAsSeen 37 rfl) rfl ?_
              refine e_icmp_ne (tgt := 70) (pc := 63) Xc (dT hX7_isAsSeen 39 rfl) rfl (fun c63 => ?_) (fun c63 => ?_)
              · skip
                refine e_iconst (v := 0) (pc := 70) Xc (dT hX7_isAsSeen 42 rfl) rfl ?_
                refine e_istore_n (L' := [(2, .int 0), (0, .ref m), (1, .int (nI d)), (3, .int (nI k))]) (pc := 71) Xc (dT hX7_isAsSeen 43 rfl) (by decide) rfl ?_
                refine e_iincN (a := k) (b := 1) (L' := [(3, .int (nI (k + 1))), (2, .int 0), (0, .ref m), (1, .int (nI d))]) (pc := 72) Xc (dT hX7_isAsSeen 44 rfl) 3 rfl rfl (by decide) rfl ?_
                refine e_goto (tgt := 4) (pc := 75) Xc (dT hX7_isAsSeen 45 rfl) rfl ?_
                refine Ev.pick (L' := [(0, .ref m), (1, .int (nI d)), (2, .int 0), (3, .int (nI (k + 1)))]) [2, 3, 1, 0] rfl ?_
                exact ih4 (k + 1) false (by omega) (by omega) (by show false = (allTo _ k && seen1 (A 1) nr (nI d) k); rw [← hq, seen1]; simp only [bI_0, bI_1] at c16 c29 c55 c63; simp_all)
              · skip
                refine e_iconst (v := 1) (pc := 66) Xc (dT hX7_isAsSeen 40 rfl) rfl ?_
                refine e_goto (tgt := 71) (pc := 67) Xc (dT hX7_isAsSeen 41 rfl) rfl ?_
                refine e_istore_n (L' := [(2, .int 1), (0, .ref m), (1, .int (nI d)), (3, .int (nI k))]) (pc := 71) Xc (dT hX7_isAsSeen 43 rfl) (by decide) rfl ?_
                refine e_iincN (a := k) (b := 1) (L' := [(3, .int (nI (k + 1))), (2, .int 1), (0, .ref m), (1, .int (nI d))]) (pc := 72) Xc (dT hX7_isAsSeen 44 rfl) 3 rfl rfl (by decide) rfl ?_
                refine e_goto (tgt := 4) (pc := 75) Xc (dT hX7_isAsSeen 45 rfl) rfl ?_
                refine Ev.pick (L' := [(0, .ref m), (1, .int (nI d)), (2, .int 1), (3, .int (nI (k + 1)))]) [2, 3, 1, 0] rfl ?_
                exact ih4 (k + 1) true (by omega) (by omega) (by show true = (allTo _ k && seen1 (A 1) nr (nI d) k); rw [← hq, seen1]; simp only [bI_0, bI_1] at c16 c29 c55 c63; simp_all)
  show Ev G μ 4 0 0 0 [(0, .ref m), (1, .int (nI d))] [] σ
  refine e_iconst (v := 1) (pc := 0) Xc (dT hX7_isAsSeen 0 rfl) rfl ?_
  refine e_istore_n (L' := [(2, .int 1), (0, .ref m), (1, .int (nI d))]) (pc := 1) Xc (dT hX7_isAsSeen 1 rfl) (by decide) rfl ?_
  refine e_iconst (v := 0) (pc := 2) Xc (dT hX7_isAsSeen 2 rfl) rfl ?_
  refine e_istore_n (L' := [(3, .int 0), (2, .int 1), (0, .ref m), (1, .int (nI d))]) (pc := 3) Xc (dT hX7_isAsSeen 3 rfl) (by decide) rfl ?_
  refine Ev.pick (L' := [(0, .ref m), (1, .int (nI d)), (2, .int 1), (3, .int 0)]) [2, 3, 1, 0] rfl ?_
  exact lp4 ((ns - 0) + 1) 0 true (Nat.lt_succ_self _) (Nat.zero_le _) rfl
set_option maxRecDepth 100000 in
set_option maxHeartbeats 4000000 in
theorem c_lastSeen {G : xG} {σ : xS} {m : Nat} {F : Nat → Int32} {T : Nat → Nat} {A : Nat → Nat → Int32} (hP : PX7 σ m F T A) {nr nb : Nat} (hG : Gd (A 1) nr nb) {ns : Nat} (hS : Gs (A 1) nb ns) : CI G yX7_lastSeen cX7_lastSeen 3 (some .int) 0 0 0 [.ref m] σ (fun z σ1 => (∃ q, q ≤ 20 ∧ z = nI q ∧ ∀ k dk, k < ns → dk ≤ 20 → A 1 (50 + k) = nI dk → dk ≤ q) ∧ σ1 = σ) := by
  refine Met.ofX (by decide +kernel) (Nat.le_of_ble_eq_true rfl) (fun μ Xc hQ hnm => ?_)
  have Xc : xC G μ cX7_lastSeen 3 RX7 (some .int) 0 0 0 := Xc
  have lp4 : ∀ (n4 : Nat) (k q : Nat), ns - k < n4 → (k ≤ ns) → (q ≤ 20) → (∀ j dj, j < k → dj ≤ 20 → A 1 (50 + j) = nI dj → dj ≤ q) → Ev G μ 3 0 0 4 [(0, .ref m), (1, .int (nI q)), (2, .int (nI k))] [] σ := by
    intro n4
    induction n4 with
    | zero => intro k q hn; exact absurd hn (Nat.not_lt_zero _)
    | succ n4 ih4 =>
      intro k q hn4 hk hql hq
      refine e_iload_n (pc := 4) Xc (dT hX7_lastSeen 4 rfl) 2 rfl ?_
      refine e_aload_n (pc := 5) Xc (dT hX7_lastSeen 5 rfl) 0 rfl ?_
      refine gf_X7_9 (pc := 6) Xc (dT hX7_lastSeen 6 rfl) hP.o rfl ?_
      refine e_bipush (v := 15) (pc := 9) Xc (dT hX7_lastSeen 7 rfl) rfl ?_
      refine e_ialdN (pc := 11) Xc (dT hX7_lastSeen 8 rfl) hP.a1 (by decide) rfl 15 rfl (by have := hG.1; have := hS.1; omega) (by decide) ?_
      refine e_val (y := nI ns) hS.2.1 ?_
      refine e_icmp_geN (x := k) (y := ns) (tgt := 48) (pc := 12) Xc (dT hX7_lastSeen 9 rfl) rfl (by have := hG.1; have := hS.1; omega) (by have := hG.1; have := hS.1; omega) (fun c12 => ?_) (fun c12 => ?_)
      · skip
        refine e_iload_n (pc := 48) Xc (dT hX7_lastSeen 29 rfl) 1 rfl ?_
        refine e_iret (pc := 49) Xc hQ (dT hX7_lastSeen 30 rfl) (Nat.le_refl _) (Nat.le_refl _) ?_
        have hke : k = ns := by omega
        subst hke
        exact ⟨⟨q, hql, rfl, hq⟩, rfl⟩
      · skip
        obtain ⟨-, ⟨dk, hdk, hdke⟩, -⟩ := hS.2.2 k (by omega)
        refine e_aload_n (pc := 15) Xc (dT hX7_lastSeen 10 rfl) 0 rfl ?_
        refine gf_X7_9 (pc := 16) Xc (dT hX7_lastSeen 11 rfl) hP.o rfl ?_
        refine e_bipush (v := 50) (pc := 19) Xc (dT hX7_lastSeen 12 rfl) rfl ?_
        refine e_iload_n (pc := 21) Xc (dT hX7_lastSeen 13 rfl) 2 rfl ?_
        refine e_iaddN (a := 50) (b := k) (pc := 22) Xc (dT hX7_lastSeen 14 rfl) ?_
        refine e_ialdN (pc := 23) Xc (dT hX7_lastSeen 15 rfl) hP.a1 (by decide) rfl (50 + k) rfl (by have := hG.1; have := hS.1; omega) (by decide) ?_
        refine e_val (y := nI dk) hdke ?_
        refine e_iload_n (pc := 24) Xc (dT hX7_lastSeen 16 rfl) 1 rfl ?_
        refine e_icmp_leN (x := dk) (y := q) (tgt := 40) (pc := 25) Xc (dT hX7_lastSeen 17 rfl) rfl (by have := hG.1; have := hS.1; omega) (by have := hG.1; have := hS.1; omega) (fun c25 => ?_) (fun c25 => ?_)
        · skip
          refine e_iload_n (pc := 40) Xc (dT hX7_lastSeen 25 rfl) 1 rfl ?_
          refine e_istore_n (L' := [(1, .int (nI q)), (0, .ref m), (2, .int (nI k))]) (pc := 41) Xc (dT hX7_lastSeen 26 rfl) (by decide) rfl ?_
          refine e_iincN (a := k) (b := 1) (L' := [(2, .int (nI (k + 1))), (1, .int (nI q)), (0, .ref m)]) (pc := 42) Xc (dT hX7_lastSeen 27 rfl) 2 rfl rfl (by decide) rfl ?_
          refine e_goto (tgt := 4) (pc := 45) Xc (dT hX7_lastSeen 28 rfl) rfl ?_
          refine Ev.pick (L' := [(0, .ref m), (1, .int (nI q)), (2, .int (nI (k + 1)))]) [2, 1, 0] rfl ?_
          exact ih4 (k + 1) q (by omega) (by omega) (by omega) (fun j dj hj h1 h2 => by by_cases he : j = k; (· subst he; rw [hdke, nI_eq (by omega) (by omega)] at h2; omega); (· have := hq j dj (by omega) h1 h2; omega))
        · skip
          refine e_aload_n (pc := 28) Xc (dT hX7_lastSeen 18 rfl) 0 rfl ?_
          refine gf_X7_9 (pc := 29) Xc (dT hX7_lastSeen 19 rfl) hP.o rfl ?_
          refine e_bipush (v := 50) (pc := 32) Xc (dT hX7_lastSeen 20 rfl) rfl ?_
          refine e_iload_n (pc := 34) Xc (dT hX7_lastSeen 21 rfl) 2 rfl ?_
          refine e_iaddN (a := 50) (b := k) (pc := 35) Xc (dT hX7_lastSeen 22 rfl) ?_
          refine e_ialdN (pc := 36) Xc (dT hX7_lastSeen 23 rfl) hP.a1 (by decide) rfl (50 + k) rfl (by have := hG.1; have := hS.1; omega) (by decide) ?_
          refine e_val (y := nI dk) hdke ?_
          refine e_goto (tgt := 41) (pc := 37) Xc (dT hX7_lastSeen 24 rfl) rfl ?_
          refine e_istore_n (L' := [(1, .int (nI dk)), (0, .ref m), (2, .int (nI k))]) (pc := 41) Xc (dT hX7_lastSeen 26 rfl) (by decide) rfl ?_
          refine e_iincN (a := k) (b := 1) (L' := [(2, .int (nI (k + 1))), (1, .int (nI dk)), (0, .ref m)]) (pc := 42) Xc (dT hX7_lastSeen 27 rfl) 2 rfl rfl (by decide) rfl ?_
          refine e_goto (tgt := 4) (pc := 45) Xc (dT hX7_lastSeen 28 rfl) rfl ?_
          refine Ev.pick (L' := [(0, .ref m), (1, .int (nI dk)), (2, .int (nI (k + 1)))]) [2, 1, 0] rfl ?_
          exact ih4 (k + 1) dk (by omega) (by omega) (by omega) (fun j dj hj h1 h2 => by by_cases he : j = k; (· subst he; rw [hdke, nI_eq (by omega) (by omega)] at h2; omega); (· have := hq j dj (by omega) h1 h2; omega))
  show Ev G μ 3 0 0 0 [(0, .ref m)] [] σ
  refine e_iconst (v := 0) (pc := 0) Xc (dT hX7_lastSeen 0 rfl) rfl ?_
  refine e_istore_n (L' := [(1, .int 0), (0, .ref m)]) (pc := 1) Xc (dT hX7_lastSeen 1 rfl) (by decide) rfl ?_
  refine e_iconst (v := 0) (pc := 2) Xc (dT hX7_lastSeen 2 rfl) rfl ?_
  refine e_istore_n (L' := [(2, .int 0), (1, .int 0), (0, .ref m)]) (pc := 3) Xc (dT hX7_lastSeen 3 rfl) (by decide) rfl ?_
  refine Ev.pick (L' := [(0, .ref m), (1, .int 0), (2, .int 0)]) [2, 1, 0] rfl ?_
  exact lp4 ((ns - 0) + 1) 0 0 (Nat.lt_succ_self _) (Nat.zero_le _) (by omega) (fun j dj hj _ _ => absurd hj (Nat.not_lt_zero j))
set_option maxRecDepth 100000 in
set_option maxHeartbeats 4000000 in
theorem c_areAsSeen {G : xG} {σ : xS} {m : Nat} {F : Nat → Int32} {T : Nat → Nat} {A : Nat → Nat → Int32} (hP : PX7 σ m F T A) {nr nb : Nat} (hG : Gd (A 1) nr nb) {t : xT} (hT : Hd (A 1) t) {ns : Nat} (hS : Gs (A 1) nb ns) : CI G yX7_areAsSeen cX7_areAsSeen 4 (some .boolean) 6 0 0 [.ref m] σ (fun z σ1 => z = bI (allSeen (A 1) t nr nb ns) ∧ PX7 σ1 m F T (upA A 1 (backF (A 1) (A 3))) ∧ Off m σ σ1) := by
  refine Met.ofX (by decide +kernel) (Nat.le_of_ble_eq_true rfl) (fun μ Xc hQ hnm => ?_)
  have Xc : xC G μ cX7_areAsSeen 4 RX7 (some .boolean) 6 0 0 := Xc
  show Ev G μ 4 0 0 0 [(0, .ref m)] [] σ
  refine e_aload_n (pc := 0) Xc (dT hX7_areAsSeen 0 rfl) 0 rfl ?_
  refine cl_X7_272 (pc := 1) (k := 0) (n := 0) (S := []) Xc hP.o (c_lastSeen hP hG hS) (dT hX7_areAsSeen 1 rfl) rfl (Nat.le_of_ble_eq_true rfl) (Nat.le_of_ble_eq_true rfl) (Nat.le_of_ble_eq_true rfl) rfl (Nat.le_of_ble_eq_true rfl) (fun r1 σ2 hq3 => ?_)
  obtain ⟨⟨q, hql, r1e, hqa⟩, r1s⟩ := hq3
  have r1s := r1s.symm; subst r1s
  subst r1e
  refine e_istore_n (L' := [(1, .int (nI q)), (0, .ref m)]) (pc := 4) Xc (dT hX7_areAsSeen 2 rfl) (by decide) rfl ?_
  refine e_iconst (v := 1) (pc := 5) Xc (dT hX7_areAsSeen 3 rfl) rfl ?_
  refine e_istore_n (L' := [(2, .int 1), (1, .int (nI q)), (0, .ref m)]) (pc := 6) Xc (dT hX7_areAsSeen 4 rfl) (by decide) rfl ?_
  refine e_iconst (v := 0) (pc := 7) Xc (dT hX7_areAsSeen 5 rfl) rfl ?_
  refine e_istore_n (L' := [(3, .int 0), (2, .int 1), (1, .int (nI q)), (0, .ref m)]) (pc := 8) Xc (dT hX7_areAsSeen 6 rfl) (by decide) rfl ?_
  have lp9 : ∀ (n9 : Nat) (d : Nat) (w : Bool) (X1 : Nat → Int32) (σ2 : xS), (q + 1) - d < n9 → (d ≤ q + 1) → (X1 = (daysF (A 1) t nr nb d).2) → (w = allTo (fun d => seenF (daysF (A 1) t nr nb d).2 nr ns (nI d)) d) → (Gd X1 nr nb) → (Hd X1 t) → (Gs X1 nb ns) → (PX7 σ2 m F T (upA A 1 X1)) → (Off m σ σ2) → Ev G μ 4 0 0 9 [(0, .ref m), (1, .int (nI q)), (2, .int (bI w)), (3, .int (nI d))] [] σ2 := by
    intro n9
    induction n9 with
    | zero => intro d w X1 σ2 hn; exact absurd hn (Nat.not_lt_zero _)
    | succ n9 ih9 =>
      intro d w X1 σ2 hn9 hd hX hw hG1 hT1 hS1 hp ho
      refine e_iload_n (pc := 9) Xc (dT hX7_areAsSeen 7 rfl) 3 rfl ?_
      refine e_iload_n (pc := 10) Xc (dT hX7_areAsSeen 8 rfl) 1 rfl ?_
      refine e_icmp_gtN (x := d) (y := q) (tgt := 35) (pc := 11) Xc (dT hX7_areAsSeen 9 rfl) rfl (by have := hG.1; have := hS.1; omega) (by have := hG.1; have := hS.1; omega) (fun c11 => ?_) (fun c11 => ?_)
      · skip
        refine e_aload_n (pc := 35) Xc (dT hX7_areAsSeen 21 rfl) 0 rfl ?_
        refine cl_X7_205 (pc := 36) (k := 0) (n := 0) (S := []) Xc hp.o (c_goesBack hp) (dT hX7_areAsSeen 22 rfl) rfl (Nat.le_of_ble_eq_true rfl) (Nat.le_of_ble_eq_true rfl) (Nat.le_of_ble_eq_true rfl) rfl (Nat.le_of_ble_eq_true rfl) (fun σ5 hq6 => ?_)
        obtain ⟨hP7, ho8⟩ := hq6
        have hP7 : PX7 σ5 m F T (upA A 1 (backF X1 (A 3))) := by rw [upA_2] at hP7; exact hP7
        refine e_iload_n (pc := 39) Xc (dT hX7_areAsSeen 23 rfl) 2 rfl ?_
        refine e_zret (pc := 40) Xc hQ (dT hX7_areAsSeen 24 rfl) (Nat.le_refl _) (Nat.le_refl _) (bI_or _) ?_
        have hdq : d = q + 1 := by omega
        have hz : w = allSeen (A 1) t nr nb ns := by
          cases hw' : w with
          | false => rw [hw'] at hw; exact (allTo_false hw.symm (by omega)).symm
          | true =>
            rw [hw'] at hw
            refine (allTo_iff.mpr (fun k hk => ?_)).symm
            by_cases hkq : k < d
            · exact allTo_iff.mp hw.symm k hkq
            · exact seen_beyond hG.r4 hS hqa (by omega) hk
        have hb : backF X1 (A 3) = backF (A 1) (A 3) := by
          funext j
          by_cases hj : j < 12
          · rw [backF, backF, if_pos hj, if_pos hj]
          · rw [backF, backF, if_neg hj, if_neg hj, hX, days_hi hG.r4 (by omega)]
        exact ⟨by rw [hz], by rw [← hb]; exact hP7, (ho.tr ho8)⟩
      · skip
        refine e_iload_n (pc := 14) Xc (dT hX7_areAsSeen 10 rfl) 2 rfl ?_
        refine e_if_eq (tgt := 35) (pc := 15) Xc (dT hX7_areAsSeen 11 rfl) rfl (fun c15 => ?_) (fun c15 => ?_)
        · skip
          refine e_aload_n (pc := 35) Xc (dT hX7_areAsSeen 21 rfl) 0 rfl ?_
          refine cl_X7_205 (pc := 36) (k := 0) (n := 0) (S := []) Xc hp.o (c_goesBack hp) (dT hX7_areAsSeen 22 rfl) rfl (Nat.le_of_ble_eq_true rfl) (Nat.le_of_ble_eq_true rfl) (Nat.le_of_ble_eq_true rfl) rfl (Nat.le_of_ble_eq_true rfl) (fun σ10 hq11 => ?_)
          obtain ⟨hP12, ho13⟩ := hq11
          have hP12 : PX7 σ10 m F T (upA A 1 (backF X1 (A 3))) := by rw [upA_2] at hP12; exact hP12
          refine e_iload_n (pc := 39) Xc (dT hX7_areAsSeen 23 rfl) 2 rfl ?_
          refine e_zret (pc := 40) Xc hQ (dT hX7_areAsSeen 24 rfl) (Nat.le_refl _) (Nat.le_refl _) (bI_or _) ?_
          simp only [bI_0] at c15
          have hz : w = allSeen (A 1) t nr nb ns := by
            rw [c15] at hw ⊢
            exact (allTo_false hw.symm (by omega)).symm
          have hb : backF X1 (A 3) = backF (A 1) (A 3) := by
            funext j
            by_cases hj : j < 12
            · rw [backF, backF, if_pos hj, if_pos hj]
            · rw [backF, backF, if_neg hj, if_neg hj, hX, days_hi hG.r4 (by omega)]
          exact ⟨by rw [hz], by rw [← hb]; exact hP12, (ho.tr ho13)⟩
        · skip
          refine e_aload_n (pc := 18) Xc (dT hX7_areAsSeen 12 rfl) 0 rfl ?_
          refine e_iload_n (pc := 19) Xc (dT hX7_areAsSeen 13 rfl) 3 rfl ?_
          refine cl_X7_275 (pc := 20) (k := 0) (n := 0) (S := []) Xc hp.o (c_isAsSeen hp hG1 hS1 d (by omega)) (dT hX7_areAsSeen 14 rfl) rfl (Nat.le_of_ble_eq_true rfl) (Nat.le_of_ble_eq_true rfl) (Nat.le_of_ble_eq_true rfl) rfl (Nat.le_of_ble_eq_true rfl) (fun r14 σ15 hq16 => ?_)
          obtain ⟨r14e, r14s⟩ := hq16
          have r14e := r14e.symm; subst r14e; have r14s := r14s.symm; subst r14s
          refine e_val (y := bI (seenF X1 nr ns (nI d))) rfl ?_
          refine e_istore_n (L' := [(2, .int (bI (seenF X1 nr ns (nI d)))), (0, .ref m), (1, .int (nI q)), (3, .int (nI d))]) (pc := 23) Xc (dT hX7_areAsSeen 15 rfl) (by decide) rfl ?_
          refine e_aload_n (pc := 24) Xc (dT hX7_areAsSeen 16 rfl) 1 rfl ?_
          refine cl_X7_199 (pc := 25) (k := 0) (n := 0) (S := []) Xc hp.o (c_goes hp hG1 hT1) (dT hX7_areAsSeen 17 rfl) rfl (Nat.le_of_ble_eq_true rfl) (Nat.le_of_ble_eq_true rfl) (Nat.le_of_ble_eq_true rfl) rfl (Nat.le_of_ble_eq_true rfl) (fun r17 σ18 hq19 => ?_)
          obtain ⟨r17e, hP20, ho21⟩ := hq19
          have r17e := r17e.symm; subst r17e
          have hP20 : PX7 σ18 m F T (upA A 1 ((goF X1 t nr nb).2)) := by rw [upA_2] at hP20; exact hP20
          refine e_val (y := (goF X1 t nr nb).1) rfl ?_
          refine e_pop (pc := 28) Xc (dT hX7_areAsSeen 18 rfl) rfl ?_
          refine e_iincN (a := d) (b := 1) (L' := [(3, .int (nI (d + 1))), (2, .int (bI (seenF X1 nr ns (nI d)))), (0, .ref m), (1, .int (nI q))]) (pc := 29) Xc (dT hX7_areAsSeen 19 rfl) 3 rfl rfl (by decide) rfl ?_
          refine e_goto (tgt := 9) (pc := 32) Xc (dT hX7_areAsSeen 20 rfl) rfl ?_
          refine Ev.pick (L' := [(0, .ref m), (1, .int (nI q)), (2, .int (bI (seenF X1 nr ns (nI d)))), (3, .int (nI (d + 1)))]) [2, 3, 1, 0] rfl ?_
          exact ih9 (d + 1) (seenF X1 nr ns (nI d)) ((goF X1 t nr nb).2) σ18 (by omega) (by omega) (by rw [hX]; rfl) (by have e : allTo (fun d => seenF (daysF (A 1) t nr nb d).2 nr ns (nI d)) (d + 1) = (allTo (fun d => seenF (daysF (A 1) t nr nb d).2 nr ns (nI d)) d && seenF (daysF (A 1) t nr nb d).2 nr ns (nI d)) := rfl; simp only [bI_0, Bool.not_eq_false] at c15; rw [e, ← hw, c15, Bool.true_and, hX]) (Gd.go hG1 hT1) (Hd.go hT1 hG1) (hS1.congr (fun j hj => go_hi hG.r4 (by omega))) hP20 (ho.tr ho21)
  refine Ev.pick (L' := [(0, .ref m), (1, .int (nI q)), (2, .int 1), (3, .int 0)]) [3, 2, 1, 0] rfl ?_
  exact lp9 (((q + 1) - 0) + 1) 0 true (A 1) σ (Nat.lt_succ_self _) (Nat.zero_le _) rfl rfl hG hT hS (by rw [upA_id]; exact hP) Off.rf
set_option maxRecDepth 100000 in
set_option maxHeartbeats 4000000 in
theorem c_swapsFor {G : xG} {σ : xS} {m : Nat} {F : Nat → Int32} {T : Nat → Nat} {A : Nat → Nat → Int32} (hP : PX7 σ m F T A) {nr nb : Nat} (hG : Gd (A 1) nr nb) (r b : Nat) (hr : r < nr) (hb : b < nb) : CV G yX7_swapsFor cX7_swapsFor 4 none 1 0 0 [.ref m, .int (nI r), .int (nI b)] σ (fun σ1 => PX7 σ1 m F T (upA A 1 (swapF (A 1) nr r b)) ∧ Off m σ σ1) := by
  refine Met.ofX (by decide +kernel) (Nat.le_of_ble_eq_true rfl) (fun μ Xc hQ hnm => ?_)
  have Xc : xC G μ cX7_swapsFor 4 RX7 none 1 0 0 := Xc
  show Ev G μ 4 0 0 0 [(0, .ref m), (1, .int (nI r)), (2, .int (nI b))] [] σ
  refine e_aload_n (pc := 0) Xc (dT hX7_swapsFor 0 rfl) 0 rfl ?_
  refine e_iload_n (pc := 1) Xc (dT hX7_swapsFor 1 rfl) 2 rfl ?_
  refine cl_X7_143 (pc := 2) (k := 0) (n := 0) (S := []) Xc hP.o (c_holderOf hP hG (nI b)) (dT hX7_swapsFor 2 rfl) rfl (Nat.le_of_ble_eq_true rfl) (Nat.le_of_ble_eq_true rfl) (Nat.le_of_ble_eq_true rfl) rfl (Nat.le_of_ble_eq_true rfl) (fun r1 σ2 hq3 => ?_)
  obtain ⟨r1e, r1s⟩ := hq3
  have r1e := r1e.symm; subst r1e; have r1s := r1s.symm; subst r1s
  refine e_istore_n (L' := [(3, .int (holdF (A 1) nr (nI b))), (0, .ref m), (1, .int (nI r)), (2, .int (nI b))]) (pc := 5) Xc (dT hX7_swapsFor 3 rfl) (by decide) rfl ?_
  refine e_iload_n (pc := 6) Xc (dT hX7_swapsFor 4 rfl) 0 rfl ?_
  refine e_iconst (v := -1) (pc := 7) Xc (dT hX7_swapsFor 5 rfl) rfl ?_
  refine e_icmp_eq (tgt := 27) (pc := 8) Xc (dT hX7_swapsFor 6 rfl) rfl (fun c8 => ?_) (fun c8 => ?_)
  · skip
    refine e_aload_n (pc := 27) Xc (dT hX7_swapsFor 19 rfl) 1 rfl ?_
    refine gf_X7_9 (pc := 28) Xc (dT hX7_swapsFor 20 rfl) hP.o rfl ?_
    refine e_iconst (v := 1) (pc := 31) Xc (dT hX7_swapsFor 21 rfl) rfl ?_
    refine e_iload_n (pc := 32) Xc (dT hX7_swapsFor 22 rfl) 2 rfl ?_
    refine e_iaddN (a := 1) (b := r) (pc := 33) Xc (dT hX7_swapsFor 23 rfl) ?_
    refine e_iload_n (pc := 34) Xc (dT hX7_swapsFor 24 rfl) 3 rfl ?_
    refine e_iastN (pc := 35) Xc (dT hX7_swapsFor 25 rfl) hP.a1 rfl (1 + r) rfl (by have := hG.1; omega) (by decide) ?_
    refine Ev.gen (fun z => PX7 z m F T (upA A 1 (upd (A 1) (1 + r) (nI b)))) (hP.wa1 (g := (upd (A 1) (1 + r) (nI b)))) Off.set (fun σ4 hP5 ho6 => ?_)
    refine e_vret (pc := 36) Xc hQ (dT hX7_swapsFor 26 rfl) (Nat.le_refl _) (Nat.le_refl _) ?_
    exact ⟨by rw [swapF, if_pos c8]; exact hP5, ho6⟩
  · skip
    obtain ⟨j, hj, hje⟩ := holdF_has c8
    refine e_aload_n (pc := 11) Xc (dT hX7_swapsFor 7 rfl) 1 rfl ?_
    refine gf_X7_9 (pc := 12) Xc (dT hX7_swapsFor 8 rfl) hP.o rfl ?_
    refine e_iconst (v := 1) (pc := 15) Xc (dT hX7_swapsFor 9 rfl) rfl ?_
    refine e_iload_n (pc := 16) Xc (dT hX7_swapsFor 10 rfl) 0 rfl ?_
    refine e_val (y := nI j) hje ?_
    refine e_iaddN (a := 1) (b := j) (pc := 17) Xc (dT hX7_swapsFor 11 rfl) ?_
    refine e_aload_n (pc := 18) Xc (dT hX7_swapsFor 12 rfl) 1 rfl ?_
    refine gf_X7_9 (pc := 19) Xc (dT hX7_swapsFor 13 rfl) hP.o rfl ?_
    refine e_iconst (v := 1) (pc := 22) Xc (dT hX7_swapsFor 14 rfl) rfl ?_
    refine e_iload_n (pc := 23) Xc (dT hX7_swapsFor 15 rfl) 2 rfl ?_
    refine e_iaddN (a := 1) (b := r) (pc := 24) Xc (dT hX7_swapsFor 16 rfl) ?_
    refine e_ialdN (pc := 25) Xc (dT hX7_swapsFor 17 rfl) hP.a1 (by decide) rfl (1 + r) rfl (by have := hG.1; omega) (by decide) ?_
    refine e_iastN (pc := 26) Xc (dT hX7_swapsFor 18 rfl) hP.a1 rfl (1 + j) rfl (by have := hG.1; omega) (by decide) ?_
    refine Ev.gen (fun z => PX7 z m F T (upA A 1 (upd (A 1) (1 + j) (A 1 (1 + r))))) (hP.wa1 (g := (upd (A 1) (1 + j) (A 1 (1 + r))))) Off.set (fun σ7 hP8 ho9 => ?_)
    refine e_aload_n (pc := 27) Xc (dT hX7_swapsFor 19 rfl) 1 rfl ?_
    refine gf_X7_9 (pc := 28) Xc (dT hX7_swapsFor 20 rfl) hP8.o rfl ?_
    refine e_iconst (v := 1) (pc := 31) Xc (dT hX7_swapsFor 21 rfl) rfl ?_
    refine e_iload_n (pc := 32) Xc (dT hX7_swapsFor 22 rfl) 2 rfl ?_
    refine e_iaddN (a := 1) (b := r) (pc := 33) Xc (dT hX7_swapsFor 23 rfl) ?_
    refine e_iload_n (pc := 34) Xc (dT hX7_swapsFor 24 rfl) 3 rfl ?_
    refine e_iastN (pc := 35) Xc (dT hX7_swapsFor 25 rfl) hP8.a1 rfl (1 + r) rfl (by have := hG.1; omega) (by decide) ?_
    refine Ev.gen (fun z => PX7 z m F T (upA (upA A 1 (upd (A 1) (1 + j) (A 1 (1 + r)))) 1 (upd (upd (A 1) (1 + j) (A 1 (1 + r))) (1 + r) (nI b)))) (hP8.wa1 (g := (upd (upd (A 1) (1 + j) (A 1 (1 + r))) (1 + r) (nI b)))) Off.set (fun σ10 hP11 ho12 => ?_)
    have hP11 : PX7 σ10 m F T (upA A 1 (upd (upd (A 1) (1 + j) (A 1 (1 + r))) (1 + r) (nI b))) := by rw [upA_2] at hP11; exact hP11
    refine e_vret (pc := 36) Xc hQ (dT hX7_swapsFor 26 rfl) (Nat.le_refl _) (Nat.le_refl _) ?_
    exact ⟨by rw [swapF, if_neg c8, hje, nI_clamp (by have := hG.1; omega)]; exact hP11, (ho9.tr ho12)⟩
