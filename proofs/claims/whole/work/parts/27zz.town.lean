theorem nI_nneg {a : Nat} {x : Int32} (h : a < 2 ^ 31) (hx : x < 0) : ¬ nI a = x := by
  intro q
  rw [← q] at hx
  exact nI_pos h hx
theorem seg {fs : List xFe} {c : Nat} {f : xFe} {rest : List xFe} (h : fs.drop c = f :: rest) : ((fs.take (c + 1)).flatMap flC).length = ((fs.take c).flatMap flC).length + f.1.length ∧ ((fs.take c).flatMap flC).length + f.1.length ≤ (fs.flatMap flC).length ∧ ∀ k, k < f.1.length → (fs.flatMap flC).getD (((fs.take c).flatMap flC).length + k) 0 = encC (f.1.getD k (.inr 0)) := by
  obtain ⟨-, h2, -⟩ := drop1 h
  have e : fs.flatMap flC = (fs.take c).flatMap flC ++ (flC f ++ rest.flatMap flC) := by
    conv => lhs; rw [← List.take_append_drop c fs, h]
    rw [List.flatMap_append, List.flatMap_cons]
  have el : (flC f).length = f.1.length := by rw [flC, List.length_map]
  refine ⟨?_, ?_, fun k hk => ?_⟩
  · rw [h2, List.flatMap_append, List.length_append, List.flatMap_cons, List.flatMap_nil, List.append_nil, el]
  · rw [e, List.length_append, List.length_append, el]; omega
  · rw [e, List.getD_eq_getElem?_getD, List.getElem?_append_right (by omega), Nat.add_sub_cancel_left, List.getElem?_append_left (by omega), flC, List.getElem?_map, List.getD_eq_getElem?_getD, List.getElem?_eq_getElem hk]
    rfl
set_option maxRecDepth 100000 in
set_option maxHeartbeats 4000000 in
theorem c_isTrue {G : xG} {σ : xS} (w h v : Nat) (hw : w < 6) (hh : h < 3) (hv : v < 100) (x : Int32) : CI G yX4_isTrue cX4_isTrue 3 (some .boolean) 0 0 0 [.int (nI ((w * 3 + h) * 100 + v)), .int x] σ (fun z σ1 => z = bI (tst x h v) ∧ σ1 = σ) := by
  refine Met.ofX (by decide +kernel) (Nat.le_of_ble_eq_true rfl) (fun μ Xc hQ hnm => ?_)
  have Xc : xC G μ cX4_isTrue 3 RX4 (some .boolean) 0 0 0 := Xc
  show Ev G μ 3 0 0 0 [(0, .int (nI ((w * 3 + h) * 100 + v))), (1, .int x)] [] σ
  refine e_iload_n (pc := 0) Xc (dT hX4_isTrue 0 rfl) 0 rfl ?_
  refine e_bipush (v := 100) (pc := 1) Xc (dT hX4_isTrue 1 rfl) rfl ?_
  refine e_iremN (a := (w * 3 + h) * 100 + v) (b := 100) (pc := 3) Xc (dT hX4_isTrue 2 rfl) (by omega) (by decide) (by decide) ?_
  refine e_val (y := nI v) (congrArg nI (by omega)) ?_
  refine e_istore_n (L' := [(2, .int (nI v)), (0, .int (nI ((w * 3 + h) * 100 + v))), (1, .int x)]) (pc := 4) Xc (dT hX4_isTrue 3 rfl) (by decide) rfl ?_
  refine e_iload_n (pc := 5) Xc (dT hX4_isTrue 4 rfl) 1 rfl ?_
  refine e_bipush (v := 100) (pc := 6) Xc (dT hX4_isTrue 5 rfl) rfl ?_
  refine e_idivN (a := (w * 3 + h) * 100 + v) (b := 100) (pc := 8) Xc (dT hX4_isTrue 6 rfl) (by omega) (by decide) (by decide) ?_
  refine e_iconst (v := 3) (pc := 9) Xc (dT hX4_isTrue 7 rfl) rfl ?_
  refine e_iremN (a := ((w * 3 + h) * 100 + v) / 100) (b := 3) (pc := 10) Xc (dT hX4_isTrue 8 rfl) (by omega) (by decide) (by decide) ?_
  refine e_val (y := nI h) (congrArg nI (by omega)) ?_
  
  
  
  have hcs : h = 0 ∨ h = 1 ∨ h = 2 := by omega
  rcases hcs with rfl | rfl | rfl
  · skip
    refine e_lookup (x := 0) (off := 25) (tgt := 36) (pc := 11) Xc (dT hX4_isTrue 9 rfl) (by decide) (by decide) rfl ?_
    refine e_iload_n (pc := 36) Xc (dT hX4_isTrue 10 rfl) 2 rfl ?_
    refine e_iload_n (pc := 37) Xc (dT hX4_isTrue 11 rfl) 0 rfl ?_
    refine e_icmp_ge (tgt := 45) (pc := 38) Xc (dT hX4_isTrue 12 rfl) rfl (fun c38 => ?_) (fun c38 => ?_)
    · skip
      refine e_iconst (v := 0) (pc := 45) Xc (dT hX4_isTrue 15 rfl) rfl ?_
      refine e_zret (pc := 46) Xc hQ (dT hX4_isTrue 16 rfl) (Nat.le_refl _) (Nat.le_refl _) (Or.inl rfl) ?_
      refine ⟨?_, rfl⟩
      simp only [← Int32.not_lt, tst, bI] at *
      simp_all
    · skip
      refine e_iconst (v := 1) (pc := 41) Xc (dT hX4_isTrue 13 rfl) rfl ?_
      refine e_goto (tgt := 46) (pc := 42) Xc (dT hX4_isTrue 14 rfl) rfl ?_
      refine e_zret (pc := 46) Xc hQ (dT hX4_isTrue 16 rfl) (Nat.le_refl _) (Nat.le_refl _) (Or.inr rfl) ?_
      refine ⟨?_, rfl⟩
      simp only [← Int32.not_lt, tst, bI] at *
      simp_all
  · skip
    refine e_lookup (x := 1) (off := 36) (tgt := 47) (pc := 11) Xc (dT hX4_isTrue 9 rfl) (by decide) (by decide) rfl ?_
    refine e_iload_n (pc := 47) Xc (dT hX4_isTrue 17 rfl) 2 rfl ?_
    refine e_iload_n (pc := 48) Xc (dT hX4_isTrue 18 rfl) 0 rfl ?_
    refine e_icmp_ne (tgt := 56) (pc := 49) Xc (dT hX4_isTrue 19 rfl) rfl (fun c49 => ?_) (fun c49 => ?_)
    · skip
      refine e_iconst (v := 0) (pc := 56) Xc (dT hX4_isTrue 22 rfl) rfl ?_
      refine e_zret (pc := 57) Xc hQ (dT hX4_isTrue 23 rfl) (Nat.le_refl _) (Nat.le_refl _) (Or.inl rfl) ?_
      refine ⟨?_, rfl⟩
      simp only [← Int32.not_lt, tst, bI] at *
      simp_all
    · skip
      refine e_iconst (v := 1) (pc := 52) Xc (dT hX4_isTrue 20 rfl) rfl ?_
      refine e_goto (tgt := 57) (pc := 53) Xc (dT hX4_isTrue 21 rfl) rfl ?_
      refine e_zret (pc := 57) Xc hQ (dT hX4_isTrue 23 rfl) (Nat.le_refl _) (Nat.le_refl _) (Or.inr rfl) ?_
      refine ⟨?_, rfl⟩
      simp only [← Int32.not_lt, tst, bI] at *
      simp_all
  · skip
    refine e_lookup (x := 2) (off := 47) (tgt := 58) (pc := 11) Xc (dT hX4_isTrue 9 rfl) (by decide) (by decide) rfl ?_
    refine e_iload_n (pc := 58) Xc (dT hX4_isTrue 24 rfl) 2 rfl ?_
    refine e_iload_n (pc := 59) Xc (dT hX4_isTrue 25 rfl) 0 rfl ?_
    refine e_icmp_le (tgt := 67) (pc := 60) Xc (dT hX4_isTrue 26 rfl) rfl (fun c60 => ?_) (fun c60 => ?_)
    · skip
      refine e_iconst (v := 0) (pc := 67) Xc (dT hX4_isTrue 29 rfl) rfl ?_
      refine e_zret (pc := 68) Xc hQ (dT hX4_isTrue 30 rfl) (Nat.le_refl _) (Nat.le_refl _) (Or.inl rfl) ?_
      refine ⟨?_, rfl⟩
      simp only [← Int32.not_lt, tst, bI] at *
      simp_all
    · skip
      refine e_iconst (v := 1) (pc := 63) Xc (dT hX4_isTrue 27 rfl) rfl ?_
      refine e_goto (tgt := 68) (pc := 64) Xc (dT hX4_isTrue 28 rfl) rfl ?_
      refine e_zret (pc := 68) Xc hQ (dT hX4_isTrue 30 rfl) (Nat.le_refl _) (Nat.le_refl _) (Or.inr rfl) ?_
      refine ⟨?_, rfl⟩
      simp only [← Int32.not_lt, tst, bI] at *
      simp_all
set_option maxRecDepth 100000 in
set_option maxHeartbeats 4000000 in
theorem c_holds {G : xG} {σ : xS} {tw o i : Nat} {F : Nat → Int32} {T : Nat → Nat} {A : Nat → Nat → Int32} {su : Nat → Int32} (hP : PX4 σ tw F T A) (he : σ.2 (o, i) = some (.inl (0, 6, su))) (l : List xI) (pre : Nat) (hl : l.all okI = true) (hd : depI l 0 = some 1) (hlen : pre + l.length ≤ 100) (hc : ∀ k, k < l.length → A 1 (pre + k) = encC (l.getD k (.inr 0))) : CI G yX4_holds cX4_holds 7 (some .boolean) 1 0 0 [.ref tw, .int (nI pre), .int (nI (pre + l.length)), .ref (o + i)] σ (fun z σ1 => z = bI (evI su l) ∧ σ1 = σ) := by
  refine Met.ofX (by decide +kernel) (Nat.le_of_ble_eq_true rfl) (fun μ Xc hQ hnm => ?_)
  have Xc : xC G μ cX4_holds 7 RX4 (some .boolean) 1 0 0 := Xc
  have lp6 : ∀ (n6 : Nat) (k : Nat) (s : List Bool), l.length - k < n6 → (k ≤ l.length) → (s = (l.take k).foldl (fun s i => stI su i s) []) → (depI (l.drop k) s.length = some 1) → (s.length ≤ 30) → Ev G μ 7 0 0 6 [(0, .ref tw), (1, .int (nI pre)), (2, .int (nI (pre + l.length))), (3, .ref (o + i)), (4, .int (nI (encS s))), (5, .int (nI (pre + k)))] [] σ := by
    intro n6
    induction n6 with
    | zero => intro k s hn; exact absurd hn (Nat.not_lt_zero _)
    | succ n6 ih6 =>
      intro k s hn6 hk hs hdp hsl
      refine e_iload (pc := 6) Xc (dT hX4_holds 4 rfl) 5 rfl ?_
      refine e_iload_n (pc := 8) Xc (dT hX4_holds 5 rfl) 2 rfl ?_
      refine e_icmp_geN (x := pre + k) (y := pre + l.length) (tgt := 117) (pc := 9) Xc (dT hX4_holds 6 rfl) rfl (by omega) (by omega) (fun c9 => ?_) (fun c9 => ?_)
      · skip
        refine e_iload (pc := 117) Xc (dT hX4_holds 62 rfl) 4 rfl ?_
        refine e_iconst (v := 1) (pc := 119) Xc (dT hX4_holds 63 rfl) rfl ?_
        refine e_iand (pc := 120) Xc (dT hX4_holds 64 rfl) ?_
        refine e_if_eq (tgt := 128) (pc := 121) Xc (dT hX4_holds 65 rfl) rfl (fun c121 => ?_) (fun c121 => ?_)
        · skip
          refine e_iconst (v := 0) (pc := 128) Xc (dT hX4_holds 68 rfl) rfl ?_
          refine e_zret (pc := 129) Xc hQ (dT hX4_holds 69 rfl) (Nat.le_refl _) (Nat.le_refl _) (Or.inl rfl) ?_
          have hke : k = l.length := by omega
          subst hke
          rw [List.take_length] at hs
          have hd1 : s.length = 1 := by rw [List.drop_length, depI] at hdp; exact Option.some.inj hdp
          obtain ⟨a, rfl⟩ : ∃ a, s = [a] := by
            match s, hd1 with
            | [a], _ => exact ⟨a, rfl⟩
          refine ⟨?_, rfl⟩
          have hev : evI su l = a := by rw [evI, ← hs]; rfl
          rw [hev]
          have e : nI (encS [a]) &&& 1 = bI a := by cases a <;> decide
          rw [e] at c121
          simp only [bI_0] at c121
          cases a <;> simp_all [bI]
        · skip
          refine e_iconst (v := 1) (pc := 124) Xc (dT hX4_holds 66 rfl) rfl ?_
          refine e_goto (tgt := 129) (pc := 125) Xc (dT hX4_holds 67 rfl) rfl ?_
          refine e_zret (pc := 129) Xc hQ (dT hX4_holds 69 rfl) (Nat.le_refl _) (Nat.le_refl _) (Or.inr rfl) ?_
          have hke : k = l.length := by omega
          subst hke
          rw [List.take_length] at hs
          have hd1 : s.length = 1 := by rw [List.drop_length, depI] at hdp; exact Option.some.inj hdp
          obtain ⟨a, rfl⟩ : ∃ a, s = [a] := by
            match s, hd1 with
            | [a], _ => exact ⟨a, rfl⟩
          refine ⟨?_, rfl⟩
          have hev : evI su l = a := by rw [evI, ← hs]; rfl
          rw [hev]
          have e : nI (encS [a]) &&& 1 = bI a := by cases a <;> decide
          rw [e] at c121
          simp only [bI_0] at c121
          cases a <;> simp_all [bI]
      · skip
        refine e_aload_n (pc := 12) Xc (dT hX4_holds 7 rfl) 0 rfl ?_
        refine gf_X4_9 (pc := 13) Xc (dT hX4_holds 8 rfl) hP.o rfl ?_
        refine e_iload (pc := 16) Xc (dT hX4_holds 9 rfl) 5 rfl ?_
        refine cl_X4_38 (pc := 18) (k := 0) (n := 0) (S := []) Xc (c_get hP.a1 (by decide) (by decide) (pre + k) (by omega)) (dT hX4_holds 10 rfl) rfl (Nat.le_of_ble_eq_true rfl) (Nat.le_of_ble_eq_true rfl) (Nat.le_of_ble_eq_true rfl) rfl (Nat.le_of_ble_eq_true rfl) (fun r1 σ2 hq3 => ?_)
        obtain ⟨r1e, r1s⟩ := hq3
        have r1e := r1e.symm; subst r1e; have r1s := r1s.symm; subst r1s
        have hkl : k < l.length := by omega
        obtain ⟨it, rest, hdr⟩ := drop_ex hkl
        obtain ⟨hdr1, htk, hget⟩ := drop1 hdr
        have hit : l.getD k (.inr 0) = it := by rw [List.getD_eq_getElem?_getD, hget]; rfl
        have hok : okI it = true := List.all_eq_true.mp hl it (List.mem_of_getElem? hget)
        have hcv := hc k hkl
        rw [hit] at hcv
        rw [hdr] at hdp
        have hnx : (l.take (k + 1)).foldl (fun s i => stI su i s) [] = stI su it s := by rw [htk, List.foldl_append, ← hs]; rfl
        rcases it with ⟨w, h, v⟩ | kk
        · skip
          obtain ⟨hd30, hdp'⟩ := dep_test hdp
          simp only [okI, Bool.and_eq_true, decide_eq_true_eq] at hok
          obtain ⟨hw, hh, hv⟩ := hok
          refine e_val (y := nI ((w * 3 + h) * 100 + v)) hcv ?_
          refine e_istore (L' := [(6, .int (nI ((w * 3 + h) * 100 + v))), (0, .ref tw), (1, .int (nI pre)), (2, .int (nI (pre + l.length))), (3, .ref (o + i)), (4, .int (nI (encS s))), (5, .int (nI (pre + k)))]) (pc := 21) Xc (dT hX4_holds 11 rfl) (by decide) rfl ?_
          refine e_iload (pc := 23) Xc (dT hX4_holds 12 rfl) 0 rfl ?_
          refine e_iconst (v := -1) (pc := 25) Xc (dT hX4_holds 13 rfl) rfl ?_
          refine e_icmp_ne (tgt := 38) (pc := 26) Xc (dT hX4_holds 14 rfl) rfl (fun c26 => ?_) (fun c26 => ?_)
          · skip
            refine e_iload (pc := 38) Xc (dT hX4_holds 20 rfl) 0 rfl ?_
            refine e_bipush (v := -2) (pc := 40) Xc (dT hX4_holds 21 rfl) rfl ?_
            refine e_icmp_ne (tgt := 60) (pc := 42) Xc (dT hX4_holds 22 rfl) rfl (fun c42 => ?_) (fun c42 => ?_)
            · skip
              refine e_iload (pc := 60) Xc (dT hX4_holds 32 rfl) 0 rfl ?_
              refine e_bipush (v := -3) (pc := 62) Xc (dT hX4_holds 33 rfl) rfl ?_
              refine e_icmp_ne (tgt := 81) (pc := 64) Xc (dT hX4_holds 34 rfl) rfl (fun c64 => ?_) (fun c64 => ?_)
              · skip
                refine e_iload (pc := 81) Xc (dT hX4_holds 44 rfl) 5 rfl ?_
                refine e_iconst (v := 1) (pc := 83) Xc (dT hX4_holds 45 rfl) rfl ?_
                refine e_ishl (pc := 84) Xc (dT hX4_holds 46 rfl) ?_
                refine e_iload (pc := 85) Xc (dT hX4_holds 47 rfl) 0 rfl ?_
                refine e_aload_n (pc := 87) Xc (dT hX4_holds 48 rfl) 4 rfl ?_
                refine e_iload (pc := 88) Xc (dT hX4_holds 49 rfl) 0 rfl ?_
                refine e_sipush (v := 300) (pc := 90) Xc (dT hX4_holds 50 rfl) rfl ?_
                refine e_idivN (a := (w * 3 + h) * 100 + v) (b := 300) (pc := 93) Xc (dT hX4_holds 51 rfl) (by omega) (by decide) (by decide) ?_
                refine e_val (y := nI w) (congrArg nI (by omega)) ?_
                refine cl_X4_38 (pc := 94) (k := 0) (n := 0) (S := [.int (nI ((w * 3 + h) * 100 + v)), .int ((nI (encS s)) <<< (1 &&& 31))]) Xc (c_get he (by decide) (by decide) w (by omega)) (dT hX4_holds 52 rfl) rfl (Nat.le_of_ble_eq_true rfl) (Nat.le_of_ble_eq_true rfl) (Nat.le_of_ble_eq_true rfl) rfl (Nat.le_of_ble_eq_true rfl) (fun r4 σ5 hq6 => ?_)
                obtain ⟨r4e, r4s⟩ := hq6
                have r4e := r4e.symm; subst r4e; have r4s := r4s.symm; subst r4s
                refine cl_X4_46 (pc := 97) (k := 0) (n := 0) (S := [.int ((nI (encS s)) <<< (1 &&& 31))]) Xc (c_isTrue w h v hw hh hv (su w)) (dT hX4_holds 53 rfl) rfl (Nat.le_of_ble_eq_true rfl) (Nat.le_of_ble_eq_true rfl) (Nat.le_of_ble_eq_true rfl) rfl (Nat.le_of_ble_eq_true rfl) (fun r7 σ8 hq9 => ?_)
                obtain ⟨r7e, r7s⟩ := hq9
                have r7e := r7e.symm; subst r7e; have r7s := r7s.symm; subst r7s
                refine e_if_eq (tgt := 107) (pc := 100) Xc (dT hX4_holds 54 rfl) rfl (fun c100 => ?_) (fun c100 => ?_)
                · skip
                  refine e_iconst (v := 0) (pc := 107) Xc (dT hX4_holds 57 rfl) rfl ?_
                  refine e_ior (pc := 108) Xc (dT hX4_holds 58 rfl) ?_
                  refine e_val (y := nI (encS (false :: s))) (psh_enc false s) ?_
                  refine e_istore (L' := [(4, .int (nI (encS (false :: s)))), (6, .int (nI ((w * 3 + h) * 100 + v))), (0, .ref tw), (1, .int (nI pre)), (2, .int (nI (pre + l.length))), (3, .ref (o + i)), (5, .int (nI (pre + k)))]) (pc := 109) Xc (dT hX4_holds 59 rfl) (by decide) rfl ?_
                  refine e_iincN (a := pre + k) (b := 1) (L' := [(5, .int (nI ((pre + k) + 1))), (4, .int (nI (encS (false :: s)))), (6, .int (nI ((w * 3 + h) * 100 + v))), (0, .ref tw), (1, .int (nI pre)), (2, .int (nI (pre + l.length))), (3, .ref (o + i))]) (pc := 111) Xc (dT hX4_holds 60 rfl) 6 rfl rfl (by decide) rfl ?_
                  refine e_goto (tgt := 6) (pc := 114) Xc (dT hX4_holds 61 rfl) rfl ?_
                  refine Ev.pick (L' := [(0, .ref tw), (1, .int (nI pre)), (2, .int (nI (pre + l.length))), (3, .ref (o + i)), (4, .int (nI (encS (false :: s)))), (5, .int (nI ((pre + k) + 1)))]) [3, 4, 5, 6, 1, 0] rfl ?_
                  exact ih6 (k + 1) (false :: s) (by omega) (by omega) (by rw [hnx]; symm; exact (by show tst (su w) h v :: s = false :: s; simp only [bI_0, Bool.not_eq_false] at c100; rw [c100])) (by rw [hdr1]; exact hdp') (by simp only [List.length_cons]; omega)
                · skip
                  refine e_iconst (v := 1) (pc := 103) Xc (dT hX4_holds 55 rfl) rfl ?_
                  refine e_goto (tgt := 108) (pc := 104) Xc (dT hX4_holds 56 rfl) rfl ?_
                  refine e_ior (pc := 108) Xc (dT hX4_holds 58 rfl) ?_
                  refine e_val (y := nI (encS (true :: s))) (psh_enc true s) ?_
                  refine e_istore (L' := [(4, .int (nI (encS (true :: s)))), (6, .int (nI ((w * 3 + h) * 100 + v))), (0, .ref tw), (1, .int (nI pre)), (2, .int (nI (pre + l.length))), (3, .ref (o + i)), (5, .int (nI (pre + k)))]) (pc := 109) Xc (dT hX4_holds 59 rfl) (by decide) rfl ?_
                  refine e_iincN (a := pre + k) (b := 1) (L' := [(5, .int (nI ((pre + k) + 1))), (4, .int (nI (encS (true :: s)))), (6, .int (nI ((w * 3 + h) * 100 + v))), (0, .ref tw), (1, .int (nI pre)), (2, .int (nI (pre + l.length))), (3, .ref (o + i))]) (pc := 111) Xc (dT hX4_holds 60 rfl) 6 rfl rfl (by decide) rfl ?_
                  refine e_goto (tgt := 6) (pc := 114) Xc (dT hX4_holds 61 rfl) rfl ?_
                  refine Ev.pick (L' := [(0, .ref tw), (1, .int (nI pre)), (2, .int (nI (pre + l.length))), (3, .ref (o + i)), (4, .int (nI (encS (true :: s)))), (5, .int (nI ((pre + k) + 1)))]) [3, 4, 5, 6, 1, 0] rfl ?_
                  exact ih6 (k + 1) (true :: s) (by omega) (by omega) (by rw [hnx]; symm; exact (by show tst (su w) h v :: s = true :: s; simp only [bI_0, Bool.not_eq_false] at c100; rw [c100])) (by rw [hdr1]; exact hdp') (by simp only [List.length_cons]; omega)
              · skip
                exact absurd c64 (nI_nneg (by omega) (by decide))
            · skip
              exact absurd c42 (nI_nneg (by omega) (by decide))
          · skip
            exact absurd c26 (nI_nm1 (by omega))
        · skip
          have hkk : kk = 0 ∨ kk = 1 ∨ kk = 2 := by simp only [okI, decide_eq_true_eq] at hok; omega
          rcases hkk with rfl | rfl | rfl
          · skip
            obtain ⟨d', hde, hdp'⟩ := dep_not hdp
            obtain ⟨a, s, rfl⟩ : ∃ a s', s = a :: s' := by
              cases s with
              | nil => simp at hde
              | cons a s => exact ⟨a, s, rfl⟩
            refine e_val (y := (-1)) hcv ?_
            refine e_istore (L' := [(6, .int (-1)), (0, .ref tw), (1, .int (nI pre)), (2, .int (nI (pre + l.length))), (3, .ref (o + i)), (4, .int (nI (encS (a :: s)))), (5, .int (nI (pre + k)))]) (pc := 21) Xc (dT hX4_holds 11 rfl) (by decide) rfl ?_
            refine e_iload (pc := 23) Xc (dT hX4_holds 12 rfl) 0 rfl ?_
            refine e_iconst (v := -1) (pc := 25) Xc (dT hX4_holds 13 rfl) rfl ?_
            refine e_icmp_ne (tgt := 38) (pc := 26) Xc (dT hX4_holds 14 rfl) rfl (fun c26 => ?_) (fun c26 => ?_)
            · skip
              exact absurd c26 (by decide)
            · skip
              refine e_iload (pc := 29) Xc (dT hX4_holds 15 rfl) 5 rfl ?_
              refine e_iconst (v := 1) (pc := 31) Xc (dT hX4_holds 16 rfl) rfl ?_
              refine e_ixor (pc := 32) Xc (dT hX4_holds 17 rfl) ?_
              refine e_val (y := nI (encS ((!a) :: s))) (xor_enc a s) ?_
              refine e_istore (L' := [(4, .int (nI (encS ((!a) :: s)))), (6, .int (-1)), (0, .ref tw), (1, .int (nI pre)), (2, .int (nI (pre + l.length))), (3, .ref (o + i)), (5, .int (nI (pre + k)))]) (pc := 33) Xc (dT hX4_holds 18 rfl) (by decide) rfl ?_
              refine e_goto (tgt := 111) (pc := 35) Xc (dT hX4_holds 19 rfl) rfl ?_
              refine e_iincN (a := pre + k) (b := 1) (L' := [(5, .int (nI ((pre + k) + 1))), (4, .int (nI (encS ((!a) :: s)))), (6, .int (-1)), (0, .ref tw), (1, .int (nI pre)), (2, .int (nI (pre + l.length))), (3, .ref (o + i))]) (pc := 111) Xc (dT hX4_holds 60 rfl) 6 rfl rfl (by decide) rfl ?_
              refine e_goto (tgt := 6) (pc := 114) Xc (dT hX4_holds 61 rfl) rfl ?_
              refine Ev.pick (L' := [(0, .ref tw), (1, .int (nI pre)), (2, .int (nI (pre + l.length))), (3, .ref (o + i)), (4, .int (nI (encS ((!a) :: s)))), (5, .int (nI ((pre + k) + 1)))]) [3, 4, 5, 6, 1, 0] rfl ?_
              exact ih6 (k + 1) ((!a) :: s) (by omega) (by omega) (by rw [hnx]; symm; exact rfl) (by rw [hdr1]; have e : s.length = d' := (by simp only [List.length_cons] at hde; omega); simp only [List.length_cons]; rw [e]; exact hdp') (by simp only [List.length_cons] at hsl ⊢; omega)
          · skip
            obtain ⟨d', hde, hdp'⟩ := dep_bin hdp
            obtain ⟨b, a, s, rfl⟩ : ∃ b a s', s = b :: a :: s' := by
              match s, hde with
              | [], hde => simp at hde
              | [_], hde => simp at hde
              | b :: a :: s, _ => exact ⟨b, a, s, rfl⟩
            have hsl2 : s.length ≤ 28 := by simp only [List.length_cons] at hsl; omega
            refine e_val (y := (-2)) hcv ?_
            refine e_istore (L' := [(6, .int (-2)), (0, .ref tw), (1, .int (nI pre)), (2, .int (nI (pre + l.length))), (3, .ref (o + i)), (4, .int (nI (encS (b :: a :: s)))), (5, .int (nI (pre + k)))]) (pc := 21) Xc (dT hX4_holds 11 rfl) (by decide) rfl ?_
            refine e_iload (pc := 23) Xc (dT hX4_holds 12 rfl) 0 rfl ?_
            refine e_iconst (v := -1) (pc := 25) Xc (dT hX4_holds 13 rfl) rfl ?_
            refine e_icmp_ne (tgt := 38) (pc := 26) Xc (dT hX4_holds 14 rfl) rfl (fun c26 => ?_) (fun c26 => ?_)
            · skip
              refine e_iload (pc := 38) Xc (dT hX4_holds 20 rfl) 0 rfl ?_
              refine e_bipush (v := -2) (pc := 40) Xc (dT hX4_holds 21 rfl) rfl ?_
              refine e_icmp_ne (tgt := 60) (pc := 42) Xc (dT hX4_holds 22 rfl) rfl (fun c42 => ?_) (fun c42 => ?_)
              · skip
                exact absurd c42 (by decide)
              · skip
                refine e_iload (pc := 45) Xc (dT hX4_holds 23 rfl) 5 rfl ?_
                refine e_iconst (v := 1) (pc := 47) Xc (dT hX4_holds 24 rfl) rfl ?_
                refine e_ishr (pc := 48) Xc (dT hX4_holds 25 rfl) ?_
                refine e_iload (pc := 49) Xc (dT hX4_holds 26 rfl) 5 rfl ?_
                refine e_bipush (v := -2) (pc := 51) Xc (dT hX4_holds 27 rfl) rfl ?_
                refine e_ior (pc := 53) Xc (dT hX4_holds 28 rfl) ?_
                refine e_iand (pc := 54) Xc (dT hX4_holds 29 rfl) ?_
                refine e_val (y := nI (encS ((a && b) :: s))) (and_enc b a s hsl2) ?_
                refine e_istore (L' := [(4, .int (nI (encS ((a && b) :: s)))), (6, .int (-2)), (0, .ref tw), (1, .int (nI pre)), (2, .int (nI (pre + l.length))), (3, .ref (o + i)), (5, .int (nI (pre + k)))]) (pc := 55) Xc (dT hX4_holds 30 rfl) (by decide) rfl ?_
                refine e_goto (tgt := 111) (pc := 57) Xc (dT hX4_holds 31 rfl) rfl ?_
                refine e_iincN (a := pre + k) (b := 1) (L' := [(5, .int (nI ((pre + k) + 1))), (4, .int (nI (encS ((a && b) :: s)))), (6, .int (-2)), (0, .ref tw), (1, .int (nI pre)), (2, .int (nI (pre + l.length))), (3, .ref (o + i))]) (pc := 111) Xc (dT hX4_holds 60 rfl) 6 rfl rfl (by decide) rfl ?_
                refine e_goto (tgt := 6) (pc := 114) Xc (dT hX4_holds 61 rfl) rfl ?_
                refine Ev.pick (L' := [(0, .ref tw), (1, .int (nI pre)), (2, .int (nI (pre + l.length))), (3, .ref (o + i)), (4, .int (nI (encS ((a && b) :: s)))), (5, .int (nI ((pre + k) + 1)))]) [3, 4, 5, 6, 1, 0] rfl ?_
                exact ih6 (k + 1) ((a && b) :: s) (by omega) (by omega) (by rw [hnx]; symm; exact rfl) (by rw [hdr1]; have e : s.length = d' := (by simp only [List.length_cons] at hde; omega); simp only [List.length_cons]; rw [e]; exact hdp') (by simp only [List.length_cons] at hsl ⊢; omega)
            · skip
              exact absurd c26 (by decide)
          · skip
            obtain ⟨d', hde, hdp'⟩ := dep_bin hdp
            obtain ⟨b, a, s, rfl⟩ : ∃ b a s', s = b :: a :: s' := by
              match s, hde with
              | [], hde => simp at hde
              | [_], hde => simp at hde
              | b :: a :: s, _ => exact ⟨b, a, s, rfl⟩
            have hsl2 : s.length ≤ 28 := by simp only [List.length_cons] at hsl; omega
            refine e_val (y := (-3)) hcv ?_
            refine e_istore (L' := [(6, .int (-3)), (0, .ref tw), (1, .int (nI pre)), (2, .int (nI (pre + l.length))), (3, .ref (o + i)), (4, .int (nI (encS (b :: a :: s)))), (5, .int (nI (pre + k)))]) (pc := 21) Xc (dT hX4_holds 11 rfl) (by decide) rfl ?_
            refine e_iload (pc := 23) Xc (dT hX4_holds 12 rfl) 0 rfl ?_
            refine e_iconst (v := -1) (pc := 25) Xc (dT hX4_holds 13 rfl) rfl ?_
            refine e_icmp_ne (tgt := 38) (pc := 26) Xc (dT hX4_holds 14 rfl) rfl (fun c26 => ?_) (fun c26 => ?_)
            · skip
              refine e_iload (pc := 38) Xc (dT hX4_holds 20 rfl) 0 rfl ?_
              refine e_bipush (v := -2) (pc := 40) Xc (dT hX4_holds 21 rfl) rfl ?_
              refine e_icmp_ne (tgt := 60) (pc := 42) Xc (dT hX4_holds 22 rfl) rfl (fun c42 => ?_) (fun c42 => ?_)
              · skip
                refine e_iload (pc := 60) Xc (dT hX4_holds 32 rfl) 0 rfl ?_
                refine e_bipush (v := -3) (pc := 62) Xc (dT hX4_holds 33 rfl) rfl ?_
                refine e_icmp_ne (tgt := 81) (pc := 64) Xc (dT hX4_holds 34 rfl) rfl (fun c64 => ?_) (fun c64 => ?_)
                · skip
                  exact absurd c64 (by decide)
                · skip
                  refine e_iload (pc := 67) Xc (dT hX4_holds 35 rfl) 5 rfl ?_
                  refine e_iconst (v := 1) (pc := 69) Xc (dT hX4_holds 36 rfl) rfl ?_
                  refine e_ishr (pc := 70) Xc (dT hX4_holds 37 rfl) ?_
                  refine e_iload (pc := 71) Xc (dT hX4_holds 38 rfl) 5 rfl ?_
                  refine e_iconst (v := 1) (pc := 73) Xc (dT hX4_holds 39 rfl) rfl ?_
                  refine e_iand (pc := 74) Xc (dT hX4_holds 40 rfl) ?_
                  refine e_ior (pc := 75) Xc (dT hX4_holds 41 rfl) ?_
                  refine e_val (y := nI (encS ((a || b) :: s))) (or_enc b a s hsl2) ?_
                  refine e_istore (L' := [(4, .int (nI (encS ((a || b) :: s)))), (6, .int (-3)), (0, .ref tw), (1, .int (nI pre)), (2, .int (nI (pre + l.length))), (3, .ref (o + i)), (5, .int (nI (pre + k)))]) (pc := 76) Xc (dT hX4_holds 42 rfl) (by decide) rfl ?_
                  refine e_goto (tgt := 111) (pc := 78) Xc (dT hX4_holds 43 rfl) rfl ?_
                  refine e_iincN (a := pre + k) (b := 1) (L' := [(5, .int (nI ((pre + k) + 1))), (4, .int (nI (encS ((a || b) :: s)))), (6, .int (-3)), (0, .ref tw), (1, .int (nI pre)), (2, .int (nI (pre + l.length))), (3, .ref (o + i))]) (pc := 111) Xc (dT hX4_holds 60 rfl) 6 rfl rfl (by decide) rfl ?_
                  refine e_goto (tgt := 6) (pc := 114) Xc (dT hX4_holds 61 rfl) rfl ?_
                  refine Ev.pick (L' := [(0, .ref tw), (1, .int (nI pre)), (2, .int (nI (pre + l.length))), (3, .ref (o + i)), (4, .int (nI (encS ((a || b) :: s)))), (5, .int (nI ((pre + k) + 1)))]) [3, 4, 5, 6, 1, 0] rfl ?_
                  exact ih6 (k + 1) ((a || b) :: s) (by omega) (by omega) (by rw [hnx]; symm; exact rfl) (by rw [hdr1]; have e : s.length = d' := (by simp only [List.length_cons] at hde; omega); simp only [List.length_cons]; rw [e]; exact hdp') (by simp only [List.length_cons] at hsl ⊢; omega)
              · skip
                exact absurd c42 (by decide)
            · skip
              exact absurd c26 (by decide)
  show Ev G μ 7 0 0 0 [(0, .ref tw), (1, .int (nI pre)), (2, .int (nI (pre + l.length))), (3, .ref (o + i))] [] σ
  refine e_iconst (v := 0) (pc := 0) Xc (dT hX4_holds 0 rfl) rfl ?_
  refine e_istore (L' := [(4, .int 0), (0, .ref tw), (1, .int (nI pre)), (2, .int (nI (pre + l.length))), (3, .ref (o + i))]) (pc := 1) Xc (dT hX4_holds 1 rfl) (by decide) rfl ?_
  refine e_iload_n (pc := 3) Xc (dT hX4_holds 2 rfl) 2 rfl ?_
  refine e_istore (L' := [(5, .int (nI pre)), (4, .int 0), (0, .ref tw), (1, .int (nI pre)), (2, .int (nI (pre + l.length))), (3, .ref (o + i))]) (pc := 4) Xc (dT hX4_holds 3 rfl) (by decide) rfl ?_
  refine Ev.pick (L' := [(0, .ref tw), (1, .int (nI pre)), (2, .int (nI (pre + l.length))), (3, .ref (o + i)), (4, .int 0), (5, .int (nI pre))]) [2, 3, 4, 5, 1, 0] rfl ?_
  exact lp6 ((l.length - 0) + 1) 0 ([]) (Nat.lt_succ_self _) (Nat.zero_le _) rfl hd (Nat.zero_le _)
set_option maxRecDepth 100000 in
set_option maxHeartbeats 4000000 in
theorem c_plainOf {G : xG} {σ : xS} {tw o i : Nat} {t : xT} {su : Nat → Int32} (hTw : TW σ tw t) (he : σ.2 (o, i) = some (.inl (0, 6, su))) : CI G yX4_plainOf cX4_plainOf 6 (some .int) 2 0 0 [.ref tw, .ref (o + i)] σ (fun z σ1 => z = plT t su ∧ σ1 = σ) := by
  refine Met.ofX (by decide +kernel) (Nat.le_of_ble_eq_true rfl) (fun μ Xc hQ hnm => ?_)
  have Xc : xC G μ cX4_plainOf 6 RX4 (some .int) 2 0 0 := Xc
  obtain ⟨F, T, A, hTP, hTc⟩ := id hTw
  have hl10 := hTc.2.2.2.1
  have hl100 := hTc.2.2.2.2.2.1
  have lp7 : ∀ (n7 : Nat) (c : Nat) (ac : Int32), t.2.2.length - c < n7 → (c ≤ t.2.2.length) → (ac = (t.2.2.take c).foldl (fun a f => if evI su f.1 then a + wor f else a) 0) → Ev G μ 6 0 0 7 [(0, .ref tw), (1, .ref (o + i)), (2, .int ac), (3, .int (nI (((t.2.2.take c).flatMap flC).length))), (4, .int (nI c))] [] σ := by
    intro n7
    induction n7 with
    | zero => intro c ac hn; exact absurd hn (Nat.not_lt_zero _)
    | succ n7 ih7 =>
      intro c ac hn7 hc ha
      refine e_iload (pc := 7) Xc (dT hX4_plainOf 6 rfl) 4 rfl ?_
      refine e_aload_n (pc := 9) Xc (dT hX4_plainOf 7 rfl) 0 rfl ?_
      refine gf_X4_25 (pc := 10) Xc (dT hX4_plainOf 8 rfl) hTP.o rfl ?_
      refine e_val (y := nI t.2.2.length) hTc.2.2.2.2.1 ?_
      refine e_icmp_geN (x := c) (y := t.2.2.length) (tgt := 59) (pc := 13) Xc (dT hX4_plainOf 9 rfl) rfl (by omega) (by omega) (fun c13 => ?_) (fun c13 => ?_)
      · skip
        refine e_iload_n (pc := 59) Xc (dT hX4_plainOf 32 rfl) 2 rfl ?_
        refine e_iret (pc := 60) Xc hQ (dT hX4_plainOf 33 rfl) (Nat.le_refl _) (Nat.le_refl _) ?_
        refine ⟨?_, rfl⟩
        have hce : c = t.2.2.length := by omega
        subst hce
        rw [List.take_length] at ha
        exact ha
      · skip
        refine e_aload_n (pc := 16) Xc (dT hX4_plainOf 10 rfl) 0 rfl ?_
        refine gf_X4_18 (pc := 17) Xc (dT hX4_plainOf 11 rfl) hTP.o rfl ?_
        refine e_iload (pc := 20) Xc (dT hX4_plainOf 12 rfl) 4 rfl ?_
        refine cl_X4_38 (pc := 22) (k := 0) (n := 0) (S := []) Xc (c_get hTP.a3 (by decide) (by decide) c (by omega)) (dT hX4_plainOf 13 rfl) rfl (Nat.le_of_ble_eq_true rfl) (Nat.le_of_ble_eq_true rfl) (Nat.le_of_ble_eq_true rfl) rfl (Nat.le_of_ble_eq_true rfl) (fun r1 σ2 hq3 => ?_)
        obtain ⟨r1e, r1s⟩ := hq3
        have r1e := r1e.symm; subst r1e; have r1s := r1s.symm; subst r1s
        have hcl : c < t.2.2.length := by omega
        obtain ⟨f, rest, hdr⟩ := drop_ex hcl
        obtain ⟨hs1, hs2, hs3⟩ := seg hdr
        obtain ⟨hdr1, htk, hget⟩ := drop1 hdr
        have hmem : f ∈ t.2.2 := List.mem_of_getElem? hget
        obtain ⟨hf1, hf2, hf3⟩ := hTc.2.2.1 f hmem
        have hfd : t.2.2.getD c ([], true, 0) = f := by rw [List.getD_eq_getElem?_getD, hget]; rfl
        have hwe := hTc.2.2.2.2.2.2.2.2 c hcl
        refine e_val (y := nI (((t.2.2.take c).flatMap flC).length + f.1.length)) (hwe.2.trans (congrArg nI hs1)) ?_
        refine e_istore (L' := [(5, .int (nI (((t.2.2.take c).flatMap flC).length + f.1.length))), (0, .ref tw), (1, .ref (o + i)), (2, .int ac), (3, .int (nI (((t.2.2.take c).flatMap flC).length))), (4, .int (nI c))]) (pc := 25) Xc (dT hX4_plainOf 14 rfl) (by decide) rfl ?_
        refine e_aload_n (pc := 27) Xc (dT hX4_plainOf 15 rfl) 1 rfl ?_
        refine e_iload_n (pc := 28) Xc (dT hX4_plainOf 16 rfl) 4 rfl ?_
        refine e_iload (pc := 29) Xc (dT hX4_plainOf 17 rfl) 0 rfl ?_
        refine e_aload_n (pc := 31) Xc (dT hX4_plainOf 18 rfl) 2 rfl ?_
        refine cl_X4_42 (pc := 32) (k := 0) (n := 0) (S := []) Xc hTP.o (c_holds hTP he f.1 ((t.2.2.take c).flatMap flC).length hf1 hf2 (by omega) (fun k hk => (hTc.2.2.2.2.2.2.2.1 _ (by omega)).trans (hs3 k hk))) (dT hX4_plainOf 19 rfl) rfl (Nat.le_of_ble_eq_true rfl) (Nat.le_of_ble_eq_true rfl) (Nat.le_of_ble_eq_true rfl) rfl (Nat.le_of_ble_eq_true rfl) (fun r4 σ5 hq6 => ?_)
        obtain ⟨r4e, r4s⟩ := hq6
        have r4e := r4e.symm; subst r4e; have r4s := r4s.symm; subst r4s
        refine e_if_eq (tgt := 50) (pc := 35) Xc (dT hX4_plainOf 20 rfl) rfl (fun c35 => ?_) (fun c35 => ?_)
        · skip
          refine e_iload (pc := 50) Xc (dT hX4_plainOf 28 rfl) 0 rfl ?_
          refine e_istore_n (L' := [(3, .int (nI (((t.2.2.take c).flatMap flC).length + f.1.length))), (5, .int (nI (((t.2.2.take c).flatMap flC).length + f.1.length))), (0, .ref tw), (1, .ref (o + i)), (2, .int ac), (4, .int (nI c))]) (pc := 52) Xc (dT hX4_plainOf 29 rfl) (by decide) rfl ?_
          refine e_iincN (a := c) (b := 1) (L' := [(4, .int (nI (c + 1))), (3, .int (nI (((t.2.2.take c).flatMap flC).length + f.1.length))), (5, .int (nI (((t.2.2.take c).flatMap flC).length + f.1.length))), (0, .ref tw), (1, .ref (o + i)), (2, .int ac)]) (pc := 53) Xc (dT hX4_plainOf 30 rfl) 5 rfl rfl (by decide) rfl ?_
          refine e_goto (tgt := 7) (pc := 56) Xc (dT hX4_plainOf 31 rfl) rfl ?_
          have hfr : nI (((t.2.2.take c).flatMap flC).length + f.1.length) = nI ((t.2.2.take (c + 1)).flatMap flC).length := congrArg nI hs1.symm
          rw [hfr]
          refine Ev.pick (L' := [(0, .ref tw), (1, .ref (o + i)), (2, .int ac), (3, .int (nI (((t.2.2.take (c + 1)).flatMap flC).length))), (4, .int (nI (c + 1)))]) [3, 4, 5, 1, 0] rfl ?_
          exact ih7 (c + 1) ac (by omega) (by omega) (by rw [htk, List.foldl_append, ← ha]; show _ = if evI su f.1 = true then ac + wor f else ac; simp only [bI_0, Bool.not_eq_false] at c35; rw [c35]; rfl)
        · skip
          refine e_iload_n (pc := 38) Xc (dT hX4_plainOf 21 rfl) 3 rfl ?_
          refine e_aload_n (pc := 39) Xc (dT hX4_plainOf 22 rfl) 1 rfl ?_
          refine gf_X4_15 (pc := 40) Xc (dT hX4_plainOf 23 rfl) hTP.o rfl ?_
          refine e_iload (pc := 43) Xc (dT hX4_plainOf 24 rfl) 5 rfl ?_
          refine cl_X4_38 (pc := 45) (k := 0) (n := 0) (S := [.int ac]) Xc (c_get hTP.a2 (by decide) (by decide) c (by omega)) (dT hX4_plainOf 25 rfl) rfl (Nat.le_of_ble_eq_true rfl) (Nat.le_of_ble_eq_true rfl) (Nat.le_of_ble_eq_true rfl) rfl (Nat.le_of_ble_eq_true rfl) (fun r7 σ8 hq9 => ?_)
          obtain ⟨r7e, r7s⟩ := hq9
          have r7e := r7e.symm; subst r7e; have r7s := r7s.symm; subst r7s
          refine e_iadd (pc := 48) Xc (dT hX4_plainOf 26 rfl) ?_
          refine e_istore_n (L' := [(2, .int (ac + (A 2 c))), (5, .int (nI (((t.2.2.take c).flatMap flC).length + f.1.length))), (0, .ref tw), (1, .ref (o + i)), (3, .int (nI (((t.2.2.take c).flatMap flC).length))), (4, .int (nI c))]) (pc := 49) Xc (dT hX4_plainOf 27 rfl) (by decide) rfl ?_
          refine e_iload (pc := 50) Xc (dT hX4_plainOf 28 rfl) 1 rfl ?_
          refine e_istore_n (L' := [(3, .int (nI (((t.2.2.take c).flatMap flC).length + f.1.length))), (2, .int (ac + (A 2 c))), (5, .int (nI (((t.2.2.take c).flatMap flC).length + f.1.length))), (0, .ref tw), (1, .ref (o + i)), (4, .int (nI c))]) (pc := 52) Xc (dT hX4_plainOf 29 rfl) (by decide) rfl ?_
          refine e_iincN (a := c) (b := 1) (L' := [(4, .int (nI (c + 1))), (3, .int (nI (((t.2.2.take c).flatMap flC).length + f.1.length))), (2, .int (ac + (A 2 c))), (5, .int (nI (((t.2.2.take c).flatMap flC).length + f.1.length))), (0, .ref tw), (1, .ref (o + i))]) (pc := 53) Xc (dT hX4_plainOf 30 rfl) 5 rfl rfl (by decide) rfl ?_
          refine e_goto (tgt := 7) (pc := 56) Xc (dT hX4_plainOf 31 rfl) rfl ?_
          have hfr : nI (((t.2.2.take c).flatMap flC).length + f.1.length) = nI ((t.2.2.take (c + 1)).flatMap flC).length := congrArg nI hs1.symm
          rw [hfr]
          refine Ev.pick (L' := [(0, .ref tw), (1, .ref (o + i)), (2, .int (ac + (A 2 c))), (3, .int (nI (((t.2.2.take (c + 1)).flatMap flC).length))), (4, .int (nI (c + 1)))]) [4, 5, 2, 1, 0] rfl ?_
          exact ih7 (c + 1) (ac + (A 2 c)) (by omega) (by omega) (by rw [htk, List.foldl_append, ← ha]; show _ = if evI su f.1 = true then ac + wor f else ac; simp only [bI_0, Bool.not_eq_false] at c35; rw [c35]; rw [if_pos rfl, ← hfd, ← hwe.1])
  show Ev G μ 6 0 0 0 [(0, .ref tw), (1, .ref (o + i))] [] σ
  refine e_iconst (v := 0) (pc := 0) Xc (dT hX4_plainOf 0 rfl) rfl ?_
  refine e_istore_n (L' := [(2, .int 0), (0, .ref tw), (1, .ref (o + i))]) (pc := 1) Xc (dT hX4_plainOf 1 rfl) (by decide) rfl ?_
  refine e_iconst (v := 0) (pc := 2) Xc (dT hX4_plainOf 2 rfl) rfl ?_
  refine e_istore_n (L' := [(3, .int 0), (2, .int 0), (0, .ref tw), (1, .ref (o + i))]) (pc := 3) Xc (dT hX4_plainOf 3 rfl) (by decide) rfl ?_
  refine e_iconst (v := 0) (pc := 4) Xc (dT hX4_plainOf 4 rfl) rfl ?_
  refine e_istore (L' := [(4, .int 0), (3, .int 0), (2, .int 0), (0, .ref tw), (1, .ref (o + i))]) (pc := 5) Xc (dT hX4_plainOf 5 rfl) (by decide) rfl ?_
  refine Ev.pick (L' := [(0, .ref tw), (1, .ref (o + i)), (2, .int 0), (3, .int 0), (4, .int 0)]) [3, 4, 2, 1, 0] rfl ?_
  exact lp7 ((t.2.2.length - 0) + 1) 0 0 (Nat.lt_succ_self _) (Nat.zero_le _) rfl
