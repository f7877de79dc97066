set_option maxRecDepth 100000 in
set_option maxHeartbeats 4000000 in
theorem c5_takeable {G : xG} {σ : xS} {w : Nat} {X : Nat → Int32} {nr nb : Nat} {t : xT} {F : Nat → Int32} {T : Nat → Nat} {A : Nat → Nat → Int32} {ln : Nat} (hB : WB σ w X nr nb t F T A ln) (r : Nat) (hr : r < nr) : CI G yX5_takeable cX5_takeable 4 (some .int) 3 0 0 [.ref w, .int (nI r)] σ (fun z σ1 => z = mayTakeF X nr nb r ∧ σ1 = σ) := by
  refine Met.ofX (by decide +kernel) (Nat.le_of_ble_eq_true rfl) (fun μ Xc hQ hnm => ?_)
  have Xc : xC G μ cX5_takeable 4 RX5 (some .int) 3 0 0 := Xc
  obtain ⟨hP, hW, hTw, hne, hG, hT⟩ := id hB
  have hr4 := hG.r4
  have hb7 := hG.b7
  have lp4 : ∀ (n : Nat) (b : Nat) (ac : Int32), nb - b < n → (b ≤ nb) → (ac = itr (fun b a => a ||| (if mayF X nr r b then 1 <<< (nI b &&& 31) else 0)) 0 b) → Ev G μ 4 0 0 4 [(0, .ref w), (1, .int (nI r)), (3, .int (nI b)), (2, .int ac)] [] σ := by
    intro n
    induction n with
    | zero => intro b ac hn; exact absurd hn (Nat.not_lt_zero _)
    | succ n ih =>
      intro b ac hn hb ha
      refine e_iload_n (pc := 4) Xc (dT hX5_takeable 4 rfl) 2 rfl ?_
      refine e_aload_n (pc := 5) Xc (dT hX5_takeable 5 rfl) 0 rfl ?_
      refine gf_X5_37 (pc := 6) Xc (dT hX5_takeable 6 rfl) hP.o rfl ?_
      refine e_val (y := nI nb) hW.2.2.2.2.2.1 ?_
      refine e_icmp_geN (x := b) (y := nb) (tgt := 33) (pc := 9) Xc (dT hX5_takeable 7 rfl) rfl (by omega) (by omega) (fun c9 => ?_) (fun c9 => ?_)
      · skip
        refine e_iload_n (pc := 33) Xc (dT hX5_takeable 21 rfl) 3 rfl ?_
        refine e_iret (pc := 34) Xc hQ (dT hX5_takeable 22 rfl) (Nat.le_refl _) (Nat.le_refl _) ?_
        refine ⟨?_, rfl⟩
        have hbe : b = nb := by omega
        subst hbe
        exact ha
      · skip
        refine e_aload_n (pc := 12) Xc (dT hX5_takeable 8 rfl) 0 rfl ?_
        refine e_iload_n (pc := 13) Xc (dT hX5_takeable 9 rfl) 1 rfl ?_
        refine e_iload_n (pc := 14) Xc (dT hX5_takeable 10 rfl) 2 rfl ?_
        refine cl_X5_99 (pc := 15) (k := 0) (n := 0) (S := []) Xc hP.o (c5_may hB r b (by omega) (by omega)) (dT hX5_takeable 11 rfl) rfl (Nat.le_of_ble_eq_true rfl) (Nat.le_of_ble_eq_true rfl) (Nat.le_of_ble_eq_true rfl) rfl (Nat.le_of_ble_eq_true rfl) (fun r1 σ2 hq3 => ?_)
        obtain ⟨r1e, r1s⟩ := hq3
        have r1e := r1e.symm; subst r1e; have r1s := r1s.symm; subst r1s
        refine e_if_eq (tgt := 27) (pc := 18) Xc (dT hX5_takeable 12 rfl) rfl (fun c18 => ?_) (fun c18 => ?_)
        · skip
          refine e_iincN (a := b) (b := 1) (L' := [(3, .int (nI (b + 1))), (0, .ref w), (1, .int (nI r)), (2, .int ac)]) (pc := 27) Xc (dT hX5_takeable 19 rfl) 2 rfl rfl (by decide) rfl ?_
          refine e_goto (tgt := 4) (pc := 30) Xc (dT hX5_takeable 20 rfl) rfl ?_
          refine Ev.pick (L' := [(0, .ref w), (1, .int (nI r)), (3, .int (nI (b + 1))), (2, .int ac)]) [1, 2, 0, 3] rfl ?_
          exact ih (b + 1) ac (by omega) (by omega) (by rw [itr, ← ha]; simp only [bI_0] at c18; simp [c18])
        · skip
          refine e_iload_n (pc := 21) Xc (dT hX5_takeable 13 rfl) 3 rfl ?_
          refine e_iconst (v := 1) (pc := 22) Xc (dT hX5_takeable 14 rfl) rfl ?_
          refine e_iload_n (pc := 23) Xc (dT hX5_takeable 15 rfl) 2 rfl ?_
          refine e_ishl (pc := 24) Xc (dT hX5_takeable 16 rfl) ?_
          refine e_ior (pc := 25) Xc (dT hX5_takeable 17 rfl) ?_
          refine e_istore_n (L' := [(2, .int (ac ||| (1 <<< ((nI b) &&& 31)))), (0, .ref w), (1, .int (nI r)), (3, .int (nI b))]) (pc := 26) Xc (dT hX5_takeable 18 rfl) (by decide) rfl ?_
          refine e_iincN (a := b) (b := 1) (L' := [(3, .int (nI (b + 1))), (2, .int (ac ||| (1 <<< ((nI b) &&& 31)))), (0, .ref w), (1, .int (nI r))]) (pc := 27) Xc (dT hX5_takeable 19 rfl) 3 rfl rfl (by decide) rfl ?_
          refine e_goto (tgt := 4) (pc := 30) Xc (dT hX5_takeable 20 rfl) rfl ?_
          refine Ev.pick (L' := [(0, .ref w), (1, .int (nI r)), (3, .int (nI (b + 1))), (2, .int (ac ||| (1 <<< ((nI b) &&& 31))))]) [2, 3, 0, 1] rfl ?_
          exact ih (b + 1) (ac ||| (1 <<< ((nI b) &&& 31))) (by omega) (by omega) (by rw [itr, ← ha]; simp only [bI_0] at c18; simp [c18])
  show Ev G μ 4 0 0 0 [(0, .ref w), (1, .int (nI r))] [] σ
  refine e_iconst (v := 0) (pc := 0) Xc (dT hX5_takeable 0 rfl) rfl ?_
  refine e_istore_n (L' := [(2, .int 0), (0, .ref w), (1, .int (nI r))]) (pc := 1) Xc (dT hX5_takeable 1 rfl) (by decide) rfl ?_
  refine e_iconst (v := 0) (pc := 2) Xc (dT hX5_takeable 2 rfl) rfl ?_
  refine e_istore_n (L' := [(3, .int 0), (2, .int 0), (0, .ref w), (1, .int (nI r))]) (pc := 3) Xc (dT hX5_takeable 3 rfl) (by decide) rfl ?_
  refine Ev.pick (L' := [(0, .ref w), (1, .int (nI r)), (3, .int 0), (2, .int 0)]) [2, 3, 0, 1] rfl ?_
  exact lp4 ((nb - 0) + 1) 0 0 (Nat.lt_succ_self _) (Nat.zero_le _) rfl
set_option maxRecDepth 100000 in
set_option maxHeartbeats 4000000 in
theorem c5_liking {G : xG} {σ : xS} {w : Nat} {X : Nat → Int32} {nr nb : Nat} {t : xT} {F : Nat → Int32} {T : Nat → Nat} {A : Nat → Nat → Int32} {ln : Nat} (hB : WB σ w X nr nb t F T A ln) (hL : LB X ln) (r b : Nat) (hr : r < nr) (hb : b < nb) : CI G yX5_liking cX5_liking 6 (some .int) 1 0 0 [.ref w, .int (nI r), .int (nI b)] σ (fun z σ1 => z = likF X t r b ∧ σ1 = σ) := by
  refine Met.ofX (by decide +kernel) (Nat.le_of_ble_eq_true rfl) (fun μ Xc hQ hnm => ?_)
  have Xc : xC G μ cX5_liking 6 RX5 (some .int) 1 0 0 := Xc
  obtain ⟨hP, hW, hTw, hne, hG, hT⟩ := id hB
  have hr4 := hG.r4
  have hb7 := hG.b7
  obtain ⟨dy, hdy, hd0, hl⟩ := id hL
  have jn58 : Ev G μ 6 0 0 58 [(0, .ref w), (1, .int (nI r)), (2, .int (nI b)), (3, .int (plainF X t r b)), (4, .int (X (5 + b)))] [.int (firmF X r b)] σ := by
    refine e_istore (L' := [(5, .int (firmF X r b)), (0, .ref w), (1, .int (nI r)), (2, .int (nI b)), (3, .int (plainF X t r b)), (4, .int (X (5 + b)))]) (pc := 58) Xc (dT hX5_liking 33 rfl) (by decide) rfl ?_
    obtain ⟨k, hk, hke⟩ := hG.2.2.2.2.1 r hr
    refine e_aload_n (pc := 60) Xc (dT hX5_liking 34 rfl) 1 rfl ?_
    refine gf_X5_15 (pc := 61) Xc (dT hX5_liking 35 rfl) hP.o rfl ?_
    refine e_iload_n (pc := 64) Xc (dT hX5_liking 36 rfl) 2 rfl ?_
    refine cl_X5_68 (pc := 65) (k := 0) (n := 0) (S := []) Xc (c_get hP.a2 (by decide) (by decide) r (by omega)) (dT hX5_liking 37 rfl) rfl (Nat.le_of_ble_eq_true rfl) (Nat.le_of_ble_eq_true rfl) (Nat.le_of_ble_eq_true rfl) rfl (Nat.le_of_ble_eq_true rfl) (fun r1 σ2 hq3 => ?_)
    obtain ⟨r1e, r1s⟩ := hq3
    have r1e := r1e.symm; subst r1e; have r1s := r1s.symm; subst r1s
    refine e_val (y := X (20 + r)) (hW.2.1 r (by omega)) ?_
    refine e_val (y := nI k) hke ?_
    
    
    
    
    
    
    
    have hcs : k = 0 ∨ k = 1 ∨ k = 2 ∨ k = 3 ∨ k = 4 ∨ k = 5 ∨ k = 6 := by omega
    rcases hcs with rfl | rfl | rfl | rfl | rfl | rfl | rfl
    · skip
      refine e_tableOut (x := 0) (tgt := 171) (pc := 68) Xc (dT hX5_liking 38 rfl) (by decide) rfl ?_
      refine e_iload_n (pc := 171) Xc (dT hX5_liking 87 rfl) 4 rfl ?_
      refine e_iret (pc := 172) Xc hQ (dT hX5_liking 88 rfl) (Nat.le_refl _) (Nat.le_refl _) ?_
      refine ⟨?_, rfl⟩
      rw [likF, likB, hke]
      rfl
    · skip
      refine e_tableIn (x := 1) (off := 40) (tgt := 108) (pc := 68) Xc (dT hX5_liking 38 rfl) (by decide) (by decide) rfl rfl ?_
      refine e_iload_n (pc := 108) Xc (dT hX5_liking 39 rfl) 4 rfl ?_
      refine e_iload (pc := 109) Xc (dT hX5_liking 40 rfl) 5 rfl ?_
      refine e_iconst (v := 5) (pc := 111) Xc (dT hX5_liking 41 rfl) rfl ?_
      refine e_idiv (pc := 112) Xc (dT hX5_liking 42 rfl) (by decide) ?_
      refine e_isub (pc := 113) Xc (dT hX5_liking 43 rfl) ?_
      refine e_iret (pc := 114) Xc hQ (dT hX5_liking 44 rfl) (Nat.le_refl _) (Nat.le_refl _) ?_
      refine ⟨?_, rfl⟩
      rw [likF, likB, hke]
      rfl
    · skip
      refine e_tableIn (x := 2) (off := 47) (tgt := 115) (pc := 68) Xc (dT hX5_liking 38 rfl) (by decide) (by decide) rfl rfl ?_
      refine e_iconst (v := 2) (pc := 115) Xc (dT hX5_liking 45 rfl) rfl ?_
      refine e_iload_n (pc := 116) Xc (dT hX5_liking 46 rfl) 4 rfl ?_
      refine e_imul (pc := 117) Xc (dT hX5_liking 47 rfl) ?_
      refine e_iret (pc := 118) Xc hQ (dT hX5_liking 48 rfl) (Nat.le_refl _) (Nat.le_refl _) ?_
      refine ⟨?_, rfl⟩
      rw [likF, likB, hke]
      rfl
    · skip
      refine e_tableIn (x := 3) (off := 51) (tgt := 119) (pc := 68) Xc (dT hX5_liking 38 rfl) (by decide) (by decide) rfl rfl ?_
      refine e_iload_n (pc := 119) Xc (dT hX5_liking 49 rfl) 4 rfl ?_
      refine e_iload (pc := 120) Xc (dT hX5_liking 50 rfl) 0 rfl ?_
      refine e_iadd (pc := 122) Xc (dT hX5_liking 51 rfl) ?_
      refine e_iret (pc := 123) Xc hQ (dT hX5_liking 52 rfl) (Nat.le_refl _) (Nat.le_refl _) ?_
      refine ⟨?_, rfl⟩
      rw [likF, likB, hke]
      rfl
    · skip
      refine e_tableIn (x := 4) (off := 56) (tgt := 124) (pc := 68) Xc (dT hX5_liking 38 rfl) (by decide) (by decide) rfl rfl ?_
      refine e_iload_n (pc := 124) Xc (dT hX5_liking 53 rfl) 4 rfl ?_
      refine e_iload (pc := 125) Xc (dT hX5_liking 54 rfl) 5 rfl ?_
      refine e_iconst (v := 5) (pc := 127) Xc (dT hX5_liking 55 rfl) rfl ?_
      refine e_idiv (pc := 128) Xc (dT hX5_liking 56 rfl) (by decide) ?_
      refine e_isub (pc := 129) Xc (dT hX5_liking 57 rfl) ?_
      refine e_aload_n (pc := 130) Xc (dT hX5_liking 58 rfl) 1 rfl ?_
      refine gf_X5_18 (pc := 131) Xc (dT hX5_liking 59 rfl) hP.o rfl ?_
      refine e_iload_n (pc := 134) Xc (dT hX5_liking 60 rfl) 2 rfl ?_
      refine cl_X5_68 (pc := 135) (k := 0) (n := 0) (S := [.int ((plainF X t r b) - ((X (5 + b)) / 5))]) Xc (c_get hP.a3 (by decide) (by decide) r (by omega)) (dT hX5_liking 61 rfl) rfl (Nat.le_of_ble_eq_true rfl) (Nat.le_of_ble_eq_true rfl) (Nat.le_of_ble_eq_true rfl) rfl (Nat.le_of_ble_eq_true rfl) (fun r4 σ5 hq6 => ?_)
      obtain ⟨r4e, r4s⟩ := hq6
      have r4e := r4e.symm; subst r4e; have r4s := r4s.symm; subst r4s
      refine e_val (y := X (24 + r)) (hW.2.2.1 r (by omega)) ?_
      refine e_iadd (pc := 138) Xc (dT hX5_liking 62 rfl) ?_
      refine e_iret (pc := 139) Xc hQ (dT hX5_liking 63 rfl) (Nat.le_refl _) (Nat.le_refl _) ?_
      refine ⟨?_, rfl⟩
      rw [likF, likB, hke]
      rfl
    · skip
      refine e_tableIn (x := 5) (off := 72) (tgt := 140) (pc := 68) Xc (dT hX5_liking 38 rfl) (by decide) (by decide) rfl rfl ?_
      refine e_iconst (v := 2) (pc := 140) Xc (dT hX5_liking 64 rfl) rfl ?_
      refine e_iload_n (pc := 141) Xc (dT hX5_liking 65 rfl) 4 rfl ?_
      refine e_imul (pc := 142) Xc (dT hX5_liking 66 rfl) ?_
      refine e_iload (pc := 143) Xc (dT hX5_liking 67 rfl) 5 rfl ?_
      refine e_bipush (v := 10) (pc := 145) Xc (dT hX5_liking 68 rfl) rfl ?_
      refine e_idiv (pc := 147) Xc (dT hX5_liking 69 rfl) (by decide) ?_
      refine e_iadd (pc := 148) Xc (dT hX5_liking 70 rfl) ?_
      refine e_iret (pc := 149) Xc hQ (dT hX5_liking 71 rfl) (Nat.le_refl _) (Nat.le_refl _) ?_
      refine ⟨?_, rfl⟩
      rw [likF, likB, hke]
      rfl
    · skip
      refine e_tableIn (x := 6) (off := 82) (tgt := 150) (pc := 68) Xc (dT hX5_liking 38 rfl) (by decide) (by decide) rfl rfl ?_
      refine e_iload_n (pc := 150) Xc (dT hX5_liking 72 rfl) 4 rfl ?_
      refine e_iload (pc := 151) Xc (dT hX5_liking 73 rfl) 0 rfl ?_
      refine e_iadd (pc := 153) Xc (dT hX5_liking 74 rfl) ?_
      refine e_aload_n (pc := 154) Xc (dT hX5_liking 75 rfl) 1 rfl ?_
      refine gf_X5_24 (pc := 155) Xc (dT hX5_liking 76 rfl) hP.o rfl ?_
      refine e_iload_n (pc := 158) Xc (dT hX5_liking 77 rfl) 2 rfl ?_
      refine e_iconst (v := 4) (pc := 159) Xc (dT hX5_liking 78 rfl) rfl ?_
      refine e_imulN (a := r) (b := 4) (pc := 160) Xc (dT hX5_liking 79 rfl) ?_
      refine e_iload (pc := 161) Xc (dT hX5_liking 80 rfl) 5 rfl ?_
      refine e_iconst (v := 4) (pc := 163) Xc (dT hX5_liking 81 rfl) rfl ?_
      refine e_irem (pc := 164) Xc (dT hX5_liking 82 rfl) (by decide) ?_
      refine e_iadd (pc := 165) Xc (dT hX5_liking 83 rfl) ?_
      obtain ⟨tk, htk1, htk2, htk⟩ := hG.2.2.1 b hb
      refine e_val (y := nI (r * 4 + tk % 4)) (by rw [htk, show (4 : Int32) = nI 4 from rfl, pk_rem (by omega) (by decide) (by decide), nI_add]) ?_
      refine cl_X5_68 (pc := 166) (k := 0) (n := 0) (S := [.int ((plainF X t r b) + (firmF X r b))]) Xc (c_get hP.a5 (by decide) (by decide) (r * 4 + tk % 4) (by omega)) (dT hX5_liking 84 rfl) rfl (Nat.le_of_ble_eq_true rfl) (Nat.le_of_ble_eq_true rfl) (Nat.le_of_ble_eq_true rfl) rfl (Nat.le_of_ble_eq_true rfl) (fun r7 σ8 hq9 => ?_)
      obtain ⟨r7e, r7s⟩ := hq9
      have r7e := r7e.symm; subst r7e; have r7s := r7s.symm; subst r7s
      refine e_val (y := X (28 + (r * 4 + tk % 4))) (hW.2.2.2.2.1 _ (by omega)) ?_
      refine e_iadd (pc := 169) Xc (dT hX5_liking 85 rfl) ?_
      refine e_iret (pc := 170) Xc hQ (dT hX5_liking 86 rfl) (Nat.le_refl _) (Nat.le_refl _) ?_
      refine ⟨?_, rfl⟩
      rw [likF, likB, hke, htk, nI_clamp (by omega), show 28 + 4 * r + tk % 4 = 28 + (r * 4 + tk % 4) by omega]
      rfl
  show Ev G μ 6 0 0 0 [(0, .ref w), (1, .int (nI r)), (2, .int (nI b))] [] σ
  refine e_aload_n (pc := 0) Xc (dT hX5_liking 0 rfl) 0 rfl ?_
  refine gf_X5_27 (pc := 1) Xc (dT hX5_liking 1 rfl) hP.o rfl ?_
  refine e_aload_n (pc := 4) Xc (dT hX5_liking 2 rfl) 0 rfl ?_
  refine gf_X5_43 (pc := 5) Xc (dT hX5_liking 3 rfl) hP.o rfl ?_
  refine e_val (y := X 0) hW.day ?_
  refine e_val (y := nI dy) hd0 ?_
  refine e_bipush (v := 10) (pc := 8) Xc (dT hX5_liking 4 rfl) rfl ?_
  refine e_iremN (a := dy) (b := 10) (pc := 10) Xc (dT hX5_liking 5 rfl) (by omega) (by decide) (by decide) ?_
  refine e_iconst (v := 4) (pc := 11) Xc (dT hX5_liking 6 rfl) rfl ?_
  refine e_imulN (a := dy % 10) (b := 4) (pc := 12) Xc (dT hX5_liking 7 rfl) ?_
  refine e_iload_n (pc := 13) Xc (dT hX5_liking 8 rfl) 1 rfl ?_
  refine e_iaddN (a := (dy % 10) * 4) (b := r) (pc := 14) Xc (dT hX5_liking 9 rfl) ?_
  refine e_bipush (v := 7) (pc := 15) Xc (dT hX5_liking 10 rfl) rfl ?_
  refine e_imulN (a := ((dy % 10) * 4) + r) (b := 7) (pc := 17) Xc (dT hX5_liking 11 rfl) ?_
  refine e_iload_n (pc := 18) Xc (dT hX5_liking 12 rfl) 2 rfl ?_
  refine e_iaddN (a := (((dy % 10) * 4) + r) * 7) (b := b) (pc := 19) Xc (dT hX5_liking 13 rfl) ?_
  refine cl_X5_68 (pc := 20) (k := 0) (n := 0) (S := []) Xc (c_get hP.a6 (by decide) (by decide) (((((dy % 10) * 4) + r) * 7) + b) (by omega)) (dT hX5_liking 14 rfl) rfl (Nat.le_of_ble_eq_true rfl) (Nat.le_of_ble_eq_true rfl) (Nat.le_of_ble_eq_true rfl) rfl (Nat.le_of_ble_eq_true rfl) (fun r10 σ11 hq12 => ?_)
  obtain ⟨r10e, r10s⟩ := hq12
  have r10e := r10e.symm; subst r10e; have r10s := r10s.symm; subst r10s
  refine e_val (y := plainF X t r b) (hW.pl hr hb hd0 hdy hl) ?_
  refine e_istore_n (L' := [(3, .int (plainF X t r b)), (0, .ref w), (1, .int (nI r)), (2, .int (nI b))]) (pc := 23) Xc (dT hX5_liking 15 rfl) (by decide) rfl ?_
  refine e_aload_n (pc := 24) Xc (dT hX5_liking 16 rfl) 1 rfl ?_
  refine gf_X5_9 (pc := 25) Xc (dT hX5_liking 17 rfl) hP.o rfl ?_
  refine e_iload_n (pc := 28) Xc (dT hX5_liking 18 rfl) 3 rfl ?_
  refine cl_X5_68 (pc := 29) (k := 0) (n := 0) (S := []) Xc (c_get hP.a1 (by decide) (by decide) b (by omega)) (dT hX5_liking 19 rfl) rfl (Nat.le_of_ble_eq_true rfl) (Nat.le_of_ble_eq_true rfl) (Nat.le_of_ble_eq_true rfl) rfl (Nat.le_of_ble_eq_true rfl) (fun r13 σ14 hq15 => ?_)
  obtain ⟨r13e, r13s⟩ := hq15
  have r13e := r13e.symm; subst r13e; have r13s := r13s.symm; subst r13s
  refine e_val (y := X (5 + b)) (hW.1 b (by omega)) ?_
  refine e_istore (L' := [(4, .int (X (5 + b))), (3, .int (plainF X t r b)), (0, .ref w), (1, .int (nI r)), (2, .int (nI b))]) (pc := 32) Xc (dT hX5_liking 20 rfl) (by decide) rfl ?_
  refine e_aload_n (pc := 34) Xc (dT hX5_liking 21 rfl) 2 rfl ?_
  refine gf_X5_21 (pc := 35) Xc (dT hX5_liking 22 rfl) hP.o rfl ?_
  refine e_iload_n (pc := 38) Xc (dT hX5_liking 23 rfl) 3 rfl ?_
  refine cl_X5_68 (pc := 39) (k := 0) (n := 0) (S := []) Xc (c_get hP.a4 (by decide) (by decide) r (by omega)) (dT hX5_liking 24 rfl) rfl (Nat.le_of_ble_eq_true rfl) (Nat.le_of_ble_eq_true rfl) (Nat.le_of_ble_eq_true rfl) rfl (Nat.le_of_ble_eq_true rfl) (fun r16 σ17 hq18 => ?_)
  obtain ⟨r16e, r16s⟩ := hq18
  have r16e := r16e.symm; subst r16e; have r16s := r16s.symm; subst r16s
  refine e_iload_n (pc := 42) Xc (dT hX5_liking 25 rfl) 4 rfl ?_
  refine e_icmp_ne (tgt := 57) (pc := 43) Xc (dT hX5_liking 26 rfl) rfl (fun c43 => ?_) (fun c43 => ?_)
  · skip
    refine e_iconst (v := 0) (pc := 57) Xc (dT hX5_liking 32 rfl) rfl ?_
    refine e_val (y := firmF X r b) (by rw [firmF, if_neg (fun q => c43 (by rw [hW.2.2.2.1 r hr]; exact (has_iff hG hr (by omega)).mpr q))]) ?_
    refine Ev.pick (L' := [(0, .ref w), (1, .int (nI r)), (2, .int (nI b)), (3, .int (plainF X t r b)), (4, .int (X (5 + b)))]) [2, 3, 4, 1, 0] rfl ?_
    exact jn58  
  · skip
    refine e_aload_n (pc := 46) Xc (dT hX5_liking 27 rfl) 2 rfl ?_
    refine gf_X5_18 (pc := 47) Xc (dT hX5_liking 28 rfl) hP.o rfl ?_
    refine e_iload_n (pc := 50) Xc (dT hX5_liking 29 rfl) 3 rfl ?_
    refine cl_X5_68 (pc := 51) (k := 0) (n := 0) (S := []) Xc (c_get hP.a3 (by decide) (by decide) r (by omega)) (dT hX5_liking 30 rfl) rfl (Nat.le_of_ble_eq_true rfl) (Nat.le_of_ble_eq_true rfl) (Nat.le_of_ble_eq_true rfl) rfl (Nat.le_of_ble_eq_true rfl) (fun r19 σ20 hq21 => ?_)
    obtain ⟨r19e, r19s⟩ := hq21
    have r19e := r19e.symm; subst r19e; have r19s := r19s.symm; subst r19s
    refine e_val (y := X (24 + r)) (hW.2.2.1 r (by omega)) ?_
    refine e_goto (tgt := 58) (pc := 54) Xc (dT hX5_liking 31 rfl) rfl ?_
    refine e_val (y := firmF X r b) (by rw [firmF, if_pos ((has_iff hG hr (by omega)).mp (by rw [← hW.2.2.2.1 r hr]; exact c43))]) ?_
    refine Ev.pick (L' := [(0, .ref w), (1, .int (nI r)), (2, .int (nI b)), (3, .int (plainF X t r b)), (4, .int (X (5 + b)))]) [2, 3, 4, 1, 0] rfl ?_
    exact jn58  
