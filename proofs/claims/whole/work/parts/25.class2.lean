set_option maxRecDepth 100000 in
set_option maxHeartbeats 4000000 in
theorem c5_takeable {G : xG} {σ : xS} {w : Nat} {X : Nat → Int32} {nr nb : Nat} {t : xT} {F : Nat → Int32} {T : Nat → Nat} {A : Nat → Nat → Int32} {ln : Nat} (hB : WB σ w X nr nb t F T A ln) (r : Nat) (hr : r < nr) : CI G yX5_takeable cX5_takeable 4 (some .int) 3 0 0 [.ref w, .int (nI r)] σ (fun z σ1 => z = mayTakeF X nr nb r ∧ σ1 = σ) := by
  refine Met.ofX (by decide +kernel) (Nat.le_of_ble_eq_true rfl) (fun μ Xc hQ hnm => ?_)
  have Xc : xC G μ cX5_takeable 4 RX5 (some .int) 3 0 0 := Xc
  obtain ⟨hP, hW, hTw, hne, hG, hT⟩ := id hB
  have hr4 := hG.r4
  have hb7 := hG.b7
  have lp4 : ∀ (n4 : Nat) (b : Nat) (ac : Int32), nb - b < n4 → (b ≤ nb) → (ac = itr (fun b a => a ||| (if mayF X nr r b then 1 <<< (nI b &&& 31) else 0)) 0 b) → Ev G μ 4 0 0 4 [(0, .ref w), (1, .int (nI r)), (3, .int (nI b)), (2, .int ac)] [] σ := by
    intro n4
    induction n4 with
    | zero => intro b ac hn; exact absurd hn (Nat.not_lt_zero _)
    | succ n4 ih4 =>
      intro b ac hn4 hb ha
      refine e_iload_n (pc := 4) Xc (dT hX5_takeable 4 rfl) 2 rfl ?_
      refine e_aload_n (pc := 5) Xc (dT hX5_takeable 5 rfl) 0 rfl ?_
      refine gf_X5_37 (pc := 6) Xc (dT hX5_takeable 6 rfl) hP.o rfl ?_
      refine e_val (y := nI nb) hW.2.2.2.2.2.1 ?_
      refine e_icmp_geN (x := b) (y := nb) (tgt := 33) (pc := 9) Xc (dT hX5_takeable 7 rfl) rfl (by omega) (by omega) (fun c9 => ?_) (fun c9 => ?_)
      · skip
        refine e_iload_n (pc := 33) Xc (dT hX5_takeable 21 rfl) 3 rfl ?_
        refine e_iret (pc := 34) Xc hQ (dT hX5_takeable 22 rfl) (Nat.le_refl _) (Nat.le_refl _) ?_
        refine ⟨?_, rfl⟩
        have hbe : b = nb := by omega
        subst hbe
        exact ha
      · skip
        refine e_aload_n (pc := 12) Xc (dT hX5_takeable 8 rfl) 0 rfl ?_
        refine e_iload_n (pc := 13) Xc (dT hX5_takeable 9 rfl) 1 rfl ?_
        refine e_iload_n (pc := 14) Xc (dT hX5_takeable 10 rfl) 2 rfl ?_
        refine cl_X5_99 (pc := 15) (k := 0) (n := 0) (S := []) Xc hP.o (c5_may hB r b (by omega) (by omega)) (dT hX5_takeable 11 rfl) rfl (Nat.le_of_ble_eq_true rfl) (Nat.le_of_ble_eq_true rfl) (Nat.le_of_ble_eq_true rfl) rfl (Nat.le_of_ble_eq_true rfl) (fun r1 σ2 hq3 => ?_)
        obtain ⟨r1e, r1s⟩ := hq3
        have r1e := r1e.symm; subst r1e; have r1s := r1s.symm; subst r1s
        refine e_if_eq (tgt := 27) (pc := 18) Xc (dT hX5_takeable 12 rfl) rfl (fun c18 => ?_) (fun c18 => ?_)
        · skip
          refine e_iincN (a := b) (b := 1) (L' := [(3, .int (nI (b + 1))), (0, .ref w), (1, .int (nI r)), (2, .int ac)]) (pc := 27) Xc (dT hX5_takeable 19 rfl) 2 rfl rfl (by decide) rfl ?_
          refine e_goto (tgt := 4) (pc := 30) Xc (dT hX5_takeable 20 rfl) rfl ?_
          refine Ev.pick (L' := [(0, .ref w), (1, .int (nI r)), (3, .int (nI (b + 1))), (2, .int ac)]) [1, 2, 0, 3] rfl ?_
          exact ih4 (b + 1) ac (by omega) (by omega) (by rw [itr, ← ha]; simp only [bI_0] at c18; simp [c18])
        · skip
          refine e_iload_n (pc := 21) Xc (dT hX5_takeable 13 rfl) 3 rfl ?_
          refine e_iconst (v := 1) (pc := 22) Xc (dT hX5_takeable 14 rfl) rfl ?_
          refine e_iload_n (pc := 23) Xc (dT hX5_takeable 15 rfl) 2 rfl ?_
          refine e_ishl (pc := 24) Xc (dT hX5_takeable 16 rfl) ?_
          refine e_ior (pc := 25) Xc (dT hX5_takeable 17 rfl) ?_
          refine e_istore_n (L' := [(2, .int (ac ||| (1 <<< ((nI b) &&& 31)))), (0, .ref w), (1, .int (nI r)), (3, .int (nI b))]) (pc := 26) Xc (dT hX5_takeable 18 rfl) (by decide) rfl ?_
          refine e_iincN (a := b) (b := 1) (L' := [(3, .int (nI (b + 1))), (2, .int (ac ||| (1 <<< ((nI b) &&& 31)))), (0, .ref w), (1, .int (nI r))]) (pc := 27) Xc (dT hX5_takeable 19 rfl) 3 rfl rfl (by decide) rfl ?_
          refine e_goto (tgt := 4) (pc := 30) Xc (dT hX5_takeable 20 rfl) rfl ?_
          refine Ev.pick (L' := [(0, .ref w), (1, .int (nI r)), (3, .int (nI (b + 1))), (2, .int (ac ||| (1 <<< ((nI b) &&& 31))))]) [2, 3, 0, 1] rfl ?_
          exact ih4 (b + 1) (ac ||| (1 <<< ((nI b) &&& 31))) (by omega) (by omega) (by rw [itr, ← ha]; simp only [bI_0] at c18; simp [c18])
  show Ev G μ 4 0 0 0 [(0, .ref w), (1, .int (nI r))] [] σ
  refine e_iconst (v := 0) (pc := 0) Xc (dT hX5_takeable 0 rfl) rfl ?_
  refine e_istore_n (L' := [(2, .int 0), (0, .ref w), (1, .int (nI r))]) (pc := 1) Xc (dT hX5_takeable 1 rfl) (by decide) rfl ?_
  refine e_iconst (v := 0) (pc := 2) Xc (dT hX5_takeable 2 rfl) rfl ?_
  refine e_istore_n (L' := [(3, .int 0), (2, .int 0), (0, .ref w), (1, .int (nI r))]) (pc := 3) Xc (dT hX5_takeable 3 rfl) (by decide) rfl ?_
  refine Ev.pick (L' := [(0, .ref w), (1, .int (nI r)), (3, .int 0), (2, .int 0)]) [2, 3, 0, 1] rfl ?_
  exact lp4 ((nb - 0) + 1) 0 0 (Nat.lt_succ_self _) (Nat.zero_le _) rfl
set_option maxRecDepth 100000 in
set_option maxHeartbeats 4000000 in
theorem c5_liking {G : xG} {σ : xS} {w : Nat} {X : Nat → Int32} {nr nb : Nat} {t : xT} {F : Nat → Int32} {T : Nat → Nat} {A : Nat → Nat → Int32} {ln : Nat} (hB : WB σ w X nr nb t F T A ln) (hL : LB X ln) (r b : Nat) (hr : r < nr) (hb : b < nb) : CI G yX5_liking cX5_liking 6 (some .int) 1 0 0 [.ref w, .int (nI r), .int (nI b)] σ (fun z σ1 => z = likF X t r b ∧ σ1 = σ) := by
  refine Met.ofX (by decide +kernel) (Nat.le_of_ble_eq_true rfl) (fun μ Xc hQ hnm => ?_)
  have Xc : xC G μ cX5_liking 6 RX5 (some .int) 1 0 0 := Xc
  obtain ⟨hP, hW, hTw, hne, hG, hT⟩ := id hB
  have hr4 := hG.r4
  have hb7 := hG.b7
  obtain ⟨dy, hdy, hd0, hl⟩ := id hL
  have jn58 : Ev G μ 6 0 0 58 [(0, .ref w), (1, .int (nI r)), (2, .int (nI b)), (3, .int (plainF X t r b)), (4, .int (X (5 + b)))] [.int (firmF X r b)] σ := by
    refine e_istore (L' := [(5, .int (firmF X r b)), (0, .ref w), (1, .int (nI r)), (2, .int (nI b)), (3, .int (plainF X t r b)), (4, .int (X (5 + b)))]) (pc := 58) Xc (dT hX5_liking 33 rfl) (by decide) rfl ?_
    obtain ⟨k, hk, hke⟩ := hG.2.2.2.2.1 r hr
    refine e_aload_n (pc := 60) Xc (dT hX5_liking 34 rfl) 1 rfl ?_
    refine gf_X5_15 (pc := 61) Xc (dT hX5_liking 35 rfl) hP.o rfl ?_
    refine e_iload_n (pc := 64) Xc (dT hX5_liking 36 rfl) 2 rfl ?_
    refine cl_X5_68 (pc := 65) (k := 0) (n := 0) (S := []) Xc (c_get hP.a2 (by decide) (by decide) r (by omega)) (dT hX5_liking 37 rfl) rfl (Nat.le_of_ble_eq_true rfl) (Nat.le_of_ble_eq_true rfl) (Nat.le_of_ble_eq_true rfl) rfl (Nat.le_of_ble_eq_true rfl) (fun r1 σ2 hq3 => ?_)
    obtain ⟨r1e, r1s⟩ := hq3
    have r1e := r1e.symm; subst r1e; have r1s := r1s.symm; subst r1s
    refine e_val (y := X (20 + r)) (hW.2.1 r (by omega)) ?_
    refine e_val (y := nI k) hke ?_
    
    
    
    
    
    
    
    have hcs : k = 0 ∨ k = 1 ∨ k = 2 ∨ k = 3 ∨ k = 4 ∨ k = 5 ∨ k = 6 := by omega
    rcases hcs with rfl | rfl | rfl | rfl | rfl | rfl | rfl
    · skip
      refine e_tableOut (x := 0) (tgt := 171) (pc := 68) Xc (dT hX5_liking 38 rfl) (by decide) rfl ?_
      refine e_iload_n (pc := 171) Xc (dT hX5_liking 87 rfl) 4 rfl ?_
      refine e_iret (pc := 172) Xc hQ (dT hX5_liking 88 rfl) (Nat.le_refl _) (Nat.le_refl _) ?_
      refine ⟨?_, rfl⟩
      rw [likF, likB, hke]
      rfl
    · skip
      refine e_tableIn (x := 1) (off := 40) (tgt := 108) (pc := 68) Xc (dT hX5_liking 38 rfl) (by decide) (by decide) rfl rfl ?_
      refine e_iload_n (pc := 108) Xc (dT hX5_liking 39 rfl) 4 rfl ?_
      refine e_iload (pc := 109) Xc (dT hX5_liking 40 rfl) 5 rfl ?_
      refine e_iconst (v := 5) (pc := 111) Xc (dT hX5_liking 41 rfl) rfl ?_
      refine e_idiv (pc := 112) Xc (dT hX5_liking 42 rfl) (by decide) ?_
      refine e_isub (pc := 113) Xc (dT hX5_liking 43 rfl) ?_
      refine e_iret (pc := 114) Xc hQ (dT hX5_liking 44 rfl) (Nat.le_refl _) (Nat.le_refl _) ?_
      refine ⟨?_, rfl⟩
      rw [likF, likB, hke]
      rfl
    · skip
      refine e_tableIn (x := 2) (off := 47) (tgt := 115) (pc := 68) Xc (dT hX5_liking 38 rfl) (by decide) (by decide) rfl rfl ?_
      refine e_iconst (v := 2) (pc := 115) Xc (dT hX5_liking 45 rfl) rfl ?_
      refine e_iload_n (pc := 116) Xc (dT hX5_liking 46 rfl) 4 rfl ?_
      refine e_imul (pc := 117) Xc (dT hX5_liking 47 rfl) ?_
      refine e_iret (pc := 118) Xc hQ (dT hX5_liking 48 rfl) (Nat.le_refl _) (Nat.le_refl _) ?_
      refine ⟨?_, rfl⟩
      rw [likF, likB, hke]
      rfl
    · skip
      refine e_tableIn (x := 3) (off := 51) (tgt := 119) (pc := 68) Xc (dT hX5_liking 38 rfl) (by decide) (by decide) rfl rfl ?_
      refine e_iload_n (pc := 119) Xc (dT hX5_liking 49 rfl) 4 rfl ?_
      refine e_iload (pc := 120) Xc (dT hX5_liking 50 rfl) 0 rfl ?_
      refine e_iadd (pc := 122) Xc (dT hX5_liking 51 rfl) ?_
      refine e_iret (pc := 123) Xc hQ (dT hX5_liking 52 rfl) (Nat.le_refl _) (Nat.le_refl _) ?_
      refine ⟨?_, rfl⟩
      rw [likF, likB, hke]
      rfl
    · skip
      refine e_tableIn (x := 4) (off := 56) (tgt := 124) (pc := 68) Xc (dT hX5_liking 38 rfl) (by decide) (by decide) rfl rfl ?_
      refine e_iload_n (pc := 124) Xc (dT hX5_liking 53 rfl) 4 rfl ?_
      refine e_iload (pc := 125) Xc (dT hX5_liking 54 rfl) 5 rfl ?_
      refine e_iconst (v := 5) (pc := 127) Xc (dT hX5_liking 55 rfl) rfl ?_
      refine e_idiv (pc := 128) Xc (dT hX5_liking 56 rfl) (by decide) ?_
      refine e_isub (pc := 129) Xc (dT hX5_liking 57 rfl) ?_
      refine e_aload_n (pc := 130) Xc (dT hX5_liking 58 rfl) 1 rfl ?_
      refine gf_X5_18 (pc := 131) Xc (dT hX5_liking 59 rfl) hP.o rfl ?_
      refine e_iload_n (pc := 134) Xc (dT hX5_liking 60 rfl) 2 rfl ?_
      refine cl_X5_68 (pc := 135) (k := 0) (n := 0) (S := [.int ((plainF X t r b) - ((X (5 + b)) / 5))]) Xc (c_get hP.a3 (by decide) (by decide) r (by omega)) (dT hX5_liking 61 rfl) rfl (Nat.le_of_ble_eq_true rfl) (Nat.le_of_ble_eq_true rfl) (Nat.le_of_ble_eq_true rfl) rfl (Nat.le_of_ble_eq_true rfl) (fun r4 σ5 hq6 => ?_)
      obtain ⟨r4e, r4s⟩ := hq6
      have r4e := r4e.symm; subst r4e; have r4s := r4s.symm; subst r4s
      refine e_val (y := X (24 + r)) (hW.2.2.1 r (by omega)) ?_
      refine e_iadd (pc := 138) Xc (dT hX5_liking 62 rfl) ?_
      refine e_iret (pc := 139) Xc hQ (dT hX5_liking 63 rfl) (Nat.le_refl _) (Nat.le_refl _) ?_
      refine ⟨?_, rfl⟩
      rw [likF, likB, hke]
      rfl
    · skip
      refine e_tableIn (x := 5) (off := 72) (tgt := 140) (pc := 68) Xc (dT hX5_liking 38 rfl) (by decide) (by decide) rfl rfl ?_
      refine e_iconst (v := 2) (pc := 140) Xc (dT hX5_liking 64 rfl) rfl ?_
      refine e_iload_n (pc := 141) Xc (dT hX5_liking 65 rfl) 4 rfl ?_
      refine e_imul (pc := 142) Xc (dT hX5_liking 66 rfl) ?_
      refine e_iload (pc := 143) Xc (dT hX5_liking 67 rfl) 5 rfl ?_
      refine e_bipush (v := 10) (pc := 145) Xc (dT hX5_liking 68 rfl) rfl ?_
      refine e_idiv (pc := 147) Xc (dT hX5_liking 69 rfl) (by decide) ?_
      refine e_iadd (pc := 148) Xc (dT hX5_liking 70 rfl) ?_
      refine e_iret (pc := 149) Xc hQ (dT hX5_liking 71 rfl) (Nat.le_refl _) (Nat.le_refl _) ?_
      refine ⟨?_, rfl⟩
      rw [likF, likB, hke]
      rfl
    · skip
      refine e_tableIn (x := 6) (off := 82) (tgt := 150) (pc := 68) Xc (dT hX5_liking 38 rfl) (by decide) (by decide) rfl rfl ?_
      refine e_iload_n (pc := 150) Xc (dT hX5_liking 72 rfl) 4 rfl ?_
      refine e_iload (pc := 151) Xc (dT hX5_liking 73 rfl) 0 rfl ?_
      refine e_iadd (pc := 153) Xc (dT hX5_liking 74 rfl) ?_
      refine e_aload_n (pc := 154) Xc (dT hX5_liking 75 rfl) 1 rfl ?_
      refine gf_X5_24 (pc := 155) Xc (dT hX5_liking 76 rfl) hP.o rfl ?_
      refine e_iload_n (pc := 158) Xc (dT hX5_liking 77 rfl) 2 rfl ?_
      refine e_iconst (v := 4) (pc := 159) Xc (dT hX5_liking 78 rfl) rfl ?_
      refine e_imulN (a := r) (b := 4) (pc := 160) Xc (dT hX5_liking 79 rfl) ?_
      refine e_iload (pc := 161) Xc (dT hX5_liking 80 rfl) 5 rfl ?_
      refine e_iconst (v := 4) (pc := 163) Xc (dT hX5_liking 81 rfl) rfl ?_
      refine e_irem (pc := 164) Xc (dT hX5_liking 82 rfl) (by decide) ?_
      refine e_iadd (pc := 165) Xc (dT hX5_liking 83 rfl) ?_
      obtain ⟨tk, htk1, htk2, htk⟩ := hG.2.2.1 b hb
      refine e_val (y := nI (r * 4 + tk % 4)) (by rw [htk, show (4 : Int32) = nI 4 from rfl, pk_rem (by omega) (by decide) (by decide), nI_add]) ?_
      refine cl_X5_68 (pc := 166) (k := 0) (n := 0) (S := [.int ((plainF X t r b) + (firmF X r b))]) Xc (c_get hP.a5 (by decide) (by decide) (r * 4 + tk % 4) (by omega)) (dT hX5_liking 84 rfl) rfl (Nat.le_of_ble_eq_true rfl) (Nat.le_of_ble_eq_true rfl) (Nat.le_of_ble_eq_true rfl) rfl (Nat.le_of_ble_eq_true rfl) (fun r7 σ8 hq9 => ?_)
      obtain ⟨r7e, r7s⟩ := hq9
      have r7e := r7e.symm; subst r7e; have r7s := r7s.symm; subst r7s
      refine e_val (y := X (28 + (r * 4 + tk % 4))) (hW.2.2.2.2.1 _ (by omega)) ?_
      refine e_iadd (pc := 169) Xc (dT hX5_liking 85 rfl) ?_
      refine e_iret (pc := 170) Xc hQ (dT hX5_liking 86 rfl) (Nat.le_refl _) (Nat.le_refl _) ?_
      refine ⟨?_, rfl⟩
      rw [likF, likB, hke, htk, nI_clamp (by omega), show 28 + 4 * r + tk % 4 = 28 + (r * 4 + tk % 4) by omega]
      rfl
  show Ev G μ 6 0 0 0 [(0, .ref w), (1, .int (nI r)), (2, .int (nI b))] [] σ
  refine e_aload_n (pc := 0) Xc (dT hX5_liking 0 rfl) 0 rfl ?_
  refine gf_X5_27 (pc := 1) Xc (dT hX5_liking 1 rfl) hP.o rfl ?_
  refine e_aload_n (pc := 4) Xc (dT hX5_liking 2 rfl) 0 rfl ?_
  refine gf_X5_43 (pc := 5) Xc (dT hX5_liking 3 rfl) hP.o rfl ?_
  refine e_val (y := X 0) hW.day ?_
  refine e_val (y := nI dy) hd0 ?_
  refine e_bipush (v := 10) (pc := 8) Xc (dT hX5_liking 4 rfl) rfl ?_
  refine e_iremN (a := dy) (b := 10) (pc := 10) Xc (dT hX5_liking 5 rfl) (by omega) (by decide) (by decide) ?_
  refine e_iconst (v := 4) (pc := 11) Xc (dT hX5_liking 6 rfl) rfl ?_
  refine e_imulN (a := dy % 10) (b := 4) (pc := 12) Xc (dT hX5_liking 7 rfl) ?_
  refine e_iload_n (pc := 13) Xc (dT hX5_liking 8 rfl) 1 rfl ?_
  refine e_iaddN (a := (dy % 10) * 4) (b := r) (pc := 14) Xc (dT hX5_liking 9 rfl) ?_
  refine e_bipush (v := 7) (pc := 15) Xc (dT hX5_liking 10 rfl) rfl ?_
  refine e_imulN (a := ((dy % 10) * 4) + r) (b := 7) (pc := 17) Xc (dT hX5_liking 11 rfl) ?_
  refine e_iload_n (pc := 18) Xc (dT hX5_liking 12 rfl) 2 rfl ?_
  refine e_iaddN (a := (((dy % 10) * 4) + r) * 7) (b := b) (pc := 19) Xc (dT hX5_liking 13 rfl) ?_
  refine cl_X5_68 (pc := 20) (k := 0) (n := 0) (S := []) Xc (c_get hP.a6 (by decide) (by decide) (((((dy % 10) * 4) + r) * 7) + b) (by omega)) (dT hX5_liking 14 rfl) rfl (Nat.le_of_ble_eq_true rfl) (Nat.le_of_ble_eq_true rfl) (Nat.le_of_ble_eq_true rfl) rfl (Nat.le_of_ble_eq_true rfl) (fun r10 σ11 hq12 => ?_)
  obtain ⟨r10e, r10s⟩ := hq12
  have r10e := r10e.symm; subst r10e; have r10s := r10s.symm; subst r10s
  refine e_val (y := plainF X t r b) (hW.pl hr hb hd0 hdy hl) ?_
  refine e_istore_n (L' := [(3, .int (plainF X t r b)), (0, .ref w), (1, .int (nI r)), (2, .int (nI b))]) (pc := 23) Xc (dT hX5_liking 15 rfl) (by decide) rfl ?_
  refine e_aload_n (pc := 24) Xc (dT hX5_liking 16 rfl) 1 rfl ?_
  refine gf_X5_9 (pc := 25) Xc (dT hX5_liking 17 rfl) hP.o rfl ?_
  refine e_iload_n (pc := 28) Xc (dT hX5_liking 18 rfl) 3 rfl ?_
  refine cl_X5_68 (pc := 29) (k := 0) (n := 0) (S := []) Xc (c_get hP.a1 (by decide) (by decide) b (by omega)) (dT hX5_liking 19 rfl) rfl (Nat.le_of_ble_eq_true rfl) (Nat.le_of_ble_eq_true rfl) (Nat.le_of_ble_eq_true rfl) rfl (Nat.le_of_ble_eq_true rfl) (fun r13 σ14 hq15 => ?_)
  obtain ⟨r13e, r13s⟩ := hq15
  have r13e := r13e.symm; subst r13e; have r13s := r13s.symm; subst r13s
  refine e_val (y := X (5 + b)) (hW.1 b (by omega)) ?_
  refine e_istore (L' := [(4, .int (X (5 + b))), (3, .int (plainF X t r b)), (0, .ref w), (1, .int (nI r)), (2, .int (nI b))]) (pc := 32) Xc (dT hX5_liking 20 rfl) (by decide) rfl ?_
  refine e_aload_n (pc := 34) Xc (dT hX5_liking 21 rfl) 2 rfl ?_
  refine gf_X5_21 (pc := 35) Xc (dT hX5_liking 22 rfl) hP.o rfl ?_
  refine e_iload_n (pc := 38) Xc (dT hX5_liking 23 rfl) 3 rfl ?_
  refine cl_X5_68 (pc := 39) (k := 0) (n := 0) (S := []) Xc (c_get hP.a4 (by decide) (by decide) r (by omega)) (dT hX5_liking 24 rfl) rfl (Nat.le_of_ble_eq_true rfl) (Nat.le_of_ble_eq_true rfl) (Nat.le_of_ble_eq_true rfl) rfl (Nat.le_of_ble_eq_true rfl) (fun r16 σ17 hq18 => ?_)
  obtain ⟨r16e, r16s⟩ := hq18
  have r16e := r16e.symm; subst r16e; have r16s := r16s.symm; subst r16s
  refine e_iload_n (pc := 42) Xc (dT hX5_liking 25 rfl) 4 rfl ?_
  refine e_icmp_ne (tgt := 57) (pc := 43) Xc (dT hX5_liking 26 rfl) rfl (fun c43 => ?_) (fun c43 => ?_)
  · skip
    refine e_iconst (v := 0) (pc := 57) Xc (dT hX5_liking 32 rfl) rfl ?_
    refine e_val (y := firmF X r b) (by rw [firmF, if_neg (fun q => c43 (by rw [hW.2.2.2.1 r hr]; exact (has_iff hG hr (by omega)).mpr q))]) ?_
    refine Ev.pick (L' := [(0, .ref w), (1, .int (nI r)), (2, .int (nI b)), (3, .int (plainF X t r b)), (4, .int (X (5 + b)))]) [2, 3, 4, 1, 0] rfl ?_
    exact jn58  
  · skip
    refine e_aload_n (pc := 46) Xc (dT hX5_liking 27 rfl) 2 rfl ?_
    refine gf_X5_18 (pc := 47) Xc (dT hX5_liking 28 rfl) hP.o rfl ?_
    refine e_iload_n (pc := 50) Xc (dT hX5_liking 29 rfl) 3 rfl ?_
    refine cl_X5_68 (pc := 51) (k := 0) (n := 0) (S := []) Xc (c_get hP.a3 (by decide) (by decide) r (by omega)) (dT hX5_liking 30 rfl) rfl (Nat.le_of_ble_eq_true rfl) (Nat.le_of_ble_eq_true rfl) (Nat.le_of_ble_eq_true rfl) rfl (Nat.le_of_ble_eq_true rfl) (fun r19 σ20 hq21 => ?_)
    obtain ⟨r19e, r19s⟩ := hq21
    have r19e := r19e.symm; subst r19e; have r19s := r19s.symm; subst r19s
    refine e_val (y := X (24 + r)) (hW.2.2.1 r (by omega)) ?_
    refine e_goto (tgt := 58) (pc := 54) Xc (dT hX5_liking 31 rfl) rfl ?_
    refine e_val (y := firmF X r b) (by rw [firmF, if_pos ((has_iff hG hr (by omega)).mp (by rw [← hW.2.2.2.1 r hr]; exact c43))]) ?_
    refine Ev.pick (L' := [(0, .ref w), (1, .int (nI r)), (2, .int (nI b)), (3, .int (plainF X t r b)), (4, .int (X (5 + b)))]) [2, 3, 4, 1, 0] rfl ?_
    exact jn58  
set_option maxRecDepth 100000 in
set_option maxHeartbeats 4000000 in
theorem c5_choice {G : xG} {σ : xS} {w : Nat} {X : Nat → Int32} {nr nb : Nat} {t : xT} {F : Nat → Int32} {T : Nat → Nat} {A : Nat → Nat → Int32} {ln : Nat} (hB : WB σ w X nr nb t F T A ln) (hL : LB X ln) (r : Nat) (hr : r < nr) : CI G yX5_choice cX5_choice 8 (some .int) 3 0 0 [.ref w, .int (nI r)] σ (fun z σ1 => z = orN (choF X t nr nb r) ∧ σ1 = σ) := by
  refine Met.ofX (by decide +kernel) (Nat.le_of_ble_eq_true rfl) (fun μ Xc hQ hnm => ?_)
  have Xc : xC G μ cX5_choice 8 RX5 (some .int) 3 0 0 := Xc
  obtain ⟨hP, hW, hTw, hne, hG, hT⟩ := id hB
  have hr4 := hG.r4
  have hb7 := hG.b7
  show Ev G μ 8 0 0 0 [(0, .ref w), (1, .int (nI r))] [] σ
  refine e_aload_n (pc := 0) Xc (dT hX5_choice 0 rfl) 0 rfl ?_
  refine gf_X5_21 (pc := 1) Xc (dT hX5_choice 1 rfl) hP.o rfl ?_
  refine e_iload_n (pc := 4) Xc (dT hX5_choice 2 rfl) 1 rfl ?_
  refine cl_X5_68 (pc := 5) (k := 0) (n := 0) (S := []) Xc (c_get hP.a4 (by decide) (by decide) r (by omega)) (dT hX5_choice 3 rfl) rfl (Nat.le_of_ble_eq_true rfl) (Nat.le_of_ble_eq_true rfl) (Nat.le_of_ble_eq_true rfl) rfl (Nat.le_of_ble_eq_true rfl) (fun r1 σ2 hq3 => ?_)
  obtain ⟨r1e, r1s⟩ := hq3
  have r1e := r1e.symm; subst r1e; have r1s := r1s.symm; subst r1s
  refine e_istore_n (L' := [(2, .int (A 4 r)), (0, .ref w), (1, .int (nI r))]) (pc := 8) Xc (dT hX5_choice 4 rfl) (by decide) rfl ?_
  refine e_iload_n (pc := 9) Xc (dT hX5_choice 5 rfl) 0 rfl ?_
  refine e_bipush (v := -5) (pc := 10) Xc (dT hX5_choice 6 rfl) rfl ?_
  refine e_icmp_ne (tgt := 18) (pc := 12) Xc (dT hX5_choice 7 rfl) rfl (fun c12 => ?_) (fun c12 => ?_)
  · skip
    obtain ⟨h, hl, he⟩ := hG.has (r := r) (by omega) (orN_ne (by rw [← hW.2.2.2.1 r (by omega)]; exact c12))
    have ha : A 4 r = nI h := by rw [hW.2.2.2.1 r (by omega), he, orN_nI (by omega)]
    have lp72 : ∀ (n72 : Nat) (b : Nat) (be top be0 mo0 : Int32), nb - b < n72 → (b ≤ nb) → (itr (choStep X t nr r) (-1, choTop X t r) b = (be0, mo0)) → (choRel X r be0 mo0 be top) → Ev G μ 8 0 0 72 [(0, .ref w), (1, .int (nI r)), (2, .int (A 4 r)), (3, .int (bI (thinF X r))), (4, .int top), (5, .int be), (6, .int (nI b))] [] σ := by
      intro n72
      induction n72 with
      | zero => intro b be top be0 mo0 hn; exact absurd hn (Nat.not_lt_zero _)
      | succ n72 ih72 =>
        intro b be top be0 mo0 hn72 hb hq hrel
        refine e_iload (pc := 72) Xc (dT hX5_choice 39 rfl) 6 rfl ?_
        refine e_aload_n (pc := 74) Xc (dT hX5_choice 40 rfl) 0 rfl ?_
        refine gf_X5_37 (pc := 75) Xc (dT hX5_choice 41 rfl) hP.o rfl ?_
        refine e_val (y := nI nb) hW.2.2.2.2.2.1 ?_
        refine e_icmp_geN (x := b) (y := nb) (tgt := 141) (pc := 78) Xc (dT hX5_choice 42 rfl) rfl (by omega) (by omega) (fun c78 => ?_) (fun c78 => ?_)
        · skip
          refine e_iload (pc := 141) Xc (dT hX5_choice 71 rfl) 5 rfl ?_
          refine e_iret (pc := 143) Xc hQ (dT hX5_choice 72 rfl) (Nat.le_refl _) (Nat.le_refl _) ?_
          refine ⟨?_, rfl⟩
          have hbe : b = nb := by omega
          subst hbe
          rw [choF, hq]
          exact hrel.1
        · skip
          refine e_aload_n (pc := 81) Xc (dT hX5_choice 43 rfl) 0 rfl ?_
          refine e_iload_n (pc := 82) Xc (dT hX5_choice 44 rfl) 1 rfl ?_
          refine e_iload (pc := 83) Xc (dT hX5_choice 45 rfl) 6 rfl ?_
          refine cl_X5_99 (pc := 85) (k := 0) (n := 0) (S := []) Xc hP.o (c5_may hB r b (by omega) (by omega)) (dT hX5_choice 46 rfl) rfl (Nat.le_of_ble_eq_true rfl) (Nat.le_of_ble_eq_true rfl) (Nat.le_of_ble_eq_true rfl) rfl (Nat.le_of_ble_eq_true rfl) (fun r4 σ5 hq6 => ?_)
          obtain ⟨r4e, r4s⟩ := hq6
          have r4e := r4e.symm; subst r4e; have r4s := r4s.symm; subst r4s
          refine e_if_ne (tgt := 94) (pc := 88) Xc (dT hX5_choice 47 rfl) rfl (fun c88 => ?_) (fun c88 => ?_)
          · skip
            refine e_iload_n (pc := 94) Xc (dT hX5_choice 49 rfl) 3 rfl ?_
            refine e_if_eq (tgt := 111) (pc := 95) Xc (dT hX5_choice 50 rfl) rfl (fun c95 => ?_) (fun c95 => ?_)
            · skip
              refine e_aload_n (pc := 111) Xc (dT hX5_choice 57 rfl) 0 rfl ?_
              refine e_iload_n (pc := 112) Xc (dT hX5_choice 58 rfl) 1 rfl ?_
              refine e_iload (pc := 113) Xc (dT hX5_choice 59 rfl) 6 rfl ?_
              refine cl_X5_83 (pc := 115) (k := 0) (n := 0) (S := []) Xc hP.o (c5_liking hB hL r b (by omega) (by omega)) (dT hX5_choice 60 rfl) rfl (Nat.le_of_ble_eq_true rfl) (Nat.le_of_ble_eq_true rfl) (Nat.le_of_ble_eq_true rfl) rfl (Nat.le_of_ble_eq_true rfl) (fun r7 σ8 hq9 => ?_)
              obtain ⟨r7e, r7s⟩ := hq9
              have r7e := r7e.symm; subst r7e; have r7s := r7s.symm; subst r7s
              refine e_istore (L' := [(7, .int (likF X t r b)), (0, .ref w), (1, .int (nI r)), (2, .int (A 4 r)), (3, .int (bI (thinF X r))), (4, .int top), (5, .int be), (6, .int (nI b))]) (pc := 118) Xc (dT hX5_choice 61 rfl) (by decide) rfl ?_
              refine e_iload (pc := 120) Xc (dT hX5_choice 62 rfl) 0 rfl ?_
              refine e_iload (pc := 122) Xc (dT hX5_choice 63 rfl) 5 rfl ?_
              refine e_icmp_le (tgt := 135) (pc := 124) Xc (dT hX5_choice 64 rfl) rfl (fun c124 => ?_) (fun c124 => ?_)
              · skip
                refine e_iincN (a := b) (b := 1) (L' := [(6, .int (nI (b + 1))), (7, .int (likF X t r b)), (0, .ref w), (1, .int (nI r)), (2, .int (A 4 r)), (3, .int (bI (thinF X r))), (4, .int top), (5, .int be)]) (pc := 135) Xc (dT hX5_choice 69 rfl) 7 rfl rfl (by decide) rfl ?_
                refine e_goto (tgt := 72) (pc := 138) Xc (dT hX5_choice 70 rfl) rfl ?_
                refine Ev.pick (L' := [(0, .ref w), (1, .int (nI r)), (2, .int (A 4 r)), (3, .int (bI (thinF X r))), (4, .int top), (5, .int be), (6, .int (nI (b + 1)))]) [2, 3, 4, 5, 6, 7, 0] rfl ?_
                exact ih72 (b + 1) be top be0 mo0 (by omega) (by omega) (by rw [itr, hq, cho_take (is := (likF X t r b)) (by simpa [bI_0] using c88) (by simp only [bI_0, Bool.not_eq_false] at c95; rw [c95]; rfl), if_neg (fun q => Int32.not_lt.mpr c124 ((cho_cmp (t := t) (is := (likF X t r b)) hG (by omega) hrel (by simp only [bI_0, Bool.not_eq_false] at c95; rw [c95]; rfl)).mpr q))]) hrel
              · skip
                refine e_iload (pc := 127) Xc (dT hX5_choice 65 rfl) 0 rfl ?_
                refine e_istore (L' := [(4, .int (likF X t r b)), (7, .int (likF X t r b)), (0, .ref w), (1, .int (nI r)), (2, .int (A 4 r)), (3, .int (bI (thinF X r))), (5, .int be), (6, .int (nI b))]) (pc := 129) Xc (dT hX5_choice 66 rfl) (by decide) rfl ?_
                refine e_iload (pc := 131) Xc (dT hX5_choice 67 rfl) 7 rfl ?_
                refine e_istore (L' := [(5, .int (nI b)), (4, .int (likF X t r b)), (7, .int (likF X t r b)), (0, .ref w), (1, .int (nI r)), (2, .int (A 4 r)), (3, .int (bI (thinF X r))), (6, .int (nI b))]) (pc := 133) Xc (dT hX5_choice 68 rfl) (by decide) rfl ?_
                refine e_iincN (a := b) (b := 1) (L' := [(6, .int (nI (b + 1))), (5, .int (nI b)), (4, .int (likF X t r b)), (7, .int (likF X t r b)), (0, .ref w), (1, .int (nI r)), (2, .int (A 4 r)), (3, .int (bI (thinF X r)))]) (pc := 135) Xc (dT hX5_choice 69 rfl) 7 rfl rfl (by decide) rfl ?_
                refine e_goto (tgt := 72) (pc := 138) Xc (dT hX5_choice 70 rfl) rfl ?_
                refine Ev.pick (L' := [(0, .ref w), (1, .int (nI r)), (2, .int (A 4 r)), (3, .int (bI (thinF X r))), (4, .int (likF X t r b)), (5, .int (nI b)), (6, .int (nI (b + 1)))]) [4, 5, 6, 7, 2, 1, 0] rfl ?_
                exact ih72 (b + 1) (nI b) (likF X t r b) (nI b) (likF X t r b) (by omega) (by omega) (by rw [itr, hq, cho_take (is := (likF X t r b)) (by simpa [bI_0] using c88) (by simp only [bI_0, Bool.not_eq_false] at c95; rw [c95]; rfl), if_pos ((cho_cmp (t := t) (is := (likF X t r b)) hG (by omega) hrel (by simp only [bI_0, Bool.not_eq_false] at c95; rw [c95]; rfl)).mp (Int32.not_le.mp c124))]) (⟨(orN_nI (by omega)).symm, Or.inl rfl⟩)
            · skip
              refine e_aload_n (pc := 98) Xc (dT hX5_choice 51 rfl) 0 rfl ?_
              refine gf_X5_9 (pc := 99) Xc (dT hX5_choice 52 rfl) hP.o rfl ?_
              refine e_iload (pc := 102) Xc (dT hX5_choice 53 rfl) 6 rfl ?_
              refine cl_X5_68 (pc := 104) (k := 0) (n := 0) (S := []) Xc (c_get hP.a1 (by decide) (by decide) b (by omega)) (dT hX5_choice 54 rfl) rfl (Nat.le_of_ble_eq_true rfl) (Nat.le_of_ble_eq_true rfl) (Nat.le_of_ble_eq_true rfl) rfl (Nat.le_of_ble_eq_true rfl) (fun r10 σ11 hq12 => ?_)
              obtain ⟨r10e, r10s⟩ := hq12
              have r10e := r10e.symm; subst r10e; have r10s := r10s.symm; subst r10s
              refine e_val (y := X (5 + b)) (hW.1 b (by omega)) ?_
              refine e_ineg (pc := 107) Xc (dT hX5_choice 55 rfl) ?_
              refine e_goto (tgt := 118) (pc := 108) Xc (dT hX5_choice 56 rfl) rfl ?_
              refine e_istore (L' := [(7, .int (-(X (5 + b)))), (0, .ref w), (1, .int (nI r)), (2, .int (A 4 r)), (3, .int (bI (thinF X r))), (4, .int top), (5, .int be), (6, .int (nI b))]) (pc := 118) Xc (dT hX5_choice 61 rfl) (by decide) rfl ?_
              refine e_iload (pc := 120) Xc (dT hX5_choice 62 rfl) 0 rfl ?_
              refine e_iload (pc := 122) Xc (dT hX5_choice 63 rfl) 5 rfl ?_
              refine e_icmp_le (tgt := 135) (pc := 124) Xc (dT hX5_choice 64 rfl) rfl (fun c124 => ?_) (fun c124 => ?_)
              · skip
                refine e_iincN (a := b) (b := 1) (L' := [(6, .int (nI (b + 1))), (7, .int (-(X (5 + b)))), (0, .ref w), (1, .int (nI r)), (2, .int (A 4 r)), (3, .int (bI (thinF X r))), (4, .int top), (5, .int be)]) (pc := 135) Xc (dT hX5_choice 69 rfl) 7 rfl rfl (by decide) rfl ?_
                refine e_goto (tgt := 72) (pc := 138) Xc (dT hX5_choice 70 rfl) rfl ?_
                refine Ev.pick (L' := [(0, .ref w), (1, .int (nI r)), (2, .int (A 4 r)), (3, .int (bI (thinF X r))), (4, .int top), (5, .int be), (6, .int (nI (b + 1)))]) [2, 3, 4, 5, 6, 7, 0] rfl ?_
                exact ih72 (b + 1) be top be0 mo0 (by omega) (by omega) (by rw [itr, hq, cho_take (is := (-(X (5 + b)))) (by simpa [bI_0] using c88) (by simp only [bI_0, Bool.not_eq_false] at c95; rw [c95]; rfl), if_neg (fun q => Int32.not_lt.mpr c124 ((cho_cmp (t := t) (is := (-(X (5 + b)))) hG (by omega) hrel (by simp only [bI_0, Bool.not_eq_false] at c95; rw [c95]; rfl)).mpr q))]) hrel
              · skip
                refine e_iload (pc := 127) Xc (dT hX5_choice 65 rfl) 0 rfl ?_
                refine e_istore (L' := [(4, .int (-(X (5 + b)))), (7, .int (-(X (5 + b)))), (0, .ref w), (1, .int (nI r)), (2, .int (A 4 r)), (3, .int (bI (thinF X r))), (5, .int be), (6, .int (nI b))]) (pc := 129) Xc (dT hX5_choice 66 rfl) (by decide) rfl ?_
                refine e_iload (pc := 131) Xc (dT hX5_choice 67 rfl) 7 rfl ?_
                refine e_istore (L' := [(5, .int (nI b)), (4, .int (-(X (5 + b)))), (7, .int (-(X (5 + b)))), (0, .ref w), (1, .int (nI r)), (2, .int (A 4 r)), (3, .int (bI (thinF X r))), (6, .int (nI b))]) (pc := 133) Xc (dT hX5_choice 68 rfl) (by decide) rfl ?_
                refine e_iincN (a := b) (b := 1) (L' := [(6, .int (nI (b + 1))), (5, .int (nI b)), (4, .int (-(X (5 + b)))), (7, .int (-(X (5 + b)))), (0, .ref w), (1, .int (nI r)), (2, .int (A 4 r)), (3, .int (bI (thinF X r)))]) (pc := 135) Xc (dT hX5_choice 69 rfl) 7 rfl rfl (by decide) rfl ?_
                refine e_goto (tgt := 72) (pc := 138) Xc (dT hX5_choice 70 rfl) rfl ?_
                refine Ev.pick (L' := [(0, .ref w), (1, .int (nI r)), (2, .int (A 4 r)), (3, .int (bI (thinF X r))), (4, .int (-(X (5 + b)))), (5, .int (nI b)), (6, .int (nI (b + 1)))]) [4, 5, 6, 7, 2, 1, 0] rfl ?_
                exact ih72 (b + 1) (nI b) (-(X (5 + b))) (nI b) (-(X (5 + b))) (by omega) (by omega) (by rw [itr, hq, cho_take (is := (-(X (5 + b)))) (by simpa [bI_0] using c88) (by simp only [bI_0, Bool.not_eq_false] at c95; rw [c95]; rfl), if_pos ((cho_cmp (t := t) (is := (-(X (5 + b)))) hG (by omega) hrel (by simp only [bI_0, Bool.not_eq_false] at c95; rw [c95]; rfl)).mp (Int32.not_le.mp c124))]) (⟨(orN_nI (by omega)).symm, Or.inl rfl⟩)
          · skip
            refine e_goto (tgt := 135) (pc := 91) Xc (dT hX5_choice 48 rfl) rfl ?_
            refine e_iincN (a := b) (b := 1) (L' := [(6, .int (nI (b + 1))), (0, .ref w), (1, .int (nI r)), (2, .int (A 4 r)), (3, .int (bI (thinF X r))), (4, .int top), (5, .int be)]) (pc := 135) Xc (dT hX5_choice 69 rfl) 6 rfl rfl (by decide) rfl ?_
            refine e_goto (tgt := 72) (pc := 138) Xc (dT hX5_choice 70 rfl) rfl ?_
            refine Ev.pick (L' := [(0, .ref w), (1, .int (nI r)), (2, .int (A 4 r)), (3, .int (bI (thinF X r))), (4, .int top), (5, .int be), (6, .int (nI (b + 1)))]) [1, 2, 3, 4, 5, 6, 0] rfl ?_
            exact ih72 (b + 1) be top be0 mo0 (by omega) (by omega) (by rw [itr, hq, choStep]; simp only [bI_0] at c88; simp [c88]) hrel
    have jn47 : Ev G μ 8 0 0 47 [(0, .ref w), (1, .int (nI r)), (2, .int (A 4 r))] [.int (bI (thinF X r))] σ := by
      refine e_istore_n (L' := [(3, .int (bI (thinF X r))), (0, .ref w), (1, .int (nI r)), (2, .int (A 4 r))]) (pc := 47) Xc (dT hX5_choice 25 rfl) (by decide) rfl ?_
      refine e_iload_n (pc := 48) Xc (dT hX5_choice 26 rfl) 0 rfl ?_
      refine e_if_eq (tgt := 57) (pc := 49) Xc (dT hX5_choice 27 rfl) rfl (fun c49 => ?_) (fun c49 => ?_)
      · skip
        refine e_aload_n (pc := 57) Xc (dT hX5_choice 30 rfl) 1 rfl ?_
        refine e_iload_n (pc := 58) Xc (dT hX5_choice 31 rfl) 2 rfl ?_
        refine e_iload_n (pc := 59) Xc (dT hX5_choice 32 rfl) 3 rfl ?_
        refine e_val (y := nI h) ha ?_
        refine cl_X5_83 (pc := 60) (k := 0) (n := 0) (S := []) Xc hP.o (c5_liking hB hL r h (by omega) (by omega)) (dT hX5_choice 33 rfl) rfl (Nat.le_of_ble_eq_true rfl) (Nat.le_of_ble_eq_true rfl) (Nat.le_of_ble_eq_true rfl) rfl (Nat.le_of_ble_eq_true rfl) (fun r13 σ14 hq15 => ?_)
        obtain ⟨r13e, r13s⟩ := hq15
        have r13e := r13e.symm; subst r13e; have r13s := r13s.symm; subst r13s
        refine e_istore (L' := [(4, .int (likF X t r h)), (3, .int (bI (thinF X r))), (0, .ref w), (1, .int (nI r)), (2, .int (A 4 r))]) (pc := 63) Xc (dT hX5_choice 34 rfl) (by decide) rfl ?_
        refine e_bipush (v := -5) (pc := 65) Xc (dT hX5_choice 35 rfl) rfl ?_
        refine e_istore (L' := [(5, .int (-5)), (4, .int (likF X t r h)), (3, .int (bI (thinF X r))), (0, .ref w), (1, .int (nI r)), (2, .int (A 4 r))]) (pc := 67) Xc (dT hX5_choice 36 rfl) (by decide) rfl ?_
        refine e_iconst (v := 0) (pc := 69) Xc (dT hX5_choice 37 rfl) rfl ?_
        refine e_istore (L' := [(6, .int 0), (5, .int (-5)), (4, .int (likF X t r h)), (3, .int (bI (thinF X r))), (0, .ref w), (1, .int (nI r)), (2, .int (A 4 r))]) (pc := 70) Xc (dT hX5_choice 38 rfl) (by decide) rfl ?_
        refine Ev.pick (L' := [(0, .ref w), (1, .int (nI r)), (2, .int (A 4 r)), (3, .int (bI (thinF X r))), (4, .int (likF X t r h)), (5, .int (-5)), (6, .int 0)]) [4, 5, 6, 3, 2, 1, 0] rfl ?_
        exact lp72 ((nb - 0) + 1) 0 (-5) (likF X t r h) (-1) (likF X t r h) (Nat.lt_succ_self _) (Nat.zero_le _) (by rw [show itr (choStep X t nr r) (-1, choTop X t r) 0 = (-1, choTop X t r) from rfl, choTop, if_pos ⟨by rw [he]; exact nI_nm1 (by omega), by simpa [bI_0] using c49⟩, he, nI_clamp (by omega)]) (⟨rfl, Or.inl rfl⟩)
      · skip
        refine e_bipush (v := -100) (pc := 52) Xc (dT hX5_choice 28 rfl) rfl ?_
        refine e_goto (tgt := 63) (pc := 54) Xc (dT hX5_choice 29 rfl) rfl ?_
        refine e_istore (L' := [(4, .int (-100)), (3, .int (bI (thinF X r))), (0, .ref w), (1, .int (nI r)), (2, .int (A 4 r))]) (pc := 63) Xc (dT hX5_choice 34 rfl) (by decide) rfl ?_
        refine e_bipush (v := -5) (pc := 65) Xc (dT hX5_choice 35 rfl) rfl ?_
        refine e_istore (L' := [(5, .int (-5)), (4, .int (-100)), (3, .int (bI (thinF X r))), (0, .ref w), (1, .int (nI r)), (2, .int (A 4 r))]) (pc := 67) Xc (dT hX5_choice 36 rfl) (by decide) rfl ?_
        refine e_iconst (v := 0) (pc := 69) Xc (dT hX5_choice 37 rfl) rfl ?_
        refine e_istore (L' := [(6, .int 0), (5, .int (-5)), (4, .int (-100)), (3, .int (bI (thinF X r))), (0, .ref w), (1, .int (nI r)), (2, .int (A 4 r))]) (pc := 70) Xc (dT hX5_choice 38 rfl) (by decide) rfl ?_
        refine Ev.pick (L' := [(0, .ref w), (1, .int (nI r)), (2, .int (A 4 r)), (3, .int (bI (thinF X r))), (4, .int (-100)), (5, .int (-5)), (6, .int 0)]) [4, 5, 6, 3, 2, 1, 0] rfl ?_
        exact lp72 ((nb - 0) + 1) 0 (-5) (-100) (-1) (-1000000) (Nat.lt_succ_self _) (Nat.zero_le _) (by rw [show itr (choStep X t nr r) (-1, choTop X t r) 0 = (-1, choTop X t r) from rfl, choTop, if_neg (fun q => by simp_all [bI_0])]) (⟨rfl, Or.inr ⟨rfl, by simpa [bI_0] using c49, rfl, rfl⟩⟩)
    refine e_aload_n (pc := 18) Xc (dT hX5_choice 10 rfl) 1 rfl ?_
    refine gf_X5_15 (pc := 19) Xc (dT hX5_choice 11 rfl) hP.o rfl ?_
    refine e_iload_n (pc := 22) Xc (dT hX5_choice 12 rfl) 2 rfl ?_
    refine cl_X5_68 (pc := 23) (k := 0) (n := 0) (S := []) Xc (c_get hP.a2 (by decide) (by decide) r (by omega)) (dT hX5_choice 13 rfl) rfl (Nat.le_of_ble_eq_true rfl) (Nat.le_of_ble_eq_true rfl) (Nat.le_of_ble_eq_true rfl) rfl (Nat.le_of_ble_eq_true rfl) (fun r16 σ17 hq18 => ?_)
    obtain ⟨r16e, r16s⟩ := hq18
    have r16e := r16e.symm; subst r16e; have r16s := r16s.symm; subst r16s
    refine e_val (y := X (20 + r)) (hW.2.1 r (by omega)) ?_
    refine e_iconst (v := 1) (pc := 26) Xc (dT hX5_choice 14 rfl) rfl ?_
    refine e_icmp_eq (tgt := 42) (pc := 27) Xc (dT hX5_choice 15 rfl) rfl (fun c27 => ?_) (fun c27 => ?_)
    · skip
      refine e_iconst (v := 1) (pc := 42) Xc (dT hX5_choice 22 rfl) rfl ?_
      refine e_goto (tgt := 47) (pc := 43) Xc (dT hX5_choice 23 rfl) rfl ?_
      refine e_val (y := bI (thinF X r)) (by simp_all [thinF, bI]) ?_
      refine Ev.pick (L' := [(0, .ref w), (1, .int (nI r)), (2, .int (A 4 r))]) [1, 2, 0] rfl ?_
      exact jn47  
    · skip
      refine e_aload_n (pc := 30) Xc (dT hX5_choice 16 rfl) 1 rfl ?_
      refine gf_X5_15 (pc := 31) Xc (dT hX5_choice 17 rfl) hP.o rfl ?_
      refine e_iload_n (pc := 34) Xc (dT hX5_choice 18 rfl) 2 rfl ?_
      refine cl_X5_68 (pc := 35) (k := 0) (n := 0) (S := []) Xc (c_get hP.a2 (by decide) (by decide) r (by omega)) (dT hX5_choice 19 rfl) rfl (Nat.le_of_ble_eq_true rfl) (Nat.le_of_ble_eq_true rfl) (Nat.le_of_ble_eq_true rfl) rfl (Nat.le_of_ble_eq_true rfl) (fun r19 σ20 hq21 => ?_)
      obtain ⟨r19e, r19s⟩ := hq21
      have r19e := r19e.symm; subst r19e; have r19s := r19s.symm; subst r19s
      refine e_val (y := X (20 + r)) (hW.2.1 r (by omega)) ?_
      refine e_iconst (v := 4) (pc := 38) Xc (dT hX5_choice 20 rfl) rfl ?_
      refine e_icmp_ne (tgt := 46) (pc := 39) Xc (dT hX5_choice 21 rfl) rfl (fun c39 => ?_) (fun c39 => ?_)
      · skip
        refine e_iconst (v := 0) (pc := 46) Xc (dT hX5_choice 24 rfl) rfl ?_
        refine e_val (y := bI (thinF X r)) (by simp_all [thinF, bI]) ?_
        refine Ev.pick (L' := [(0, .ref w), (1, .int (nI r)), (2, .int (A 4 r))]) [1, 2, 0] rfl ?_
        exact jn47  
      · skip
        refine e_iconst (v := 1) (pc := 42) Xc (dT hX5_choice 22 rfl) rfl ?_
        refine e_goto (tgt := 47) (pc := 43) Xc (dT hX5_choice 23 rfl) rfl ?_
        refine e_val (y := bI (thinF X r)) (by simp_all [thinF, bI]) ?_
        refine Ev.pick (L' := [(0, .ref w), (1, .int (nI r)), (2, .int (A 4 r))]) [1, 2, 0] rfl ?_
        exact jn47  
  · skip
    have hn : X (1 + r) = -1 := WB.has5 hG (by omega) (by rw [← hW.2.2.2.1 r (by omega)]; exact c12)
    refine e_bipush (v := -5) (pc := 15) Xc (dT hX5_choice 8 rfl) rfl ?_
    refine e_iret (pc := 17) Xc hQ (dT hX5_choice 9 rfl) (Nat.le_refl _) (Nat.le_refl _) ?_
    refine ⟨?_, rfl⟩
    rw [cho_no hn]
    rfl
set_option maxRecDepth 100000 in
set_option maxHeartbeats 4000000 in
theorem c5_total {G : xG} {σ : xS} {w : Nat} {X : Nat → Int32} {nr nb : Nat} {t : xT} {F : Nat → Int32} {T : Nat → Nat} {A : Nat → Nat → Int32} {ln : Nat} (hB : WB σ w X nr nb t F T A ln) (hL : LB X ln) : CI G yX5_total cX5_total 4 (some .int) 2 0 0 [.ref w] σ (fun z σ1 => z = totF X t nr ∧ σ1 = σ) := by
  refine Met.ofX (by decide +kernel) (Nat.le_of_ble_eq_true rfl) (fun μ Xc hQ hnm => ?_)
  have Xc : xC G μ cX5_total 4 RX5 (some .int) 2 0 0 := Xc
  obtain ⟨hP, hW, hTw, hne, hG, hT⟩ := id hB
  have hr4 := hG.r4
  have hb7 := hG.b7
  have lp4 : ∀ (n4 : Nat) (r : Nat) (ac : Int32), nr - r < n4 → (r ≤ nr) → (ac = itr (fun r a => a + (if X (1 + r) = -1 then 0 else likF X t r (X (1 + r)).toNatClampNeg)) 0 r) → Ev G μ 4 0 0 4 [(0, .ref w), (2, .int (nI r)), (1, .int ac)] [] σ := by
    intro n4
    induction n4 with
    | zero => intro r ac hn; exact absurd hn (Nat.not_lt_zero _)
    | succ n4 ih4 =>
      intro r ac hn4 hr ha0
      refine e_iload_n (pc := 4) Xc (dT hX5_total 4 rfl) 1 rfl ?_
      refine e_aload_n (pc := 5) Xc (dT hX5_total 5 rfl) 0 rfl ?_
      refine gf_X5_40 (pc := 6) Xc (dT hX5_total 6 rfl) hP.o rfl ?_
      refine e_val (y := nI nr) hW.2.2.2.2.2.2.1 ?_
      refine e_icmp_geN (x := r) (y := nr) (tgt := 42) (pc := 9) Xc (dT hX5_total 7 rfl) rfl (by omega) (by omega) (fun c9 => ?_) (fun c9 => ?_)
      · skip
        refine e_iload_n (pc := 42) Xc (dT hX5_total 25 rfl) 2 rfl ?_
        refine e_iret (pc := 43) Xc hQ (dT hX5_total 26 rfl) (Nat.le_refl _) (Nat.le_refl _) ?_
        refine ⟨?_, rfl⟩
        have hbe : r = nr := by omega
        subst hbe
        exact ha0
      · skip
        refine e_aload_n (pc := 12) Xc (dT hX5_total 8 rfl) 0 rfl ?_
        refine gf_X5_21 (pc := 13) Xc (dT hX5_total 9 rfl) hP.o rfl ?_
        refine e_iload_n (pc := 16) Xc (dT hX5_total 10 rfl) 1 rfl ?_
        refine cl_X5_68 (pc := 17) (k := 0) (n := 0) (S := []) Xc (c_get hP.a4 (by decide) (by decide) r (by omega)) (dT hX5_total 11 rfl) rfl (Nat.le_of_ble_eq_true rfl) (Nat.le_of_ble_eq_true rfl) (Nat.le_of_ble_eq_true rfl) rfl (Nat.le_of_ble_eq_true rfl) (fun r1 σ2 hq3 => ?_)
        obtain ⟨r1e, r1s⟩ := hq3
        have r1e := r1e.symm; subst r1e; have r1s := r1s.symm; subst r1s
        refine e_istore_n (L' := [(3, .int (A 4 r)), (0, .ref w), (2, .int (nI r)), (1, .int ac)]) (pc := 20) Xc (dT hX5_total 12 rfl) (by decide) rfl ?_
        refine e_iload_n (pc := 21) Xc (dT hX5_total 13 rfl) 0 rfl ?_
        refine e_bipush (v := -5) (pc := 22) Xc (dT hX5_total 14 rfl) rfl ?_
        refine e_icmp_eq (tgt := 36) (pc := 24) Xc (dT hX5_total 15 rfl) rfl (fun c24 => ?_) (fun c24 => ?_)
        · skip
          have hn : X (1 + r) = -1 := WB.has5 hG (by omega) (by rw [← hW.2.2.2.1 r (by omega)]; exact c24)
          refine e_iincN (a := r) (b := 1) (L' := [(2, .int (nI (r + 1))), (3, .int (A 4 r)), (0, .ref w), (1, .int ac)]) (pc := 36) Xc (dT hX5_total 23 rfl) 2 rfl rfl (by decide) rfl ?_
          refine e_goto (tgt := 4) (pc := 39) Xc (dT hX5_total 24 rfl) rfl ?_
          refine Ev.pick (L' := [(0, .ref w), (2, .int (nI (r + 1))), (1, .int ac)]) [2, 0, 3] rfl ?_
          exact ih4 (r + 1) ac (by omega) (by omega) (by rw [itr, ← ha0, if_pos hn]; exact (Int32.add_zero _).symm)
        · skip
          obtain ⟨h, hl, he⟩ := hG.has (r := r) (by omega) (orN_ne (by rw [← hW.2.2.2.1 r (by omega)]; exact c24))
          have ha : A 4 r = nI h := by rw [hW.2.2.2.1 r (by omega), he, orN_nI (by omega)]
          refine e_iload_n (pc := 27) Xc (dT hX5_total 16 rfl) 3 rfl ?_
          refine e_aload_n (pc := 28) Xc (dT hX5_total 17 rfl) 1 rfl ?_
          refine e_iload_n (pc := 29) Xc (dT hX5_total 18 rfl) 2 rfl ?_
          refine e_iload_n (pc := 30) Xc (dT hX5_total 19 rfl) 0 rfl ?_
          refine e_val (y := nI h) ha ?_
          refine cl_X5_83 (pc := 31) (k := 0) (n := 0) (S := [.int ac]) Xc hP.o (c5_liking hB hL r h (by omega) (by omega)) (dT hX5_total 20 rfl) rfl (Nat.le_of_ble_eq_true rfl) (Nat.le_of_ble_eq_true rfl) (Nat.le_of_ble_eq_true rfl) rfl (Nat.le_of_ble_eq_true rfl) (fun r4 σ5 hq6 => ?_)
          obtain ⟨r4e, r4s⟩ := hq6
          have r4e := r4e.symm; subst r4e; have r4s := r4s.symm; subst r4s
          refine e_iadd (pc := 34) Xc (dT hX5_total 21 rfl) ?_
          refine e_istore_n (L' := [(1, .int (ac + (likF X t r h))), (3, .int (A 4 r)), (0, .ref w), (2, .int (nI r))]) (pc := 35) Xc (dT hX5_total 22 rfl) (by decide) rfl ?_
          refine e_iincN (a := r) (b := 1) (L' := [(2, .int (nI (r + 1))), (1, .int (ac + (likF X t r h))), (3, .int (A 4 r)), (0, .ref w)]) (pc := 36) Xc (dT hX5_total 23 rfl) 3 rfl rfl (by decide) rfl ?_
          refine e_goto (tgt := 4) (pc := 39) Xc (dT hX5_total 24 rfl) rfl ?_
          refine Ev.pick (L' := [(0, .ref w), (2, .int (nI (r + 1))), (1, .int (ac + (likF X t r h)))]) [3, 0, 1] rfl ?_
          exact ih4 (r + 1) (ac + (likF X t r h)) (by omega) (by omega) (by rw [itr, ← ha0, if_neg (by rw [he]; exact nI_nm1 (by omega)), he, nI_clamp (by omega)])
  show Ev G μ 4 0 0 0 [(0, .ref w)] [] σ
  refine e_iconst (v := 0) (pc := 0) Xc (dT hX5_total 0 rfl) rfl ?_
  refine e_istore_n (L' := [(1, .int 0), (0, .ref w)]) (pc := 1) Xc (dT hX5_total 1 rfl) (by decide) rfl ?_
  refine e_iconst (v := 0) (pc := 2) Xc (dT hX5_total 2 rfl) rfl ?_
  refine e_istore_n (L' := [(2, .int 0), (1, .int 0), (0, .ref w)]) (pc := 3) Xc (dT hX5_total 3 rfl) (by decide) rfl ?_
  refine Ev.pick (L' := [(0, .ref w), (2, .int 0), (1, .int 0)]) [2, 0, 1] rfl ?_
  exact lp4 ((nr - 0) + 1) 0 0 (Nat.lt_succ_self _) (Nat.zero_le _) rfl
