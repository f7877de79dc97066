theorem law_top {G : xG} {μ : xM} {x m b L : Nat} {xs : Nat → Int32} (Xc : xC G μ code 4 RL (some .boolean) 30 600000 7302250) {σ : xS} {i k n : Nat} (hs : σ.2 (b, 0) = some (.inl (2, L, xs))) (hi : i ≤ 2052) (hl : L ≤ 2048) (K1 : ¬ i + 4 ≤ L → Ev G μ 4 k n 1311 [(0, .ref b), (1, .ref x), (2, .ref m), (3, .int (nI i))] [] σ) (K2 : i + 4 ≤ L → Ev G μ 4 k n 26 [(0, .ref b), (1, .ref x), (2, .ref m), (3, .int (nI i))] [] σ) : Ev G μ 4 k n 18 [(0, .ref b), (1, .ref x), (2, .ref m), (3, .int (nI i))] [] σ := by
  refine e_iload_n (pc := 18) Xc (dT hL_law_0 10 rfl) 3 rfl ?_
  refine e_aload_n (pc := 19) Xc (dT hL_law_0 11 rfl) 0 rfl ?_
  refine e_alen (v := nI L) (pc := 20) Xc (dT hL_law_0 12 rfl) hs rfl rfl ?_
  refine e_iconst (v := nI 4) (pc := 21) Xc (dT hL_law_0 13 rfl) rfl ?_
  refine e_isub (pc := 22) Xc (dT hL_law_0 14 rfl) ?_
  have e1 : (nI L - nI 4).toInt = (L : Int) - 4 := pk_sub_toInt (by omega) (by omega)
  have e2 : (nI i).toInt = (i : Int) := nI_toInt (by omega)
  refine e_icmp_gt (tgt := 1311) (pc := 23) Xc (dT hL_law_0 15 rfl) rfl (fun c => K1 ?_) (fun c => K2 ?_)
  · rw [Int32.lt_iff_toInt_lt, e1, e2] at c; omega
  · rw [Int32.lt_iff_toInt_lt, e1, e2] at c; omega
theorem law_step {G : xG} {μ : xM} {x m b L : Nat} {xs : Nat → Int32} (Xc : xC G μ code 4 RL (some .boolean) 30 600000 7302250) {σ : xS} {i k n : Nat} (hL : LI G σ x m b L xs) (hi4 : i + 4 ≤ L) (hl : L ≤ 2048) (hk : k + 5 ≤ 600000) (hn : n + 132 ≤ 7302250) (K : ∀ σ', LI G σ' x m b L xs → Ev G μ 4 (k + 5) (n + 132) 1305 [(0, .ref b), (1, .ref x), (2, .ref m), (3, .int (nI i))] [] σ') : Ev G μ 4 k n 26 [(0, .ref b), (1, .ref x), (2, .ref m), (3, .int (nI i))] [] σ := by
  have hs : σ.2 (b, 0) = some (.inl (2, L, xs)) := by
    obtain ⟨X, Y, bd, hi, rr, -, -, -, -, hs, -⟩ := hL
    exact hs
  refine e_aload_n (pc := 26) Xc (dT hL_law_0 16 rfl) 0 rfl ?_
  refine e_iload_n (pc := 27) Xc (dT hL_law_0 17 rfl) 3 rfl ?_
  refine e_ialdN (pc := 28) Xc (dT hL_law_0 18 rfl) hs (by decide) rfl i rfl (by omega) (by omega) ?_
  refine e_bipush (v := 63) (pc := 29) Xc (dT hL_law_0 19 rfl) rfl ?_
  refine e_iand (pc := 31) Xc (dT hL_law_0 20 rfl) ?_
  generalize xs i &&& 63 = v
  by_cases c0 : v.toInt = 0
  · exact e_tableIn (off := 172) (tgt := 204) (pc := 32) Xc (dT hL_law_0 21 rfl) (by rw [c0]; decide) (by rw [c0]; decide) (by rw [c0]; rfl) rfl (law_feed Xc hL hi4 hl hk hn K)
  by_cases c1 : v.toInt = 1
  · exact e_tableIn (off := 195) (tgt := 227) (pc := 32) Xc (dT hL_law_0 21 rfl) (by rw [c1]; decide) (by rw [c1]; decide) (by rw [c1]; rfl) rfl (law_town Xc hL hi4 hl hk hn K)
  by_cases c2 : v.toInt = 2
  · exact e_tableIn (off := 208) (tgt := 240) (pc := 32) Xc (dT hL_law_0 21 rfl) (by rw [c2]; decide) (by rw [c2]; decide) (by rw [c2]; rfl) rfl (law_book Xc hL hi4 hl hk hn K)
  by_cases c3 : v.toInt = 3
  · exact e_tableIn (off := 231) (tgt := 263) (pc := 32) Xc (dT hL_law_0 21 rfl) (by rw [c3]; decide) (by rw [c3]; decide) (by rw [c3]; rfl) rfl (law_reader Xc hL hi4 hl hk hn K)
  by_cases c4 : v.toInt = 4
  · exact e_tableIn (off := 264) (tgt := 296) (pc := 32) Xc (dT hL_law_0 21 rfl) (by rw [c4]; decide) (by rw [c4]; decide) (by rw [c4]; rfl) rfl (law_of Xc hL hi4 hl hk hn K)
  by_cases c5 : v.toInt = 5
  · exact e_tableIn (off := 297) (tgt := 329) (pc := 32) Xc (dT hL_law_0 21 rfl) (by rw [c5]; decide) (by rw [c5]; decide) (by rw [c5]; rfl) rfl (law_likes Xc hL hi4 hl hk hn K)
  by_cases c6 : v.toInt = 6
  · exact e_tableIn (off := 330) (tgt := 362) (pc := 32) Xc (dT hL_law_0 21 rfl) (by rw [c6]; decide) (by rw [c6]; decide) (by rw [c6]; rfl) rfl (law_at Xc hL hi4 hl hk hn K)
  by_cases c7 : v.toInt = 7
  · exact e_tableIn (off := 363) (tgt := 395) (pc := 32) Xc (dT hL_law_0 21 rfl) (by rw [c7]; decide) (by rw [c7]; decide) (by rw [c7]; rfl) rfl (law_row Xc hL hi4 hl hk hn K)
  by_cases c8 : v.toInt = 8
  · exact e_tableIn (off := 406) (tgt := 438) (pc := 32) Xc (dT hL_law_0 21 rfl) (by rw [c8]; decide) (by rw [c8]; decide) (by rw [c8]; rfl) rfl (law_lend Xc hL hi4 hl hk hn K)
  by_cases c9 : v.toInt = 9
  · exact e_tableIn (off := 439) (tgt := 471) (pc := 32) Xc (dT hL_law_0 21 rfl) (by rw [c9]; decide) (by rw [c9]; decide) (by rw [c9]; rfl) rfl (law_told Xc hL hi4 hl hk hn K)
  by_cases c10 : v.toInt = 10
  · exact e_tableIn (off := 462) (tgt := 494) (pc := 32) Xc (dT hL_law_0 21 rfl) (by rw [c10]; decide) (by rw [c10]; decide) (by rw [c10]; rfl) rfl (law_come Xc hL hi4 hl hk hn K)
  by_cases c11 : v.toInt = 11
  · exact e_tableIn (off := 485) (tgt := 517) (pc := 32) Xc (dT hL_law_0 21 rfl) (by rw [c11]; decide) (by rw [c11]; decide) (by rw [c11]; rfl) rfl (law_paste Xc hL hi4 hl hk hn K)
  by_cases c12 : v.toInt = 12
  · exact e_tableIn (off := 534) (tgt := 566) (pc := 32) Xc (dT hL_law_0 21 rfl) (by rw [c12]; decide) (by rw [c12]; decide) (by rw [c12]; rfl) rfl (law_pass Xc hL hi4 hl hk hn K)
  by_cases c13 : v.toInt = 13
  · exact e_tableIn (off := 557) (tgt := 589) (pc := 32) Xc (dT hL_law_0 21 rfl) (by rw [c13]; decide) (by rw [c13]; decide) (by rw [c13]; rfl) rfl (law_on Xc hL hi4 hl hk hn K)
  by_cases c14 : v.toInt = 14
  · exact e_tableIn (off := 590) (tgt := 622) (pc := 32) Xc (dT hL_law_0 21 rfl) (by rw [c14]; decide) (by rw [c14]; decide) (by rw [c14]; rfl) rfl (law_until Xc hL hi4 hl hk hn K)
  by_cases c15 : v.toInt = 15
  · exact e_tableIn (off := 613) (tgt := 645) (pc := 32) Xc (dT hL_law_0 21 rfl) (by rw [c15]; decide) (by rw [c15]; decide) (by rw [c15]; rfl) rfl (law_few Xc hL hi4 hl hk hn K)
  by_cases c16 : v.toInt = 16
  · exact e_tableIn (off := 646) (tgt := 678) (pc := 32) Xc (dT hL_law_0 21 rfl) (by rw [c16]; decide) (by rw [c16]; decide) (by rw [c16]; rfl) rfl (law_reach Xc hL hi4 hl hk hn K)
  by_cases c17 : v.toInt = 17
  · exact e_tableIn (off := 669) (tgt := 701) (pc := 32) Xc (dT hL_law_0 21 rfl) (by rw [c17]; decide) (by rw [c17]; decide) (by rw [c17]; rfl) rfl (law_never Xc hL hi4 hl hk hn K)
  by_cases c18 : v.toInt = 18
  · exact e_tableIn (off := 682) (tgt := 714) (pc := 32) Xc (dT hL_law_0 21 rfl) (by rw [c18]; decide) (by rw [c18]; decide) (by rw [c18]; rfl) rfl (law_most Xc hL hi4 hl hk hn K)
  by_cases c19 : v.toInt = 19
  · exact e_tableIn (off := 705) (tgt := 737) (pc := 32) Xc (dT hL_law_0 21 rfl) (by rw [c19]; decide) (by rw [c19]; decide) (by rw [c19]; rfl) rfl (law_order Xc hL hi4 hl hk hn K)
  by_cases c20 : v.toInt = 20
  · exact e_tableIn (off := 728) (tgt := 760) (pc := 32) Xc (dT hL_law_0 21 rfl) (by rw [c20]; decide) (by rw [c20]; decide) (by rw [c20]; rfl) rfl (law_glues Xc hL hi4 hl hk hn K)
  by_cases c21 : v.toInt = 21
  · exact e_tableIn (off := 761) (tgt := 793) (pc := 32) Xc (dT hL_law_0 21 rfl) (by rw [c21]; decide) (by rw [c21]; decide) (by rw [c21]; rfl) rfl (law_tears Xc hL hi4 hl hk hn K)
  by_cases c22 : v.toInt = 22
  · exact e_tableIn (off := 794) (tgt := 826) (pc := 32) Xc (dT hL_law_0 21 rfl) (by rw [c22]; decide) (by rw [c22]; decide) (by rw [c22]; rfl) rfl (law_wanted Xc hL hi4 hl hk hn K)
  by_cases c23 : v.toInt = 23
  · exact e_tableIn (off := 817) (tgt := 849) (pc := 32) Xc (dT hL_law_0 21 rfl) (by rw [c23]; decide) (by rw [c23]; decide) (by rw [c23]; rfl) rfl (law_swells Xc hL hi4 hl hk hn K)
  by_cases c24 : v.toInt = 24
  · exact e_tableIn (off := 840) (tgt := 872) (pc := 32) Xc (dT hL_law_0 21 rfl) (by rw [c24]; decide) (by rw [c24]; decide) (by rw [c24]; rfl) rfl (law_see Xc hL hi4 hl hk hn K)
  by_cases c25 : v.toInt = 25
  · exact e_tableIn (off := 899) (tgt := 931) (pc := 32) Xc (dT hL_law_0 21 rfl) (by rw [c25]; decide) (by rw [c25]; decide) (by rw [c25]; rfl) rfl (law_had Xc hL hi4 hl hk hn K)
  by_cases c26 : v.toInt = 26
  · exact e_tableIn (off := 922) (tgt := 954) (pc := 32) Xc (dT hL_law_0 21 rfl) (by rw [c26]; decide) (by rw [c26]; decide) (by rw [c26]; rfl) rfl (law_firm Xc hL hi4 hl hk hn K)
  by_cases c27 : v.toInt = 27
  · exact e_tableIn (off := 955) (tgt := 987) (pc := 32) Xc (dT hL_law_0 21 rfl) (by rw [c27]; decide) (by rw [c27]; decide) (by rw [c27]; rfl) rfl (law_odds Xc hL hi4 hl hk hn K)
  by_cases c28 : v.toInt = 28
  · exact e_tableIn (off := 989) (tgt := 1021) (pc := 32) Xc (dT hL_law_0 21 rfl) (by rw [c28]; decide) (by rw [c28]; decide) (by rw [c28]; rfl) rfl (law_mean Xc hL hi4 hl hk hn K)
  by_cases c29 : v.toInt = 29
  · exact e_tableIn (off := 1023) (tgt := 1055) (pc := 32) Xc (dT hL_law_0 21 rfl) (by rw [c29]; decide) (by rw [c29]; decide) (by rw [c29]; rfl) rfl (law_plan Xc hL hi4 hl hk hn K)
  by_cases c30 : v.toInt = 30
  · exact e_tableIn (off := 1056) (tgt := 1088) (pc := 32) Xc (dT hL_law_0 21 rfl) (by rw [c30]; decide) (by rw [c30]; decide) (by rw [c30]; rfl) rfl (law_done Xc hL hi4 hl hk hn K)
  by_cases c31 : v.toInt = 31
  · exact e_tableIn (off := 1079) (tgt := 1111) (pc := 32) Xc (dT hL_law_0 21 rfl) (by rw [c31]; decide) (by rw [c31]; decide) (by rw [c31]; rfl) rfl (law_note Xc hL hi4 hl hk hn K)
  by_cases c32 : v.toInt = 32
  · exact e_tableIn (off := 1112) (tgt := 1144) (pc := 32) Xc (dT hL_law_0 21 rfl) (by rw [c32]; decide) (by rw [c32]; decide) (by rw [c32]; rfl) rfl (law_looked Xc hL hi4 hl hk hn K)
  by_cases c33 : v.toInt = 33
  · exact e_tableIn (off := 1125) (tgt := 1157) (pc := 32) Xc (dT hL_law_0 21 rfl) (by rw [c33]; decide) (by rw [c33]; decide) (by rw [c33]; rfl) rfl (law_act Xc hL hi4 hl hk hn K)
  by_cases c34 : v.toInt = 34
  · exact e_tableIn (off := 1168) (tgt := 1200) (pc := 32) Xc (dT hL_law_0 21 rfl) (by rw [c34]; decide) (by rw [c34]; decide) (by rw [c34]; rfl) rfl (law_trace Xc hL hi4 hl hk hn K)
  by_cases c35 : v.toInt = 35
  · exact e_tableIn (off := 1191) (tgt := 1223) (pc := 32) Xc (dT hL_law_0 21 rfl) (by rw [c35]; decide) (by rw [c35]; decide) (by rw [c35]; rfl) rfl (law_as Xc hL hi4 hl hk hn K)
  by_cases c36 : v.toInt = 36
  · exact e_tableIn (off := 1224) (tgt := 1256) (pc := 32) Xc (dT hL_law_0 21 rfl) (by rw [c36]; decide) (by rw [c36]; decide) (by rw [c36]; rfl) rfl (law_image Xc hL hi4 hl hk hn K)
  by_cases c37 : v.toInt = 37
  · exact e_tableIn (off := 1237) (tgt := 1269) (pc := 32) Xc (dT hL_law_0 21 rfl) (by rw [c37]; decide) (by rw [c37]; decide) (by rw [c37]; rfl) rfl (law_undo Xc hL hi4 hl hk hn K)
  by_cases c38 : v.toInt = 38
  · exact e_tableIn (off := 1250) (tgt := 1282) (pc := 32) Xc (dT hL_law_0 21 rfl) (by rw [c38]; decide) (by rw [c38]; decide) (by rw [c38]; rfl) rfl (law_count Xc hL hi4 hl hk hn K)
  exact e_tableOut (tgt := 1305) (pc := 32) Xc (dT hL_law_0 21 rfl) (by omega) rfl (Ev.wide (by omega) (by omega) (K σ hL))
theorem law_loop {G : xG} {μ : xM} {x m b L : Nat} {xs : Nat → Int32} (Xc : xC G μ code 4 RL (some .boolean) 30 600000 7302250) (hR : mR μ = room_1) (hA : mA μ = #[Value.ref b]) (hQ : mQ μ = lw_Z (mB μ) (mA μ) (mS μ)) (hgB : gB G = (mS μ).heap.size) (hl : L ≤ 2048) : ∀ (f i k n : Nat) (σ : xS), LI G σ x m b L xs → L ≤ i + 4 * f + 3 → i ≤ 2052 → k + 5 * f ≤ 600000 → n + 132 * f ≤ 7302250 → Ev G μ 4 k n 18 [(0, .ref b), (1, .ref x), (2, .ref m), (3, .int (nI i))] [] σ := by
  intro f
  induction f with
  | zero =>
    intro i k n σ hL h1 h2 h3 h4
    obtain ⟨X, Y, bd, hi, rr, -, -, -, -, hs, -⟩ := hL
    refine law_top Xc hs h2 hl (fun _ => ?_) (fun c => by omega)
    refine e_iconst (v := 1) (pc := 1311) Xc (dT hL_law_15 50 rfl) rfl ?_
    exact e_lawret Xc hR hA hQ hgB (by omega) (by omega) (dT hL_law_15 51 rfl)
  | succ f ih =>
    intro i k n σ hL h1 h2 h3 h4
    have hs : σ.2 (b, 0) = some (.inl (2, L, xs)) := by
      obtain ⟨X, Y, bd, hi, rr, -, -, -, -, hs, -⟩ := hL
      exact hs
    refine law_top Xc hs h2 hl (fun _ => ?_) (fun c => ?_)
    · refine e_iconst (v := 1) (pc := 1311) Xc (dT hL_law_15 50 rfl) rfl ?_
      exact e_lawret Xc hR hA hQ hgB (by omega) (by omega) (dT hL_law_15 51 rfl)
    · refine law_step Xc hL c hl (by omega) (by omega) (fun σ' hL' => ?_)
      refine e_iincN (a := i) (b := 4) (L' := [(3, .int (nI (i + 4))), (0, .ref b), (1, .ref x), (2, .ref m)]) (pc := 1305) Xc (dT hL_law_15 48 rfl) 3 rfl rfl (by decide) rfl ?_
      refine e_goto (tgt := 18) (pc := 1308) Xc (dT hL_law_15 49 rfl) rfl ?_
      refine Ev.pick [1, 2, 3, 0] rfl ?_
      exact ih (i + 4) (k + 5) (n + 132) σ' hL' (by omega) (by omega) (by omega) (by omega)
