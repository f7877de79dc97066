theorem law_come {G : xG} {μ : xM} {σ : xS} {x m b L i k n : Nat} {xs : Nat → Int32} (Xc : xC G μ code 4 RL (some .boolean) 30 600000 7302250) (hL : LI G σ x m b L xs) (hi4 : i + 4 ≤ L) (hl : L ≤ 2048) (hk : k + 5 ≤ 600000) (hn : n + 132 ≤ 7302250) (K : ∀ σ', LI G σ' x m b L xs → Ev G μ 4 (k + 5) (n + 132) 1305 [(0, .ref b), (1, .ref x), (2, .ref m), (3, .int (nI i))] [] σ') : Ev G μ 4 k n 494 [(0, .ref b), (1, .ref x), (2, .ref m), (3, .int (nI i))] [] σ := by
  obtain ⟨X, Y, bd, hi, rr, ⟨nr, nb, ns, np, nn, nt, na, dy, t, hB, hK, hW, hPa9⟩, hM, h9, hrr, hs, hbx⟩ := hL
  obtain ⟨hxm, hms⟩ := hB.ms
  obtain ⟨fx, hex⟩ := hB.he
  refine e_aload_n (pc := 494) Xc (dT hL_law_4 32 rfl) 1 rfl ?_
  refine e_aload_n (pc := 495) Xc (dT hL_law_4 33 rfl) 0 rfl ?_
  refine e_iload_n (pc := 496) Xc (dT hL_law_4 34 rfl) 3 rfl ?_
  refine e_iconst (v := nI 1) (pc := 497) Xc (dT hL_law_4 35 rfl) rfl ?_
  refine e_iaddN (pc := 498) Xc (dT hL_law_4 36 rfl) ?_
  refine e_ialdN (pc := 499) Xc (dT hL_law_4 37 rfl) hs (by decide) rfl (i + 1) rfl (by omega) (by omega) ?_
  refine cl_L_57 (pc := 500) (k := k) (n := n) (S := []) Xc hex (b_come hB hK hW hPa9 (xs (i + 1))) (dT hL_law_4 38 rfl) rfl (by decide) (by omega) (by omega) rfl (by decide) (fun z1 σ1 q1 => ?_)
  obtain ⟨hz1, hST, hh9, ho1⟩ := q1
  have h9n := fun j (hj : 909 ≤ j) => (hh9 j hj).trans (h9 j hj)
  have hM1 := hM.cg (ho1.m hms hxm)
  have hs1 := ho1.b hms hxm hbx hs
  obtain ⟨fm, hem⟩ := hM1.he
  refine e_aload_n (pc := 503) Xc (dT hL_law_4 39 rfl) 2 rfl ?_
  refine e_aload_n (pc := 504) Xc (dT hL_law_4 40 rfl) 0 rfl ?_
  refine e_iload_n (pc := 505) Xc (dT hL_law_4 41 rfl) 3 rfl ?_
  refine e_iconst (v := nI 1) (pc := 506) Xc (dT hL_law_4 42 rfl) rfl ?_
  refine e_iaddN (pc := 507) Xc (dT hL_law_4 43 rfl) ?_
  refine e_ialdN (pc := 508) Xc (dT hL_law_4 44 rfl) hs1 (by decide) rfl (i + 1) rfl (by omega) (by omega) ?_
  refine cl_L_60 (pc := 509) (S := [.int z1]) Xc hem (p_come hM1 hK (xs (i + 1))) (dT hL_law_4 45 rfl) rfl (by decide) (by omega) (by omega) rfl (Nat.le_of_ble_eq_true rfl) (fun z2 σ2 q2 => ?_)
  obtain ⟨hz2, hM2, ho2⟩ := q2
  refine e_icmp_eq (tgt := 1305) (pc := 512) Xc (dT hL_law_4 46 rfl) rfl (fun _ => ?_) (fun c => absurd (hz1.trans hz2.symm) c)
  exact Ev.wide (by omega) (by omega) (K _ (LI.mk hST ho1 hms ho2 hM2 h9n hrr hs hbx hxm))
theorem law_paste {G : xG} {μ : xM} {σ : xS} {x m b L i k n : Nat} {xs : Nat → Int32} (Xc : xC G μ code 4 RL (some .boolean) 30 600000 7302250) (hL : LI G σ x m b L xs) (hi4 : i + 4 ≤ L) (hl : L ≤ 2048) (hk : k + 5 ≤ 600000) (hn : n + 132 ≤ 7302250) (K : ∀ σ', LI G σ' x m b L xs → Ev G μ 4 (k + 5) (n + 132) 1305 [(0, .ref b), (1, .ref x), (2, .ref m), (3, .int (nI i))] [] σ') : Ev G μ 4 k n 517 [(0, .ref b), (1, .ref x), (2, .ref m), (3, .int (nI i))] [] σ := by
  obtain ⟨X, Y, bd, hi, rr, ⟨nr, nb, ns, np, nn, nt, na, dy, t, hB, hK, hW, hPa9⟩, hM, h9, hrr, hs, hbx⟩ := hL
  obtain ⟨hxm, hms⟩ := hB.ms
  obtain ⟨fx, hex⟩ := hB.he
  refine e_aload_n (pc := 517) Xc (dT hL_law_4 49 rfl) 1 rfl ?_
  refine e_aload_n (pc := 518) Xc (dT hL_law_4 50 rfl) 0 rfl ?_
  refine e_iload_n (pc := 519) Xc (dT hL_law_4 51 rfl) 3 rfl ?_
  refine e_iconst (v := nI 1) (pc := 520) Xc (dT hL_law_4 52 rfl) rfl ?_
  refine e_iaddN (pc := 521) Xc (dT hL_law_4 53 rfl) ?_
  refine e_ialdN (pc := 522) Xc (dT hL_law_4 54 rfl) hs (by decide) rfl (i + 1) rfl (by omega) (by omega) ?_
  refine e_aload_n (pc := 523) Xc (dT hL_law_5 0 rfl) 0 rfl ?_
  refine e_iload_n (pc := 524) Xc (dT hL_law_5 1 rfl) 3 rfl ?_
  refine e_iconst (v := nI 2) (pc := 525) Xc (dT hL_law_5 2 rfl) rfl ?_
  refine e_iaddN (pc := 526) Xc (dT hL_law_5 3 rfl) ?_
  refine e_ialdN (pc := 527) Xc (dT hL_law_5 4 rfl) hs (by decide) rfl (i + 2) rfl (by omega) (by omega) ?_
  refine e_if_eq (tgt := 535) (pc := 528) Xc (dT hL_law_5 5 rfl) rfl (fun c1 => ?_) (fun c1 => ?_)
  · refine e_iconst (v := 0) (pc := 535) Xc (dT hL_law_5 8 rfl) rfl ?_
    refine cl_L_61 (pc := 536) (k := k) (n := n) (S := []) Xc hex (b_paste hB hK hW hPa9 (xs (i + 1)) (0 : Int32)) (dT hL_law_5 9 rfl) rfl (by decide) (by omega) (by omega) rfl (by decide) (fun z1 σ1 q1 => ?_)
    obtain ⟨hz1, hST, hh9, ho1⟩ := q1
    have h9n := fun j (hj : 909 ≤ j) => (hh9 j hj).trans (h9 j hj)
    have hM1 := hM.cg (ho1.m hms hxm)
    have hs1 := ho1.b hms hxm hbx hs
    obtain ⟨fm, hem⟩ := hM1.he
    refine e_aload_n (pc := 539) Xc (dT hL_law_5 10 rfl) 2 rfl ?_
    refine e_aload_n (pc := 540) Xc (dT hL_law_5 11 rfl) 0 rfl ?_
    refine e_iload_n (pc := 541) Xc (dT hL_law_5 12 rfl) 3 rfl ?_
    refine e_iconst (v := nI 1) (pc := 542) Xc (dT hL_law_5 13 rfl) rfl ?_
    refine e_iaddN (pc := 543) Xc (dT hL_law_5 14 rfl) ?_
    refine e_ialdN (pc := 544) Xc (dT hL_law_5 15 rfl) hs1 (by decide) rfl (i + 1) rfl (by omega) (by omega) ?_
    refine e_aload_n (pc := 545) Xc (dT hL_law_5 16 rfl) 0 rfl ?_
    refine e_iload_n (pc := 546) Xc (dT hL_law_5 17 rfl) 3 rfl ?_
    refine e_iconst (v := nI 2) (pc := 547) Xc (dT hL_law_5 18 rfl) rfl ?_
    refine e_iaddN (pc := 548) Xc (dT hL_law_5 19 rfl) ?_
    refine e_ialdN (pc := 549) Xc (dT hL_law_5 20 rfl) hs1 (by decide) rfl (i + 2) rfl (by omega) (by omega) ?_
    refine e_if_eq (tgt := 557) (pc := 550) Xc (dT hL_law_5 21 rfl) rfl (fun _ => ?_) (fun c => absurd c1 c)
    refine e_iconst (v := 0) (pc := 557) Xc (dT hL_law_5 24 rfl) rfl ?_
    refine cl_L_65 (pc := 558) (S := [.int z1]) Xc hem (p_paste hM1 hK (xs (i + 1)) (0 : Int32)) (dT hL_law_5 25 rfl) rfl (by decide) (by omega) (by omega) rfl (Nat.le_of_ble_eq_true rfl) (fun z2 σ2 q2 => ?_)
    obtain ⟨hz2, hM2, ho2⟩ := q2
    refine e_icmp_eq (tgt := 1305) (pc := 561) Xc (dT hL_law_5 26 rfl) rfl (fun _ => ?_) (fun c => absurd (hz1.trans hz2.symm) c)
    exact Ev.wide (by omega) (by omega) (K _ (LI.mk hST ho1 hms ho2 hM2 h9n hrr hs hbx hxm))
  · refine e_iconst (v := 1) (pc := 531) Xc (dT hL_law_5 6 rfl) rfl ?_
    refine e_goto (tgt := 536) (pc := 532) Xc (dT hL_law_5 7 rfl) rfl ?_
    refine cl_L_61 (pc := 536) (k := k) (n := n) (S := []) Xc hex (b_paste hB hK hW hPa9 (xs (i + 1)) (1 : Int32)) (dT hL_law_5 9 rfl) rfl (by decide) (by omega) (by omega) rfl (by decide) (fun z1 σ1 q1 => ?_)
    obtain ⟨hz1, hST, hh9, ho1⟩ := q1
    have h9n := fun j (hj : 909 ≤ j) => (hh9 j hj).trans (h9 j hj)
    have hM1 := hM.cg (ho1.m hms hxm)
    have hs1 := ho1.b hms hxm hbx hs
    obtain ⟨fm, hem⟩ := hM1.he
    refine e_aload_n (pc := 539) Xc (dT hL_law_5 10 rfl) 2 rfl ?_
    refine e_aload_n (pc := 540) Xc (dT hL_law_5 11 rfl) 0 rfl ?_
    refine e_iload_n (pc := 541) Xc (dT hL_law_5 12 rfl) 3 rfl ?_
    refine e_iconst (v := nI 1) (pc := 542) Xc (dT hL_law_5 13 rfl) rfl ?_
    refine e_iaddN (pc := 543) Xc (dT hL_law_5 14 rfl) ?_
    refine e_ialdN (pc := 544) Xc (dT hL_law_5 15 rfl) hs1 (by decide) rfl (i + 1) rfl (by omega) (by omega) ?_
    refine e_aload_n (pc := 545) Xc (dT hL_law_5 16 rfl) 0 rfl ?_
    refine e_iload_n (pc := 546) Xc (dT hL_law_5 17 rfl) 3 rfl ?_
    refine e_iconst (v := nI 2) (pc := 547) Xc (dT hL_law_5 18 rfl) rfl ?_
    refine e_iaddN (pc := 548) Xc (dT hL_law_5 19 rfl) ?_
    refine e_ialdN (pc := 549) Xc (dT hL_law_5 20 rfl) hs1 (by decide) rfl (i + 2) rfl (by omega) (by omega) ?_
    refine e_if_eq (tgt := 557) (pc := 550) Xc (dT hL_law_5 21 rfl) rfl (fun c => absurd c c1) (fun _ => ?_)
    refine e_iconst (v := 1) (pc := 553) Xc (dT hL_law_5 22 rfl) rfl ?_
    refine e_goto (tgt := 558) (pc := 554) Xc (dT hL_law_5 23 rfl) rfl ?_
    refine cl_L_65 (pc := 558) (S := [.int z1]) Xc hem (p_paste hM1 hK (xs (i + 1)) (1 : Int32)) (dT hL_law_5 25 rfl) rfl (by decide) (by omega) (by omega) rfl (Nat.le_of_ble_eq_true rfl) (fun z2 σ2 q2 => ?_)
    obtain ⟨hz2, hM2, ho2⟩ := q2
    refine e_icmp_eq (tgt := 1305) (pc := 561) Xc (dT hL_law_5 26 rfl) rfl (fun _ => ?_) (fun c => absurd (hz1.trans hz2.symm) c)
    exact Ev.wide (by omega) (by omega) (K _ (LI.mk hST ho1 hms ho2 hM2 h9n hrr hs hbx hxm))
theorem law_pass {G : xG} {μ : xM} {σ : xS} {x m b L i k n : Nat} {xs : Nat → Int32} (Xc : xC G μ code 4 RL (some .boolean) 30 600000 7302250) (hL : LI G σ x m b L xs) (hi4 : i + 4 ≤ L) (hl : L ≤ 2048) (hk : k + 5 ≤ 600000) (hn : n + 132 ≤ 7302250) (K : ∀ σ', LI G σ' x m b L xs → Ev G μ 4 (k + 5) (n + 132) 1305 [(0, .ref b), (1, .ref x), (2, .ref m), (3, .int (nI i))] [] σ') : Ev G μ 4 k n 566 [(0, .ref b), (1, .ref x), (2, .ref m), (3, .int (nI i))] [] σ := by
  obtain ⟨X, Y, bd, hi, rr, ⟨nr, nb, ns, np, nn, nt, na, dy, t, hB, hK, hW, hPa9⟩, hM, h9, hrr, hs, hbx⟩ := hL
  obtain ⟨hxm, hms⟩ := hB.ms
  obtain ⟨fx, hex⟩ := hB.he
  refine e_aload_n (pc := 566) Xc (dT hL_law_5 29 rfl) 1 rfl ?_
  refine e_aload_n (pc := 567) Xc (dT hL_law_5 30 rfl) 0 rfl ?_
  refine e_iload_n (pc := 568) Xc (dT hL_law_5 31 rfl) 3 rfl ?_
  refine e_iconst (v := nI 1) (pc := 569) Xc (dT hL_law_5 32 rfl) rfl ?_
  refine e_iaddN (pc := 570) Xc (dT hL_law_5 33 rfl) ?_
  refine e_ialdN (pc := 571) Xc (dT hL_law_5 34 rfl) hs (by decide) rfl (i + 1) rfl (by omega) (by omega) ?_
  refine cl_L_66 (pc := 572) (k := k) (n := n) (S := []) Xc hex (b_pass hB hK hW hPa9 (xs (i + 1))) (dT hL_law_5 35 rfl) rfl (by decide) (by omega) (by omega) rfl (by decide) (fun z1 σ1 q1 => ?_)
  obtain ⟨hz1, hST, hh9, ho1⟩ := q1
  have h9n := fun j (hj : 909 ≤ j) => (hh9 j hj).trans (h9 j hj)
  have hM1 := hM.cg (ho1.m hms hxm)
  have hs1 := ho1.b hms hxm hbx hs
  obtain ⟨fm, hem⟩ := hM1.he
  refine e_aload_n (pc := 575) Xc (dT hL_law_5 36 rfl) 2 rfl ?_
  refine e_aload_n (pc := 576) Xc (dT hL_law_5 37 rfl) 0 rfl ?_
  refine e_iload_n (pc := 577) Xc (dT hL_law_5 38 rfl) 3 rfl ?_
  refine e_iconst (v := nI 1) (pc := 578) Xc (dT hL_law_5 39 rfl) rfl ?_
  refine e_iaddN (pc := 579) Xc (dT hL_law_5 40 rfl) ?_
  refine e_ialdN (pc := 580) Xc (dT hL_law_5 41 rfl) hs1 (by decide) rfl (i + 1) rfl (by omega) (by omega) ?_
  refine cl_L_69 (pc := 581) (S := [.int z1]) Xc hem (p_pass hM1 hK (xs (i + 1))) (dT hL_law_5 42 rfl) rfl (by decide) (by omega) (by omega) rfl (Nat.le_of_ble_eq_true rfl) (fun z2 σ2 q2 => ?_)
  obtain ⟨hz2, hM2, ho2⟩ := q2
  refine e_icmp_eq (tgt := 1305) (pc := 584) Xc (dT hL_law_5 43 rfl) rfl (fun _ => ?_) (fun c => absurd (hz1.trans hz2.symm) c)
  exact Ev.wide (by omega) (by omega) (K _ (LI.mk hST ho1 hms ho2 hM2 h9n hrr hs hbx hxm))
theorem law_on {G : xG} {μ : xM} {σ : xS} {x m b L i k n : Nat} {xs : Nat → Int32} (Xc : xC G μ code 4 RL (some .boolean) 30 600000 7302250) (hL : LI G σ x m b L xs) (hi4 : i + 4 ≤ L) (hl : L ≤ 2048) (hk : k + 5 ≤ 600000) (hn : n + 132 ≤ 7302250) (K : ∀ σ', LI G σ' x m b L xs → Ev G μ 4 (k + 5) (n + 132) 1305 [(0, .ref b), (1, .ref x), (2, .ref m), (3, .int (nI i))] [] σ') : Ev G μ 4 k n 589 [(0, .ref b), (1, .ref x), (2, .ref m), (3, .int (nI i))] [] σ := by
  obtain ⟨X, Y, bd, hi, rr, ⟨nr, nb, ns, np, nn, nt, na, dy, t, hB, hK, hW, hPa9⟩, hM, h9, hrr, hs, hbx⟩ := hL
  obtain ⟨hxm, hms⟩ := hB.ms
  obtain ⟨fx, hex⟩ := hB.he
  refine e_aload_n (pc := 589) Xc (dT hL_law_5 46 rfl) 1 rfl ?_
  refine e_aload_n (pc := 590) Xc (dT hL_law_5 47 rfl) 0 rfl ?_
  refine e_iload_n (pc := 591) Xc (dT hL_law_5 48 rfl) 3 rfl ?_
  refine e_iconst (v := nI 1) (pc := 592) Xc (dT hL_law_5 49 rfl) rfl ?_
  refine e_iaddN (pc := 593) Xc (dT hL_law_5 50 rfl) ?_
  refine e_ialdN (pc := 594) Xc (dT hL_law_5 51 rfl) hs (by decide) rfl (i + 1) rfl (by omega) (by omega) ?_
  refine e_aload_n (pc := 595) Xc (dT hL_law_5 52 rfl) 0 rfl ?_
  refine e_iload_n (pc := 596) Xc (dT hL_law_5 53 rfl) 3 rfl ?_
  refine e_iconst (v := nI 2) (pc := 597) Xc (dT hL_law_5 54 rfl) rfl ?_
  refine e_iaddN (pc := 598) Xc (dT hL_law_6 0 rfl) ?_
  refine e_ialdN (pc := 599) Xc (dT hL_law_6 1 rfl) hs (by decide) rfl (i + 2) rfl (by omega) (by omega) ?_
  refine cl_L_70 (pc := 600) (k := k) (n := n) (S := []) Xc hex (b_on hB hK (xs (i + 1)) (xs (i + 2))) (dT hL_law_6 2 rfl) rfl (by decide) (by omega) (by omega) rfl (by decide) (fun z1 σ1 q1 => ?_)
  obtain ⟨hz1, hB1, ho1⟩ := q1
  have hST : ST G σ1 x m X Y bd hi rr := ⟨nr, nb, ns, np, nn, nt, na, dy, t, hB1, hK, hW, hPa9⟩
  have h9n := h9
  have hM1 := hM.cg (ho1.m hms hxm)
  have hs1 := ho1.b hms hxm hbx hs
  obtain ⟨fm, hem⟩ := hM1.he
  refine e_aload_n (pc := 603) Xc (dT hL_law_6 3 rfl) 2 rfl ?_
  refine e_aload_n (pc := 604) Xc (dT hL_law_6 4 rfl) 0 rfl ?_
  refine e_iload_n (pc := 605) Xc (dT hL_law_6 5 rfl) 3 rfl ?_
  refine e_iconst (v := nI 1) (pc := 606) Xc (dT hL_law_6 6 rfl) rfl ?_
  refine e_iaddN (pc := 607) Xc (dT hL_law_6 7 rfl) ?_
  refine e_ialdN (pc := 608) Xc (dT hL_law_6 8 rfl) hs1 (by decide) rfl (i + 1) rfl (by omega) (by omega) ?_
  refine e_aload_n (pc := 609) Xc (dT hL_law_6 9 rfl) 0 rfl ?_
  refine e_iload_n (pc := 610) Xc (dT hL_law_6 10 rfl) 3 rfl ?_
  refine e_iconst (v := nI 2) (pc := 611) Xc (dT hL_law_6 11 rfl) rfl ?_
  refine e_iaddN (pc := 612) Xc (dT hL_law_6 12 rfl) ?_
  refine e_ialdN (pc := 613) Xc (dT hL_law_6 13 rfl) hs1 (by decide) rfl (i + 2) rfl (by omega) (by omega) ?_
  refine cl_L_73 (pc := 614) (S := [.int z1]) Xc hem (p_on hM1 hK (xs (i + 1)) (xs (i + 2))) (dT hL_law_6 14 rfl) rfl (by decide) (by omega) (by omega) rfl (Nat.le_of_ble_eq_true rfl) (fun z2 σ2 q2 => ?_)
  obtain ⟨hz2, hM2, ho2⟩ := q2
  refine e_icmp_eq (tgt := 1305) (pc := 617) Xc (dT hL_law_6 15 rfl) rfl (fun _ => ?_) (fun c => absurd (hz1.trans hz2.symm) c)
  exact Ev.wide (by omega) (by omega) (K _ (LI.mk hST ho1 hms ho2 hM2 h9n hrr hs hbx hxm))
theorem law_until {G : xG} {μ : xM} {σ : xS} {x m b L i k n : Nat} {xs : Nat → Int32} (Xc : xC G μ code 4 RL (some .boolean) 30 600000 7302250) (hL : LI G σ x m b L xs) (hi4 : i + 4 ≤ L) (hl : L ≤ 2048) (hk : k + 5 ≤ 600000) (hn : n + 132 ≤ 7302250) (K : ∀ σ', LI G σ' x m b L xs → Ev G μ 4 (k + 5) (n + 132) 1305 [(0, .ref b), (1, .ref x), (2, .ref m), (3, .int (nI i))] [] σ') : Ev G μ 4 k n 622 [(0, .ref b), (1, .ref x), (2, .ref m), (3, .int (nI i))] [] σ := by
  obtain ⟨X, Y, bd, hi, rr, ⟨nr, nb, ns, np, nn, nt, na, dy, t, hB, hK, hW, hPa9⟩, hM, h9, hrr, hs, hbx⟩ := hL
  obtain ⟨hxm, hms⟩ := hB.ms
  obtain ⟨fx, hex⟩ := hB.he
  refine e_aload_n (pc := 622) Xc (dT hL_law_6 18 rfl) 1 rfl ?_
  refine e_aload_n (pc := 623) Xc (dT hL_law_6 19 rfl) 0 rfl ?_
  refine e_iload_n (pc := 624) Xc (dT hL_law_6 20 rfl) 3 rfl ?_
  refine e_iconst (v := nI 1) (pc := 625) Xc (dT hL_law_6 21 rfl) rfl ?_
  refine e_iaddN (pc := 626) Xc (dT hL_law_6 22 rfl) ?_
  refine e_ialdN (pc := 627) Xc (dT hL_law_6 23 rfl) hs (by decide) rfl (i + 1) rfl (by omega) (by omega) ?_
  refine cl_L_74 (pc := 628) (k := k) (n := n) (S := []) Xc hex (b_until hB hK (xs (i + 1))) (dT hL_law_6 24 rfl) rfl (by decide) (by omega) (by omega) rfl (by decide) (fun z1 σ1 q1 => ?_)
  obtain ⟨hz1, hB1, ho1⟩ := q1
  have hST : ST G σ1 x m X Y bd hi rr := ⟨nr, nb, ns, np, nn, nt, na, dy, t, hB1, hK, hW, hPa9⟩
  have h9n := h9
  have hM1 := hM.cg (ho1.m hms hxm)
  have hs1 := ho1.b hms hxm hbx hs
  obtain ⟨fm, hem⟩ := hM1.he
  refine e_aload_n (pc := 631) Xc (dT hL_law_6 25 rfl) 2 rfl ?_
  refine e_aload_n (pc := 632) Xc (dT hL_law_6 26 rfl) 0 rfl ?_
  refine e_iload_n (pc := 633) Xc (dT hL_law_6 27 rfl) 3 rfl ?_
  refine e_iconst (v := nI 1) (pc := 634) Xc (dT hL_law_6 28 rfl) rfl ?_
  refine e_iaddN (pc := 635) Xc (dT hL_law_6 29 rfl) ?_
  refine e_ialdN (pc := 636) Xc (dT hL_law_6 30 rfl) hs1 (by decide) rfl (i + 1) rfl (by omega) (by omega) ?_
  refine cl_L_77 (pc := 637) (S := [.int z1]) Xc hem (p_until hM1 hK (xs (i + 1))) (dT hL_law_6 31 rfl) rfl (by decide) (by omega) (by omega) rfl (Nat.le_of_ble_eq_true rfl) (fun z2 σ2 q2 => ?_)
  obtain ⟨hz2, hM2, ho2⟩ := q2
  refine e_icmp_eq (tgt := 1305) (pc := 640) Xc (dT hL_law_6 32 rfl) rfl (fun _ => ?_) (fun c => absurd (hz1.trans hz2.symm) c)
  exact Ev.wide (by omega) (by omega) (K _ (LI.mk hST ho1 hms ho2 hM2 h9n hrr hs hbx hxm))
theorem law_few {G : xG} {μ : xM} {σ : xS} {x m b L i k n : Nat} {xs : Nat → Int32} (Xc : xC G μ code 4 RL (some .boolean) 30 600000 7302250) (hL : LI G σ x m b L xs) (hi4 : i + 4 ≤ L) (hl : L ≤ 2048) (hk : k + 5 ≤ 600000) (hn : n + 132 ≤ 7302250) (K : ∀ σ', LI G σ' x m b L xs → Ev G μ 4 (k + 5) (n + 132) 1305 [(0, .ref b), (1, .ref x), (2, .ref m), (3, .int (nI i))] [] σ') : Ev G μ 4 k n 645 [(0, .ref b), (1, .ref x), (2, .ref m), (3, .int (nI i))] [] σ := by
  obtain ⟨X, Y, bd, hi, rr, ⟨nr, nb, ns, np, nn, nt, na, dy, t, hB, hK, hW, hPa9⟩, hM, h9, hrr, hs, hbx⟩ := hL
  obtain ⟨hxm, hms⟩ := hB.ms
  obtain ⟨fx, hex⟩ := hB.he
  refine e_aload_n (pc := 645) Xc (dT hL_law_6 35 rfl) 1 rfl ?_
  refine e_aload_n (pc := 646) Xc (dT hL_law_6 36 rfl) 0 rfl ?_
  refine e_iload_n (pc := 647) Xc (dT hL_law_6 37 rfl) 3 rfl ?_
  refine e_iconst (v := nI 1) (pc := 648) Xc (dT hL_law_6 38 rfl) rfl ?_
  refine e_iaddN (pc := 649) Xc (dT hL_law_6 39 rfl) ?_
  refine e_ialdN (pc := 650) Xc (dT hL_law_6 40 rfl) hs (by decide) rfl (i + 1) rfl (by omega) (by omega) ?_
  refine e_aload_n (pc := 651) Xc (dT hL_law_6 41 rfl) 0 rfl ?_
  refine e_iload_n (pc := 652) Xc (dT hL_law_6 42 rfl) 3 rfl ?_
  refine e_iconst (v := nI 2) (pc := 653) Xc (dT hL_law_6 43 rfl) rfl ?_
  refine e_iaddN (pc := 654) Xc (dT hL_law_6 44 rfl) ?_
  refine e_ialdN (pc := 655) Xc (dT hL_law_6 45 rfl) hs (by decide) rfl (i + 2) rfl (by omega) (by omega) ?_
  refine cl_L_78 (pc := 656) (k := k) (n := n) (S := []) Xc hex (b_few hB hK (xs (i + 1)) (xs (i + 2))) (dT hL_law_6 46 rfl) rfl (by decide) (by omega) (by omega) rfl (by decide) (fun z1 σ1 q1 => ?_)
  obtain ⟨hz1, hB1, ho1⟩ := q1
  have hST : ST G σ1 x m X Y bd hi rr := ⟨nr, nb, ns, np, nn, nt, na, dy, t, hB1, hK, hW, hPa9⟩
  have h9n := h9
  have hM1 := hM.cg (ho1.m hms hxm)
  have hs1 := ho1.b hms hxm hbx hs
  obtain ⟨fm, hem⟩ := hM1.he
  refine e_aload_n (pc := 659) Xc (dT hL_law_6 47 rfl) 2 rfl ?_
  refine e_aload_n (pc := 660) Xc (dT hL_law_6 48 rfl) 0 rfl ?_
  refine e_iload_n (pc := 661) Xc (dT hL_law_6 49 rfl) 3 rfl ?_
  refine e_iconst (v := nI 1) (pc := 662) Xc (dT hL_law_6 50 rfl) rfl ?_
  refine e_iaddN (pc := 663) Xc (dT hL_law_6 51 rfl) ?_
  refine e_ialdN (pc := 664) Xc (dT hL_law_6 52 rfl) hs1 (by decide) rfl (i + 1) rfl (by omega) (by omega) ?_
  refine e_aload_n (pc := 665) Xc (dT hL_law_6 53 rfl) 0 rfl ?_
  refine e_iload_n (pc := 666) Xc (dT hL_law_6 54 rfl) 3 rfl ?_
  refine e_iconst (v := nI 2) (pc := 667) Xc (dT hL_law_7 0 rfl) rfl ?_
  refine e_iaddN (pc := 668) Xc (dT hL_law_7 1 rfl) ?_
  refine e_ialdN (pc := 669) Xc (dT hL_law_7 2 rfl) hs1 (by decide) rfl (i + 2) rfl (by omega) (by omega) ?_
  refine cl_L_81 (pc := 670) (S := [.int z1]) Xc hem (p_few hM1 hK (xs (i + 1)) (xs (i + 2))) (dT hL_law_7 3 rfl) rfl (by decide) (by omega) (by omega) rfl (Nat.le_of_ble_eq_true rfl) (fun z2 σ2 q2 => ?_)
  obtain ⟨hz2, hM2, ho2⟩ := q2
  refine e_icmp_eq (tgt := 1305) (pc := 673) Xc (dT hL_law_7 4 rfl) rfl (fun _ => ?_) (fun c => absurd (hz1.trans hz2.symm) c)
  exact Ev.wide (by omega) (by omega) (K _ (LI.mk hST ho1 hms ho2 hM2 h9n hrr hs hbx hxm))
theorem law_reach {G : xG} {μ : xM} {σ : xS} {x m b L i k n : Nat} {xs : Nat → Int32} (Xc : xC G μ code 4 RL (some .boolean) 30 600000 7302250) (hL : LI G σ x m b L xs) (hi4 : i + 4 ≤ L) (hl : L ≤ 2048) (hk : k + 5 ≤ 600000) (hn : n + 132 ≤ 7302250) (K : ∀ σ', LI G σ' x m b L xs → Ev G μ 4 (k + 5) (n + 132) 1305 [(0, .ref b), (1, .ref x), (2, .ref m), (3, .int (nI i))] [] σ') : Ev G μ 4 k n 678 [(0, .ref b), (1, .ref x), (2, .ref m), (3, .int (nI i))] [] σ := by
  obtain ⟨X, Y, bd, hi, rr, ⟨nr, nb, ns, np, nn, nt, na, dy, t, hB, hK, hW, hPa9⟩, hM, h9, hrr, hs, hbx⟩ := hL
  obtain ⟨hxm, hms⟩ := hB.ms
  obtain ⟨fx, hex⟩ := hB.he
  refine e_aload_n (pc := 678) Xc (dT hL_law_7 7 rfl) 1 rfl ?_
  refine e_aload_n (pc := 679) Xc (dT hL_law_7 8 rfl) 0 rfl ?_
  refine e_iload_n (pc := 680) Xc (dT hL_law_7 9 rfl) 3 rfl ?_
  refine e_iconst (v := nI 1) (pc := 681) Xc (dT hL_law_7 10 rfl) rfl ?_
  refine e_iaddN (pc := 682) Xc (dT hL_law_7 11 rfl) ?_
  refine e_ialdN (pc := 683) Xc (dT hL_law_7 12 rfl) hs (by decide) rfl (i + 1) rfl (by omega) (by omega) ?_
  refine cl_L_82 (pc := 684) (k := k) (n := n) (S := []) Xc hex (b_reach hB hK (xs (i + 1))) (dT hL_law_7 13 rfl) rfl (by decide) (by omega) (by omega) rfl (by decide) (fun z1 σ1 q1 => ?_)
  obtain ⟨hz1, hB1, ho1⟩ := q1
  have hST : ST G σ1 x m X Y bd hi rr := ⟨nr, nb, ns, np, nn, nt, na, dy, t, hB1, hK, hW, hPa9⟩
  have h9n := h9
  have hM1 := hM.cg (ho1.m hms hxm)
  have hs1 := ho1.b hms hxm hbx hs
  obtain ⟨fm, hem⟩ := hM1.he
  refine e_aload_n (pc := 687) Xc (dT hL_law_7 14 rfl) 2 rfl ?_
  refine e_aload_n (pc := 688) Xc (dT hL_law_7 15 rfl) 0 rfl ?_
  refine e_iload_n (pc := 689) Xc (dT hL_law_7 16 rfl) 3 rfl ?_
  refine e_iconst (v := nI 1) (pc := 690) Xc (dT hL_law_7 17 rfl) rfl ?_
  refine e_iaddN (pc := 691) Xc (dT hL_law_7 18 rfl) ?_
  refine e_ialdN (pc := 692) Xc (dT hL_law_7 19 rfl) hs1 (by decide) rfl (i + 1) rfl (by omega) (by omega) ?_
  refine cl_L_85 (pc := 693) (S := [.int z1]) Xc hem (p_reach hM1 hK (xs (i + 1))) (dT hL_law_7 20 rfl) rfl (by decide) (by omega) (by omega) rfl (Nat.le_of_ble_eq_true rfl) (fun z2 σ2 q2 => ?_)
  obtain ⟨hz2, hM2, ho2⟩ := q2
  refine e_icmp_eq (tgt := 1305) (pc := 696) Xc (dT hL_law_7 21 rfl) rfl (fun _ => ?_) (fun c => absurd (hz1.trans hz2.symm) c)
  exact Ev.wide (by omega) (by omega) (K _ (LI.mk hST ho1 hms ho2 hM2 h9n hrr hs hbx hxm))
theorem law_never {G : xG} {μ : xM} {σ : xS} {x m b L i k n : Nat} {xs : Nat → Int32} (Xc : xC G μ code 4 RL (some .boolean) 30 600000 7302250) (hL : LI G σ x m b L xs) (hi4 : i + 4 ≤ L) (hl : L ≤ 2048) (hk : k + 5 ≤ 600000) (hn : n + 132 ≤ 7302250) (K : ∀ σ', LI G σ' x m b L xs → Ev G μ 4 (k + 5) (n + 132) 1305 [(0, .ref b), (1, .ref x), (2, .ref m), (3, .int (nI i))] [] σ') : Ev G μ 4 k n 701 [(0, .ref b), (1, .ref x), (2, .ref m), (3, .int (nI i))] [] σ := by
  obtain ⟨X, Y, bd, hi, rr, ⟨nr, nb, ns, np, nn, nt, na, dy, t, hB, hK, hW, hPa9⟩, hM, h9, hrr, hs, hbx⟩ := hL
  obtain ⟨hxm, hms⟩ := hB.ms
  obtain ⟨fx, hex⟩ := hB.he
  refine e_aload_n (pc := 701) Xc (dT hL_law_7 24 rfl) 1 rfl ?_
  refine cl_L_86 (pc := 702) (k := k) (n := n) (S := []) Xc hex (b_never hB hK ) (dT hL_law_7 25 rfl) rfl (by decide) (by omega) (by omega) rfl (by decide) (fun z1 σ1 q1 => ?_)
  obtain ⟨hz1, hB1, ho1⟩ := q1
  have hST : ST G σ1 x m X Y bd hi rr := ⟨nr, nb, ns, np, nn, nt, na, dy, t, hB1, hK, hW, hPa9⟩
  have h9n := h9
  have hM1 := hM.cg (ho1.m hms hxm)
  have hs1 := ho1.b hms hxm hbx hs
  obtain ⟨fm, hem⟩ := hM1.he
  refine e_aload_n (pc := 705) Xc (dT hL_law_7 26 rfl) 2 rfl ?_
  refine cl_L_89 (pc := 706) (S := [.int z1]) Xc hem (p_never hM1 hK ) (dT hL_law_7 27 rfl) rfl (by decide) (by omega) (by omega) rfl (Nat.le_of_ble_eq_true rfl) (fun z2 σ2 q2 => ?_)
  obtain ⟨hz2, hM2, ho2⟩ := q2
  refine e_icmp_eq (tgt := 1305) (pc := 709) Xc (dT hL_law_7 28 rfl) rfl (fun _ => ?_) (fun c => absurd (hz1.trans hz2.symm) c)
  exact Ev.wide (by omega) (by omega) (K _ (LI.mk hST ho1 hms ho2 hM2 h9n hrr hs hbx hxm))
theorem law_most {G : xG} {μ : xM} {σ : xS} {x m b L i k n : Nat} {xs : Nat → Int32} (Xc : xC G μ code 4 RL (some .boolean) 30 600000 7302250) (hL : LI G σ x m b L xs) (hi4 : i + 4 ≤ L) (hl : L ≤ 2048) (hk : k + 5 ≤ 600000) (hn : n + 132 ≤ 7302250) (K : ∀ σ', LI G σ' x m b L xs → Ev G μ 4 (k + 5) (n + 132) 1305 [(0, .ref b), (1, .ref x), (2, .ref m), (3, .int (nI i))] [] σ') : Ev G μ 4 k n 714 [(0, .ref b), (1, .ref x), (2, .ref m), (3, .int (nI i))] [] σ := by
  obtain ⟨X, Y, bd, hi, rr, ⟨nr, nb, ns, np, nn, nt, na, dy, t, hB, hK, hW, hPa9⟩, hM, h9, hrr, hs, hbx⟩ := hL
  obtain ⟨hxm, hms⟩ := hB.ms
  obtain ⟨fx, hex⟩ := hB.he
  refine e_aload_n (pc := 714) Xc (dT hL_law_7 31 rfl) 1 rfl ?_
  refine e_aload_n (pc := 715) Xc (dT hL_law_7 32 rfl) 0 rfl ?_
  refine e_iload_n (pc := 716) Xc (dT hL_law_7 33 rfl) 3 rfl ?_
  refine e_iconst (v := nI 1) (pc := 717) Xc (dT hL_law_7 34 rfl) rfl ?_
  refine e_iaddN (pc := 718) Xc (dT hL_law_7 35 rfl) ?_
  refine e_ialdN (pc := 719) Xc (dT hL_law_7 36 rfl) hs (by decide) rfl (i + 1) rfl (by omega) (by omega) ?_
  refine cl_L_90 (pc := 720) (k := k) (n := n) (S := []) Xc hex (b_most hB hK (xs (i + 1))) (dT hL_law_7 37 rfl) rfl (by decide) (by omega) (by omega) rfl (by decide) (fun z1 σ1 q1 => ?_)
  obtain ⟨hz1, hB1, ho1⟩ := q1
  have hST : ST G σ1 x m X Y bd hi rr := ⟨nr, nb, ns, np, nn, nt, na, dy, t, hB1, hK, hW, hPa9⟩
  have h9n := h9
  have hM1 := hM.cg (ho1.m hms hxm)
  have hs1 := ho1.b hms hxm hbx hs
  obtain ⟨fm, hem⟩ := hM1.he
  refine e_aload_n (pc := 723) Xc (dT hL_law_7 38 rfl) 2 rfl ?_
  refine e_aload_n (pc := 724) Xc (dT hL_law_7 39 rfl) 0 rfl ?_
  refine e_iload_n (pc := 725) Xc (dT hL_law_7 40 rfl) 3 rfl ?_
  refine e_iconst (v := nI 1) (pc := 726) Xc (dT hL_law_7 41 rfl) rfl ?_
  refine e_iaddN (pc := 727) Xc (dT hL_law_7 42 rfl) ?_
  refine e_ialdN (pc := 728) Xc (dT hL_law_7 43 rfl) hs1 (by decide) rfl (i + 1) rfl (by omega) (by omega) ?_
  refine cl_L_93 (pc := 729) (S := [.int z1]) Xc hem (p_most hM1 hK (xs (i + 1))) (dT hL_law_7 44 rfl) rfl (by decide) (by omega) (by omega) rfl (Nat.le_of_ble_eq_true rfl) (fun z2 σ2 q2 => ?_)
  obtain ⟨hz2, hM2, ho2⟩ := q2
  refine e_icmp_eq (tgt := 1305) (pc := 732) Xc (dT hL_law_7 45 rfl) rfl (fun _ => ?_) (fun c => absurd (hz1.trans hz2.symm) c)
  exact Ev.wide (by omega) (by omega) (K _ (LI.mk hST ho1 hms ho2 hM2 h9n hrr hs hbx hxm))
theorem law_order {G : xG} {μ : xM} {σ : xS} {x m b L i k n : Nat} {xs : Nat → Int32} (Xc : xC G μ code 4 RL (some .boolean) 30 600000 7302250) (hL : LI G σ x m b L xs) (hi4 : i + 4 ≤ L) (hl : L ≤ 2048) (hk : k + 5 ≤ 600000) (hn : n + 132 ≤ 7302250) (K : ∀ σ', LI G σ' x m b L xs → Ev G μ 4 (k + 5) (n + 132) 1305 [(0, .ref b), (1, .ref x), (2, .ref m), (3, .int (nI i))] [] σ') : Ev G μ 4 k n 737 [(0, .ref b), (1, .ref x), (2, .ref m), (3, .int (nI i))] [] σ := by
  obtain ⟨X, Y, bd, hi, rr, ⟨nr, nb, ns, np, nn, nt, na, dy, t, hB, hK, hW, hPa9⟩, hM, h9, hrr, hs, hbx⟩ := hL
  obtain ⟨hxm, hms⟩ := hB.ms
  obtain ⟨fx, hex⟩ := hB.he
  refine e_aload_n (pc := 737) Xc (dT hL_law_7 48 rfl) 1 rfl ?_
  refine e_aload_n (pc := 738) Xc (dT hL_law_7 49 rfl) 0 rfl ?_
  refine e_iload_n (pc := 739) Xc (dT hL_law_7 50 rfl) 3 rfl ?_
  refine e_iconst (v := nI 1) (pc := 740) Xc (dT hL_law_7 51 rfl) rfl ?_
  refine e_iaddN (pc := 741) Xc (dT hL_law_7 52 rfl) ?_
  refine e_ialdN (pc := 742) Xc (dT hL_law_7 53 rfl) hs (by decide) rfl (i + 1) rfl (by omega) (by omega) ?_
  refine cl_L_94 (pc := 743) (k := k) (n := n) (S := []) Xc hex (b_order hB hK hW (xs (i + 1))) (dT hL_law_7 54 rfl) rfl (by decide) (by omega) (by omega) rfl (by decide) (fun z1 σ1 q1 => ?_)
  obtain ⟨hz1, hB1, ho1⟩ := q1
  have hST : ST G σ1 x m X Y bd hi rr := ⟨nr, nb, ns, np, nn, nt, na, dy, t, hB1, hK, hW, hPa9⟩
  have h9n := h9
  have hM1 := hM.cg (ho1.m hms hxm)
  have hs1 := ho1.b hms hxm hbx hs
  obtain ⟨fm, hem⟩ := hM1.he
  refine e_aload_n (pc := 746) Xc (dT hL_law_8 0 rfl) 2 rfl ?_
  refine e_aload_n (pc := 747) Xc (dT hL_law_8 1 rfl) 0 rfl ?_
  refine e_iload_n (pc := 748) Xc (dT hL_law_8 2 rfl) 3 rfl ?_
  refine e_iconst (v := nI 1) (pc := 749) Xc (dT hL_law_8 3 rfl) rfl ?_
  refine e_iaddN (pc := 750) Xc (dT hL_law_8 4 rfl) ?_
  refine e_ialdN (pc := 751) Xc (dT hL_law_8 5 rfl) hs1 (by decide) rfl (i + 1) rfl (by omega) (by omega) ?_
  refine cl_L_97 (pc := 752) (S := [.int z1]) Xc hem (p_order hM1 hK hW (xs (i + 1))) (dT hL_law_8 6 rfl) rfl (by decide) (by omega) (by omega) rfl (Nat.le_of_ble_eq_true rfl) (fun z2 σ2 q2 => ?_)
  obtain ⟨hz2, hM2, ho2⟩ := q2
  refine e_icmp_eq (tgt := 1305) (pc := 755) Xc (dT hL_law_8 7 rfl) rfl (fun _ => ?_) (fun c => absurd (hz1.trans hz2.symm) c)
  exact Ev.wide (by omega) (by omega) (K _ (LI.mk hST ho1 hms ho2 hM2 h9n hrr hs hbx hxm))
