theorem law_glues {G : xG} {μ : xM} {σ : xS} {x m b L i k n : Nat} {xs : Nat → Int32} (Xc : xC G μ code 4 RL (some .boolean) 30 600000 7302250) (hL : LI G σ x m b L xs) (hi4 : i + 4 ≤ L) (hl : L ≤ 2048) (hk : k + 5 ≤ 600000) (hn : n + 132 ≤ 7302250) (K : ∀ σ', LI G σ' x m b L xs → Ev G μ 4 (k + 5) (n + 132) 1305 [(0, .ref b), (1, .ref x), (2, .ref m), (3, .int (nI i))] [] σ') : Ev G μ 4 k n 760 [(0, .ref b), (1, .ref x), (2, .ref m), (3, .int (nI i))] [] σ := by
  obtain ⟨X, Y, bd, hi, rr, ⟨nr, nb, ns, np, nn, nt, na, dy, t, hB, hK, hW, hPa9⟩, hM, h9, hrr, hs, hbx⟩ := hL
  obtain ⟨hxm, hms⟩ := hB.ms
  obtain ⟨fx, hex⟩ := hB.he
  refine e_aload_n (pc := 760) Xc (dT hL_law_8 10 rfl) 1 rfl ?_
  refine e_aload_n (pc := 761) Xc (dT hL_law_8 11 rfl) 0 rfl ?_
  refine e_iload_n (pc := 762) Xc (dT hL_law_8 12 rfl) 3 rfl ?_
  refine e_iconst (v := nI 1) (pc := 763) Xc (dT hL_law_8 13 rfl) rfl ?_
  refine e_iaddN (pc := 764) Xc (dT hL_law_8 14 rfl) ?_
  refine e_ialdN (pc := 765) Xc (dT hL_law_8 15 rfl) hs (by decide) rfl (i + 1) rfl (by omega) (by omega) ?_
  refine e_aload_n (pc := 766) Xc (dT hL_law_8 16 rfl) 0 rfl ?_
  refine e_iload_n (pc := 767) Xc (dT hL_law_8 17 rfl) 3 rfl ?_
  refine e_iconst (v := nI 2) (pc := 768) Xc (dT hL_law_8 18 rfl) rfl ?_
  refine e_iaddN (pc := 769) Xc (dT hL_law_8 19 rfl) ?_
  refine e_ialdN (pc := 770) Xc (dT hL_law_8 20 rfl) hs (by decide) rfl (i + 2) rfl (by omega) (by omega) ?_
  refine cl_L_98 (pc := 771) (k := k) (n := n) (S := []) Xc hex (b_glues hB hK hPa9 (xs (i + 1)) (xs (i + 2))) (dT hL_law_8 21 rfl) rfl (by decide) (by omega) (by omega) rfl (by decide) (fun z1 σ1 q1 => ?_)
  obtain ⟨hz1, hB1, ho1⟩ := q1
  have hST : ST G σ1 x m X Y bd hi rr := ⟨nr, nb, ns, np, nn, nt, na, dy, t, hB1, hK, hW, hPa9⟩
  have h9n := h9
  have hM1 := hM.cg (ho1.m hms hxm)
  have hs1 := ho1.b hms hxm hbx hs
  obtain ⟨fm, hem⟩ := hM1.he
  refine e_aload_n (pc := 774) Xc (dT hL_law_8 22 rfl) 2 rfl ?_
  refine e_aload_n (pc := 775) Xc (dT hL_law_8 23 rfl) 0 rfl ?_
  refine e_iload_n (pc := 776) Xc (dT hL_law_8 24 rfl) 3 rfl ?_
  refine e_iconst (v := nI 1) (pc := 777) Xc (dT hL_law_8 25 rfl) rfl ?_
  refine e_iaddN (pc := 778) Xc (dT hL_law_8 26 rfl) ?_
  refine e_ialdN (pc := 779) Xc (dT hL_law_8 27 rfl) hs1 (by decide) rfl (i + 1) rfl (by omega) (by omega) ?_
  refine e_aload_n (pc := 780) Xc (dT hL_law_8 28 rfl) 0 rfl ?_
  refine e_iload_n (pc := 781) Xc (dT hL_law_8 29 rfl) 3 rfl ?_
  refine e_iconst (v := nI 2) (pc := 782) Xc (dT hL_law_8 30 rfl) rfl ?_
  refine e_iaddN (pc := 783) Xc (dT hL_law_8 31 rfl) ?_
  refine e_ialdN (pc := 784) Xc (dT hL_law_8 32 rfl) hs1 (by decide) rfl (i + 2) rfl (by omega) (by omega) ?_
  refine cl_L_101 (pc := 785) (S := [.int z1]) Xc hem (p_glues hM1 hK (xs (i + 1)) (xs (i + 2))) (dT hL_law_8 33 rfl) rfl (by decide) (by omega) (by omega) rfl (Nat.le_of_ble_eq_true rfl) (fun z2 σ2 q2 => ?_)
  obtain ⟨hz2, hM2, ho2⟩ := q2
  refine e_icmp_eq (tgt := 1305) (pc := 788) Xc (dT hL_law_8 34 rfl) rfl (fun _ => ?_) (fun c => absurd (hz1.trans hz2.symm) c)
  exact Ev.wide (by omega) (by omega) (K _ (LI.mk hST ho1 hms ho2 hM2 h9n hrr hs hbx hxm))
theorem law_tears {G : xG} {μ : xM} {σ : xS} {x m b L i k n : Nat} {xs : Nat → Int32} (Xc : xC G μ code 4 RL (some .boolean) 30 600000 7302250) (hL : LI G σ x m b L xs) (hi4 : i + 4 ≤ L) (hl : L ≤ 2048) (hk : k + 5 ≤ 600000) (hn : n + 132 ≤ 7302250) (K : ∀ σ', LI G σ' x m b L xs → Ev G μ 4 (k + 5) (n + 132) 1305 [(0, .ref b), (1, .ref x), (2, .ref m), (3, .int (nI i))] [] σ') : Ev G μ 4 k n 793 [(0, .ref b), (1, .ref x), (2, .ref m), (3, .int (nI i))] [] σ := by
  obtain ⟨X, Y, bd, hi, rr, ⟨nr, nb, ns, np, nn, nt, na, dy, t, hB, hK, hW, hPa9⟩, hM, h9, hrr, hs, hbx⟩ := hL
  obtain ⟨hxm, hms⟩ := hB.ms
  obtain ⟨fx, hex⟩ := hB.he
  refine e_aload_n (pc := 793) Xc (dT hL_law_8 37 rfl) 1 rfl ?_
  refine e_aload_n (pc := 794) Xc (dT hL_law_8 38 rfl) 0 rfl ?_
  refine e_iload_n (pc := 795) Xc (dT hL_law_8 39 rfl) 3 rfl ?_
  refine e_iconst (v := nI 1) (pc := 796) Xc (dT hL_law_8 40 rfl) rfl ?_
  refine e_iaddN (pc := 797) Xc (dT hL_law_8 41 rfl) ?_
  refine e_ialdN (pc := 798) Xc (dT hL_law_8 42 rfl) hs (by decide) rfl (i + 1) rfl (by omega) (by omega) ?_
  refine e_aload_n (pc := 799) Xc (dT hL_law_8 43 rfl) 0 rfl ?_
  refine e_iload_n (pc := 800) Xc (dT hL_law_8 44 rfl) 3 rfl ?_
  refine e_iconst (v := nI 2) (pc := 801) Xc (dT hL_law_8 45 rfl) rfl ?_
  refine e_iaddN (pc := 802) Xc (dT hL_law_8 46 rfl) ?_
  refine e_ialdN (pc := 803) Xc (dT hL_law_8 47 rfl) hs (by decide) rfl (i + 2) rfl (by omega) (by omega) ?_
  refine cl_L_102 (pc := 804) (k := k) (n := n) (S := []) Xc hex (b_tears hB hK hPa9 (xs (i + 1)) (xs (i + 2))) (dT hL_law_8 48 rfl) rfl (by decide) (by omega) (by omega) rfl (by decide) (fun z1 σ1 q1 => ?_)
  obtain ⟨hz1, hB1, ho1⟩ := q1
  have hST : ST G σ1 x m X Y bd hi rr := ⟨nr, nb, ns, np, nn, nt, na, dy, t, hB1, hK, hW, hPa9⟩
  have h9n := h9
  have hM1 := hM.cg (ho1.m hms hxm)
  have hs1 := ho1.b hms hxm hbx hs
  obtain ⟨fm, hem⟩ := hM1.he
  refine e_aload_n (pc := 807) Xc (dT hL_law_8 49 rfl) 2 rfl ?_
  refine e_aload_n (pc := 808) Xc (dT hL_law_8 50 rfl) 0 rfl ?_
  refine e_iload_n (pc := 809) Xc (dT hL_law_8 51 rfl) 3 rfl ?_
  refine e_iconst (v := nI 1) (pc := 810) Xc (dT hL_law_8 52 rfl) rfl ?_
  refine e_iaddN (pc := 811) Xc (dT hL_law_8 53 rfl) ?_
  refine e_ialdN (pc := 812) Xc (dT hL_law_8 54 rfl) hs1 (by decide) rfl (i + 1) rfl (by omega) (by omega) ?_
  refine e_aload_n (pc := 813) Xc (dT hL_law_9 0 rfl) 0 rfl ?_
  refine e_iload_n (pc := 814) Xc (dT hL_law_9 1 rfl) 3 rfl ?_
  refine e_iconst (v := nI 2) (pc := 815) Xc (dT hL_law_9 2 rfl) rfl ?_
  refine e_iaddN (pc := 816) Xc (dT hL_law_9 3 rfl) ?_
  refine e_ialdN (pc := 817) Xc (dT hL_law_9 4 rfl) hs1 (by decide) rfl (i + 2) rfl (by omega) (by omega) ?_
  refine cl_L_105 (pc := 818) (S := [.int z1]) Xc hem (p_tears hM1 hK (xs (i + 1)) (xs (i + 2))) (dT hL_law_9 5 rfl) rfl (by decide) (by omega) (by omega) rfl (Nat.le_of_ble_eq_true rfl) (fun z2 σ2 q2 => ?_)
  obtain ⟨hz2, hM2, ho2⟩ := q2
  refine e_icmp_eq (tgt := 1305) (pc := 821) Xc (dT hL_law_9 6 rfl) rfl (fun _ => ?_) (fun c => absurd (hz1.trans hz2.symm) c)
  exact Ev.wide (by omega) (by omega) (K _ (LI.mk hST ho1 hms ho2 hM2 h9n hrr hs hbx hxm))
theorem law_wanted {G : xG} {μ : xM} {σ : xS} {x m b L i k n : Nat} {xs : Nat → Int32} (Xc : xC G μ code 4 RL (some .boolean) 30 600000 7302250) (hL : LI G σ x m b L xs) (hi4 : i + 4 ≤ L) (hl : L ≤ 2048) (hk : k + 5 ≤ 600000) (hn : n + 132 ≤ 7302250) (K : ∀ σ', LI G σ' x m b L xs → Ev G μ 4 (k + 5) (n + 132) 1305 [(0, .ref b), (1, .ref x), (2, .ref m), (3, .int (nI i))] [] σ') : Ev G μ 4 k n 826 [(0, .ref b), (1, .ref x), (2, .ref m), (3, .int (nI i))] [] σ := by
  obtain ⟨X, Y, bd, hi, rr, ⟨nr, nb, ns, np, nn, nt, na, dy, t, hB, hK, hW, hPa9⟩, hM, h9, hrr, hs, hbx⟩ := hL
  obtain ⟨hxm, hms⟩ := hB.ms
  obtain ⟨fx, hex⟩ := hB.he
  refine e_aload_n (pc := 826) Xc (dT hL_law_9 9 rfl) 1 rfl ?_
  refine e_aload_n (pc := 827) Xc (dT hL_law_9 10 rfl) 0 rfl ?_
  refine e_iload_n (pc := 828) Xc (dT hL_law_9 11 rfl) 3 rfl ?_
  refine e_iconst (v := nI 1) (pc := 829) Xc (dT hL_law_9 12 rfl) rfl ?_
  refine e_iaddN (pc := 830) Xc (dT hL_law_9 13 rfl) ?_
  refine e_ialdN (pc := 831) Xc (dT hL_law_9 14 rfl) hs (by decide) rfl (i + 1) rfl (by omega) (by omega) ?_
  refine cl_L_106 (pc := 832) (k := k) (n := n) (S := []) Xc hex (b_wanted hB hK (xs (i + 1))) (dT hL_law_9 15 rfl) rfl (by decide) (by omega) (by omega) rfl (by decide) (fun z1 σ1 q1 => ?_)
  obtain ⟨hz1, hB1, ho1⟩ := q1
  have hST : ST G σ1 x m X Y bd hi rr := ⟨nr, nb, ns, np, nn, nt, na, dy, t, hB1, hK, hW, hPa9⟩
  have h9n := h9
  have hM1 := hM.cg (ho1.m hms hxm)
  have hs1 := ho1.b hms hxm hbx hs
  obtain ⟨fm, hem⟩ := hM1.he
  refine e_aload_n (pc := 835) Xc (dT hL_law_9 16 rfl) 2 rfl ?_
  refine e_aload_n (pc := 836) Xc (dT hL_law_9 17 rfl) 0 rfl ?_
  refine e_iload_n (pc := 837) Xc (dT hL_law_9 18 rfl) 3 rfl ?_
  refine e_iconst (v := nI 1) (pc := 838) Xc (dT hL_law_9 19 rfl) rfl ?_
  refine e_iaddN (pc := 839) Xc (dT hL_law_9 20 rfl) ?_
  refine e_ialdN (pc := 840) Xc (dT hL_law_9 21 rfl) hs1 (by decide) rfl (i + 1) rfl (by omega) (by omega) ?_
  refine cl_L_109 (pc := 841) (S := [.int z1]) Xc hem (p_wanted hM1 hK (xs (i + 1))) (dT hL_law_9 22 rfl) rfl (by decide) (by omega) (by omega) rfl (Nat.le_of_ble_eq_true rfl) (fun z2 σ2 q2 => ?_)
  obtain ⟨hz2, hM2, ho2⟩ := q2
  refine e_icmp_eq (tgt := 1305) (pc := 844) Xc (dT hL_law_9 23 rfl) rfl (fun _ => ?_) (fun c => absurd (hz1.trans hz2.symm) c)
  exact Ev.wide (by omega) (by omega) (K _ (LI.mk hST ho1 hms ho2 hM2 h9n hrr hs hbx hxm))
theorem law_swells {G : xG} {μ : xM} {σ : xS} {x m b L i k n : Nat} {xs : Nat → Int32} (Xc : xC G μ code 4 RL (some .boolean) 30 600000 7302250) (hL : LI G σ x m b L xs) (hi4 : i + 4 ≤ L) (hl : L ≤ 2048) (hk : k + 5 ≤ 600000) (hn : n + 132 ≤ 7302250) (K : ∀ σ', LI G σ' x m b L xs → Ev G μ 4 (k + 5) (n + 132) 1305 [(0, .ref b), (1, .ref x), (2, .ref m), (3, .int (nI i))] [] σ') : Ev G μ 4 k n 849 [(0, .ref b), (1, .ref x), (2, .ref m), (3, .int (nI i))] [] σ := by
  obtain ⟨X, Y, bd, hi, rr, ⟨nr, nb, ns, np, nn, nt, na, dy, t, hB, hK, hW, hPa9⟩, hM, h9, hrr, hs, hbx⟩ := hL
  obtain ⟨hxm, hms⟩ := hB.ms
  obtain ⟨fx, hex⟩ := hB.he
  refine e_aload_n (pc := 849) Xc (dT hL_law_9 26 rfl) 1 rfl ?_
  refine e_aload_n (pc := 850) Xc (dT hL_law_9 27 rfl) 0 rfl ?_
  refine e_iload_n (pc := 851) Xc (dT hL_law_9 28 rfl) 3 rfl ?_
  refine e_iconst (v := nI 1) (pc := 852) Xc (dT hL_law_9 29 rfl) rfl ?_
  refine e_iaddN (pc := 853) Xc (dT hL_law_9 30 rfl) ?_
  refine e_ialdN (pc := 854) Xc (dT hL_law_9 31 rfl) hs (by decide) rfl (i + 1) rfl (by omega) (by omega) ?_
  refine cl_L_110 (pc := 855) (k := k) (n := n) (S := []) Xc hex (b_swells hB hK (xs (i + 1))) (dT hL_law_9 32 rfl) rfl (by decide) (by omega) (by omega) rfl (by decide) (fun z1 σ1 q1 => ?_)
  obtain ⟨hz1, hB1, ho1⟩ := q1
  have hST : ST G σ1 x m X Y bd hi rr := ⟨nr, nb, ns, np, nn, nt, na, dy, t, hB1, hK, hW, hPa9⟩
  have h9n := h9
  have hM1 := hM.cg (ho1.m hms hxm)
  have hs1 := ho1.b hms hxm hbx hs
  obtain ⟨fm, hem⟩ := hM1.he
  refine e_aload_n (pc := 858) Xc (dT hL_law_9 33 rfl) 2 rfl ?_
  refine e_aload_n (pc := 859) Xc (dT hL_law_9 34 rfl) 0 rfl ?_
  refine e_iload_n (pc := 860) Xc (dT hL_law_9 35 rfl) 3 rfl ?_
  refine e_iconst (v := nI 1) (pc := 861) Xc (dT hL_law_9 36 rfl) rfl ?_
  refine e_iaddN (pc := 862) Xc (dT hL_law_9 37 rfl) ?_
  refine e_ialdN (pc := 863) Xc (dT hL_law_9 38 rfl) hs1 (by decide) rfl (i + 1) rfl (by omega) (by omega) ?_
  refine cl_L_113 (pc := 864) (S := [.int z1]) Xc hem (p_swells hM1 hK (xs (i + 1))) (dT hL_law_9 39 rfl) rfl (by decide) (by omega) (by omega) rfl (Nat.le_of_ble_eq_true rfl) (fun z2 σ2 q2 => ?_)
  obtain ⟨hz2, hM2, ho2⟩ := q2
  refine e_icmp_eq (tgt := 1305) (pc := 867) Xc (dT hL_law_9 40 rfl) rfl (fun _ => ?_) (fun c => absurd (hz1.trans hz2.symm) c)
  exact Ev.wide (by omega) (by omega) (K _ (LI.mk hST ho1 hms ho2 hM2 h9n hrr hs hbx hxm))
theorem law_see {G : xG} {μ : xM} {σ : xS} {x m b L i k n : Nat} {xs : Nat → Int32} (Xc : xC G μ code 4 RL (some .boolean) 30 600000 7302250) (hL : LI G σ x m b L xs) (hi4 : i + 4 ≤ L) (hl : L ≤ 2048) (hk : k + 5 ≤ 600000) (hn : n + 132 ≤ 7302250) (K : ∀ σ', LI G σ' x m b L xs → Ev G μ 4 (k + 5) (n + 132) 1305 [(0, .ref b), (1, .ref x), (2, .ref m), (3, .int (nI i))] [] σ') : Ev G μ 4 k n 872 [(0, .ref b), (1, .ref x), (2, .ref m), (3, .int (nI i))] [] σ := by
  obtain ⟨X, Y, bd, hi, rr, ⟨nr, nb, ns, np, nn, nt, na, dy, t, hB, hK, hW, hPa9⟩, hM, h9, hrr, hs, hbx⟩ := hL
  obtain ⟨hxm, hms⟩ := hB.ms
  obtain ⟨fx, hex⟩ := hB.he
  refine e_aload_n (pc := 872) Xc (dT hL_law_9 43 rfl) 1 rfl ?_
  refine e_aload_n (pc := 873) Xc (dT hL_law_9 44 rfl) 0 rfl ?_
  refine e_iload_n (pc := 874) Xc (dT hL_law_9 45 rfl) 3 rfl ?_
  refine e_iconst (v := nI 1) (pc := 875) Xc (dT hL_law_9 46 rfl) rfl ?_
  refine e_iaddN (pc := 876) Xc (dT hL_law_9 47 rfl) ?_
  refine e_ialdN (pc := 877) Xc (dT hL_law_9 48 rfl) hs (by decide) rfl (i + 1) rfl (by omega) (by omega) ?_
  refine e_aload_n (pc := 878) Xc (dT hL_law_9 49 rfl) 0 rfl ?_
  refine e_iload_n (pc := 879) Xc (dT hL_law_9 50 rfl) 3 rfl ?_
  refine e_iconst (v := nI 2) (pc := 880) Xc (dT hL_law_9 51 rfl) rfl ?_
  refine e_iaddN (pc := 881) Xc (dT hL_law_9 52 rfl) ?_
  refine e_ialdN (pc := 882) Xc (dT hL_law_9 53 rfl) hs (by decide) rfl (i + 2) rfl (by omega) (by omega) ?_
  refine e_aload_n (pc := 883) Xc (dT hL_law_9 54 rfl) 0 rfl ?_
  refine e_iload_n (pc := 884) Xc (dT hL_law_10 0 rfl) 3 rfl ?_
  refine e_iconst (v := nI 3) (pc := 885) Xc (dT hL_law_10 1 rfl) rfl ?_
  refine e_iaddN (pc := 886) Xc (dT hL_law_10 2 rfl) ?_
  refine e_ialdN (pc := 887) Xc (dT hL_law_10 3 rfl) hs (by decide) rfl (i + 3) rfl (by omega) (by omega) ?_
  refine e_if_eq (tgt := 895) (pc := 888) Xc (dT hL_law_10 4 rfl) rfl (fun c1 => ?_) (fun c1 => ?_)
  · refine e_iconst (v := 0) (pc := 895) Xc (dT hL_law_10 7 rfl) rfl ?_
    refine cl_L_114 (pc := 896) (k := k) (n := n) (S := []) Xc hex (b_see hB hK hW hPa9 (xs (i + 1)) (xs (i + 2)) (0 : Int32)) (dT hL_law_10 8 rfl) rfl (by decide) (by omega) (by omega) rfl (by decide) (fun z1 σ1 q1 => ?_)
    obtain ⟨hz1, hST, hh9, ho1⟩ := q1
    have h9n := fun j (hj : 909 ≤ j) => (hh9 j hj).trans (h9 j hj)
    have hM1 := hM.cg (ho1.m hms hxm)
    have hs1 := ho1.b hms hxm hbx hs
    obtain ⟨fm, hem⟩ := hM1.he
    refine e_aload_n (pc := 899) Xc (dT hL_law_10 9 rfl) 2 rfl ?_
    refine e_aload_n (pc := 900) Xc (dT hL_law_10 10 rfl) 0 rfl ?_
    refine e_iload_n (pc := 901) Xc (dT hL_law_10 11 rfl) 3 rfl ?_
    refine e_iconst (v := nI 1) (pc := 902) Xc (dT hL_law_10 12 rfl) rfl ?_
    refine e_iaddN (pc := 903) Xc (dT hL_law_10 13 rfl) ?_
    refine e_ialdN (pc := 904) Xc (dT hL_law_10 14 rfl) hs1 (by decide) rfl (i + 1) rfl (by omega) (by omega) ?_
    refine e_aload_n (pc := 905) Xc (dT hL_law_10 15 rfl) 0 rfl ?_
    refine e_iload_n (pc := 906) Xc (dT hL_law_10 16 rfl) 3 rfl ?_
    refine e_iconst (v := nI 2) (pc := 907) Xc (dT hL_law_10 17 rfl) rfl ?_
    refine e_iaddN (pc := 908) Xc (dT hL_law_10 18 rfl) ?_
    refine e_ialdN (pc := 909) Xc (dT hL_law_10 19 rfl) hs1 (by decide) rfl (i + 2) rfl (by omega) (by omega) ?_
    refine e_aload_n (pc := 910) Xc (dT hL_law_10 20 rfl) 0 rfl ?_
    refine e_iload_n (pc := 911) Xc (dT hL_law_10 21 rfl) 3 rfl ?_
    refine e_iconst (v := nI 3) (pc := 912) Xc (dT hL_law_10 22 rfl) rfl ?_
    refine e_iaddN (pc := 913) Xc (dT hL_law_10 23 rfl) ?_
    refine e_ialdN (pc := 914) Xc (dT hL_law_10 24 rfl) hs1 (by decide) rfl (i + 3) rfl (by omega) (by omega) ?_
    refine e_if_eq (tgt := 922) (pc := 915) Xc (dT hL_law_10 25 rfl) rfl (fun _ => ?_) (fun c => absurd c1 c)
    refine e_iconst (v := 0) (pc := 922) Xc (dT hL_law_10 28 rfl) rfl ?_
    refine cl_L_118 (pc := 923) (S := [.int z1]) Xc hem (p_see hM1 hK (xs (i + 1)) (xs (i + 2)) (0 : Int32)) (dT hL_law_10 29 rfl) rfl (by decide) (by omega) (by omega) rfl (Nat.le_of_ble_eq_true rfl) (fun z2 σ2 q2 => ?_)
    obtain ⟨hz2, hM2, ho2⟩ := q2
    refine e_icmp_eq (tgt := 1305) (pc := 926) Xc (dT hL_law_10 30 rfl) rfl (fun _ => ?_) (fun c => absurd (hz1.trans hz2.symm) c)
    exact Ev.wide (by omega) (by omega) (K _ (LI.mk hST ho1 hms ho2 hM2 h9n hrr hs hbx hxm))
  · refine e_iconst (v := 1) (pc := 891) Xc (dT hL_law_10 5 rfl) rfl ?_
    refine e_goto (tgt := 896) (pc := 892) Xc (dT hL_law_10 6 rfl) rfl ?_
    refine cl_L_114 (pc := 896) (k := k) (n := n) (S := []) Xc hex (b_see hB hK hW hPa9 (xs (i + 1)) (xs (i + 2)) (1 : Int32)) (dT hL_law_10 8 rfl) rfl (by decide) (by omega) (by omega) rfl (by decide) (fun z1 σ1 q1 => ?_)
    obtain ⟨hz1, hST, hh9, ho1⟩ := q1
    have h9n := fun j (hj : 909 ≤ j) => (hh9 j hj).trans (h9 j hj)
    have hM1 := hM.cg (ho1.m hms hxm)
    have hs1 := ho1.b hms hxm hbx hs
    obtain ⟨fm, hem⟩ := hM1.he
    refine e_aload_n (pc := 899) Xc (dT hL_law_10 9 rfl) 2 rfl ?_
    refine e_aload_n (pc := 900) Xc (dT hL_law_10 10 rfl) 0 rfl ?_
    refine e_iload_n (pc := 901) Xc (dT hL_law_10 11 rfl) 3 rfl ?_
    refine e_iconst (v := nI 1) (pc := 902) Xc (dT hL_law_10 12 rfl) rfl ?_
    refine e_iaddN (pc := 903) Xc (dT hL_law_10 13 rfl) ?_
    refine e_ialdN (pc := 904) Xc (dT hL_law_10 14 rfl) hs1 (by decide) rfl (i + 1) rfl (by omega) (by omega) ?_
    refine e_aload_n (pc := 905) Xc (dT hL_law_10 15 rfl) 0 rfl ?_
    refine e_iload_n (pc := 906) Xc (dT hL_law_10 16 rfl) 3 rfl ?_
    refine e_iconst (v := nI 2) (pc := 907) Xc (dT hL_law_10 17 rfl) rfl ?_
    refine e_iaddN (pc := 908) Xc (dT hL_law_10 18 rfl) ?_
    refine e_ialdN (pc := 909) Xc (dT hL_law_10 19 rfl) hs1 (by decide) rfl (i + 2) rfl (by omega) (by omega) ?_
    refine e_aload_n (pc := 910) Xc (dT hL_law_10 20 rfl) 0 rfl ?_
    refine e_iload_n (pc := 911) Xc (dT hL_law_10 21 rfl) 3 rfl ?_
    refine e_iconst (v := nI 3) (pc := 912) Xc (dT hL_law_10 22 rfl) rfl ?_
    refine e_iaddN (pc := 913) Xc (dT hL_law_10 23 rfl) ?_
    refine e_ialdN (pc := 914) Xc (dT hL_law_10 24 rfl) hs1 (by decide) rfl (i + 3) rfl (by omega) (by omega) ?_
    refine e_if_eq (tgt := 922) (pc := 915) Xc (dT hL_law_10 25 rfl) rfl (fun c => absurd c c1) (fun _ => ?_)
    refine e_iconst (v := 1) (pc := 918) Xc (dT hL_law_10 26 rfl) rfl ?_
    refine e_goto (tgt := 923) (pc := 919) Xc (dT hL_law_10 27 rfl) rfl ?_
    refine cl_L_118 (pc := 923) (S := [.int z1]) Xc hem (p_see hM1 hK (xs (i + 1)) (xs (i + 2)) (1 : Int32)) (dT hL_law_10 29 rfl) rfl (by decide) (by omega) (by omega) rfl (Nat.le_of_ble_eq_true rfl) (fun z2 σ2 q2 => ?_)
    obtain ⟨hz2, hM2, ho2⟩ := q2
    refine e_icmp_eq (tgt := 1305) (pc := 926) Xc (dT hL_law_10 30 rfl) rfl (fun _ => ?_) (fun c => absurd (hz1.trans hz2.symm) c)
    exact Ev.wide (by omega) (by omega) (K _ (LI.mk hST ho1 hms ho2 hM2 h9n hrr hs hbx hxm))
theorem law_had {G : xG} {μ : xM} {σ : xS} {x m b L i k n : Nat} {xs : Nat → Int32} (Xc : xC G μ code 4 RL (some .boolean) 30 600000 7302250) (hL : LI G σ x m b L xs) (hi4 : i + 4 ≤ L) (hl : L ≤ 2048) (hk : k + 5 ≤ 600000) (hn : n + 132 ≤ 7302250) (K : ∀ σ', LI G σ' x m b L xs → Ev G μ 4 (k + 5) (n + 132) 1305 [(0, .ref b), (1, .ref x), (2, .ref m), (3, .int (nI i))] [] σ') : Ev G μ 4 k n 931 [(0, .ref b), (1, .ref x), (2, .ref m), (3, .int (nI i))] [] σ := by
  obtain ⟨X, Y, bd, hi, rr, ⟨nr, nb, ns, np, nn, nt, na, dy, t, hB, hK, hW, hPa9⟩, hM, h9, hrr, hs, hbx⟩ := hL
  obtain ⟨hxm, hms⟩ := hB.ms
  obtain ⟨fx, hex⟩ := hB.he
  refine e_aload_n (pc := 931) Xc (dT hL_law_10 33 rfl) 1 rfl ?_
  refine e_aload_n (pc := 932) Xc (dT hL_law_10 34 rfl) 0 rfl ?_
  refine e_iload_n (pc := 933) Xc (dT hL_law_10 35 rfl) 3 rfl ?_
  refine e_iconst (v := nI 1) (pc := 934) Xc (dT hL_law_10 36 rfl) rfl ?_
  refine e_iaddN (pc := 935) Xc (dT hL_law_10 37 rfl) ?_
  refine e_ialdN (pc := 936) Xc (dT hL_law_10 38 rfl) hs (by decide) rfl (i + 1) rfl (by omega) (by omega) ?_
  refine cl_L_119 (pc := 937) (k := k) (n := n) (S := []) Xc hex (b_had hB hK (xs (i + 1))) (dT hL_law_10 39 rfl) rfl (by decide) (by omega) (by omega) rfl (by decide) (fun z1 σ1 q1 => ?_)
  obtain ⟨hz1, hB1, ho1⟩ := q1
  have hST : ST G σ1 x m X Y bd hi rr := ⟨nr, nb, ns, np, nn, nt, na, dy, t, hB1, hK, hW, hPa9⟩
  have h9n := h9
  have hM1 := hM.cg (ho1.m hms hxm)
  have hs1 := ho1.b hms hxm hbx hs
  obtain ⟨fm, hem⟩ := hM1.he
  refine e_aload_n (pc := 940) Xc (dT hL_law_10 40 rfl) 2 rfl ?_
  refine e_aload_n (pc := 941) Xc (dT hL_law_10 41 rfl) 0 rfl ?_
  refine e_iload_n (pc := 942) Xc (dT hL_law_10 42 rfl) 3 rfl ?_
  refine e_iconst (v := nI 1) (pc := 943) Xc (dT hL_law_10 43 rfl) rfl ?_
  refine e_iaddN (pc := 944) Xc (dT hL_law_10 44 rfl) ?_
  refine e_ialdN (pc := 945) Xc (dT hL_law_10 45 rfl) hs1 (by decide) rfl (i + 1) rfl (by omega) (by omega) ?_
  refine cl_L_122 (pc := 946) (S := [.int z1]) Xc hem (p_had hM1 hK (xs (i + 1))) (dT hL_law_10 46 rfl) rfl (by decide) (by omega) (by omega) rfl (Nat.le_of_ble_eq_true rfl) (fun z2 σ2 q2 => ?_)
  obtain ⟨hz2, hM2, ho2⟩ := q2
  refine e_icmp_eq (tgt := 1305) (pc := 949) Xc (dT hL_law_10 47 rfl) rfl (fun _ => ?_) (fun c => absurd (hz1.trans hz2.symm) c)
  exact Ev.wide (by omega) (by omega) (K _ (LI.mk hST ho1 hms ho2 hM2 h9n hrr hs hbx hxm))
theorem law_firm {G : xG} {μ : xM} {σ : xS} {x m b L i k n : Nat} {xs : Nat → Int32} (Xc : xC G μ code 4 RL (some .boolean) 30 600000 7302250) (hL : LI G σ x m b L xs) (hi4 : i + 4 ≤ L) (hl : L ≤ 2048) (hk : k + 5 ≤ 600000) (hn : n + 132 ≤ 7302250) (K : ∀ σ', LI G σ' x m b L xs → Ev G μ 4 (k + 5) (n + 132) 1305 [(0, .ref b), (1, .ref x), (2, .ref m), (3, .int (nI i))] [] σ') : Ev G μ 4 k n 954 [(0, .ref b), (1, .ref x), (2, .ref m), (3, .int (nI i))] [] σ := by
  obtain ⟨X, Y, bd, hi, rr, ⟨nr, nb, ns, np, nn, nt, na, dy, t, hB, hK, hW, hPa9⟩, hM, h9, hrr, hs, hbx⟩ := hL
  obtain ⟨hxm, hms⟩ := hB.ms
  obtain ⟨fx, hex⟩ := hB.he
  refine e_aload_n (pc := 954) Xc (dT hL_law_10 50 rfl) 1 rfl ?_
  refine e_aload_n (pc := 955) Xc (dT hL_law_10 51 rfl) 0 rfl ?_
  refine e_iload_n (pc := 956) Xc (dT hL_law_10 52 rfl) 3 rfl ?_
  refine e_iconst (v := nI 1) (pc := 957) Xc (dT hL_law_10 53 rfl) rfl ?_
  refine e_iaddN (pc := 958) Xc (dT hL_law_10 54 rfl) ?_
  refine e_ialdN (pc := 959) Xc (dT hL_law_11 0 rfl) hs (by decide) rfl (i + 1) rfl (by omega) (by omega) ?_
  refine e_aload_n (pc := 960) Xc (dT hL_law_11 1 rfl) 0 rfl ?_
  refine e_iload_n (pc := 961) Xc (dT hL_law_11 2 rfl) 3 rfl ?_
  refine e_iconst (v := nI 2) (pc := 962) Xc (dT hL_law_11 3 rfl) rfl ?_
  refine e_iaddN (pc := 963) Xc (dT hL_law_11 4 rfl) ?_
  refine e_ialdN (pc := 964) Xc (dT hL_law_11 5 rfl) hs (by decide) rfl (i + 2) rfl (by omega) (by omega) ?_
  refine cl_L_123 (pc := 965) (k := k) (n := n) (S := []) Xc hex (b_firm hB hK (xs (i + 1)) (xs (i + 2))) (dT hL_law_11 6 rfl) rfl (by decide) (by omega) (by omega) rfl (by decide) (fun z1 σ1 q1 => ?_)
  obtain ⟨hz1, hB1, ho1⟩ := q1
  have hST : ST G σ1 x m X Y bd hi rr := ⟨nr, nb, ns, np, nn, nt, na, dy, t, hB1, hK, hW, hPa9⟩
  have h9n := h9
  have hM1 := hM.cg (ho1.m hms hxm)
  have hs1 := ho1.b hms hxm hbx hs
  obtain ⟨fm, hem⟩ := hM1.he
  refine e_aload_n (pc := 968) Xc (dT hL_law_11 7 rfl) 2 rfl ?_
  refine e_aload_n (pc := 969) Xc (dT hL_law_11 8 rfl) 0 rfl ?_
  refine e_iload_n (pc := 970) Xc (dT hL_law_11 9 rfl) 3 rfl ?_
  refine e_iconst (v := nI 1) (pc := 971) Xc (dT hL_law_11 10 rfl) rfl ?_
  refine e_iaddN (pc := 972) Xc (dT hL_law_11 11 rfl) ?_
  refine e_ialdN (pc := 973) Xc (dT hL_law_11 12 rfl) hs1 (by decide) rfl (i + 1) rfl (by omega) (by omega) ?_
  refine e_aload_n (pc := 974) Xc (dT hL_law_11 13 rfl) 0 rfl ?_
  refine e_iload_n (pc := 975) Xc (dT hL_law_11 14 rfl) 3 rfl ?_
  refine e_iconst (v := nI 2) (pc := 976) Xc (dT hL_law_11 15 rfl) rfl ?_
  refine e_iaddN (pc := 977) Xc (dT hL_law_11 16 rfl) ?_
  refine e_ialdN (pc := 978) Xc (dT hL_law_11 17 rfl) hs1 (by decide) rfl (i + 2) rfl (by omega) (by omega) ?_
  refine cl_L_126 (pc := 979) (S := [.int z1]) Xc hem (p_firm hM1 hK (xs (i + 1)) (xs (i + 2))) (dT hL_law_11 18 rfl) rfl (by decide) (by omega) (by omega) rfl (Nat.le_of_ble_eq_true rfl) (fun z2 σ2 q2 => ?_)
  obtain ⟨hz2, hM2, ho2⟩ := q2
  refine e_icmp_eq (tgt := 1305) (pc := 982) Xc (dT hL_law_11 19 rfl) rfl (fun _ => ?_) (fun c => absurd (hz1.trans hz2.symm) c)
  exact Ev.wide (by omega) (by omega) (K _ (LI.mk hST ho1 hms ho2 hM2 h9n hrr hs hbx hxm))
theorem law_odds {G : xG} {μ : xM} {σ : xS} {x m b L i k n : Nat} {xs : Nat → Int32} (Xc : xC G μ code 4 RL (some .boolean) 30 600000 7302250) (hL : LI G σ x m b L xs) (hi4 : i + 4 ≤ L) (hl : L ≤ 2048) (hk : k + 5 ≤ 600000) (hn : n + 132 ≤ 7302250) (K : ∀ σ', LI G σ' x m b L xs → Ev G μ 4 (k + 5) (n + 132) 1305 [(0, .ref b), (1, .ref x), (2, .ref m), (3, .int (nI i))] [] σ') : Ev G μ 4 k n 987 [(0, .ref b), (1, .ref x), (2, .ref m), (3, .int (nI i))] [] σ := by
  obtain ⟨X, Y, bd, hi, rr, ⟨nr, nb, ns, np, nn, nt, na, dy, t, hB, hK, hW, hPa9⟩, hM, h9, hrr, hs, hbx⟩ := hL
  obtain ⟨hxm, hms⟩ := hB.ms
  obtain ⟨fx, hex⟩ := hB.he
  refine e_aload_n (pc := 987) Xc (dT hL_law_11 22 rfl) 1 rfl ?_
  refine e_aload_n (pc := 988) Xc (dT hL_law_11 23 rfl) 0 rfl ?_
  refine e_iload_n (pc := 989) Xc (dT hL_law_11 24 rfl) 3 rfl ?_
  refine e_iconst (v := nI 1) (pc := 990) Xc (dT hL_law_11 25 rfl) rfl ?_
  refine e_iaddN (pc := 991) Xc (dT hL_law_11 26 rfl) ?_
  refine e_ialdN (pc := 992) Xc (dT hL_law_11 27 rfl) hs (by decide) rfl (i + 1) rfl (by omega) (by omega) ?_
  refine e_aload_n (pc := 993) Xc (dT hL_law_11 28 rfl) 0 rfl ?_
  refine e_iload_n (pc := 994) Xc (dT hL_law_11 29 rfl) 3 rfl ?_
  refine e_iconst (v := nI 2) (pc := 995) Xc (dT hL_law_11 30 rfl) rfl ?_
  refine e_iaddN (pc := 996) Xc (dT hL_law_11 31 rfl) ?_
  refine e_ialdN (pc := 997) Xc (dT hL_law_11 32 rfl) hs (by decide) rfl (i + 2) rfl (by omega) (by omega) ?_
  refine cl_L_127 (pc := 998) (k := k) (n := n) (S := []) Xc hex (b_odds hB hK (xs (i + 1)) (xs (i + 2))) (dT hL_law_11 33 rfl) rfl (by decide) (by omega) (by omega) rfl (by decide) (fun z1 σ1 q1 => ?_)
  obtain ⟨hz1, hB1, ho1⟩ := q1
  have hST : ST G σ1 x m X Y bd hi rr := ⟨nr, nb, ns, np, nn, nt, na, dy, t, hB1, hK, hW, hPa9⟩
  have h9n := h9
  have hM1 := hM.cg (ho1.m hms hxm)
  have hs1 := ho1.b hms hxm hbx hs
  obtain ⟨fm, hem⟩ := hM1.he
  refine e_aload_n (pc := 1001) Xc (dT hL_law_11 34 rfl) 2 rfl ?_
  refine e_aload_n (pc := 1002) Xc (dT hL_law_11 35 rfl) 0 rfl ?_
  refine e_iload_n (pc := 1003) Xc (dT hL_law_11 36 rfl) 3 rfl ?_
  refine e_iconst (v := nI 1) (pc := 1004) Xc (dT hL_law_11 37 rfl) rfl ?_
  refine e_iaddN (pc := 1005) Xc (dT hL_law_11 38 rfl) ?_
  refine e_ialdN (pc := 1006) Xc (dT hL_law_11 39 rfl) hs1 (by decide) rfl (i + 1) rfl (by omega) (by omega) ?_
  refine e_aload_n (pc := 1007) Xc (dT hL_law_11 40 rfl) 0 rfl ?_
  refine e_iload_n (pc := 1008) Xc (dT hL_law_11 41 rfl) 3 rfl ?_
  refine e_iconst (v := nI 2) (pc := 1009) Xc (dT hL_law_11 42 rfl) rfl ?_
  refine e_iaddN (pc := 1010) Xc (dT hL_law_11 43 rfl) ?_
  refine e_ialdN (pc := 1011) Xc (dT hL_law_11 44 rfl) hs1 (by decide) rfl (i + 2) rfl (by omega) (by omega) ?_
  refine cl_L_131 (pc := 1012) (S := [.long z1]) Xc hem (p_odds hM1 hK (xs (i + 1)) (xs (i + 2))) (dT hL_law_11 45 rfl) rfl (by decide) (by omega) (by omega) rfl (Nat.le_of_ble_eq_true rfl) (fun z2 σ2 q2 => ?_)
  obtain ⟨hz2, hM2, ho2⟩ := q2
  have hzz : z1 = z2 := (hz1.trans hz2.symm)
  subst hzz
  refine e_lcmp (pc := 1015) Xc (dT hL_law_11 46 rfl) ?_
  refine e_val (y := 0) lc0 ?_
  refine e_if_eq (tgt := 1305) (pc := 1016) Xc (dT hL_law_11 47 rfl) rfl (fun _ => ?_) (fun c => absurd rfl c)
  exact Ev.wide (by omega) (by omega) (K _ (LI.mk hST ho1 hms ho2 hM2 h9n hrr hs hbx hxm))
theorem law_mean {G : xG} {μ : xM} {σ : xS} {x m b L i k n : Nat} {xs : Nat → Int32} (Xc : xC G μ code 4 RL (some .boolean) 30 600000 7302250) (hL : LI G σ x m b L xs) (hi4 : i + 4 ≤ L) (hl : L ≤ 2048) (hk : k + 5 ≤ 600000) (hn : n + 132 ≤ 7302250) (K : ∀ σ', LI G σ' x m b L xs → Ev G μ 4 (k + 5) (n + 132) 1305 [(0, .ref b), (1, .ref x), (2, .ref m), (3, .int (nI i))] [] σ') : Ev G μ 4 k n 1021 [(0, .ref b), (1, .ref x), (2, .ref m), (3, .int (nI i))] [] σ := by
  obtain ⟨X, Y, bd, hi, rr, ⟨nr, nb, ns, np, nn, nt, na, dy, t, hB, hK, hW, hPa9⟩, hM, h9, hrr, hs, hbx⟩ := hL
  obtain ⟨hxm, hms⟩ := hB.ms
  obtain ⟨fx, hex⟩ := hB.he
  refine e_aload_n (pc := 1021) Xc (dT hL_law_11 50 rfl) 1 rfl ?_
  refine e_aload_n (pc := 1022) Xc (dT hL_law_11 51 rfl) 0 rfl ?_
  refine e_iload_n (pc := 1023) Xc (dT hL_law_11 52 rfl) 3 rfl ?_
  refine e_iconst (v := nI 1) (pc := 1024) Xc (dT hL_law_11 53 rfl) rfl ?_
  refine e_iaddN (pc := 1025) Xc (dT hL_law_11 54 rfl) ?_
  refine e_ialdN (pc := 1026) Xc (dT hL_law_12 0 rfl) hs (by decide) rfl (i + 1) rfl (by omega) (by omega) ?_
  refine e_aload_n (pc := 1027) Xc (dT hL_law_12 1 rfl) 0 rfl ?_
  refine e_iload_n (pc := 1028) Xc (dT hL_law_12 2 rfl) 3 rfl ?_
  refine e_iconst (v := nI 2) (pc := 1029) Xc (dT hL_law_12 3 rfl) rfl ?_
  refine e_iaddN (pc := 1030) Xc (dT hL_law_12 4 rfl) ?_
  refine e_ialdN (pc := 1031) Xc (dT hL_law_12 5 rfl) hs (by decide) rfl (i + 2) rfl (by omega) (by omega) ?_
  refine cl_L_132 (pc := 1032) (k := k) (n := n) (S := []) Xc hex (b_mean hB hK (xs (i + 1)) (xs (i + 2))) (dT hL_law_12 6 rfl) rfl (by decide) (by omega) (by omega) rfl (by decide) (fun z1 σ1 q1 => ?_)
  obtain ⟨hz1, hB1, ho1⟩ := q1
  have hST : ST G σ1 x m X Y bd hi rr := ⟨nr, nb, ns, np, nn, nt, na, dy, t, hB1, hK, hW, hPa9⟩
  have h9n := h9
  have hM1 := hM.cg (ho1.m hms hxm)
  have hs1 := ho1.b hms hxm hbx hs
  obtain ⟨fm, hem⟩ := hM1.he
  refine e_aload_n (pc := 1035) Xc (dT hL_law_12 7 rfl) 2 rfl ?_
  refine e_aload_n (pc := 1036) Xc (dT hL_law_12 8 rfl) 0 rfl ?_
  refine e_iload_n (pc := 1037) Xc (dT hL_law_12 9 rfl) 3 rfl ?_
  refine e_iconst (v := nI 1) (pc := 1038) Xc (dT hL_law_12 10 rfl) rfl ?_
  refine e_iaddN (pc := 1039) Xc (dT hL_law_12 11 rfl) ?_
  refine e_ialdN (pc := 1040) Xc (dT hL_law_12 12 rfl) hs1 (by decide) rfl (i + 1) rfl (by omega) (by omega) ?_
  refine e_aload_n (pc := 1041) Xc (dT hL_law_12 13 rfl) 0 rfl ?_
  refine e_iload_n (pc := 1042) Xc (dT hL_law_12 14 rfl) 3 rfl ?_
  refine e_iconst (v := nI 2) (pc := 1043) Xc (dT hL_law_12 15 rfl) rfl ?_
  refine e_iaddN (pc := 1044) Xc (dT hL_law_12 16 rfl) ?_
  refine e_ialdN (pc := 1045) Xc (dT hL_law_12 17 rfl) hs1 (by decide) rfl (i + 2) rfl (by omega) (by omega) ?_
  refine cl_L_135 (pc := 1046) (S := [.long z1]) Xc hem (p_mean hM1 hK (xs (i + 1)) (xs (i + 2))) (dT hL_law_12 18 rfl) rfl (by decide) (by omega) (by omega) rfl (Nat.le_of_ble_eq_true rfl) (fun z2 σ2 q2 => ?_)
  obtain ⟨hz2, hM2, ho2⟩ := q2
  have hzz : z1 = z2 := (hz1.trans hz2.symm)
  subst hzz
  refine e_lcmp (pc := 1049) Xc (dT hL_law_12 19 rfl) ?_
  refine e_val (y := 0) lc0 ?_
  refine e_if_eq (tgt := 1305) (pc := 1050) Xc (dT hL_law_12 20 rfl) rfl (fun _ => ?_) (fun c => absurd rfl c)
  exact Ev.wide (by omega) (by omega) (K _ (LI.mk hST ho1 hms ho2 hM2 h9n hrr hs hbx hxm))
theorem law_plan {G : xG} {μ : xM} {σ : xS} {x m b L i k n : Nat} {xs : Nat → Int32} (Xc : xC G μ code 4 RL (some .boolean) 30 600000 7302250) (hL : LI G σ x m b L xs) (hi4 : i + 4 ≤ L) (hl : L ≤ 2048) (hk : k + 5 ≤ 600000) (hn : n + 132 ≤ 7302250) (K : ∀ σ', LI G σ' x m b L xs → Ev G μ 4 (k + 5) (n + 132) 1305 [(0, .ref b), (1, .ref x), (2, .ref m), (3, .int (nI i))] [] σ') : Ev G μ 4 k n 1055 [(0, .ref b), (1, .ref x), (2, .ref m), (3, .int (nI i))] [] σ := by
  obtain ⟨X, Y, bd, hi, rr, ⟨nr, nb, ns, np, nn, nt, na, dy, t, hB, hK, hW, hPa9⟩, hM, h9, hrr, hs, hbx⟩ := hL
  obtain ⟨hxm, hms⟩ := hB.ms
  obtain ⟨fx, hex⟩ := hB.he
  refine e_aload_n (pc := 1055) Xc (dT hL_law_12 23 rfl) 1 rfl ?_
  refine e_aload_n (pc := 1056) Xc (dT hL_law_12 24 rfl) 0 rfl ?_
  refine e_iload_n (pc := 1057) Xc (dT hL_law_12 25 rfl) 3 rfl ?_
  refine e_iconst (v := nI 1) (pc := 1058) Xc (dT hL_law_12 26 rfl) rfl ?_
  refine e_iaddN (pc := 1059) Xc (dT hL_law_12 27 rfl) ?_
  refine e_ialdN (pc := 1060) Xc (dT hL_law_12 28 rfl) hs (by decide) rfl (i + 1) rfl (by omega) (by omega) ?_
  refine e_aload_n (pc := 1061) Xc (dT hL_law_12 29 rfl) 0 rfl ?_
  refine e_iload_n (pc := 1062) Xc (dT hL_law_12 30 rfl) 3 rfl ?_
  refine e_iconst (v := nI 2) (pc := 1063) Xc (dT hL_law_12 31 rfl) rfl ?_
  refine e_iaddN (pc := 1064) Xc (dT hL_law_12 32 rfl) ?_
  refine e_ialdN (pc := 1065) Xc (dT hL_law_12 33 rfl) hs (by decide) rfl (i + 2) rfl (by omega) (by omega) ?_
  refine cl_L_136 (pc := 1066) (k := k) (n := n) (S := []) Xc hex (b_plan hB hK hW hPa9 (xs (i + 1)) (xs (i + 2))) (dT hL_law_12 34 rfl) rfl (by decide) (by omega) (by omega) rfl (by decide) (fun z1 σ1 q1 => ?_)
  obtain ⟨hz1, hST, hh9, ho1⟩ := q1
  have h9n := fun j (hj : 909 ≤ j) => (hh9 j hj).trans (h9 j hj)
  have hM1 := hM.cg (ho1.m hms hxm)
  have hs1 := ho1.b hms hxm hbx hs
  obtain ⟨fm, hem⟩ := hM1.he
  refine e_aload_n (pc := 1069) Xc (dT hL_law_12 35 rfl) 2 rfl ?_
  refine e_aload_n (pc := 1070) Xc (dT hL_law_12 36 rfl) 0 rfl ?_
  refine e_iload_n (pc := 1071) Xc (dT hL_law_12 37 rfl) 3 rfl ?_
  refine e_iconst (v := nI 1) (pc := 1072) Xc (dT hL_law_12 38 rfl) rfl ?_
  refine e_iaddN (pc := 1073) Xc (dT hL_law_12 39 rfl) ?_
  refine e_ialdN (pc := 1074) Xc (dT hL_law_12 40 rfl) hs1 (by decide) rfl (i + 1) rfl (by omega) (by omega) ?_
  refine e_aload_n (pc := 1075) Xc (dT hL_law_12 41 rfl) 0 rfl ?_
  refine e_iload_n (pc := 1076) Xc (dT hL_law_12 42 rfl) 3 rfl ?_
  refine e_iconst (v := nI 2) (pc := 1077) Xc (dT hL_law_12 43 rfl) rfl ?_
  refine e_iaddN (pc := 1078) Xc (dT hL_law_12 44 rfl) ?_
  refine e_ialdN (pc := 1079) Xc (dT hL_law_12 45 rfl) hs1 (by decide) rfl (i + 2) rfl (by omega) (by omega) ?_
  refine cl_L_139 (pc := 1080) (S := [.int z1]) Xc hem (p_plan hM1 hK (xs (i + 1)) (xs (i + 2))) (dT hL_law_12 46 rfl) rfl (by decide) (by omega) (by omega) rfl (Nat.le_of_ble_eq_true rfl) (fun z2 σ2 q2 => ?_)
  obtain ⟨hz2, hM2, ho2⟩ := q2
  refine e_icmp_eq (tgt := 1305) (pc := 1083) Xc (dT hL_law_12 47 rfl) rfl (fun _ => ?_) (fun c => absurd (hz1.trans hz2.symm) c)
  exact Ev.wide (by omega) (by omega) (K _ (LI.mk hST ho1 hms ho2 hM2 h9n hrr hs hbx hxm))
