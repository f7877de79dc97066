theorem law_done {G : xG} {μ : xM} {σ : xS} {x m b L i k n : Nat} {xs : Nat → Int32} (Xc : xC G μ code 4 RL (some .boolean) 30 600000 7302250) (hL : LI G σ x m b L xs) (hi4 : i + 4 ≤ L) (hl : L ≤ 2048) (hk : k + 5 ≤ 600000) (hn : n + 132 ≤ 7302250) (K : ∀ σ', LI G σ' x m b L xs → Ev G μ 4 (k + 5) (n + 132) 1305 [(0, .ref b), (1, .ref x), (2, .ref m), (3, .int (nI i))] [] σ') : Ev G μ 4 k n 1088 [(0, .ref b), (1, .ref x), (2, .ref m), (3, .int (nI i))] [] σ := by
  obtain ⟨X, Y, bd, hi, rr, ⟨nr, nb, ns, np, nn, nt, na, dy, t, hB, hK, hW, hPa9⟩, hM, h9, hrr, hs, hbx⟩ := hL
  obtain ⟨hxm, hms⟩ := hB.ms
  obtain ⟨fx, hex⟩ := hB.he
  refine e_aload_n (pc := 1088) Xc (dT hL_law_12 50 rfl) 1 rfl ?_
  refine e_aload_n (pc := 1089) Xc (dT hL_law_12 51 rfl) 0 rfl ?_
  refine e_iload_n (pc := 1090) Xc (dT hL_law_12 52 rfl) 3 rfl ?_
  refine e_iconst (v := nI 1) (pc := 1091) Xc (dT hL_law_12 53 rfl) rfl ?_
  refine e_iaddN (pc := 1092) Xc (dT hL_law_12 54 rfl) ?_
  refine e_ialdN (pc := 1093) Xc (dT hL_law_13 0 rfl) hs (by decide) rfl (i + 1) rfl (by omega) (by omega) ?_
  refine cl_L_140 (pc := 1094) (k := k) (n := n) (S := []) Xc hex (b_done hB hK (xs (i + 1))) (dT hL_law_13 1 rfl) rfl (by decide) (by omega) (by omega) rfl (by decide) (fun z1 σ1 q1 => ?_)
  obtain ⟨hz1, hB1, ho1⟩ := q1
  have hST : ST G σ1 x m X Y bd hi rr := ⟨nr, nb, ns, np, nn, nt, na, dy, t, hB1, hK, hW, hPa9⟩
  have h9n := h9
  have hM1 := hM.cg (ho1.m hms hxm)
  have hs1 := ho1.b hms hxm hbx hs
  obtain ⟨fm, hem⟩ := hM1.he
  refine e_aload_n (pc := 1097) Xc (dT hL_law_13 2 rfl) 2 rfl ?_
  refine e_aload_n (pc := 1098) Xc (dT hL_law_13 3 rfl) 0 rfl ?_
  refine e_iload_n (pc := 1099) Xc (dT hL_law_13 4 rfl) 3 rfl ?_
  refine e_iconst (v := nI 1) (pc := 1100) Xc (dT hL_law_13 5 rfl) rfl ?_
  refine e_iaddN (pc := 1101) Xc (dT hL_law_13 6 rfl) ?_
  refine e_ialdN (pc := 1102) Xc (dT hL_law_13 7 rfl) hs1 (by decide) rfl (i + 1) rfl (by omega) (by omega) ?_
  refine cl_L_143 (pc := 1103) (S := [.int z1]) Xc hem (p_done hM1 hK (xs (i + 1))) (dT hL_law_13 8 rfl) rfl (by decide) (by omega) (by omega) rfl (Nat.le_of_ble_eq_true rfl) (fun z2 σ2 q2 => ?_)
  obtain ⟨hz2, hM2, ho2⟩ := q2
  refine e_icmp_eq (tgt := 1305) (pc := 1106) Xc (dT hL_law_13 9 rfl) rfl (fun _ => ?_) (fun c => absurd (hz1.trans hz2.symm) c)
  exact Ev.wide (by omega) (by omega) (K _ (LI.mk hST ho1 hms ho2 hM2 h9n hrr hs hbx hxm))
theorem law_note {G : xG} {μ : xM} {σ : xS} {x m b L i k n : Nat} {xs : Nat → Int32} (Xc : xC G μ code 4 RL (some .boolean) 30 600000 7302250) (hL : LI G σ x m b L xs) (hi4 : i + 4 ≤ L) (hl : L ≤ 2048) (hk : k + 5 ≤ 600000) (hn : n + 132 ≤ 7302250) (K : ∀ σ', LI G σ' x m b L xs → Ev G μ 4 (k + 5) (n + 132) 1305 [(0, .ref b), (1, .ref x), (2, .ref m), (3, .int (nI i))] [] σ') : Ev G μ 4 k n 1111 [(0, .ref b), (1, .ref x), (2, .ref m), (3, .int (nI i))] [] σ := by
  obtain ⟨X, Y, bd, hi, rr, ⟨nr, nb, ns, np, nn, nt, na, dy, t, hB, hK, hW, hPa9⟩, hM, h9, hrr, hs, hbx⟩ := hL
  obtain ⟨hxm, hms⟩ := hB.ms
  obtain ⟨fx, hex⟩ := hB.he
  refine e_aload_n (pc := 1111) Xc (dT hL_law_13 12 rfl) 1 rfl ?_
  refine e_aload_n (pc := 1112) Xc (dT hL_law_13 13 rfl) 0 rfl ?_
  refine e_iload_n (pc := 1113) Xc (dT hL_law_13 14 rfl) 3 rfl ?_
  refine e_iconst (v := nI 1) (pc := 1114) Xc (dT hL_law_13 15 rfl) rfl ?_
  refine e_iaddN (pc := 1115) Xc (dT hL_law_13 16 rfl) ?_
  refine e_ialdN (pc := 1116) Xc (dT hL_law_13 17 rfl) hs (by decide) rfl (i + 1) rfl (by omega) (by omega) ?_
  refine e_aload_n (pc := 1117) Xc (dT hL_law_13 18 rfl) 0 rfl ?_
  refine e_iload_n (pc := 1118) Xc (dT hL_law_13 19 rfl) 3 rfl ?_
  refine e_iconst (v := nI 2) (pc := 1119) Xc (dT hL_law_13 20 rfl) rfl ?_
  refine e_iaddN (pc := 1120) Xc (dT hL_law_13 21 rfl) ?_
  refine e_ialdN (pc := 1121) Xc (dT hL_law_13 22 rfl) hs (by decide) rfl (i + 2) rfl (by omega) (by omega) ?_
  refine cl_L_144 (pc := 1122) (k := k) (n := n) (S := []) Xc hex (b_note hB hK hW hPa9 (xs (i + 1)) (xs (i + 2))) (dT hL_law_13 23 rfl) rfl (by decide) (by omega) (by omega) rfl (by decide) (fun z1 σ1 q1 => ?_)
  obtain ⟨hz1, hST, hh9, ho1⟩ := q1
  have h9n := fun j (hj : 909 ≤ j) => (hh9 j hj).trans (h9 j hj)
  have hM1 := hM.cg (ho1.m hms hxm)
  have hs1 := ho1.b hms hxm hbx hs
  obtain ⟨fm, hem⟩ := hM1.he
  refine e_aload_n (pc := 1125) Xc (dT hL_law_13 24 rfl) 2 rfl ?_
  refine e_aload_n (pc := 1126) Xc (dT hL_law_13 25 rfl) 0 rfl ?_
  refine e_iload_n (pc := 1127) Xc (dT hL_law_13 26 rfl) 3 rfl ?_
  refine e_iconst (v := nI 1) (pc := 1128) Xc (dT hL_law_13 27 rfl) rfl ?_
  refine e_iaddN (pc := 1129) Xc (dT hL_law_13 28 rfl) ?_
  refine e_ialdN (pc := 1130) Xc (dT hL_law_13 29 rfl) hs1 (by decide) rfl (i + 1) rfl (by omega) (by omega) ?_
  refine e_aload_n (pc := 1131) Xc (dT hL_law_13 30 rfl) 0 rfl ?_
  refine e_iload_n (pc := 1132) Xc (dT hL_law_13 31 rfl) 3 rfl ?_
  refine e_iconst (v := nI 2) (pc := 1133) Xc (dT hL_law_13 32 rfl) rfl ?_
  refine e_iaddN (pc := 1134) Xc (dT hL_law_13 33 rfl) ?_
  refine e_ialdN (pc := 1135) Xc (dT hL_law_13 34 rfl) hs1 (by decide) rfl (i + 2) rfl (by omega) (by omega) ?_
  refine cl_L_147 (pc := 1136) (S := [.int z1]) Xc hem (p_note hM1 hK (xs (i + 1)) (xs (i + 2))) (dT hL_law_13 35 rfl) rfl (by decide) (by omega) (by omega) rfl (Nat.le_of_ble_eq_true rfl) (fun z2 σ2 q2 => ?_)
  obtain ⟨hz2, hM2, ho2⟩ := q2
  refine e_icmp_eq (tgt := 1305) (pc := 1139) Xc (dT hL_law_13 36 rfl) rfl (fun _ => ?_) (fun c => absurd (hz1.trans hz2.symm) c)
  exact Ev.wide (by omega) (by omega) (K _ (LI.mk hST ho1 hms ho2 hM2 h9n hrr hs hbx hxm))
theorem law_looked {G : xG} {μ : xM} {σ : xS} {x m b L i k n : Nat} {xs : Nat → Int32} (Xc : xC G μ code 4 RL (some .boolean) 30 600000 7302250) (hL : LI G σ x m b L xs) (hi4 : i + 4 ≤ L) (hl : L ≤ 2048) (hk : k + 5 ≤ 600000) (hn : n + 132 ≤ 7302250) (K : ∀ σ', LI G σ' x m b L xs → Ev G μ 4 (k + 5) (n + 132) 1305 [(0, .ref b), (1, .ref x), (2, .ref m), (3, .int (nI i))] [] σ') : Ev G μ 4 k n 1144 [(0, .ref b), (1, .ref x), (2, .ref m), (3, .int (nI i))] [] σ := by
  obtain ⟨X, Y, bd, hi, rr, ⟨nr, nb, ns, np, nn, nt, na, dy, t, hB, hK, hW, hPa9⟩, hM, h9, hrr, hs, hbx⟩ := hL
  obtain ⟨hxm, hms⟩ := hB.ms
  obtain ⟨fx, hex⟩ := hB.he
  refine e_aload_n (pc := 1144) Xc (dT hL_law_13 39 rfl) 1 rfl ?_
  refine cl_L_148 (pc := 1145) (k := k) (n := n) (S := []) Xc hex (b_looked hB hK ) (dT hL_law_13 40 rfl) rfl (by decide) (by omega) (by omega) rfl (by decide) (fun z1 σ1 q1 => ?_)
  obtain ⟨hz1, hB1, ho1⟩ := q1
  have hST : ST G σ1 x m X Y bd hi rr := ⟨nr, nb, ns, np, nn, nt, na, dy, t, hB1, hK, hW, hPa9⟩
  have h9n := h9
  have hM1 := hM.cg (ho1.m hms hxm)
  have hs1 := ho1.b hms hxm hbx hs
  obtain ⟨fm, hem⟩ := hM1.he
  refine e_aload_n (pc := 1148) Xc (dT hL_law_13 41 rfl) 2 rfl ?_
  refine cl_L_151 (pc := 1149) (S := [.int z1]) Xc hem (p_looked hM1 hK ) (dT hL_law_13 42 rfl) rfl (by decide) (by omega) (by omega) rfl (Nat.le_of_ble_eq_true rfl) (fun z2 σ2 q2 => ?_)
  obtain ⟨hz2, hM2, ho2⟩ := q2
  refine e_icmp_eq (tgt := 1305) (pc := 1152) Xc (dT hL_law_13 43 rfl) rfl (fun _ => ?_) (fun c => absurd (hz1.trans hz2.symm) c)
  exact Ev.wide (by omega) (by omega) (K _ (LI.mk hST ho1 hms ho2 hM2 h9n hrr hs hbx hxm))
theorem law_act {G : xG} {μ : xM} {σ : xS} {x m b L i k n : Nat} {xs : Nat → Int32} (Xc : xC G μ code 4 RL (some .boolean) 30 600000 7302250) (hL : LI G σ x m b L xs) (hi4 : i + 4 ≤ L) (hl : L ≤ 2048) (hk : k + 5 ≤ 600000) (hn : n + 132 ≤ 7302250) (K : ∀ σ', LI G σ' x m b L xs → Ev G μ 4 (k + 5) (n + 132) 1305 [(0, .ref b), (1, .ref x), (2, .ref m), (3, .int (nI i))] [] σ') : Ev G μ 4 k n 1157 [(0, .ref b), (1, .ref x), (2, .ref m), (3, .int (nI i))] [] σ := by
  obtain ⟨X, Y, bd, hi, rr, ⟨nr, nb, ns, np, nn, nt, na, dy, t, hB, hK, hW, hPa9⟩, hM, h9, hrr, hs, hbx⟩ := hL
  obtain ⟨hxm, hms⟩ := hB.ms
  obtain ⟨fx, hex⟩ := hB.he
  refine e_aload_n (pc := 1157) Xc (dT hL_law_13 46 rfl) 1 rfl ?_
  refine e_aload_n (pc := 1158) Xc (dT hL_law_13 47 rfl) 0 rfl ?_
  refine e_iload_n (pc := 1159) Xc (dT hL_law_13 48 rfl) 3 rfl ?_
  refine e_iconst (v := nI 1) (pc := 1160) Xc (dT hL_law_13 49 rfl) rfl ?_
  refine e_iaddN (pc := 1161) Xc (dT hL_law_13 50 rfl) ?_
  refine e_ialdN (pc := 1162) Xc (dT hL_law_13 51 rfl) hs (by decide) rfl (i + 1) rfl (by omega) (by omega) ?_
  refine e_aload_n (pc := 1163) Xc (dT hL_law_13 52 rfl) 0 rfl ?_
  refine e_iload_n (pc := 1164) Xc (dT hL_law_13 53 rfl) 3 rfl ?_
  refine e_iconst (v := nI 2) (pc := 1165) Xc (dT hL_law_13 54 rfl) rfl ?_
  refine e_iaddN (pc := 1166) Xc (dT hL_law_14 0 rfl) ?_
  refine e_ialdN (pc := 1167) Xc (dT hL_law_14 1 rfl) hs (by decide) rfl (i + 2) rfl (by omega) (by omega) ?_
  refine e_aload_n (pc := 1168) Xc (dT hL_law_14 2 rfl) 0 rfl ?_
  refine e_iload_n (pc := 1169) Xc (dT hL_law_14 3 rfl) 3 rfl ?_
  refine e_iconst (v := nI 3) (pc := 1170) Xc (dT hL_law_14 4 rfl) rfl ?_
  refine e_iaddN (pc := 1171) Xc (dT hL_law_14 5 rfl) ?_
  refine e_ialdN (pc := 1172) Xc (dT hL_law_14 6 rfl) hs (by decide) rfl (i + 3) rfl (by omega) (by omega) ?_
  refine cl_L_152 (pc := 1173) (k := k) (n := n) (S := []) Xc hex (b_act hB hK hW hPa9 (xs (i + 1)) (xs (i + 2)) (xs (i + 3))) (dT hL_law_14 7 rfl) rfl (by decide) (by omega) (by omega) rfl (by decide) (fun z1 σ1 q1 => ?_)
  obtain ⟨hz1, hST, ho1⟩ := q1
  have h9n := h9
  have hM1 := hM.cg (ho1.m hms hxm)
  have hs1 := ho1.b hms hxm hbx hs
  obtain ⟨fm, hem⟩ := hM1.he
  refine e_aload_n (pc := 1176) Xc (dT hL_law_14 8 rfl) 2 rfl ?_
  refine e_aload_n (pc := 1177) Xc (dT hL_law_14 9 rfl) 0 rfl ?_
  refine e_iload_n (pc := 1178) Xc (dT hL_law_14 10 rfl) 3 rfl ?_
  refine e_iconst (v := nI 1) (pc := 1179) Xc (dT hL_law_14 11 rfl) rfl ?_
  refine e_iaddN (pc := 1180) Xc (dT hL_law_14 12 rfl) ?_
  refine e_ialdN (pc := 1181) Xc (dT hL_law_14 13 rfl) hs1 (by decide) rfl (i + 1) rfl (by omega) (by omega) ?_
  refine e_aload_n (pc := 1182) Xc (dT hL_law_14 14 rfl) 0 rfl ?_
  refine e_iload_n (pc := 1183) Xc (dT hL_law_14 15 rfl) 3 rfl ?_
  refine e_iconst (v := nI 2) (pc := 1184) Xc (dT hL_law_14 16 rfl) rfl ?_
  refine e_iaddN (pc := 1185) Xc (dT hL_law_14 17 rfl) ?_
  refine e_ialdN (pc := 1186) Xc (dT hL_law_14 18 rfl) hs1 (by decide) rfl (i + 2) rfl (by omega) (by omega) ?_
  refine e_aload_n (pc := 1187) Xc (dT hL_law_14 19 rfl) 0 rfl ?_
  refine e_iload_n (pc := 1188) Xc (dT hL_law_14 20 rfl) 3 rfl ?_
  refine e_iconst (v := nI 3) (pc := 1189) Xc (dT hL_law_14 21 rfl) rfl ?_
  refine e_iaddN (pc := 1190) Xc (dT hL_law_14 22 rfl) ?_
  refine e_ialdN (pc := 1191) Xc (dT hL_law_14 23 rfl) hs1 (by decide) rfl (i + 3) rfl (by omega) (by omega) ?_
  refine cl_L_155 (pc := 1192) (S := [.int z1]) Xc hem (p_act hM1 hK (xs (i + 1)) (xs (i + 2)) (xs (i + 3))) (dT hL_law_14 24 rfl) rfl (by decide) (by omega) (by omega) rfl (Nat.le_of_ble_eq_true rfl) (fun z2 σ2 q2 => ?_)
  obtain ⟨hz2, hM2, ho2⟩ := q2
  refine e_icmp_eq (tgt := 1305) (pc := 1195) Xc (dT hL_law_14 25 rfl) rfl (fun _ => ?_) (fun c => absurd (hz1.trans hz2.symm) c)
  exact Ev.wide (by omega) (by omega) (K _ (LI.mk hST ho1 hms ho2 hM2 h9n act_n hs hbx hxm))
theorem law_trace {G : xG} {μ : xM} {σ : xS} {x m b L i k n : Nat} {xs : Nat → Int32} (Xc : xC G μ code 4 RL (some .boolean) 30 600000 7302250) (hL : LI G σ x m b L xs) (hi4 : i + 4 ≤ L) (hl : L ≤ 2048) (hk : k + 5 ≤ 600000) (hn : n + 132 ≤ 7302250) (K : ∀ σ', LI G σ' x m b L xs → Ev G μ 4 (k + 5) (n + 132) 1305 [(0, .ref b), (1, .ref x), (2, .ref m), (3, .int (nI i))] [] σ') : Ev G μ 4 k n 1200 [(0, .ref b), (1, .ref x), (2, .ref m), (3, .int (nI i))] [] σ := by
  obtain ⟨X, Y, bd, hi, rr, ⟨nr, nb, ns, np, nn, nt, na, dy, t, hB, hK, hW, hPa9⟩, hM, h9, hrr, hs, hbx⟩ := hL
  obtain ⟨hxm, hms⟩ := hB.ms
  obtain ⟨fx, hex⟩ := hB.he
  refine e_aload_n (pc := 1200) Xc (dT hL_law_14 28 rfl) 1 rfl ?_
  refine e_aload_n (pc := 1201) Xc (dT hL_law_14 29 rfl) 0 rfl ?_
  refine e_iload_n (pc := 1202) Xc (dT hL_law_14 30 rfl) 3 rfl ?_
  refine e_iconst (v := nI 1) (pc := 1203) Xc (dT hL_law_14 31 rfl) rfl ?_
  refine e_iaddN (pc := 1204) Xc (dT hL_law_14 32 rfl) ?_
  refine e_ialdN (pc := 1205) Xc (dT hL_law_14 33 rfl) hs (by decide) rfl (i + 1) rfl (by omega) (by omega) ?_
  refine cl_L_156 (pc := 1206) (k := k) (n := n) (S := []) Xc hex (b_trace hB hK hrr (xs (i + 1))) (dT hL_law_14 34 rfl) rfl (by decide) (by omega) (by omega) rfl (by decide) (fun z1 σ1 q1 => ?_)
  obtain ⟨hz1, hB1, ho1⟩ := q1
  have hST : ST G σ1 x m X Y bd hi rr := ⟨nr, nb, ns, np, nn, nt, na, dy, t, hB1, hK, hW, hPa9⟩
  have h9n := h9
  have hM1 := hM.cg (ho1.m hms hxm)
  have hs1 := ho1.b hms hxm hbx hs
  obtain ⟨fm, hem⟩ := hM1.he
  refine e_aload_n (pc := 1209) Xc (dT hL_law_14 35 rfl) 2 rfl ?_
  refine e_aload_n (pc := 1210) Xc (dT hL_law_14 36 rfl) 0 rfl ?_
  refine e_iload_n (pc := 1211) Xc (dT hL_law_14 37 rfl) 3 rfl ?_
  refine e_iconst (v := nI 1) (pc := 1212) Xc (dT hL_law_14 38 rfl) rfl ?_
  refine e_iaddN (pc := 1213) Xc (dT hL_law_14 39 rfl) ?_
  refine e_ialdN (pc := 1214) Xc (dT hL_law_14 40 rfl) hs1 (by decide) rfl (i + 1) rfl (by omega) (by omega) ?_
  refine cl_L_159 (pc := 1215) (S := [.int z1]) Xc hem (p_trace hM1 hK rfl hrr (xs (i + 1))) (dT hL_law_14 41 rfl) rfl (by decide) (by omega) (by omega) rfl (Nat.le_of_ble_eq_true rfl) (fun z2 σ2 q2 => ?_)
  obtain ⟨hz2, hM2, ho2⟩ := q2
  refine e_icmp_eq (tgt := 1305) (pc := 1218) Xc (dT hL_law_14 42 rfl) rfl (fun _ => ?_) (fun c => absurd (hz1.trans hz2.symm) c)
  exact Ev.wide (by omega) (by omega) (K _ (LI.mk hST ho1 hms ho2 hM2 h9n hrr hs hbx hxm))
theorem law_as {G : xG} {μ : xM} {σ : xS} {x m b L i k n : Nat} {xs : Nat → Int32} (Xc : xC G μ code 4 RL (some .boolean) 30 600000 7302250) (hL : LI G σ x m b L xs) (hi4 : i + 4 ≤ L) (hl : L ≤ 2048) (hk : k + 5 ≤ 600000) (hn : n + 132 ≤ 7302250) (K : ∀ σ', LI G σ' x m b L xs → Ev G μ 4 (k + 5) (n + 132) 1305 [(0, .ref b), (1, .ref x), (2, .ref m), (3, .int (nI i))] [] σ') : Ev G μ 4 k n 1223 [(0, .ref b), (1, .ref x), (2, .ref m), (3, .int (nI i))] [] σ := by
  obtain ⟨X, Y, bd, hi, rr, ⟨nr, nb, ns, np, nn, nt, na, dy, t, hB, hK, hW, hPa9⟩, hM, h9, hrr, hs, hbx⟩ := hL
  obtain ⟨hxm, hms⟩ := hB.ms
  obtain ⟨fx, hex⟩ := hB.he
  refine e_aload_n (pc := 1223) Xc (dT hL_law_14 45 rfl) 1 rfl ?_
  refine e_aload_n (pc := 1224) Xc (dT hL_law_14 46 rfl) 0 rfl ?_
  refine e_iload_n (pc := 1225) Xc (dT hL_law_14 47 rfl) 3 rfl ?_
  refine e_iconst (v := nI 1) (pc := 1226) Xc (dT hL_law_14 48 rfl) rfl ?_
  refine e_iaddN (pc := 1227) Xc (dT hL_law_14 49 rfl) ?_
  refine e_ialdN (pc := 1228) Xc (dT hL_law_14 50 rfl) hs (by decide) rfl (i + 1) rfl (by omega) (by omega) ?_
  refine e_aload_n (pc := 1229) Xc (dT hL_law_14 51 rfl) 0 rfl ?_
  refine e_iload_n (pc := 1230) Xc (dT hL_law_14 52 rfl) 3 rfl ?_
  refine e_iconst (v := nI 2) (pc := 1231) Xc (dT hL_law_14 53 rfl) rfl ?_
  refine e_iaddN (pc := 1232) Xc (dT hL_law_14 54 rfl) ?_
  refine e_ialdN (pc := 1233) Xc (dT hL_law_15 0 rfl) hs (by decide) rfl (i + 2) rfl (by omega) (by omega) ?_
  refine cl_L_160 (pc := 1234) (k := k) (n := n) (S := []) Xc hex (b_as hB hK (xs (i + 1)) (xs (i + 2))) (dT hL_law_15 1 rfl) rfl (by decide) (by omega) (by omega) rfl (by decide) (fun z1 σ1 q1 => ?_)
  obtain ⟨hz1, hB1, ho1⟩ := q1
  have hST : ST G σ1 x m X Y bd hi rr := ⟨nr, nb, ns, np, nn, nt, na, dy, t, hB1, hK, hW, hPa9⟩
  have h9n := h9
  have hM1 := hM.cg (ho1.m hms hxm)
  have hs1 := ho1.b hms hxm hbx hs
  obtain ⟨fm, hem⟩ := hM1.he
  refine e_aload_n (pc := 1237) Xc (dT hL_law_15 2 rfl) 2 rfl ?_
  refine e_aload_n (pc := 1238) Xc (dT hL_law_15 3 rfl) 0 rfl ?_
  refine e_iload_n (pc := 1239) Xc (dT hL_law_15 4 rfl) 3 rfl ?_
  refine e_iconst (v := nI 1) (pc := 1240) Xc (dT hL_law_15 5 rfl) rfl ?_
  refine e_iaddN (pc := 1241) Xc (dT hL_law_15 6 rfl) ?_
  refine e_ialdN (pc := 1242) Xc (dT hL_law_15 7 rfl) hs1 (by decide) rfl (i + 1) rfl (by omega) (by omega) ?_
  refine e_aload_n (pc := 1243) Xc (dT hL_law_15 8 rfl) 0 rfl ?_
  refine e_iload_n (pc := 1244) Xc (dT hL_law_15 9 rfl) 3 rfl ?_
  refine e_iconst (v := nI 2) (pc := 1245) Xc (dT hL_law_15 10 rfl) rfl ?_
  refine e_iaddN (pc := 1246) Xc (dT hL_law_15 11 rfl) ?_
  refine e_ialdN (pc := 1247) Xc (dT hL_law_15 12 rfl) hs1 (by decide) rfl (i + 2) rfl (by omega) (by omega) ?_
  refine cl_L_163 (pc := 1248) (S := [.int z1]) Xc hem (p_as hM1 hK (xs (i + 1)) (xs (i + 2))) (dT hL_law_15 13 rfl) rfl (by decide) (by omega) (by omega) rfl (Nat.le_of_ble_eq_true rfl) (fun z2 σ2 q2 => ?_)
  obtain ⟨hz2, hM2, ho2⟩ := q2
  refine e_icmp_eq (tgt := 1305) (pc := 1251) Xc (dT hL_law_15 14 rfl) rfl (fun _ => ?_) (fun c => absurd (hz1.trans hz2.symm) c)
  exact Ev.wide (by omega) (by omega) (K _ (LI.mk hST ho1 hms ho2 hM2 h9n hrr hs hbx hxm))
theorem law_image {G : xG} {μ : xM} {σ : xS} {x m b L i k n : Nat} {xs : Nat → Int32} (Xc : xC G μ code 4 RL (some .boolean) 30 600000 7302250) (hL : LI G σ x m b L xs) (hi4 : i + 4 ≤ L) (hl : L ≤ 2048) (hk : k + 5 ≤ 600000) (hn : n + 132 ≤ 7302250) (K : ∀ σ', LI G σ' x m b L xs → Ev G μ 4 (k + 5) (n + 132) 1305 [(0, .ref b), (1, .ref x), (2, .ref m), (3, .int (nI i))] [] σ') : Ev G μ 4 k n 1256 [(0, .ref b), (1, .ref x), (2, .ref m), (3, .int (nI i))] [] σ := by
  obtain ⟨X, Y, bd, hi, rr, ⟨nr, nb, ns, np, nn, nt, na, dy, t, hB, hK, hW, hPa9⟩, hM, h9, hrr, hs, hbx⟩ := hL
  obtain ⟨hxm, hms⟩ := hB.ms
  obtain ⟨fx, hex⟩ := hB.he
  refine e_aload_n (pc := 1256) Xc (dT hL_law_15 17 rfl) 1 rfl ?_
  refine cl_L_164 (pc := 1257) (k := k) (n := n) (S := []) Xc hex (b_image hB hK hW hPa9 ) (dT hL_law_15 18 rfl) rfl (by decide) (by omega) (by omega) rfl (by decide) (fun z1 σ1 q1 => ?_)
  obtain ⟨hz1, hST, ho1⟩ := q1
  have h9n : ∀ j, 909 ≤ j → X j = X j := fun j _ => rfl
  have hM1 := hM.cg (ho1.m hms hxm)
  have hs1 := ho1.b hms hxm hbx hs
  obtain ⟨fm, hem⟩ := hM1.he
  refine e_aload_n (pc := 1260) Xc (dT hL_law_15 19 rfl) 2 rfl ?_
  refine cl_L_167 (pc := 1261) (S := [.int z1]) Xc hem (p_image hM1 hK ) (dT hL_law_15 20 rfl) rfl (by decide) (by omega) (by omega) rfl (Nat.le_of_ble_eq_true rfl) (fun z2 σ2 q2 => ?_)
  obtain ⟨hz2, hM2, ho2⟩ := q2
  rw [cp_id h9] at hM2
  refine e_icmp_eq (tgt := 1305) (pc := 1264) Xc (dT hL_law_15 21 rfl) rfl (fun _ => ?_) (fun c => absurd (hz1.trans hz2.symm) c)
  exact Ev.wide (by omega) (by omega) (K _ (LI.mk hST ho1 hms ho2 hM2 h9n hrr hs hbx hxm))
theorem law_undo {G : xG} {μ : xM} {σ : xS} {x m b L i k n : Nat} {xs : Nat → Int32} (Xc : xC G μ code 4 RL (some .boolean) 30 600000 7302250) (hL : LI G σ x m b L xs) (hi4 : i + 4 ≤ L) (hl : L ≤ 2048) (hk : k + 5 ≤ 600000) (hn : n + 132 ≤ 7302250) (K : ∀ σ', LI G σ' x m b L xs → Ev G μ 4 (k + 5) (n + 132) 1305 [(0, .ref b), (1, .ref x), (2, .ref m), (3, .int (nI i))] [] σ') : Ev G μ 4 k n 1269 [(0, .ref b), (1, .ref x), (2, .ref m), (3, .int (nI i))] [] σ := by
  obtain ⟨X, Y, bd, hi, rr, ⟨nr, nb, ns, np, nn, nt, na, dy, t, hB, hK, hW, hPa9⟩, hM, h9, hrr, hs, hbx⟩ := hL
  obtain ⟨hxm, hms⟩ := hB.ms
  obtain ⟨fx, hex⟩ := hB.he
  refine e_aload_n (pc := 1269) Xc (dT hL_law_15 24 rfl) 1 rfl ?_
  refine cl_L_168 (pc := 1270) (k := k) (n := n) (S := []) Xc hex (b_undo hB hK hW hPa9 h9 ) (dT hL_law_15 25 rfl) rfl (by decide) (by omega) (by omega) rfl (by decide) (fun z1 σ1 q1 => ?_)
  obtain ⟨hz1, hST, ho1⟩ := q1
  have h9n : ∀ j, 909 ≤ j → (v_undo X Y hi).2 j = Y j := by
    intro j hj
    rw [v_undo]
    by_cases q : hi = 0
    · rw [if_pos q]; exact h9 j hj
    · rw [if_neg q, cp_id (fun j hj => (h9 j hj).symm)]
  have hM1 := hM.cg (ho1.m hms hxm)
  have hs1 := ho1.b hms hxm hbx hs
  obtain ⟨fm, hem⟩ := hM1.he
  refine e_aload_n (pc := 1273) Xc (dT hL_law_15 26 rfl) 2 rfl ?_
  refine cl_L_171 (pc := 1274) (S := [.int z1]) Xc hem (p_undo hM1 hK ) (dT hL_law_15 27 rfl) rfl (by decide) (by omega) (by omega) rfl (Nat.le_of_ble_eq_true rfl) (fun z2 σ2 q2 => ?_)
  obtain ⟨hz2, hM2, ho2⟩ := q2
  refine e_icmp_eq (tgt := 1305) (pc := 1277) Xc (dT hL_law_15 28 rfl) rfl (fun _ => ?_) (fun c => absurd (hz1.trans hz2.symm) c)
  exact Ev.wide (by omega) (by omega) (K _ (LI.mk hST ho1 hms ho2 hM2 h9n hrr hs hbx hxm))
theorem law_count {G : xG} {μ : xM} {σ : xS} {x m b L i k n : Nat} {xs : Nat → Int32} (Xc : xC G μ code 4 RL (some .boolean) 30 600000 7302250) (hL : LI G σ x m b L xs) (hi4 : i + 4 ≤ L) (hl : L ≤ 2048) (hk : k + 5 ≤ 600000) (hn : n + 132 ≤ 7302250) (K : ∀ σ', LI G σ' x m b L xs → Ev G μ 4 (k + 5) (n + 132) 1305 [(0, .ref b), (1, .ref x), (2, .ref m), (3, .int (nI i))] [] σ') : Ev G μ 4 k n 1282 [(0, .ref b), (1, .ref x), (2, .ref m), (3, .int (nI i))] [] σ := by
  obtain ⟨X, Y, bd, hi, rr, ⟨nr, nb, ns, np, nn, nt, na, dy, t, hB, hK, hW, hPa9⟩, hM, h9, hrr, hs, hbx⟩ := hL
  obtain ⟨hxm, hms⟩ := hB.ms
  obtain ⟨fx, hex⟩ := hB.he
  refine e_aload_n (pc := 1282) Xc (dT hL_law_15 31 rfl) 1 rfl ?_
  refine e_aload_n (pc := 1283) Xc (dT hL_law_15 32 rfl) 0 rfl ?_
  refine e_iload_n (pc := 1284) Xc (dT hL_law_15 33 rfl) 3 rfl ?_
  refine e_iconst (v := nI 1) (pc := 1285) Xc (dT hL_law_15 34 rfl) rfl ?_
  refine e_iaddN (pc := 1286) Xc (dT hL_law_15 35 rfl) ?_
  refine e_ialdN (pc := 1287) Xc (dT hL_law_15 36 rfl) hs (by decide) rfl (i + 1) rfl (by omega) (by omega) ?_
  refine cl_L_172 (pc := 1288) (k := k) (n := n) (S := []) Xc hex (b_count hB hK (xs (i + 1))) (dT hL_law_15 37 rfl) rfl (by decide) (by omega) (by omega) rfl (by decide) (fun z1 σ1 q1 => ?_)
  obtain ⟨hz1, hB1, ho1⟩ := q1
  have hST : ST G σ1 x m X Y bd hi rr := ⟨nr, nb, ns, np, nn, nt, na, dy, t, hB1, hK, hW, hPa9⟩
  have h9n := h9
  have hM1 := hM.cg (ho1.m hms hxm)
  have hs1 := ho1.b hms hxm hbx hs
  obtain ⟨fm, hem⟩ := hM1.he
  refine e_aload_n (pc := 1291) Xc (dT hL_law_15 38 rfl) 2 rfl ?_
  refine e_aload_n (pc := 1292) Xc (dT hL_law_15 39 rfl) 0 rfl ?_
  refine e_iload_n (pc := 1293) Xc (dT hL_law_15 40 rfl) 3 rfl ?_
  refine e_iconst (v := nI 1) (pc := 1294) Xc (dT hL_law_15 41 rfl) rfl ?_
  refine e_iaddN (pc := 1295) Xc (dT hL_law_15 42 rfl) ?_
  refine e_ialdN (pc := 1296) Xc (dT hL_law_15 43 rfl) hs1 (by decide) rfl (i + 1) rfl (by omega) (by omega) ?_
  refine cl_L_175 (pc := 1297) (S := [.int z1]) Xc hem (p_count hM1 hK (xs (i + 1))) (dT hL_law_15 44 rfl) rfl (by decide) (by omega) (by omega) rfl (Nat.le_of_ble_eq_true rfl) (fun z2 σ2 q2 => ?_)
  obtain ⟨hz2, hM2, ho2⟩ := q2
  refine e_icmp_eq (tgt := 1305) (pc := 1300) Xc (dT hL_law_15 45 rfl) rfl (fun _ => ?_) (fun c => absurd (hz1.trans hz2.symm) c)
  exact Ev.wide (by omega) (by omega) (K _ (LI.mk hST ho1 hms ho2 hM2 h9n hrr hs hbx hxm))
