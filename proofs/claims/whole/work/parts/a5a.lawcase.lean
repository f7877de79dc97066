theorem law_feed {G : xG} {μ : xM} {σ : xS} {x m b L i k n : Nat} {xs : Nat → Int32} (Xc : xC G μ code 4 RL (some .boolean) 30 600000 7302250) (hL : LI G σ x m b L xs) (hi4 : i + 4 ≤ L) (hl : L ≤ 2048) (hk : k + 5 ≤ 600000) (hn : n + 132 ≤ 7302250) (K : ∀ σ', LI G σ' x m b L xs → Ev G μ 4 (k + 5) (n + 132) 1305 [(0, .ref b), (1, .ref x), (2, .ref m), (3, .int (nI i))] [] σ') : Ev G μ 4 k n 204 [(0, .ref b), (1, .ref x), (2, .ref m), (3, .int (nI i))] [] σ := by
  obtain ⟨X, Y, bd, hi, rr, ⟨nr, nb, ns, np, nn, nt, na, dy, t, hB, hK, hW, hPa9⟩, hM, h9, hrr, hs, hbx⟩ := hL
  obtain ⟨hxm, hms⟩ := hB.ms
  obtain ⟨fx, hex⟩ := hB.he
  refine e_aload_n (pc := 204) Xc (dT hL_law_0 22 rfl) 1 rfl ?_
  refine e_aload_n (pc := 205) Xc (dT hL_law_0 23 rfl) 0 rfl ?_
  refine e_iload_n (pc := 206) Xc (dT hL_law_0 24 rfl) 3 rfl ?_
  refine e_iconst (v := nI 1) (pc := 207) Xc (dT hL_law_0 25 rfl) rfl ?_
  refine e_iaddN (pc := 208) Xc (dT hL_law_0 26 rfl) ?_
  refine e_ialdN (pc := 209) Xc (dT hL_law_0 27 rfl) hs (by decide) rfl (i + 1) rfl (by omega) (by omega) ?_
  refine cl_L_13 (pc := 210) (k := k) (n := n) (S := []) Xc hex (b_feed hB hK hW hPa9 (xs (i + 1))) (dT hL_law_0 28 rfl) rfl (by decide) (by omega) (by omega) rfl (by decide) (fun z1 σ1 q1 => ?_)
  obtain ⟨hz1, hST, hh9, ho1⟩ := q1
  have h9n := fun j (hj : 909 ≤ j) => (hh9 j hj).trans (h9 j hj)
  have hM1 := hM.cg (ho1.m hms hxm)
  have hs1 := ho1.b hms hxm hbx hs
  obtain ⟨fm, hem⟩ := hM1.he
  refine e_aload_n (pc := 213) Xc (dT hL_law_0 29 rfl) 2 rfl ?_
  refine e_aload_n (pc := 214) Xc (dT hL_law_0 30 rfl) 0 rfl ?_
  refine e_iload_n (pc := 215) Xc (dT hL_law_0 31 rfl) 3 rfl ?_
  refine e_iconst (v := nI 1) (pc := 216) Xc (dT hL_law_0 32 rfl) rfl ?_
  refine e_iaddN (pc := 217) Xc (dT hL_law_0 33 rfl) ?_
  refine e_ialdN (pc := 218) Xc (dT hL_law_0 34 rfl) hs1 (by decide) rfl (i + 1) rfl (by omega) (by omega) ?_
  refine cl_L_17 (pc := 219) (S := [.int z1]) Xc hem (p_feed hM1 hK (xs (i + 1))) (dT hL_law_0 35 rfl) rfl (by decide) (by omega) (by omega) rfl (Nat.le_of_ble_eq_true rfl) (fun z2 σ2 q2 => ?_)
  obtain ⟨hz2, hM2, ho2⟩ := q2
  refine e_icmp_eq (tgt := 1305) (pc := 222) Xc (dT hL_law_0 36 rfl) rfl (fun _ => ?_) (fun c => absurd (hz1.trans hz2.symm) c)
  exact Ev.wide (by omega) (by omega) (K _ (LI.mk hST ho1 hms ho2 hM2 h9n hrr hs hbx hxm))
theorem law_town {G : xG} {μ : xM} {σ : xS} {x m b L i k n : Nat} {xs : Nat → Int32} (Xc : xC G μ code 4 RL (some .boolean) 30 600000 7302250) (hL : LI G σ x m b L xs) (hi4 : i + 4 ≤ L) (hl : L ≤ 2048) (hk : k + 5 ≤ 600000) (hn : n + 132 ≤ 7302250) (K : ∀ σ', LI G σ' x m b L xs → Ev G μ 4 (k + 5) (n + 132) 1305 [(0, .ref b), (1, .ref x), (2, .ref m), (3, .int (nI i))] [] σ') : Ev G μ 4 k n 227 [(0, .ref b), (1, .ref x), (2, .ref m), (3, .int (nI i))] [] σ := by
  obtain ⟨X, Y, bd, hi, rr, ⟨nr, nb, ns, np, nn, nt, na, dy, t, hB, hK, hW, hPa9⟩, hM, h9, hrr, hs, hbx⟩ := hL
  obtain ⟨hxm, hms⟩ := hB.ms
  obtain ⟨fx, hex⟩ := hB.he
  refine e_aload_n (pc := 227) Xc (dT hL_law_0 39 rfl) 1 rfl ?_
  refine cl_L_18 (pc := 228) (k := k) (n := n) (S := []) Xc hex (b_town hB hK hW hPa9 ) (dT hL_law_0 40 rfl) rfl (by decide) (by omega) (by omega) rfl (by decide) (fun z1 σ1 q1 => ?_)
  have ho1 : OffB x σ σ1 := by rcases q1 with ⟨-, -, -, h⟩ | ⟨-, -, h⟩ <;> exact h
  have hM1 := hM.cg (ho1.m hms hxm)
  have hs1 := ho1.b hms hxm hbx hs
  obtain ⟨fm, hem⟩ := hM1.he
  refine e_aload_n (pc := 231) Xc (dT hL_law_0 41 rfl) 2 rfl ?_
  refine cl_L_22 (pc := 232) (S := [.int z1]) Xc hem (p_town hM1 hK ) (dT hL_law_0 42 rfl) rfl (by decide) (by omega) (by omega) rfl (Nat.le_of_ble_eq_true rfl) (fun z2 σ2 q2 => ?_)
  obtain ⟨X', hST, hM2, h9n, hzz, ho2⟩ : ∃ X', ST G σ1 x m X' Y bd hi rr ∧ MK σ2 m X' Y bd hi (nI rr) ∧ (∀ j, 909 ≤ j → X' j = Y j) ∧ z1 = z2 ∧ Off m σ1 σ2 := by
    rcases q1 with ⟨g1, g2, g3, -⟩ | ⟨g1, g2, -⟩ <;> rcases q2 with ⟨j1, j2, j3, j4⟩ | ⟨j1, X1, j2, j3, j4⟩
    · exact ⟨X, g3, j3, h9, g2.trans j2.symm, j4⟩
    · omega
    · omega
    · obtain ⟨w1, w2, w3⟩ := g2 X1 z2 j3
      exact ⟨X1, w2, j2, fun j hj => (w3 j hj).trans (h9 j hj), w1, j4⟩
  refine e_icmp_eq (tgt := 1305) (pc := 235) Xc (dT hL_law_0 43 rfl) rfl (fun _ => ?_) (fun c => absurd hzz c)
  exact Ev.wide (by omega) (by omega) (K _ (LI.mk hST ho1 hms ho2 hM2 h9n hrr hs hbx hxm))
theorem law_book {G : xG} {μ : xM} {σ : xS} {x m b L i k n : Nat} {xs : Nat → Int32} (Xc : xC G μ code 4 RL (some .boolean) 30 600000 7302250) (hL : LI G σ x m b L xs) (hi4 : i + 4 ≤ L) (hl : L ≤ 2048) (hk : k + 5 ≤ 600000) (hn : n + 132 ≤ 7302250) (K : ∀ σ', LI G σ' x m b L xs → Ev G μ 4 (k + 5) (n + 132) 1305 [(0, .ref b), (1, .ref x), (2, .ref m), (3, .int (nI i))] [] σ') : Ev G μ 4 k n 240 [(0, .ref b), (1, .ref x), (2, .ref m), (3, .int (nI i))] [] σ := by
  obtain ⟨X, Y, bd, hi, rr, ⟨nr, nb, ns, np, nn, nt, na, dy, t, hB, hK, hW, hPa9⟩, hM, h9, hrr, hs, hbx⟩ := hL
  obtain ⟨hxm, hms⟩ := hB.ms
  obtain ⟨fx, hex⟩ := hB.he
  refine e_aload_n (pc := 240) Xc (dT hL_law_0 46 rfl) 1 rfl ?_
  refine e_aload_n (pc := 241) Xc (dT hL_law_0 47 rfl) 0 rfl ?_
  refine e_iload_n (pc := 242) Xc (dT hL_law_0 48 rfl) 3 rfl ?_
  refine e_iconst (v := nI 1) (pc := 243) Xc (dT hL_law_0 49 rfl) rfl ?_
  refine e_iaddN (pc := 244) Xc (dT hL_law_0 50 rfl) ?_
  refine e_ialdN (pc := 245) Xc (dT hL_law_0 51 rfl) hs (by decide) rfl (i + 1) rfl (by omega) (by omega) ?_
  refine cl_L_23 (pc := 246) (k := k) (n := n) (S := []) Xc hex (b_book hB hK hW hPa9 (xs (i + 1))) (dT hL_law_0 52 rfl) rfl (by decide) (by omega) (by omega) rfl (by decide) (fun z1 σ1 q1 => ?_)
  obtain ⟨hz1, hST, hh9, ho1⟩ := q1
  have h9n := fun j (hj : 909 ≤ j) => (hh9 j hj).trans (h9 j hj)
  have hM1 := hM.cg (ho1.m hms hxm)
  have hs1 := ho1.b hms hxm hbx hs
  obtain ⟨fm, hem⟩ := hM1.he
  refine e_aload_n (pc := 249) Xc (dT hL_law_0 53 rfl) 2 rfl ?_
  refine e_aload_n (pc := 250) Xc (dT hL_law_0 54 rfl) 0 rfl ?_
  refine e_iload_n (pc := 251) Xc (dT hL_law_1 0 rfl) 3 rfl ?_
  refine e_iconst (v := nI 1) (pc := 252) Xc (dT hL_law_1 1 rfl) rfl ?_
  refine e_iaddN (pc := 253) Xc (dT hL_law_1 2 rfl) ?_
  refine e_ialdN (pc := 254) Xc (dT hL_law_1 3 rfl) hs1 (by decide) rfl (i + 1) rfl (by omega) (by omega) ?_
  refine cl_L_26 (pc := 255) (S := [.int z1]) Xc hem (p_book hM1 hK (xs (i + 1))) (dT hL_law_1 4 rfl) rfl (by decide) (by omega) (by omega) rfl (Nat.le_of_ble_eq_true rfl) (fun z2 σ2 q2 => ?_)
  obtain ⟨hz2, hM2, ho2⟩ := q2
  refine e_icmp_eq (tgt := 1305) (pc := 258) Xc (dT hL_law_1 5 rfl) rfl (fun _ => ?_) (fun c => absurd (hz1.trans hz2.symm) c)
  exact Ev.wide (by omega) (by omega) (K _ (LI.mk hST ho1 hms ho2 hM2 h9n hrr hs hbx hxm))
theorem law_reader {G : xG} {μ : xM} {σ : xS} {x m b L i k n : Nat} {xs : Nat → Int32} (Xc : xC G μ code 4 RL (some .boolean) 30 600000 7302250) (hL : LI G σ x m b L xs) (hi4 : i + 4 ≤ L) (hl : L ≤ 2048) (hk : k + 5 ≤ 600000) (hn : n + 132 ≤ 7302250) (K : ∀ σ', LI G σ' x m b L xs → Ev G μ 4 (k + 5) (n + 132) 1305 [(0, .ref b), (1, .ref x), (2, .ref m), (3, .int (nI i))] [] σ') : Ev G μ 4 k n 263 [(0, .ref b), (1, .ref x), (2, .ref m), (3, .int (nI i))] [] σ := by
  obtain ⟨X, Y, bd, hi, rr, ⟨nr, nb, ns, np, nn, nt, na, dy, t, hB, hK, hW, hPa9⟩, hM, h9, hrr, hs, hbx⟩ := hL
  obtain ⟨hxm, hms⟩ := hB.ms
  obtain ⟨fx, hex⟩ := hB.he
  refine e_aload_n (pc := 263) Xc (dT hL_law_1 8 rfl) 1 rfl ?_
  refine e_aload_n (pc := 264) Xc (dT hL_law_1 9 rfl) 0 rfl ?_
  refine e_iload_n (pc := 265) Xc (dT hL_law_1 10 rfl) 3 rfl ?_
  refine e_iconst (v := nI 1) (pc := 266) Xc (dT hL_law_1 11 rfl) rfl ?_
  refine e_iaddN (pc := 267) Xc (dT hL_law_1 12 rfl) ?_
  refine e_ialdN (pc := 268) Xc (dT hL_law_1 13 rfl) hs (by decide) rfl (i + 1) rfl (by omega) (by omega) ?_
  refine e_aload_n (pc := 269) Xc (dT hL_law_1 14 rfl) 0 rfl ?_
  refine e_iload_n (pc := 270) Xc (dT hL_law_1 15 rfl) 3 rfl ?_
  refine e_iconst (v := nI 2) (pc := 271) Xc (dT hL_law_1 16 rfl) rfl ?_
  refine e_iaddN (pc := 272) Xc (dT hL_law_1 17 rfl) ?_
  refine e_ialdN (pc := 273) Xc (dT hL_law_1 18 rfl) hs (by decide) rfl (i + 2) rfl (by omega) (by omega) ?_
  refine cl_L_27 (pc := 274) (k := k) (n := n) (S := []) Xc hex (b_reader hB hK hW hPa9 (xs (i + 1)) (xs (i + 2))) (dT hL_law_1 19 rfl) rfl (by decide) (by omega) (by omega) rfl (by decide) (fun z1 σ1 q1 => ?_)
  obtain ⟨hz1, hST, hh9, ho1⟩ := q1
  have h9n := fun j (hj : 909 ≤ j) => (hh9 j hj).trans (h9 j hj)
  have hM1 := hM.cg (ho1.m hms hxm)
  have hs1 := ho1.b hms hxm hbx hs
  obtain ⟨fm, hem⟩ := hM1.he
  refine e_aload_n (pc := 277) Xc (dT hL_law_1 20 rfl) 2 rfl ?_
  refine e_aload_n (pc := 278) Xc (dT hL_law_1 21 rfl) 0 rfl ?_
  refine e_iload_n (pc := 279) Xc (dT hL_law_1 22 rfl) 3 rfl ?_
  refine e_iconst (v := nI 1) (pc := 280) Xc (dT hL_law_1 23 rfl) rfl ?_
  refine e_iaddN (pc := 281) Xc (dT hL_law_1 24 rfl) ?_
  refine e_ialdN (pc := 282) Xc (dT hL_law_1 25 rfl) hs1 (by decide) rfl (i + 1) rfl (by omega) (by omega) ?_
  refine e_aload_n (pc := 283) Xc (dT hL_law_1 26 rfl) 0 rfl ?_
  refine e_iload_n (pc := 284) Xc (dT hL_law_1 27 rfl) 3 rfl ?_
  refine e_iconst (v := nI 2) (pc := 285) Xc (dT hL_law_1 28 rfl) rfl ?_
  refine e_iaddN (pc := 286) Xc (dT hL_law_1 29 rfl) ?_
  refine e_ialdN (pc := 287) Xc (dT hL_law_1 30 rfl) hs1 (by decide) rfl (i + 2) rfl (by omega) (by omega) ?_
  refine cl_L_31 (pc := 288) (S := [.int z1]) Xc hem (p_reader hM1 hK (xs (i + 1)) (xs (i + 2))) (dT hL_law_1 31 rfl) rfl (by decide) (by omega) (by omega) rfl (Nat.le_of_ble_eq_true rfl) (fun z2 σ2 q2 => ?_)
  obtain ⟨hz2, hM2, ho2⟩ := q2
  refine e_icmp_eq (tgt := 1305) (pc := 291) Xc (dT hL_law_1 32 rfl) rfl (fun _ => ?_) (fun c => absurd (hz1.trans hz2.symm) c)
  exact Ev.wide (by omega) (by omega) (K _ (LI.mk hST ho1 hms ho2 hM2 h9n hrr hs hbx hxm))
theorem law_of {G : xG} {μ : xM} {σ : xS} {x m b L i k n : Nat} {xs : Nat → Int32} (Xc : xC G μ code 4 RL (some .boolean) 30 600000 7302250) (hL : LI G σ x m b L xs) (hi4 : i + 4 ≤ L) (hl : L ≤ 2048) (hk : k + 5 ≤ 600000) (hn : n + 132 ≤ 7302250) (K : ∀ σ', LI G σ' x m b L xs → Ev G μ 4 (k + 5) (n + 132) 1305 [(0, .ref b), (1, .ref x), (2, .ref m), (3, .int (nI i))] [] σ') : Ev G μ 4 k n 296 [(0, .ref b), (1, .ref x), (2, .ref m), (3, .int (nI i))] [] σ := by
  obtain ⟨X, Y, bd, hi, rr, ⟨nr, nb, ns, np, nn, nt, na, dy, t, hB, hK, hW, hPa9⟩, hM, h9, hrr, hs, hbx⟩ := hL
  obtain ⟨hxm, hms⟩ := hB.ms
  obtain ⟨fx, hex⟩ := hB.he
  refine e_aload_n (pc := 296) Xc (dT hL_law_1 35 rfl) 1 rfl ?_
  refine e_aload_n (pc := 297) Xc (dT hL_law_1 36 rfl) 0 rfl ?_
  refine e_iload_n (pc := 298) Xc (dT hL_law_1 37 rfl) 3 rfl ?_
  refine e_iconst (v := nI 1) (pc := 299) Xc (dT hL_law_1 38 rfl) rfl ?_
  refine e_iaddN (pc := 300) Xc (dT hL_law_1 39 rfl) ?_
  refine e_ialdN (pc := 301) Xc (dT hL_law_1 40 rfl) hs (by decide) rfl (i + 1) rfl (by omega) (by omega) ?_
  refine e_aload_n (pc := 302) Xc (dT hL_law_1 41 rfl) 0 rfl ?_
  refine e_iload_n (pc := 303) Xc (dT hL_law_1 42 rfl) 3 rfl ?_
  refine e_iconst (v := nI 2) (pc := 304) Xc (dT hL_law_1 43 rfl) rfl ?_
  refine e_iaddN (pc := 305) Xc (dT hL_law_1 44 rfl) ?_
  refine e_ialdN (pc := 306) Xc (dT hL_law_1 45 rfl) hs (by decide) rfl (i + 2) rfl (by omega) (by omega) ?_
  refine cl_L_32 (pc := 307) (k := k) (n := n) (S := []) Xc hex (b_of hB hK (xs (i + 1)) (xs (i + 2))) (dT hL_law_1 46 rfl) rfl (by decide) (by omega) (by omega) rfl (by decide) (fun z1 σ1 q1 => ?_)
  obtain ⟨hz1, hB1, ho1⟩ := q1
  have hST : ST G σ1 x m X Y bd hi rr := ⟨nr, nb, ns, np, nn, nt, na, dy, t, hB1, hK, hW, hPa9⟩
  have h9n := h9
  have hM1 := hM.cg (ho1.m hms hxm)
  have hs1 := ho1.b hms hxm hbx hs
  obtain ⟨fm, hem⟩ := hM1.he
  refine e_aload_n (pc := 310) Xc (dT hL_law_1 47 rfl) 2 rfl ?_
  refine e_aload_n (pc := 311) Xc (dT hL_law_1 48 rfl) 0 rfl ?_
  refine e_iload_n (pc := 312) Xc (dT hL_law_1 49 rfl) 3 rfl ?_
  refine e_iconst (v := nI 1) (pc := 313) Xc (dT hL_law_1 50 rfl) rfl ?_
  refine e_iaddN (pc := 314) Xc (dT hL_law_1 51 rfl) ?_
  refine e_ialdN (pc := 315) Xc (dT hL_law_1 52 rfl) hs1 (by decide) rfl (i + 1) rfl (by omega) (by omega) ?_
  refine e_aload_n (pc := 316) Xc (dT hL_law_1 53 rfl) 0 rfl ?_
  refine e_iload_n (pc := 317) Xc (dT hL_law_1 54 rfl) 3 rfl ?_
  refine e_iconst (v := nI 2) (pc := 318) Xc (dT hL_law_2 0 rfl) rfl ?_
  refine e_iaddN (pc := 319) Xc (dT hL_law_2 1 rfl) ?_
  refine e_ialdN (pc := 320) Xc (dT hL_law_2 2 rfl) hs1 (by decide) rfl (i + 2) rfl (by omega) (by omega) ?_
  refine cl_L_35 (pc := 321) (S := [.int z1]) Xc hem (p_of hM1 hK (xs (i + 1)) (xs (i + 2))) (dT hL_law_2 3 rfl) rfl (by decide) (by omega) (by omega) rfl (Nat.le_of_ble_eq_true rfl) (fun z2 σ2 q2 => ?_)
  obtain ⟨hz2, hM2, ho2⟩ := q2
  refine e_icmp_eq (tgt := 1305) (pc := 324) Xc (dT hL_law_2 4 rfl) rfl (fun _ => ?_) (fun c => absurd (hz1.trans hz2.symm) c)
  exact Ev.wide (by omega) (by omega) (K _ (LI.mk hST ho1 hms ho2 hM2 h9n hrr hs hbx hxm))
theorem law_likes {G : xG} {μ : xM} {σ : xS} {x m b L i k n : Nat} {xs : Nat → Int32} (Xc : xC G μ code 4 RL (some .boolean) 30 600000 7302250) (hL : LI G σ x m b L xs) (hi4 : i + 4 ≤ L) (hl : L ≤ 2048) (hk : k + 5 ≤ 600000) (hn : n + 132 ≤ 7302250) (K : ∀ σ', LI G σ' x m b L xs → Ev G μ 4 (k + 5) (n + 132) 1305 [(0, .ref b), (1, .ref x), (2, .ref m), (3, .int (nI i))] [] σ') : Ev G μ 4 k n 329 [(0, .ref b), (1, .ref x), (2, .ref m), (3, .int (nI i))] [] σ := by
  obtain ⟨X, Y, bd, hi, rr, ⟨nr, nb, ns, np, nn, nt, na, dy, t, hB, hK, hW, hPa9⟩, hM, h9, hrr, hs, hbx⟩ := hL
  obtain ⟨hxm, hms⟩ := hB.ms
  obtain ⟨fx, hex⟩ := hB.he
  refine e_aload_n (pc := 329) Xc (dT hL_law_2 7 rfl) 1 rfl ?_
  refine e_aload_n (pc := 330) Xc (dT hL_law_2 8 rfl) 0 rfl ?_
  refine e_iload_n (pc := 331) Xc (dT hL_law_2 9 rfl) 3 rfl ?_
  refine e_iconst (v := nI 1) (pc := 332) Xc (dT hL_law_2 10 rfl) rfl ?_
  refine e_iaddN (pc := 333) Xc (dT hL_law_2 11 rfl) ?_
  refine e_ialdN (pc := 334) Xc (dT hL_law_2 12 rfl) hs (by decide) rfl (i + 1) rfl (by omega) (by omega) ?_
  refine e_aload_n (pc := 335) Xc (dT hL_law_2 13 rfl) 0 rfl ?_
  refine e_iload_n (pc := 336) Xc (dT hL_law_2 14 rfl) 3 rfl ?_
  refine e_iconst (v := nI 2) (pc := 337) Xc (dT hL_law_2 15 rfl) rfl ?_
  refine e_iaddN (pc := 338) Xc (dT hL_law_2 16 rfl) ?_
  refine e_ialdN (pc := 339) Xc (dT hL_law_2 17 rfl) hs (by decide) rfl (i + 2) rfl (by omega) (by omega) ?_
  refine cl_L_36 (pc := 340) (k := k) (n := n) (S := []) Xc hex (b_likes hB hK (xs (i + 1)) (xs (i + 2))) (dT hL_law_2 18 rfl) rfl (by decide) (by omega) (by omega) rfl (by decide) (fun z1 σ1 q1 => ?_)
  obtain ⟨hz1, hB1, ho1⟩ := q1
  have hST : ST G σ1 x m X Y bd hi rr := ⟨nr, nb, ns, np, nn, nt, na, dy, t, hB1, hK, hW, hPa9⟩
  have h9n := h9
  have hM1 := hM.cg (ho1.m hms hxm)
  have hs1 := ho1.b hms hxm hbx hs
  obtain ⟨fm, hem⟩ := hM1.he
  refine e_aload_n (pc := 343) Xc (dT hL_law_2 19 rfl) 2 rfl ?_
  refine e_aload_n (pc := 344) Xc (dT hL_law_2 20 rfl) 0 rfl ?_
  refine e_iload_n (pc := 345) Xc (dT hL_law_2 21 rfl) 3 rfl ?_
  refine e_iconst (v := nI 1) (pc := 346) Xc (dT hL_law_2 22 rfl) rfl ?_
  refine e_iaddN (pc := 347) Xc (dT hL_law_2 23 rfl) ?_
  refine e_ialdN (pc := 348) Xc (dT hL_law_2 24 rfl) hs1 (by decide) rfl (i + 1) rfl (by omega) (by omega) ?_
  refine e_aload_n (pc := 349) Xc (dT hL_law_2 25 rfl) 0 rfl ?_
  refine e_iload_n (pc := 350) Xc (dT hL_law_2 26 rfl) 3 rfl ?_
  refine e_iconst (v := nI 2) (pc := 351) Xc (dT hL_law_2 27 rfl) rfl ?_
  refine e_iaddN (pc := 352) Xc (dT hL_law_2 28 rfl) ?_
  refine e_ialdN (pc := 353) Xc (dT hL_law_2 29 rfl) hs1 (by decide) rfl (i + 2) rfl (by omega) (by omega) ?_
  refine cl_L_39 (pc := 354) (S := [.int z1]) Xc hem (p_likes hM1 hK (xs (i + 1)) (xs (i + 2))) (dT hL_law_2 30 rfl) rfl (by decide) (by omega) (by omega) rfl (Nat.le_of_ble_eq_true rfl) (fun z2 σ2 q2 => ?_)
  obtain ⟨hz2, hM2, ho2⟩ := q2
  refine e_icmp_eq (tgt := 1305) (pc := 357) Xc (dT hL_law_2 31 rfl) rfl (fun _ => ?_) (fun c => absurd (hz1.trans hz2.symm) c)
  exact Ev.wide (by omega) (by omega) (K _ (LI.mk hST ho1 hms ho2 hM2 h9n hrr hs hbx hxm))
theorem law_at {G : xG} {μ : xM} {σ : xS} {x m b L i k n : Nat} {xs : Nat → Int32} (Xc : xC G μ code 4 RL (some .boolean) 30 600000 7302250) (hL : LI G σ x m b L xs) (hi4 : i + 4 ≤ L) (hl : L ≤ 2048) (hk : k + 5 ≤ 600000) (hn : n + 132 ≤ 7302250) (K : ∀ σ', LI G σ' x m b L xs → Ev G μ 4 (k + 5) (n + 132) 1305 [(0, .ref b), (1, .ref x), (2, .ref m), (3, .int (nI i))] [] σ') : Ev G μ 4 k n 362 [(0, .ref b), (1, .ref x), (2, .ref m), (3, .int (nI i))] [] σ := by
  obtain ⟨X, Y, bd, hi, rr, ⟨nr, nb, ns, np, nn, nt, na, dy, t, hB, hK, hW, hPa9⟩, hM, h9, hrr, hs, hbx⟩ := hL
  obtain ⟨hxm, hms⟩ := hB.ms
  obtain ⟨fx, hex⟩ := hB.he
  refine e_aload_n (pc := 362) Xc (dT hL_law_2 34 rfl) 1 rfl ?_
  refine e_aload_n (pc := 363) Xc (dT hL_law_2 35 rfl) 0 rfl ?_
  refine e_iload_n (pc := 364) Xc (dT hL_law_2 36 rfl) 3 rfl ?_
  refine e_iconst (v := nI 1) (pc := 365) Xc (dT hL_law_2 37 rfl) rfl ?_
  refine e_iaddN (pc := 366) Xc (dT hL_law_2 38 rfl) ?_
  refine e_ialdN (pc := 367) Xc (dT hL_law_2 39 rfl) hs (by decide) rfl (i + 1) rfl (by omega) (by omega) ?_
  refine e_aload_n (pc := 368) Xc (dT hL_law_2 40 rfl) 0 rfl ?_
  refine e_iload_n (pc := 369) Xc (dT hL_law_2 41 rfl) 3 rfl ?_
  refine e_iconst (v := nI 2) (pc := 370) Xc (dT hL_law_2 42 rfl) rfl ?_
  refine e_iaddN (pc := 371) Xc (dT hL_law_2 43 rfl) ?_
  refine e_ialdN (pc := 372) Xc (dT hL_law_2 44 rfl) hs (by decide) rfl (i + 2) rfl (by omega) (by omega) ?_
  refine cl_L_40 (pc := 373) (k := k) (n := n) (S := []) Xc hex (b_at hB hK (xs (i + 1)) (xs (i + 2))) (dT hL_law_2 45 rfl) rfl (by decide) (by omega) (by omega) rfl (by decide) (fun z1 σ1 q1 => ?_)
  obtain ⟨hz1, hB1, ho1⟩ := q1
  have hST : ST G σ1 x m X Y bd hi rr := ⟨nr, nb, ns, np, nn, nt, na, dy, t, hB1, hK, hW, hPa9⟩
  have h9n := h9
  have hM1 := hM.cg (ho1.m hms hxm)
  have hs1 := ho1.b hms hxm hbx hs
  obtain ⟨fm, hem⟩ := hM1.he
  refine e_aload_n (pc := 376) Xc (dT hL_law_2 46 rfl) 2 rfl ?_
  refine e_aload_n (pc := 377) Xc (dT hL_law_2 47 rfl) 0 rfl ?_
  refine e_iload_n (pc := 378) Xc (dT hL_law_2 48 rfl) 3 rfl ?_
  refine e_iconst (v := nI 1) (pc := 379) Xc (dT hL_law_2 49 rfl) rfl ?_
  refine e_iaddN (pc := 380) Xc (dT hL_law_2 50 rfl) ?_
  refine e_ialdN (pc := 381) Xc (dT hL_law_2 51 rfl) hs1 (by decide) rfl (i + 1) rfl (by omega) (by omega) ?_
  refine e_aload_n (pc := 382) Xc (dT hL_law_2 52 rfl) 0 rfl ?_
  refine e_iload_n (pc := 383) Xc (dT hL_law_2 53 rfl) 3 rfl ?_
  refine e_iconst (v := nI 2) (pc := 384) Xc (dT hL_law_2 54 rfl) rfl ?_
  refine e_iaddN (pc := 385) Xc (dT hL_law_3 0 rfl) ?_
  refine e_ialdN (pc := 386) Xc (dT hL_law_3 1 rfl) hs1 (by decide) rfl (i + 2) rfl (by omega) (by omega) ?_
  refine cl_L_43 (pc := 387) (S := [.int z1]) Xc hem (p_at hM1 hK (xs (i + 1)) (xs (i + 2))) (dT hL_law_3 2 rfl) rfl (by decide) (by omega) (by omega) rfl (Nat.le_of_ble_eq_true rfl) (fun z2 σ2 q2 => ?_)
  obtain ⟨hz2, hM2, ho2⟩ := q2
  refine e_icmp_eq (tgt := 1305) (pc := 390) Xc (dT hL_law_3 3 rfl) rfl (fun _ => ?_) (fun c => absurd (hz1.trans hz2.symm) c)
  exact Ev.wide (by omega) (by omega) (K _ (LI.mk hST ho1 hms ho2 hM2 h9n hrr hs hbx hxm))
theorem law_row {G : xG} {μ : xM} {σ : xS} {x m b L i k n : Nat} {xs : Nat → Int32} (Xc : xC G μ code 4 RL (some .boolean) 30 600000 7302250) (hL : LI G σ x m b L xs) (hi4 : i + 4 ≤ L) (hl : L ≤ 2048) (hk : k + 5 ≤ 600000) (hn : n + 132 ≤ 7302250) (K : ∀ σ', LI G σ' x m b L xs → Ev G μ 4 (k + 5) (n + 132) 1305 [(0, .ref b), (1, .ref x), (2, .ref m), (3, .int (nI i))] [] σ') : Ev G μ 4 k n 395 [(0, .ref b), (1, .ref x), (2, .ref m), (3, .int (nI i))] [] σ := by
  obtain ⟨X, Y, bd, hi, rr, ⟨nr, nb, ns, np, nn, nt, na, dy, t, hB, hK, hW, hPa9⟩, hM, h9, hrr, hs, hbx⟩ := hL
  obtain ⟨hxm, hms⟩ := hB.ms
  obtain ⟨fx, hex⟩ := hB.he
  refine e_aload_n (pc := 395) Xc (dT hL_law_3 6 rfl) 1 rfl ?_
  refine e_aload_n (pc := 396) Xc (dT hL_law_3 7 rfl) 0 rfl ?_
  refine e_iload_n (pc := 397) Xc (dT hL_law_3 8 rfl) 3 rfl ?_
  refine e_iconst (v := nI 1) (pc := 398) Xc (dT hL_law_3 9 rfl) rfl ?_
  refine e_iaddN (pc := 399) Xc (dT hL_law_3 10 rfl) ?_
  refine e_ialdN (pc := 400) Xc (dT hL_law_3 11 rfl) hs (by decide) rfl (i + 1) rfl (by omega) (by omega) ?_
  refine e_aload_n (pc := 401) Xc (dT hL_law_3 12 rfl) 0 rfl ?_
  refine e_iload_n (pc := 402) Xc (dT hL_law_3 13 rfl) 3 rfl ?_
  refine e_iconst (v := nI 2) (pc := 403) Xc (dT hL_law_3 14 rfl) rfl ?_
  refine e_iaddN (pc := 404) Xc (dT hL_law_3 15 rfl) ?_
  refine e_ialdN (pc := 405) Xc (dT hL_law_3 16 rfl) hs (by decide) rfl (i + 2) rfl (by omega) (by omega) ?_
  refine e_aload_n (pc := 406) Xc (dT hL_law_3 17 rfl) 0 rfl ?_
  refine e_iload_n (pc := 407) Xc (dT hL_law_3 18 rfl) 3 rfl ?_
  refine e_iconst (v := nI 3) (pc := 408) Xc (dT hL_law_3 19 rfl) rfl ?_
  refine e_iaddN (pc := 409) Xc (dT hL_law_3 20 rfl) ?_
  refine e_ialdN (pc := 410) Xc (dT hL_law_3 21 rfl) hs (by decide) rfl (i + 3) rfl (by omega) (by omega) ?_
  refine cl_L_44 (pc := 411) (k := k) (n := n) (S := []) Xc hex (b_row hB hK hW hPa9 (xs (i + 1)) (xs (i + 2)) (xs (i + 3))) (dT hL_law_3 22 rfl) rfl (by decide) (by omega) (by omega) rfl (by decide) (fun z1 σ1 q1 => ?_)
  obtain ⟨hz1, hST, hh9, ho1⟩ := q1
  have h9n := fun j (hj : 909 ≤ j) => (hh9 j hj).trans (h9 j hj)
  have hM1 := hM.cg (ho1.m hms hxm)
  have hs1 := ho1.b hms hxm hbx hs
  obtain ⟨fm, hem⟩ := hM1.he
  refine e_aload_n (pc := 414) Xc (dT hL_law_3 23 rfl) 2 rfl ?_
  refine e_aload_n (pc := 415) Xc (dT hL_law_3 24 rfl) 0 rfl ?_
  refine e_iload_n (pc := 416) Xc (dT hL_law_3 25 rfl) 3 rfl ?_
  refine e_iconst (v := nI 1) (pc := 417) Xc (dT hL_law_3 26 rfl) rfl ?_
  refine e_iaddN (pc := 418) Xc (dT hL_law_3 27 rfl) ?_
  refine e_ialdN (pc := 419) Xc (dT hL_law_3 28 rfl) hs1 (by decide) rfl (i + 1) rfl (by omega) (by omega) ?_
  refine e_aload_n (pc := 420) Xc (dT hL_law_3 29 rfl) 0 rfl ?_
  refine e_iload_n (pc := 421) Xc (dT hL_law_3 30 rfl) 3 rfl ?_
  refine e_iconst (v := nI 2) (pc := 422) Xc (dT hL_law_3 31 rfl) rfl ?_
  refine e_iaddN (pc := 423) Xc (dT hL_law_3 32 rfl) ?_
  refine e_ialdN (pc := 424) Xc (dT hL_law_3 33 rfl) hs1 (by decide) rfl (i + 2) rfl (by omega) (by omega) ?_
  refine e_aload_n (pc := 425) Xc (dT hL_law_3 34 rfl) 0 rfl ?_
  refine e_iload_n (pc := 426) Xc (dT hL_law_3 35 rfl) 3 rfl ?_
  refine e_iconst (v := nI 3) (pc := 427) Xc (dT hL_law_3 36 rfl) rfl ?_
  refine e_iaddN (pc := 428) Xc (dT hL_law_3 37 rfl) ?_
  refine e_ialdN (pc := 429) Xc (dT hL_law_3 38 rfl) hs1 (by decide) rfl (i + 3) rfl (by omega) (by omega) ?_
  refine cl_L_48 (pc := 430) (S := [.int z1]) Xc hem (p_row hM1 hK (xs (i + 1)) (xs (i + 2)) (xs (i + 3))) (dT hL_law_3 39 rfl) rfl (by decide) (by omega) (by omega) rfl (Nat.le_of_ble_eq_true rfl) (fun z2 σ2 q2 => ?_)
  obtain ⟨hz2, hM2, ho2⟩ := q2
  refine e_icmp_eq (tgt := 1305) (pc := 433) Xc (dT hL_law_3 40 rfl) rfl (fun _ => ?_) (fun c => absurd (hz1.trans hz2.symm) c)
  exact Ev.wide (by omega) (by omega) (K _ (LI.mk hST ho1 hms ho2 hM2 h9n hrr hs hbx hxm))
theorem law_lend {G : xG} {μ : xM} {σ : xS} {x m b L i k n : Nat} {xs : Nat → Int32} (Xc : xC G μ code 4 RL (some .boolean) 30 600000 7302250) (hL : LI G σ x m b L xs) (hi4 : i + 4 ≤ L) (hl : L ≤ 2048) (hk : k + 5 ≤ 600000) (hn : n + 132 ≤ 7302250) (K : ∀ σ', LI G σ' x m b L xs → Ev G μ 4 (k + 5) (n + 132) 1305 [(0, .ref b), (1, .ref x), (2, .ref m), (3, .int (nI i))] [] σ') : Ev G μ 4 k n 438 [(0, .ref b), (1, .ref x), (2, .ref m), (3, .int (nI i))] [] σ := by
  obtain ⟨X, Y, bd, hi, rr, ⟨nr, nb, ns, np, nn, nt, na, dy, t, hB, hK, hW, hPa9⟩, hM, h9, hrr, hs, hbx⟩ := hL
  obtain ⟨hxm, hms⟩ := hB.ms
  obtain ⟨fx, hex⟩ := hB.he
  refine e_aload_n (pc := 438) Xc (dT hL_law_3 43 rfl) 1 rfl ?_
  refine e_aload_n (pc := 439) Xc (dT hL_law_3 44 rfl) 0 rfl ?_
  refine e_iload_n (pc := 440) Xc (dT hL_law_3 45 rfl) 3 rfl ?_
  refine e_iconst (v := nI 1) (pc := 441) Xc (dT hL_law_3 46 rfl) rfl ?_
  refine e_iaddN (pc := 442) Xc (dT hL_law_3 47 rfl) ?_
  refine e_ialdN (pc := 443) Xc (dT hL_law_3 48 rfl) hs (by decide) rfl (i + 1) rfl (by omega) (by omega) ?_
  refine e_aload_n (pc := 444) Xc (dT hL_law_3 49 rfl) 0 rfl ?_
  refine e_iload_n (pc := 445) Xc (dT hL_law_3 50 rfl) 3 rfl ?_
  refine e_iconst (v := nI 2) (pc := 446) Xc (dT hL_law_3 51 rfl) rfl ?_
  refine e_iaddN (pc := 447) Xc (dT hL_law_3 52 rfl) ?_
  refine e_ialdN (pc := 448) Xc (dT hL_law_3 53 rfl) hs (by decide) rfl (i + 2) rfl (by omega) (by omega) ?_
  refine cl_L_49 (pc := 449) (k := k) (n := n) (S := []) Xc hex (b_lend hB hK hW hPa9 (xs (i + 1)) (xs (i + 2))) (dT hL_law_3 54 rfl) rfl (by decide) (by omega) (by omega) rfl (by decide) (fun z1 σ1 q1 => ?_)
  obtain ⟨hz1, hST, hh9, ho1⟩ := q1
  have h9n := fun j (hj : 909 ≤ j) => (hh9 j hj).trans (h9 j hj)
  have hM1 := hM.cg (ho1.m hms hxm)
  have hs1 := ho1.b hms hxm hbx hs
  obtain ⟨fm, hem⟩ := hM1.he
  refine e_aload_n (pc := 452) Xc (dT hL_law_4 0 rfl) 2 rfl ?_
  refine e_aload_n (pc := 453) Xc (dT hL_law_4 1 rfl) 0 rfl ?_
  refine e_iload_n (pc := 454) Xc (dT hL_law_4 2 rfl) 3 rfl ?_
  refine e_iconst (v := nI 1) (pc := 455) Xc (dT hL_law_4 3 rfl) rfl ?_
  refine e_iaddN (pc := 456) Xc (dT hL_law_4 4 rfl) ?_
  refine e_ialdN (pc := 457) Xc (dT hL_law_4 5 rfl) hs1 (by decide) rfl (i + 1) rfl (by omega) (by omega) ?_
  refine e_aload_n (pc := 458) Xc (dT hL_law_4 6 rfl) 0 rfl ?_
  refine e_iload_n (pc := 459) Xc (dT hL_law_4 7 rfl) 3 rfl ?_
  refine e_iconst (v := nI 2) (pc := 460) Xc (dT hL_law_4 8 rfl) rfl ?_
  refine e_iaddN (pc := 461) Xc (dT hL_law_4 9 rfl) ?_
  refine e_ialdN (pc := 462) Xc (dT hL_law_4 10 rfl) hs1 (by decide) rfl (i + 2) rfl (by omega) (by omega) ?_
  refine cl_L_52 (pc := 463) (S := [.int z1]) Xc hem (p_lend hM1 hK (xs (i + 1)) (xs (i + 2))) (dT hL_law_4 11 rfl) rfl (by decide) (by omega) (by omega) rfl (Nat.le_of_ble_eq_true rfl) (fun z2 σ2 q2 => ?_)
  obtain ⟨hz2, hM2, ho2⟩ := q2
  refine e_icmp_eq (tgt := 1305) (pc := 466) Xc (dT hL_law_4 12 rfl) rfl (fun _ => ?_) (fun c => absurd (hz1.trans hz2.symm) c)
  exact Ev.wide (by omega) (by omega) (K _ (LI.mk hST ho1 hms ho2 hM2 h9n hrr hs hbx hxm))
theorem law_told {G : xG} {μ : xM} {σ : xS} {x m b L i k n : Nat} {xs : Nat → Int32} (Xc : xC G μ code 4 RL (some .boolean) 30 600000 7302250) (hL : LI G σ x m b L xs) (hi4 : i + 4 ≤ L) (hl : L ≤ 2048) (hk : k + 5 ≤ 600000) (hn : n + 132 ≤ 7302250) (K : ∀ σ', LI G σ' x m b L xs → Ev G μ 4 (k + 5) (n + 132) 1305 [(0, .ref b), (1, .ref x), (2, .ref m), (3, .int (nI i))] [] σ') : Ev G μ 4 k n 471 [(0, .ref b), (1, .ref x), (2, .ref m), (3, .int (nI i))] [] σ := by
  obtain ⟨X, Y, bd, hi, rr, ⟨nr, nb, ns, np, nn, nt, na, dy, t, hB, hK, hW, hPa9⟩, hM, h9, hrr, hs, hbx⟩ := hL
  obtain ⟨hxm, hms⟩ := hB.ms
  obtain ⟨fx, hex⟩ := hB.he
  refine e_aload_n (pc := 471) Xc (dT hL_law_4 15 rfl) 1 rfl ?_
  refine e_aload_n (pc := 472) Xc (dT hL_law_4 16 rfl) 0 rfl ?_
  refine e_iload_n (pc := 473) Xc (dT hL_law_4 17 rfl) 3 rfl ?_
  refine e_iconst (v := nI 1) (pc := 474) Xc (dT hL_law_4 18 rfl) rfl ?_
  refine e_iaddN (pc := 475) Xc (dT hL_law_4 19 rfl) ?_
  refine e_ialdN (pc := 476) Xc (dT hL_law_4 20 rfl) hs (by decide) rfl (i + 1) rfl (by omega) (by omega) ?_
  refine cl_L_53 (pc := 477) (k := k) (n := n) (S := []) Xc hex (b_told hB hK (xs (i + 1))) (dT hL_law_4 21 rfl) rfl (by decide) (by omega) (by omega) rfl (by decide) (fun z1 σ1 q1 => ?_)
  obtain ⟨hz1, hB1, ho1⟩ := q1
  have hST : ST G σ1 x m X Y bd hi rr := ⟨nr, nb, ns, np, nn, nt, na, dy, t, hB1, hK, hW, hPa9⟩
  have h9n := h9
  have hM1 := hM.cg (ho1.m hms hxm)
  have hs1 := ho1.b hms hxm hbx hs
  obtain ⟨fm, hem⟩ := hM1.he
  refine e_aload_n (pc := 480) Xc (dT hL_law_4 22 rfl) 2 rfl ?_
  refine e_aload_n (pc := 481) Xc (dT hL_law_4 23 rfl) 0 rfl ?_
  refine e_iload_n (pc := 482) Xc (dT hL_law_4 24 rfl) 3 rfl ?_
  refine e_iconst (v := nI 1) (pc := 483) Xc (dT hL_law_4 25 rfl) rfl ?_
  refine e_iaddN (pc := 484) Xc (dT hL_law_4 26 rfl) ?_
  refine e_ialdN (pc := 485) Xc (dT hL_law_4 27 rfl) hs1 (by decide) rfl (i + 1) rfl (by omega) (by omega) ?_
  refine cl_L_56 (pc := 486) (S := [.int z1]) Xc hem (p_told hM1 hK (xs (i + 1))) (dT hL_law_4 28 rfl) rfl (by decide) (by omega) (by omega) rfl (Nat.le_of_ble_eq_true rfl) (fun z2 σ2 q2 => ?_)
  obtain ⟨hz2, hM2, ho2⟩ := q2
  refine e_icmp_eq (tgt := 1305) (pc := 489) Xc (dT hL_law_4 29 rfl) rfl (fun _ => ?_) (fun c => absurd (hz1.trans hz2.symm) c)
  exact Ev.wide (by omega) (by omega) (K _ (LI.mk hST ho1 hms ho2 hM2 h9n hrr hs hbx hxm))
