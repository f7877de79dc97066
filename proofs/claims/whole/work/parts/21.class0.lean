/-! THE CLASS: rows by index -/
theorem xset_2 {σ : xS} {k : Nat × Nat} {e e' : xE} : xset (xset σ k e) k e' = xset σ k e' := by
  refine Prod.ext rfl (funext fun q => ?_)
  by_cases h : q = k
  · simp [xset, h]
  · simp [xset, h]
theorem xset_id {σ : xS} {k : Nat × Nat} {e : xE} (h : σ.2 k = some e) : xset σ k e = σ := by
  refine Prod.ext rfl (funext fun q => ?_)
  by_cases hq : q = k
  · subst hq; rw [xset_s, h]
  · rw [xset_n hq]
set_option maxRecDepth 100000 in
set_option maxHeartbeats 4000000 in
theorem c_get {G : xG} {σ : xS} {o i k len : Nat} {f : Nat → Int32} (he : σ.2 (o, i) = some (.inl (k, len, f))) (hk : k ≠ 1) (hlen : len ≤ 4096) (q : Nat) (hq : q < len) : CI G yX6_get cX6_get 2 (some .int) 0 0 0 [.ref (o + i), .int (nI q)] σ (fun z σ1 => z = f q ∧ σ1 = σ) := by
  refine Met.ofX (by decide +kernel) (Nat.le_of_ble_eq_true rfl) (fun μ X hQ hnm => ?_)
  have X : xC G μ cX6_get 2 RX6 (some .int) 0 0 0 := X
  show Ev G μ 2 0 0 0 [(0, .ref (o + i)), (1, .int (nI q))] [] σ
  refine e_aload_n (pc := 0) X (dT hX6_get 0 rfl) 0 rfl ?_
  refine e_ifnull (pc := 1) X (dT hX6_get 1 rfl) ?_
  refine e_iload_n (pc := 4) X (dT hX6_get 2 rfl) 1 rfl ?_
  refine e_if_lt (tgt := 20) (pc := 5) X (dT hX6_get 3 rfl) rfl (fun c5 => absurd c5 (nI_pos (by omega))) (fun _ => ?_)
  refine e_iload_n (pc := 8) X (dT hX6_get 4 rfl) 1 rfl ?_
  refine e_aload_n (pc := 9) X (dT hX6_get 5 rfl) 0 rfl ?_
  refine e_alen (v := nI len) (pc := 10) X (dT hX6_get 6 rfl) he rfl rfl ?_
  refine e_icmp_geN (x := q) (y := len) (tgt := 20) (pc := 11) X (dT hX6_get 7 rfl) rfl (by omega) (by omega) (fun c11 => absurd hq (by omega)) (fun _ => ?_)
  refine e_aload_n (pc := 14) X (dT hX6_get 8 rfl) 0 rfl ?_
  refine e_iload_n (pc := 15) X (dT hX6_get 9 rfl) 1 rfl ?_
  refine e_ialdN (pc := 16) X (dT hX6_get 10 rfl) he hk rfl q rfl hq hlen ?_
  refine e_goto (tgt := 21) (pc := 17) X (dT hX6_get 11 rfl) rfl ?_
  exact e_iret (pc := 21) X hQ (dT hX6_get 13 rfl) (Nat.le_refl _) (Nat.le_refl _) ⟨rfl, rfl⟩
set_option maxRecDepth 100000 in
set_option maxHeartbeats 4000000 in
theorem c_put {G : xG} {σ : xS} {o i len : Nat} {f : Nat → Int32} (he : σ.2 (o, i) = some (.inl (0, len, f))) (hlen : len ≤ 4096) (q : Nat) (hq : q < len) (x : Int32) : CV G yX6_put cX6_put 3 none 0 0 0 [.ref (o + i), .int (nI q), .int x] σ (fun σ1 => σ1 = xset σ (o, i) (.inl (0, len, upd f q x))) := by
  refine Met.ofX (by decide +kernel) (Nat.le_of_ble_eq_true rfl) (fun μ X hQ hnm => ?_)
  have X : xC G μ cX6_put 3 RX6 none 0 0 0 := X
  show Ev G μ 3 0 0 0 [(0, .ref (o + i)), (1, .int (nI q)), (2, .int x)] [] σ
  refine e_aload_n (pc := 0) X (dT hX6_put 0 rfl) 0 rfl ?_
  refine e_ifnull (pc := 1) X (dT hX6_put 1 rfl) ?_
  refine e_iload_n (pc := 4) X (dT hX6_put 2 rfl) 1 rfl ?_
  refine e_if_lt (tgt := 18) (pc := 5) X (dT hX6_put 3 rfl) rfl (fun c5 => absurd c5 (nI_pos (by omega))) (fun _ => ?_)
  refine e_iload_n (pc := 8) X (dT hX6_put 4 rfl) 1 rfl ?_
  refine e_aload_n (pc := 9) X (dT hX6_put 5 rfl) 0 rfl ?_
  refine e_alen (v := nI len) (pc := 10) X (dT hX6_put 6 rfl) he rfl rfl ?_
  refine e_icmp_geN (x := q) (y := len) (tgt := 18) (pc := 11) X (dT hX6_put 7 rfl) rfl (by omega) (by omega) (fun c11 => absurd hq (by omega)) (fun _ => ?_)
  refine e_aload_n (pc := 14) X (dT hX6_put 8 rfl) 0 rfl ?_
  refine e_iload_n (pc := 15) X (dT hX6_put 9 rfl) 1 rfl ?_
  refine e_iload_n (pc := 16) X (dT hX6_put 10 rfl) 2 rfl ?_
  refine e_iastN (pc := 17) X (dT hX6_put 11 rfl) he rfl q rfl hq hlen ?_
  exact e_vret (pc := 18) X hQ (dT hX6_put 12 rfl) (Nat.le_refl _) (Nat.le_refl _) rfl
set_option maxRecDepth 100000 in
set_option maxHeartbeats 4000000 in
theorem c_copyRow {G : xG} {σ : xS} {o i o' i' len : Nat} {f f' : Nat → Int32} (he : σ.2 (o, i) = some (.inl (0, len, f))) (he' : σ.2 (o', i') = some (.inl (0, len, f'))) (hne : (o, i) ≠ (o', i')) (hlen : len ≤ 4096) : CV G yX6_copyRow cX6_copyRow 3 none 1 0 0 [.ref (o + i), .ref (o' + i')] σ (fun σ1 => ∃ g : Nat → Int32, (∀ j, j < len → g j = f j) ∧ σ1 = xset σ (o', i') (.inl (0, len, g))) := by
  refine Met.ofX (by decide +kernel) (Nat.le_of_ble_eq_true rfl) (fun μ X hQ hnm => ?_)
  have X : xC G μ cX6_copyRow 3 RX6 none 1 0 0 := X
  have lp2 : ∀ (n k : Nat) (g : Nat → Int32) (σ2 : xS), len - k < n → k ≤ len → (∀ j, j < k → g j = f j) → σ2 = xset σ (o', i') (.inl (0, len, g)) → Ev G μ 3 0 0 2 [(0, .ref (o + i)), (1, .ref (o' + i')), (2, .int (nI k))] [] σ2 := by
    intro n
    induction n with
    | zero => intro k g σ2 hn; exact absurd hn (Nat.not_lt_zero _)
    | succ n ih =>
      intro k g σ2 hn hk hg hs
      have hf : σ2.2 (o, i) = some (.inl (0, len, f)) := by rw [hs, xset_n hne]; exact he
      have ht : σ2.2 (o', i') = some (.inl (0, len, g)) := by rw [hs, xset_s]
      refine e_aload_n (pc := 2) X (dT hX6_copyRow 2 rfl) 1 rfl ?_
      refine e_ifnull (pc := 3) X (dT hX6_copyRow 3 rfl) ?_
      refine e_iload_n (pc := 6) X (dT hX6_copyRow 4 rfl) 2 rfl ?_
      refine e_aload_n (pc := 7) X (dT hX6_copyRow 5 rfl) 1 rfl ?_
      refine e_alen (v := nI len) (pc := 8) X (dT hX6_copyRow 6 rfl) ht rfl rfl ?_
      refine e_icmp_geN (x := k) (y := len) (tgt := 26) (pc := 9) X (dT hX6_copyRow 7 rfl) rfl (by omega) (by omega) (fun c9 => ?_) (fun c9 => ?_)
      · exact e_vret (pc := 26) X hQ (dT hX6_copyRow 16 rfl) (Nat.le_refl _) (Nat.le_refl _) ⟨g, fun j hj => hg j (by omega), hs⟩
      · refine e_aload_n (pc := 12) X (dT hX6_copyRow 8 rfl) 1 rfl ?_
        refine e_iload_n (pc := 13) X (dT hX6_copyRow 9 rfl) 2 rfl ?_
        refine e_aload_n (pc := 14) X (dT hX6_copyRow 10 rfl) 0 rfl ?_
        refine e_iload_n (pc := 15) X (dT hX6_copyRow 11 rfl) 2 rfl ?_
        refine cl_X6_106 (pc := 16) (k := 0) (n := 0) (S := [.int (nI k), .ref (o' + i')]) X (c_get hf (by decide) hlen k c9) (dT hX6_copyRow 12 rfl) rfl (Nat.le_of_ble_eq_true rfl) (Nat.le_of_ble_eq_true rfl) (Nat.le_of_ble_eq_true rfl) rfl (Nat.le_of_ble_eq_true rfl) (fun r σ3 hq => ?_)
        obtain ⟨re, rs⟩ := hq
        subst re
        have rs := rs.symm
        subst rs
        refine e_iastN (pc := 19) X (dT hX6_copyRow 13 rfl) ht rfl k rfl c9 hlen ?_
        refine e_iincN (a := k) (b := 1) (L' := [(2, .int (nI (k + 1))), (0, .ref (o + i)), (1, .ref (o' + i'))]) (pc := 20) X (dT hX6_copyRow 14 rfl) 2 rfl rfl (by decide) rfl ?_
        refine e_goto (tgt := 2) (pc := 23) X (dT hX6_copyRow 15 rfl) rfl ?_
        refine Ev.pick (L' := [(0, .ref (o + i)), (1, .ref (o' + i')), (2, .int (nI (k + 1)))]) [1, 2, 0] rfl ?_
        refine ih (k + 1) (upd g k (f k)) _ (by omega) (by omega) (fun j hj => ?_) ?_
        · by_cases e : j = k
          · subst e; rw [pk_us]
          · rw [pk_un e]; exact hg j (by omega)
        · rw [hs, xset_2]
  show Ev G μ 3 0 0 0 [(0, .ref (o + i)), (1, .ref (o' + i'))] [] σ
  refine e_iconst (v := 0) (pc := 0) X (dT hX6_copyRow 0 rfl) rfl ?_
  refine e_istore_n (L' := [(2, .int 0), (0, .ref (o + i)), (1, .ref (o' + i'))]) (pc := 1) X (dT hX6_copyRow 1 rfl) (by decide) rfl ?_
  refine Ev.pick (L' := [(0, .ref (o + i)), (1, .ref (o' + i')), (2, .int 0)]) [1, 2, 0] rfl ?_
  exact lp2 (len - 0 + 1) 0 f' σ (Nat.lt_succ_self _) (Nat.zero_le _) (fun j hj => absurd hj (Nat.not_lt_zero j)) (xset_id he').symm
