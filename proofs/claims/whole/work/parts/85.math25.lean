/-! orders: what comes of each -/
theorem cm_0 {t : xT} {nr nb : Nat} : ∀ (l : List Nat) {X : Nat → Int32}, comesL X t nr nb l 0 = X 0
  | [], _ => rfl
  | r :: l, X => (cm_0 l (X := comeF X t nr nb r)).trans (upd_n (by omega))
theorem cm_hi {t : xT} {nr nb j : Nat} (hj : 5 ≤ j) : ∀ (l : List Nat) {X : Nat → Int32}, (∀ r ∈ l, r < 4) → comesL X t nr nb l j = X j
  | [], _, _ => rfl
  | r :: l, X, h => (cm_hi hj l (X := comeF X t nr nb r) (fun q hq => h q (List.mem_cons_of_mem _ hq))).trans (come_hi (h r (List.mem_cons_self ..)) hj)
def pfx (c nr k : Nat) : List Nat := (List.range k).map (odg c nr)
theorem pfx_e {c nr : Nat} : pfx c nr nr = odL c nr := rfl
theorem pfx_s {c nr k : Nat} : pfx c nr (k + 1) = pfx c nr k ++ [odg c nr k] := by rw [pfx, List.range_succ, List.map_append]; rfl
theorem pfx_lt {c nr k : Nat} : ∀ r ∈ pfx c nr k, r < 4 := by
  intro r hr
  obtain ⟨q, -, rfl⟩ := List.mem_map.mp hr
  exact Nat.mod_lt _ (by decide)
theorem cm_s {X : Nat → Int32} {t : xT} {nr nb c k : Nat} : comesL X t nr nb (pfx c nr (k + 1)) = comeF (comesL X t nr nb (pfx c nr k)) t nr nb (odg c nr k) := by
  rw [pfx_s, comesL, List.foldl_append]
  rfl
theorem od_all : ∀ nr, nr ≤ 4 → ∀ c, c < 256 → isOd c nr = true → ∀ k, k < nr → odg c nr k < nr := by decide +kernel
theorem p4 {nr : Nat} : 4 ^ nr = 2 ^ (2 * nr) := by rw [Nat.pow_mul]
/-- the orders below c -/
def odB (nr c : Nat) : List (List Nat) := ((List.range c).filter (fun c => isOd c nr)).map (fun c => odL c nr)
theorem odB_y {nr c : Nat} (h : isOd c nr = true) : odB nr (c + 1) = odB nr c ++ [odL c nr] := by
  rw [odB, List.range_succ, List.filter_append, List.map_append, List.filter_cons, if_pos h]
  rfl
theorem odB_n {nr c : Nat} (h : isOd c nr = false) : odB nr (c + 1) = odB nr c := by
  rw [odB, List.range_succ, List.filter_append, List.map_append, List.filter_cons, if_neg (by rw [h]; decide)]
  exact List.append_nil _
theorem odB_e {nr : Nat} (h : nr ≤ 4) : odB nr (2 ^ (2 * nr)) = lvO nr nr 0 := by rw [← p4]; exact ods nr h
def foB (X : Nat → Int32) (t : xT) (nr nb c : Nat) : ordS := foO X t nr nb [] (-1000000, []) (odB nr c)
theorem foB_e {X : Nat → Int32} {t : xT} {nr nb : Nat} (h : nr ≤ 4) : foB X t nr nb (2 ^ (2 * nr)) = bestO X t nr nb := by rw [foB, odB_e h]; rfl
theorem foB_n {X : Nat → Int32} {t : xT} {nr nb c : Nat} (h : isOd c nr = false) : foB X t nr nb (c + 1) = foB X t nr nb c := by rw [foB, odB_n h]; rfl
theorem foB_y {X : Nat → Int32} {t : xT} {nr nb c : Nat} (h : isOd c nr = true) : foB X t nr nb (c + 1) = if (foB X t nr nb c).1 < totF (comesL X t nr nb (odL c nr)) t nr then (totF (comesL X t nr nb (odL c nr)) t nr, odL c nr) else foB X t nr nb c := by
  rw [foB, odB_y h, foO, List.foldl_append]
  rfl
/-- the class's best so far -/
def relB (X : Nat → Int32) (t : xT) (nr nb c : Nat) (be to : Int32) : Prop :=
  (be = -5 ∧ odB nr c = []) ∨ ∃ b, b < c ∧ isOd b nr = true ∧ be = nI b ∧ to = (foB X t nr nb c).1 ∧ to = totF (comesL X t nr nb (odL b nr)) t nr ∧ (foB X t nr nb c).2 = odL b nr
theorem cm_ok {t : xT} {nr nb : Nat} : ∀ (l : List Nat) {X : Nat → Int32}, (∀ r ∈ l, r < nr) → Gd X nr nb → Hd X t → Gd (comesL X t nr nb l) nr nb ∧ Hd (comesL X t nr nb l) t
  | [], _, _, hG, hT => ⟨hG, hT⟩
  | r :: l, X, h, hG, hT => cm_ok l (X := comeF X t nr nb r) (fun q hq => h q (List.mem_cons_of_mem _ hq)) (hG.come (h r (List.mem_cons_self ..))) (hT.come hG.r4 (h r (List.mem_cons_self ..)))
theorem odL_lt {c nr : Nat} (h4 : nr ≤ 4) (hc : c < 256) (h : isOd c nr = true) : ∀ r ∈ odL c nr, r < nr := by
  intro r hr
  obtain ⟨q, hq, rfl⟩ := List.mem_map.mp hr
  exact od_all nr h4 c hc h q (List.mem_range.mp hq)
theorem cm_low {X : Nat → Int32} {t : xT} {nr nb c : Nat} (hG : Gd X nr nb) (hT : Hd X t) (hW : okW X) (hc : c < 256) (h : isOd c nr = true) : -1000000 < totF (comesL X t nr nb (odL c nr)) t nr := by
  have hl := odL_lt hG.r4 hc h
  have h4 := hG.r4
  obtain ⟨h1, h2⟩ := cm_ok (odL c nr) hl hG hT
  refine totLow h1 h2 (fun k hk => ?_)
  rw [cm_hi (by omega) _ (fun r hr => by have := hl r hr; omega)]
  exact hW k hk
theorem relB_0 {X : Nat → Int32} {t : xT} {nr nb : Nat} {to : Int32} : relB X t nr nb 0 (-5) to := Or.inl ⟨rfl, rfl⟩
theorem relB_n {X : Nat → Int32} {t : xT} {nr nb c : Nat} {be to : Int32} (h : relB X t nr nb c be to) (ho : isOd c nr = false) : relB X t nr nb (c + 1) be to := by
  rcases h with ⟨h1, h2⟩ | ⟨b, h1, h2, h3, h4, h5, h6⟩
  · exact Or.inl ⟨h1, by rw [odB_n ho]; exact h2⟩
  · exact Or.inr ⟨b, by omega, h2, h3, by rw [foB_n ho]; exact h4, h5, by rw [foB_n ho]; exact h6⟩
/-- a better one -/
theorem relB_y {X : Nat → Int32} {t : xT} {nr nb c : Nat} {be to : Int32} (hG : Gd X nr nb) (hT : Hd X t) (hW : okW X) (hc : c < 256) (h : relB X t nr nb c be to) (ho : isOd c nr = true) (hb : be = -5 ∨ to < totF (comesL X t nr nb (odL c nr)) t nr) : relB X t nr nb (c + 1) (nI c) (totF (comesL X t nr nb (odL c nr)) t nr) := by
  have hlt : (foB X t nr nb c).1 < totF (comesL X t nr nb (odL c nr)) t nr := by
    rcases h with ⟨h1, h2⟩ | ⟨b, h1, h2, h3, h4, h5, h6⟩
    · rw [foB, h2]; exact cm_low hG hT hW hc ho
    · rw [← h4]
      rcases hb with q | q
      · rw [h3] at q; exact absurd q (nI_nm5 (by omega))
      · exact q
  exact Or.inr ⟨c, Nat.lt_succ_self c, ho, rfl, by rw [foB_y ho, if_pos hlt], rfl, by rw [foB_y ho, if_pos hlt]⟩
theorem relB_k {X : Nat → Int32} {t : xT} {nr nb c : Nat} {be to : Int32} (h : relB X t nr nb c be to) (ho : isOd c nr = true) (h5 : ¬ be = -5) (hb : totF (comesL X t nr nb (odL c nr)) t nr ≤ to) : relB X t nr nb (c + 1) be to := by
  rcases h with ⟨h1, h2⟩ | ⟨b, h1, h2, h3, h4, h5, h6⟩
  · exact absurd h1 h5
  · have hlt : ¬ (foB X t nr nb c).1 < totF (comesL X t nr nb (odL c nr)) t nr := by rw [← h4]; exact Int32.not_lt.mpr hb
    exact Or.inr ⟨b, by omega, h2, h3, by rw [foB_y ho, if_neg hlt]; exact h4, h5, by rw [foB_y ho, if_neg hlt]; exact h6⟩
theorem relB_e {X : Nat → Int32} {t : xT} {nr nb : Nat} {be to : Int32} (h4 : nr ≤ 4) (h : relB X t nr nb (2 ^ (2 * nr)) be to) : ∃ b, b < 256 ∧ isOd b nr = true ∧ be = nI b ∧ (bestO X t nr nb).2 = odL b nr ∧ (bestO X t nr nb).1 = totF (comesL X t nr nb (odL b nr)) t nr := by
  have hp : 2 ^ (2 * nr) ≤ 2 ^ 8 := Nat.pow_le_pow_right (by decide) (by omega)
  rcases h with ⟨h1, h2⟩ | ⟨b, h1, h2, h3, h5, h6, h7⟩
  · rw [odB_e h4] at h2
    exact absurd h2 (lvO_ok nr h4).1
  · rw [foB_e h4] at h5 h7
    exact ⟨b, by omega, h2, h3, h7, h5.symm.trans h6⟩
/-- back to how all is now, but for one's v -/
theorem RWc.set_v {F : Nat → Int32} {A : Nat → Nat → Int32} {X : Nat → Int32} {nr nb : Nat} {t : xT} {ln r : Nat} {v : Int32} (h : RWc F A X nr nb t ln) (hr : r < 4) (hr4 : nr ≤ 4) (hb7 : nb ≤ 7) : RWc F (upA A 3 (upd (A 3) r v)) (upd X (24 + r) v) nr nb t 1024 := by
  obtain ⟨h1, h2, h3, h4, h5, h6, h7, h8, h9, h10, h11, h12⟩ := h
  refine ⟨fun b hb => ?_, fun q hq => ?_, fun q hq => ?_, fun q hq => ?_, fun q hq => ?_, h6, h7, ?_, ?_, Nat.le_refl _, Or.inr rfl, fun dg hdg hl => ?_⟩
  · rw [upA_n (by omega), upd_n (by omega)]; exact h1 b hb
  · rw [upA_n (by omega), upd_n (by omega)]; exact h2 q hq
  · rw [upA_s]
    by_cases e : q = r
    · subst e; rw [upd_s, upd_s]
    · rw [upd_n e, upd_n (by omega)]; exact h3 q hq
  · rw [upA_n (by omega), upd_n (by omega)]; exact h4 q hq
  · rw [upA_n (by omega), upd_n (by omega)]; exact h5 q hq
  · rw [upd_n (by omega)]; exact h8
  · rw [upd_n (by omega)]; exact h9
  · have h : ∀ d, d < 10 → (1024 : Nat).testBit d = false := by decide
    rw [h dg hdg] at hl
    exact absurd hl (by decide)
theorem RWc.backV {F F' G0 : Nat → Int32} {A A' B : Nat → Nat → Int32} {X Y X0 : Nat → Int32} {nr nb : Nat} {t : xT} {ln l2 : Nat} (h : RWc F A X nr nb t ln) (k : RWc G0 B X0 nr nb t l2) (hXY : ∀ j, 5 ≤ j → X j = Y j) (hY : ∀ j, j < 5 → Y j = X0 j) (e4 : ∀ j, j < 4 → A' 4 j = B 4 j) (eo : ∀ i, i ≠ 4 → A' i = A i) (f10 : F' 10 = G0 10) (fo : ∀ i, i ≠ 10 → F' i = F i) (hr4 : nr ≤ 4) : RWc F' A' Y nr nb t ln := by
  obtain ⟨h1, h2, h3, h4, h5, h6, h7, h8, h9, h10, h11, h12⟩ := h
  obtain ⟨k1, k2, k3, k4, k5, k6, k7, k8, k9, k10, k11, k12⟩ := k
  refine ⟨fun b hb => ?_, fun q hq => ?_, fun q hq => ?_, fun q hq => ?_, fun q hq => ?_, ?_, ?_, ?_, ?_, h10, ?_, fun dg hdg hl q hq b hb => ?_⟩
  · rw [eo 1 (by decide), h1 b hb, hXY _ (by omega)]
  · rw [eo 2 (by decide), h2 q hq, hXY _ (by omega)]
  · rw [eo 3 (by decide), h3 q hq, hXY _ (by omega)]
  · rw [e4 q (by omega), hY _ (by omega)]; exact k4 q hq
  · rw [eo 5 (by decide), h5 q hq, hXY _ (by omega)]
  · rw [fo 8 (by decide)]; exact h6
  · rw [fo 9 (by decide)]; exact h7
  · rw [f10, hY 0 (by decide)]; exact k8
  · rw [fo 11 (by decide), h9, hXY _ (by omega)]
  · rw [fo 7 (by decide)]; exact h11
  · rw [eo 6 (by decide), h12 dg hdg hl q hq b hb]
    congr 1
    funext i
    match i with
    | 0 => rfl
    | 1 => exact hXY _ (by omega)
    | 2 => exact hXY _ (by omega)
    | 3 => rfl
    | 4 => show X (5 + b) / 10 = Y (5 + b) / 10; rw [hXY _ (by omega)]
    | i + 5 => rfl
