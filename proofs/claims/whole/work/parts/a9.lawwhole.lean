theorem st_arr {args : Array Value} {s : State} {ty : FieldType} (hp : ∀ C, ty ≠ .object C) (h : (Cond.arrayClass ty).before args s = true) : ∃ c, ArrOfT s c ty ∧ va_RA s c ty := by
  obtain ⟨c, k, comp, h1, h2, h3⟩ := Cond.arrayClass_spec h
  refine ⟨c, fun n z => ⟨(fun k h => by cases h), k, h2, comp, h3⟩, ?_⟩
  cases ty with
  | object C => exact absurd rfl (hp C)
  | _ => exact h1
theorem st_T0 {b : Nat} {s : State} (ht : ∀ w ∈ lw_tbl, w.before #[Value.ref b] s = true) : ∀ w ∈ T0, w.before #[Value.ref b] s = true := fun w h => ht w (List.mem_filter.mp h).1
theorem st_cls {b : Nat} {s : State} (ht : ∀ w ∈ lw_tbl, w.before #[Value.ref b] s = true) : ∃ D : va_G, ∀ (c : Nat) (q : vw_C), vwCl[c]? = some q → u_Kn s q.1 q.2.1 q.2.2 (D.1 c) (D.2 c) := by
  have h0 := st_T0 ht
  obtain ⟨c0, j0, g0⟩ := u_known (s := s) (args := #[Value.ref b]) h0 kX0.2.1 (h0 _ w_new_X0)
  obtain ⟨c1, j1, g1⟩ := u_known (s := s) (args := #[Value.ref b]) h0 kX1.2.1 (h0 _ w_new_X1)
  obtain ⟨c2, j2, g2⟩ := u_known (s := s) (args := #[Value.ref b]) h0 kX2.2.1 (h0 _ w_new_X2)
  obtain ⟨c3, j3, g3⟩ := u_known (s := s) (args := #[Value.ref b]) h0 kX3.2.1 (h0 _ w_new_X3)
  obtain ⟨c4, j4, g4⟩ := u_known (s := s) (args := #[Value.ref b]) h0 kX4.2.1 (h0 _ w_new_X4)
  obtain ⟨c5, j5, g5⟩ := u_known (s := s) (args := #[Value.ref b]) h0 kX5.2.1 (h0 _ w_new_X5)
  obtain ⟨c6, j6, g6⟩ := u_known (s := s) (args := #[Value.ref b]) h0 kX6.2.1 (h0 _ w_new_X6)
  obtain ⟨c7, j7, g7⟩ := u_known (s := s) (args := #[Value.ref b]) h0 kX7.2.1 (h0 _ w_new_X7)
  refine ⟨(fun k => if k = 0 then c0 else if k = 1 then c1 else if k = 2 then c2 else if k = 3 then c3 else if k = 4 then c4 else if k = 5 then c5 else if k = 6 then c6 else c7, fun k => if k = 0 then j0 else if k = 1 then j1 else if k = 2 then j2 else if k = 3 then j3 else if k = 4 then j4 else if k = 5 then j5 else if k = 6 then j6 else j7), ?_⟩
  intro k q hq
  match k, hq with
  | 0, hq => cases hq; exact g0
  | 1, hq => cases hq; exact g1
  | 2, hq => cases hq; exact g2
  | 3, hq => cases hq; exact g3
  | 4, hq => cases hq; exact g4
  | 5, hq => cases hq; exact g5
  | 6, hq => cases hq; exact g6
  | 7, hq => cases hq; exact g7
  | k + 8, hq => cases hq
theorem st_all {b : Nat} {s : State} (hs : ∀ w ∈ flatC (Jvm.Cond.and given_1 narrow_1), w.before #[Value.ref b] s = true) (ht : ∀ w ∈ lw_tbl, w.before #[Value.ref b] s = true) {A : Nat → Prop} (hA : ∀ a : Nat, a < s.heap.size → ¬ A a) : ∃ gK gV : Nat → Nat, ∀ i, i < 10 → StR A s i (gK i, gV i) := by
  have h : ∀ i : Nat, ∃ q : Nat × Nat, i < 10 → StR A s i q := by
    intro i
    by_cases hi : i < 10
    · have h2 : ∃ q, StR A s i q := by
        match i, hi with
        | 0, _ => exact st_0 hs ht hA
        | 1, _ => exact st_1 hs ht hA
        | 2, _ => exact st_2 hs ht hA
        | 3, _ => exact st_3 hs ht hA
        | 4, _ => exact st_4 hs ht hA
        | 5, _ => exact st_5 hs ht hA
        | 6, _ => exact st_6 hs ht hA
        | 7, _ => exact st_7 hs ht hA
        | 8, _ => exact st_8 hs ht hA
        | 9, _ => exact st_9 hs ht hA
        | i + 10, h => exact absurd h (by omega)
      obtain ⟨q, hq⟩ := h2
      exact ⟨q, fun _ => hq⟩
    · exact ⟨(0, 0), fun h => absurd h hi⟩
  obtain ⟨f, hf⟩ := Classical.axiomOfChoice h
  exact ⟨fun i => (f i).1, fun i => (f i).2, hf⟩
theorem st_abo {b : Nat} {s : State} (hs : ∀ w ∈ flatC (Jvm.Cond.and given_1 narrow_1), w.before #[Value.ref b] s = true) (ht : ∀ w ∈ lw_tbl, w.before #[Value.ref b] s = true) {A : Nat → Prop} (hA : ∀ a : Nat, a < s.heap.size → ¬ A a) : ∃ t : Nat, va_Z "ThickerBook" "ABOVE" "[I" (.ref t) A s s.heap ∧ va_T .int t 7 (fun j => .int (aboF j)) A s s.heap ∧ b ≠ t := by
  have e : ∀ j : Nat, j < 7 → (Cond.eq (.elem (.static "ThickerBook" "ABOVE" "[I") (.int (Int32.ofNat j))) (.int (aboF j))) ∈ flatC (Jvm.Cond.and given_1 narrow_1) := by decide +kernel
  have l : (Cond.eq (.length (.static "ThickerBook" "ABOVE" "[I")) (.int (Int32.ofNat 7))) ∈ flatC (Jvm.Cond.and given_1 narrow_1) := by decide +kernel
  obtain ⟨t, h1, h2⟩ := va_Tof (args := #[Value.ref b]) (s := s) (tm := (.static "ThickerBook" "ABOVE" "[I")) (ty := .int) (N := 7) (f := fun j => .int (aboF j)) (A := A) (by decide) (hs _ (by decide +kernel)) (va_eqt (hs _ l)) (fun j hj => va_eqt (hs _ (e j hj))) hA
  have hn : (Cond.not (Cond.eq (.arg 0) (.static "ThickerBook" "ABOVE" "[I"))).before #[Value.ref b] s = true := hs _ (by decide +kernel)
  exact ⟨t, va_Zref (args := #[Value.ref b]) (ht _ (by decide +kernel)) (ht _ (by decide +kernel)) h1 hA, h2, va_neR hn rfl h1⟩
theorem st_bod {b : Nat} {s : State} (hs : ∀ w ∈ flatC (Jvm.Cond.and given_1 narrow_1), w.before #[Value.ref b] s = true) (ht : ∀ w ∈ lw_tbl, w.before #[Value.ref b] s = true) {A : Nat → Prop} (hA : ∀ a : Nat, a < s.heap.size → ¬ A a) : ∃ t : Nat, va_Z "ThickerBook$Acts" "BODIES" "[I" (.ref t) A s s.heap ∧ va_T .int t 21 (fun j => .int (bodF j)) A s s.heap ∧ b ≠ t := by
  have e : ∀ j : Nat, j < 21 → (Cond.eq (.elem (.static "ThickerBook$Acts" "BODIES" "[I") (.int (Int32.ofNat j))) (.int (bodF j))) ∈ flatC (Jvm.Cond.and given_1 narrow_1) := by decide +kernel
  have l : (Cond.eq (.length (.static "ThickerBook$Acts" "BODIES" "[I")) (.int (Int32.ofNat 21))) ∈ flatC (Jvm.Cond.and given_1 narrow_1) := by decide +kernel
  obtain ⟨t, h1, h2⟩ := va_Tof (args := #[Value.ref b]) (s := s) (tm := (.static "ThickerBook$Acts" "BODIES" "[I")) (ty := .int) (N := 21) (f := fun j => .int (bodF j)) (A := A) (by decide) (hs _ (by decide +kernel)) (va_eqt (hs _ l)) (fun j hj => va_eqt (hs _ (e j hj))) hA
  have hn : (Cond.not (Cond.eq (.arg 0) (.static "ThickerBook$Acts" "BODIES" "[I"))).before #[Value.ref b] s = true := hs _ (by decide +kernel)
  exact ⟨t, va_Zref (args := #[Value.ref b]) (ht _ (by decide +kernel)) (ht _ (by decide +kernel)) h1 hA, h2, va_neR hn rfl h1⟩
theorem va_T.ne {s : State} {A : Nat → Prop} {t u : Nat} {f g : Nat → Value} {ty ty' : FieldType} (h : va_T ty t 7 f A s s.heap) (h2 : va_T ty' u 21 g A s s.heap) : t ≠ u := by
  rintro rfl
  obtain ⟨c, e1, -, -, -, e2, -⟩ := h
  obtain ⟨c', e1', -, -, -, e2', -⟩ := h2
  cases e1.symm.trans e1'
  exact absurd (e2.symm.trans e2') (by decide)
theorem va_X.T {s : State} {b L : Nat} {xs : Nat → Int32} {A : Nat → Prop} (h : va_X b L xs s s.heap) (hA : ∀ a : Nat, a < s.heap.size → ¬ A a) : va_T .int b L (fun j => .int (xs j)) A s s.heap := by
  obtain ⟨scr, h1, h2, h3, h4, h5⟩ := h
  exact ⟨scr, h1, h2, h3, Nat.le_of_eq h4.symm, by rw [h4], h5, hA b (Array.getElem?_eq_some_iff.mp h1).1⟩
/-- the store at the start -/
def st0 (B tA tO b L : Nat) (xs : Nat → Int32) : xS := (B, fun q => if q = (tA, 0) then some (.inl (2, 7, aboF)) else if q = (tO, 0) then some (.inl (2, 21, bodF)) else if q = (b, 0) then some (.inl (2, L, xs)) else none)
theorem st0_0 {B tA tO b L : Nat} {xs : Nat → Int32} {o i : Nat} (h : (st0 B tA tO b L xs).2 (o, i) ≠ none) : i = 0 := by
  apply Classical.byContradiction
  intro hi
  apply h
  show (if (o, i) = (tA, 0) then _ else if (o, i) = (tO, 0) then _ else if (o, i) = (b, 0) then _ else none) = none
  rw [if_neg (fun q => hi (congrArg Prod.snd q)), if_neg (fun q => hi (congrArg Prod.snd q)), if_neg (fun q => hi (congrArg Prod.snd q))]
theorem st0_H {G : xG} {s : State} {tA tO b L : Nat} {xs : Nat → Int32} (hB : gB G = s.heap.size) (hAb : va_T .int tA 7 (fun j => .int (aboF j)) (gF G) s s.heap) (hO : va_T .int tO 21 (fun j => .int (bodF j)) (gF G) s s.heap) (hX : va_T .int b L (fun j => .int (xs j)) (gF G) s s.heap) : xH G (st0 s.heap.size tA tO b L xs) s s.heap := by
  refine ⟨rfl, Nat.le_of_eq hB, fun o i e he => ?_, fun o i o' i' h1 h2 h3 => ?_⟩
  · have hi : i = 0 := st0_0 (by rw [he]; exact fun q => by cases q)
    subst hi
    have he : (if (o, 0) = (tA, 0) then some (.inl (2, 7, aboF)) else if (o, 0) = (tO, 0) then some (.inl (2, 21, bodF)) else if (o, 0) = (b, 0) then some (.inl (2, L, xs)) else none) = some e := he
    by_cases q1 : (o, 0) = (tA, 0)
    · rw [if_pos q1] at he
      cases he
      cases q1
      exact hAb
    · rw [if_neg q1] at he
      by_cases q2 : (o, 0) = (tO, 0)
      · rw [if_pos q2] at he
        cases he
        cases q2
        exact hO
      · rw [if_neg q2] at he
        by_cases q3 : (o, 0) = (b, 0)
        · rw [if_pos q3] at he
          cases he
          cases q3
          exact hX
        · rw [if_neg q3] at he
          cases he
  · have e1 := st0_0 h1
    have e2 := st0_0 h2
    omega
theorem whole_start {p : Program} {e : Env} {s : State} {m : MethodId} {below : List Frame} {meth : Method} {c : Code} (l : Launch) (_hflags : l.flags = flags0) {b L : Nat} {xs : Nat → Int32} (hL : L ≤ 2048) (C0 : lw_At p s m meth c b L xs) : W p l e room_1 s m #[Value.ref b] below meth c s.heap [] 0 0 (lw_Z below #[Value.ref b] s) (entryFrame m ([Value.ref b] : List Value).toArray 4) := by
  obtain ⟨hx, hb, hr, hml, hown, hts, hX, hbl, hlocks, hgv⟩ := id C0
  have hs := flat_of_before _ hgv
  have h0 := st_T0 hts
  have hA : ∀ a : Nat, a < s.heap.size → ¬ (fun q : Nat => s.heap.size ≤ q) a := fun a h => Nat.not_le.mpr h
  obtain ⟨D, hD⟩ := st_cls hts
  obtain ⟨cI, hI⟩ := st_arr (ty := .int) (fun C h => by cases h) (h0 _ w_arr_int)
  obtain ⟨cZ, hZ⟩ := st_arr (ty := .boolean) (fun C h => by cases h) (h0 _ w_arr_boolean)
  obtain ⟨tA, hA1, hA2, hA3⟩ := st_abo hs hts hA
  obtain ⟨tO, hO1, hO2, hO3⟩ := st_bod hs hts hA
  obtain ⟨gK, gV, hR⟩ := st_all hs hts hA
  have hAO : tA ≠ tO := va_T.ne hA2 hO2
  have hXT := va_X.T hX hA
  have hlA : tA < s.heap.size := by
    obtain ⟨cell, h1, -⟩ := hA2
    exact (Array.getElem?_eq_some_iff.mp h1).1
  have hlO : tO < s.heap.size := by
    obtain ⟨cell, h1, -⟩ := hO2
    exact (Array.getElem?_eq_some_iff.mp h1).1
  have hCS : va_Z "java/lang/String" "COMPACT_STRINGS" "Z" (.int 1) (fun q : Nat => s.heap.size ≤ q) s s.heap := va_Zof (args := #[Value.ref b]) (hts _ (by decide +kernel)) (hts _ (by decide +kernel)) (va_eqt (hs _ (by decide +kernel))) hA
  have hPC : va_Zq "jdk/internal/util/Preconditions" "SIOOBE_FORMATTER" "Ljava/util/function/BiFunction;" (fun q : Nat => s.heap.size ≤ q) s s.heap := va_Zqof (args := #[Value.ref b]) (hts _ (by decide +kernel)) (hts _ (by decide +kernel)) (hs _ (by decide +kernel)) hA
  have hl := lv_entry ([.ref b]) (n := 4) (Nat.le_of_ble_eq_true rfl)
  rw [lg_entry_eq]
  generalize (lg_sl ([.ref b]) ++ List.replicate (4 - (lg_sl ([.ref b])).length) Slot.unset).toArray = ls at hl ⊢
  have hl : lv_has ls 4 [(0, .ref b)] := hl
  let G : xG := (l, D, (cI, cZ), s.heap.size, (tA, tO), gK, gV)
  have hU : xU G s := by
    refine ⟨⟨hD, fun k q h => ?_⟩, fun w hw hn => va_Nw.of (isNw_tab hn) (hts w hw), fun i hi => (hR i hi).1⟩
    match k, h with
    | 0, h => cases h; exact hI
    | 1, h => cases h; exact hZ
    | k + 2, h => cases h
  have hZZ : xZ G s s.heap := ⟨hA1, hO1, hCS, hPC, fun i hi => (hR i hi).2⟩
  have Xc : xC G (p, e, room_1, s, m, #[Value.ref b], below, meth, c, lw_Z below #[Value.ref b] s) code 4 RL (some .boolean) 30 600000 7302250 :=
    ⟨hx, hb, hml, hown, h0, hlocks, hU, hZZ, hr, Nat.le_of_ble_eq_true rfl, Nat.le_of_ble_eq_true rfl, Nat.le_refl _, Nat.le_refl _, Nat.le_refl _⟩
  have e1 : (st0 s.heap.size tA tO b L xs).2 (tA, 0) = some (.inl (2, 7, aboF)) := if_pos rfl
  have e2 : (st0 s.heap.size tA tO b L xs).2 (tO, 0) = some (.inl (2, 21, bodF)) := (if_neg (fun q => hAO (congrArg Prod.fst q).symm)).trans (if_pos rfl)
  have e3 : (st0 s.heap.size tA tO b L xs).2 (b, 0) = some (.inl (2, L, xs)) := (if_neg (fun q => hA3 (congrArg Prod.fst q))).trans ((if_neg (fun q => hO3 (congrArg Prod.fst q))).trans (if_pos rfl))
  exact law_entry Xc rfl rfl rfl rfl hL (σ := st0 s.heap.size tA tO b L xs) ⟨e1, e2⟩ hlA hlO hbl e3 s.heap [] ls (st0_H rfl hA2 hO2 hXT) va_S.rf hl
