/-! GLUES and TEARS, reckoned at once -/
theorem fst_cg {p p' : Nat → Bool} : ∀ n, (∀ i, i < n → p i = p' i) → fst p n = fst p' n
  | 0, _ => rfl
  | n + 1, h => by
    rw [fst, fst, fst_cg n (fun i hi => h i (by omega)), h n (by omega)]
theorem onF_cg {X Y : Nat → Int32} {nr : Nat} {b : Int32} (h : ∀ r, r < nr → Y (1 + r) = X (1 + r)) : onF Y nr b = onF X nr b := by
  rw [onF, onF, fst_cg nr (fun i hi => by show (Y (1 + i) == b) = (X (1 + i) == b); rw [h i hi])]
theorem ad_neg (a b : Int32) : a + -b = a - b := by
  first
    | exact (Int32.sub_eq_add_neg a b).symm
    | (apply Int32.toBitVec_inj.mp; show a.toBitVec + -b.toBitVec = a.toBitVec - b.toBitVec; exact (BitVec.sub_eq_add_neg ..).symm)
theorem wi_up {a q : Nat} (h1 : 1 ≤ a) (ha : a ≤ 99) (hp : q ≤ 99) : wiF (nI a + nI q) 1 99 = nI (min 99 (a + q)) := by
  have e1 : (1 : Int32).toInt = 1 := by decide
  have e99 : (99 : Int32).toInt = 99 := by decide
  have h : (nI (a + q)).toInt = ((a + q : Nat) : Int) := nI_toInt (by omega)
  rw [nI_add, wiF, if_neg (by rw [Int32.lt_iff_toInt_lt, h, e1]; omega)]
  by_cases k : a + q ≤ 99
  · rw [if_neg (by show ¬ (99 : Int32) < _; rw [Int32.lt_iff_toInt_lt, h, e99]; omega), Nat.min_eq_right k]
  · rw [if_pos (by show (99 : Int32) < _; rw [Int32.lt_iff_toInt_lt, h, e99]; omega), Nat.min_eq_left (by omega)]; rfl
theorem wi_dn {a q : Nat} (h1 : 1 ≤ a) (ha : a ≤ 99) (hp : q ≤ 99) : wiF (nI a + -nI q) 1 99 = nI (max 1 (a - q)) := by
  have e1 : (1 : Int32).toInt = 1 := by decide
  have e99 : (99 : Int32).toInt = 99 := by decide
  have h : (nI a - nI q).toInt = (a : Int) - q := pk_sub_toInt (by omega) (by omega)
  rw [ad_neg, wiF]
  by_cases k : a ≤ q
  · rw [if_pos (by rw [Int32.lt_iff_toInt_lt, h, e1]; omega), show max 1 (a - q) = 1 by omega]; rfl
  · rw [if_neg (by rw [Int32.lt_iff_toInt_lt, h, e1]; omega), if_neg (by show ¬ (99 : Int32) < _; rw [Int32.lt_iff_toInt_lt, h, e99]; omega), pk_sub (by omega), show max 1 (a - q) = a - q by omega]
theorem mn99 {a : Nat} (ha : a < 100000) : minF 99 (nI a) = nI (min 99 a) := by
  have e99 : (99 : Int32).toInt = 99 := by decide
  have h : (nI a).toInt = (a : Int) := nI_toInt (by omega)
  rw [minF]
  by_cases k : a < 99
  · rw [if_pos (by rw [Int32.lt_iff_toInt_lt, h, e99]; omega), Nat.min_eq_right (by omega)]
  · rw [if_neg (by rw [Int32.lt_iff_toInt_lt, h, e99]; omega), Nat.min_eq_left (by omega)]; rfl
theorem mx1 {a b : Nat} (ha : a < 100000) (hb : b < 100000) : maxF 1 (nI a - nI b) = nI (max 1 (a - b)) := by
  have e1 : (1 : Int32).toInt = 1 := by decide
  have h : (nI a - nI b).toInt = (a : Int) - b := pk_sub_toInt (by omega) (by omega)
  rw [maxF]
  by_cases k : b + 1 < a
  · rw [if_pos (by rw [Int32.lt_iff_toInt_lt, h, e1]; omega), pk_sub (by omega), show max 1 (a - b) = a - b by omega]
  · rw [if_neg (by rw [Int32.lt_iff_toInt_lt, h, e1]; omega), show max 1 (a - b) = 1 by omega]; rfl
theorem pasteF_hi {X Y : Nat → Int32} (h : ∀ j, 12 ≤ j → Y j = X j) : pasteF Y = pasteF X := by
  have e1 : tellF Y 199 5 = tellF X 199 5 := by
    rw [tellF, tellF, h 19 (by decide)]
    by_cases q : X 19 = -1
    · rw [if_pos q, if_pos q]
    · rw [if_neg q, if_neg q, h _ (by omega)]
  rw [pasteF, pasteF, e1]
section GL
variable {X : Nat → Int32} {nr nb q h t0 pa : Nat}
theorem pas_up (hh : h < 7) (hq : q < 4) (he : X (1 + q) = nI h) (ht : X (5 + h) = nI t0) (h1 : 1 ≤ t0) (h2 : t0 ≤ 99) (hp : pasteF X = nI pa) (hp9 : pa ≤ 99) : ∀ n, pasN X q 1 n = upd X (5 + h) (nI (min 99 (t0 + n * pa))) := by
  intro n
  induction n with
  | zero =>
    show X = _
    rw [Nat.zero_mul, Nat.add_zero, Nat.min_eq_right h2, ← ht, upd_self]
  | succ n ih =>
    show pastF (pasN X q 1 n) q 1 = _
    rw [ih, pastF, upd_n (show 1 + q ≠ 5 + h by omega), he, if_neg (nI_nm1 (by omega)), nI_clamp (by omega), upd_s, upd_2, pasteF_hi (X := X) (fun j hj => upd_n (by omega)), if_neg (by decide), hp, wi_up (by omega) (by omega) hp9]
    congr 2
    rw [Nat.succ_mul]
    omega
theorem pas_dn (hh : h < 7) (hq : q < 4) (he : X (1 + q) = nI h) (ht : X (5 + h) = nI t0) (h1 : 1 ≤ t0) (h2 : t0 ≤ 99) (hp : pasteF X = nI pa) (hp9 : pa ≤ 99) : ∀ n, pasN X q 0 n = upd X (5 + h) (nI (max 1 (t0 - n * pa))) := by
  intro n
  induction n with
  | zero =>
    show X = _
    rw [Nat.zero_mul, Nat.sub_zero, Nat.max_eq_right h1, ← ht, upd_self]
  | succ n ih =>
    show pastF (pasN X q 0 n) q 0 = _
    rw [ih, pastF, upd_n (show 1 + q ≠ 5 + h by omega), he, if_neg (nI_nm1 (by omega)), nI_clamp (by omega), upd_s, upd_2, pasteF_hi (X := X) (fun j hj => upd_n (by omega)), if_pos rfl, hp, wi_dn (by omega) (by omega) hp9]
    congr 2
    rw [Nat.succ_mul]
    omega
theorem gl_may {t : xT} {b n : Nat} (hG : Gd X nr nb) (hT : Hd X t) (hq : q < nr) (hb : b < nb) (hh : h < nb) (ho : onF X nr (nI b) = true) (he : X (1 + q) = nI h) (ht : X (5 + h) = nI t0) (h1 : 1 ≤ t0) (h2 : t0 ≤ 99) (hp : pasteF X = nI pa) (hp9 : pa ≤ 99) (hn : n ≤ 21) : mayF (pasN X q 1 n) nr q b = thF t.1 (minF 99 (nI (t0 + n * pa))) (X (5 + b)) := by
  have hr4 := hG.r4
  have hb7 := hG.b7
  have hnp : n * pa ≤ 21 * 99 := Nat.mul_le_mul hn hp9
  have hne : h ≠ b := by
    intro e
    rw [e] at he
    exact on_ne ho hq he
  rw [pas_up (by omega) (by omega) he ht h1 h2 hp hp9, mn99 (by omega)]
  have e1 := may_th (X := upd X (5 + h) (nI (min 99 (t0 + n * pa)))) (nr := nr) (r := q) (b := b) (h := h) (by omega) ((upd_n (by omega)).trans he) ((onF_cg (fun r hr => upd_n (by omega))).trans ho) ((gapF_hi (X := X) (fun j hj => upd_n (by omega))).trans hT.gap)
  rw [e1, upd_s, upd_n (by omega)]
theorem gl_no {n b : Nat} (hr4 : nr ≤ 4) (hq : q < nr) (h : X (1 + q) = -1 ∨ onF X nr (nI b) = false) : mayF (pasN X q 1 n) nr q b = false := by
  rcases h with h | h
  · exact may_no ((pasN_lo n _ (by omega)).trans h)
  · exact may_off ((onF_cg (fun r hr => pasN_lo n _ (by omega))).trans h)
theorem te_may {t : xT} {g n : Nat} (hG : Gd X nr nb) (hT : Hd X t) (hq : q < nr) (hg : g < nb) (hh : h < nb) (hne : g ≠ h) (he : X (1 + q) = nI h) (ht : X (5 + h) = nI t0) (h1 : 1 ≤ t0) (h2 : t0 ≤ 99) (hp : pasteF X = nI pa) (hp9 : pa ≤ 99) (hn : n ≤ 21) : tearP X q h g n = thF t.1 (X (5 + g)) (maxF 1 (nI t0 - nI (n * pa))) := by
  have hr4 := hG.r4
  have hb7 := hG.b7
  have hnp : n * pa ≤ 21 * 99 := Nat.mul_le_mul hn hp9
  rw [tearP, pas_dn (by omega) (by omega) he ht h1 h2 hp hp9, mx1 (by omega) (by omega), upd_n (show 5 + g ≠ 5 + h by omega), upd_s, thF_eq, hT.gap]
end GL
theorem swap_0 {X : Nat → Int32} {nr r b : Nat} : swapF X nr r b 0 = X 0 := by
  rw [swapF, upd_n (by omega)]
  by_cases h : holdF X nr (nI b) = -1
  · rw [if_pos h]
  · rw [if_neg h, upd_n (by omega)]
theorem does_0 {Y : Nat → Int32} {t : xT} {nr nb q : Nat} (hq : q < 4) : doesF Y t nr nb 0 (nI q) = comeF Y t nr nb q := by rw [doesF, if_pos rfl, cl_nI (by omega)]
theorem does_1 {Y : Nat → Int32} {t : xT} {nr nb q : Nat} (hq : q < 4) : doesF Y t nr nb 1 (nI q) = pastF Y q 1 := by rw [doesF, if_neg (by decide), if_neg (by decide), if_pos rfl, cl_nI (by omega)]
theorem does_2 {Y : Nat → Int32} {t : xT} {nr nb q : Nat} (hq : q < 4) : doesF Y t nr nb 2 (nI q) = pastF Y q 0 := by rw [doesF, if_neg (by decide), if_neg (by decide), if_neg (by decide), cl_nI (by omega)]
theorem does_3 {Y : Nat → Int32} {t : xT} {nr nb : Nat} {v : Int32} : doesF Y t nr nb 3 v = (goF Y t nr nb).2 := by rw [doesF, if_neg (by decide), if_pos rfl]
