/-! WAYS: who HAS what as one number, what one GO leads to, what all GOES lead to -/
def bitN (p : Nat → Bool) : Nat → Nat
  | 0 => 0
  | n + 1 => bitN p n + (if p n then 2 ^ n else 0)
theorem bitN_lt {p : Nat → Bool} (n : Nat) : bitN p n < 2 ^ n := by
  induction n with
  | zero => exact (show 0 < 1 by decide)
  | succ n ih =>
    rw [bitN, Nat.pow_succ]
    split <;> omega
theorem or_bit {n a : Nat} (hn : n < 7) (ha : a < 2 ^ n) : nI a ||| (1 <<< (nI n &&& 31)) = nI (a + 2 ^ n) := by
  have h : ∀ n, n < 7 → ∀ a, a < 2 ^ n → nI a ||| (1 <<< (nI n &&& 31)) = nI (a + 2 ^ n) := by decide +kernel
  exact h n hn a ha
theorem itr_bit {p : Nat → Bool} {n : Nat} (hn : n ≤ 7) : itr (fun b a => a ||| (if p b then 1 <<< (nI b &&& 31) else 0)) 0 n = nI (bitN p n) := by
  induction n with
  | zero => rfl
  | succ n ih =>
    rw [itr, ih (by omega), bitN]
    split
    · exact or_bit (by omega) (bitN_lt n)
    · rw [Nat.add_zero]; exact Int32.or_zero
theorem bitN_bit {p : Nat → Bool} {n b : Nat} (hb : b < n) : bitN p n / 2 ^ b % 2 = if p b then 1 else 0 := by
  induction n with
  | zero => exact absurd hb (Nat.not_lt_zero _)
  | succ n ih =>
    rw [bitN]
    by_cases e : b = n
    · subst e
      have h := bitN_lt (p := p) b
      split
      · rw [Nat.add_div_right _ (Nat.two_pow_pos b), Nat.div_eq_of_lt h]
      · rw [Nat.add_zero, Nat.div_eq_of_lt h]
    · have hbn : b < n := by omega
      rw [← ih hbn]
      split
      · obtain ⟨k, rfl⟩ : ∃ k, n = b + (k + 1) := ⟨n - b - 1, by omega⟩
        rw [Nat.pow_add, Nat.add_mul_div_left _ _ (Nat.two_pow_pos b), Nat.pow_succ, Nat.add_mod, Nat.mul_mod_left, Nat.add_zero, Nat.mod_mod]
      · rw [Nat.add_zero]
def dgW (w r : Nat) : Nat := w / 8 ^ (3 - r) % 8
def hsW (w r : Nat) : Int32 := if dgW w r = 7 then -1 else nI (dgW w r)
def setW (X : Nat → Int32) (nr w : Nat) : Nat → Int32 := fun j => if 1 ≤ j ∧ j ≤ nr then hsW w (j - 1) else X j
def dgX (X : Nat → Int32) (nr r : Nat) : Nat := if r < nr ∧ X (1 + r) ≠ -1 then (X (1 + r)).toNatClampNeg else 7
def wayX (X : Nat → Int32) (nr : Nat) : Nat := itr (fun r a => 8 * a + dgX X nr r) 0 4
def okV (nr nb w : Nat) : Prop := w < 4096 ∧ ∀ r, r < 4 → dgW w r = 7 ∨ (r < nr ∧ dgW w r < nb)
theorem dgX_le {X : Nat → Int32} {nr nb r : Nat} (hG : Gd X nr nb) : dgX X nr r = 7 ∧ (r < nr → X (1 + r) = -1) ∨ (r < nr ∧ dgX X nr r < nb ∧ X (1 + r) = nI (dgX X nr r)) := by
  have hb7 := hG.b7
  by_cases h : r < nr ∧ X (1 + r) ≠ -1
  · obtain ⟨b, hb, e⟩ := hG.has h.1 h.2
    refine Or.inr ⟨h.1, ?_, ?_⟩
    · rw [dgX, if_pos h, e, nI_clamp (by omega)]; exact hb
    · rw [dgX, if_pos h, e, nI_clamp (by omega)]
  · refine Or.inl ⟨by rw [dgX, if_neg h], fun hr => ?_⟩
    by_cases e : X (1 + r) = -1
    · exact e
    · exact absurd ⟨hr, e⟩ h
theorem dgX_7 {X : Nat → Int32} {nr nb r : Nat} (hG : Gd X nr nb) : dgX X nr r ≤ 7 := by
  have hb7 := hG.b7
  rcases dgX_le (r := r) hG with h | h <;> omega
theorem wayX_eq {X : Nat → Int32} {nr : Nat} : wayX X nr = 512 * dgX X nr 0 + 64 * dgX X nr 1 + 8 * dgX X nr 2 + dgX X nr 3 := by
  show 8 * (8 * (8 * (8 * 0 + dgX X nr 0) + dgX X nr 1) + dgX X nr 2) + dgX X nr 3 = _
  omega
theorem way_dg {X : Nat → Int32} {nr nb r : Nat} (hG : Gd X nr nb) (hr : r < 4) : dgW (wayX X nr) r = dgX X nr r := by
  have h0 := dgX_7 (r := 0) hG
  have h1 := dgX_7 (r := 1) hG
  have h2 := dgX_7 (r := 2) hG
  have h3 := dgX_7 (r := 3) hG
  rw [dgW, wayX_eq]
  rcases (show r = 0 ∨ r = 1 ∨ r = 2 ∨ r = 3 by omega) with rfl | rfl | rfl | rfl
  · show _ / 512 % 8 = _; omega
  · show _ / 64 % 8 = _; omega
  · show _ / 8 % 8 = _; omega
  · show _ / 1 % 8 = _; omega
theorem way_lt {X : Nat → Int32} {nr nb : Nat} (hG : Gd X nr nb) : wayX X nr < 4096 := by
  have h0 := dgX_7 (r := 0) hG
  have h1 := dgX_7 (r := 1) hG
  have h2 := dgX_7 (r := 2) hG
  have h3 := dgX_7 (r := 3) hG
  rw [wayX_eq]
  omega
theorem dgW_ext {v w : Nat} (hv : v < 4096) (hw : w < 4096) (h : ∀ r, r < 4 → dgW v r = dgW w r) : v = w := by
  have h0 : v / 512 % 8 = w / 512 % 8 := h 0 (by decide)
  have h1 : v / 64 % 8 = w / 64 % 8 := h 1 (by decide)
  have h2 : v / 8 % 8 = w / 8 % 8 := h 2 (by decide)
  have h3 : v / 1 % 8 = w / 1 % 8 := h 3 (by decide)
  omega
theorem okV_way {X : Nat → Int32} {nr nb : Nat} (hG : Gd X nr nb) : okV nr nb (wayX X nr) := by
  refine ⟨way_lt hG, fun r hr => ?_⟩
  rw [way_dg hG hr]
  rcases dgX_le (r := r) hG with h | h
  · exact Or.inl h.1
  · exact Or.inr ⟨h.1, h.2.1⟩
theorem setW_has {X : Nat → Int32} {nr w r : Nat} (hr : r < nr) : setW X nr w (1 + r) = hsW w r := by
  rw [setW, if_pos (by omega), show 1 + r - 1 = r by omega]
theorem setW_n {X : Nat → Int32} {nr w j : Nat} (h : ¬ (1 ≤ j ∧ j ≤ nr)) : setW X nr w j = X j := if_neg h
theorem setW_hi {X : Nat → Int32} {nr w j : Nat} (hr : nr ≤ 4) (h : 5 ≤ j) : setW X nr w j = X j := setW_n (by omega)
theorem setW_cg {X Y : Nat → Int32} {nr w : Nat} (h : ∀ j, ¬ (1 ≤ j ∧ j ≤ nr) → Y j = X j) : setW Y nr w = setW X nr w := by
  funext j
  by_cases e : 1 ≤ j ∧ j ≤ nr
  · rw [setW, setW, if_pos e, if_pos e]
  · rw [setW_n e, setW_n e]; exact h j e
theorem set_way {X : Nat → Int32} {nr nb : Nat} (hG : Gd X nr nb) : setW X nr (wayX X nr) = X := by
  have hr4 := hG.r4
  have hb7 := hG.b7
  funext j
  by_cases e : 1 ≤ j ∧ j ≤ nr
  · obtain ⟨r, rfl⟩ : ∃ r, j = 1 + r := ⟨j - 1, by omega⟩
    rw [setW_has (by omega), hsW, way_dg hG (by omega)]
    rcases dgX_le (r := r) hG with h | h
    · rw [if_pos h.1]; exact (h.2 (by omega)).symm
    · rw [if_neg (by omega)]; exact h.2.2.symm
  · exact setW_n e
theorem Gd_setW {X : Nat → Int32} {nr nb w : Nat} (hG : Gd X nr nb) (hw : okV nr nb w) : Gd (setW X nr w) nr nb := by
  have hr4 := hG.r4
  obtain ⟨⟨h1, h2, h3, h4⟩, -, h6, h7, h8, h9⟩ := hG
  refine ⟨⟨h1, h2, ?_, ?_⟩, ?_, ?_, ?_, ?_, ?_⟩
  · rw [setW_hi hr4 (by omega)]; exact h3
  · rw [setW_hi hr4 (by omega)]; exact h4
  · intro r hr
    rw [setW_has hr, hsW]
    rcases hw.2 r (by omega) with e | e
    · exact Or.inl (if_pos e)
    · exact Or.inr ⟨_, e.2, if_neg (by omega)⟩
  · intro b hb; rw [setW_hi hr4 (by omega)]; exact h6 b hb
  · rw [setW_hi hr4 (by omega)]; exact h7
  · intro r hr; rw [setW_hi hr4 (by omega)]; exact h8 r hr
  · intro r hr; rw [setW_hi hr4 (by omega)]; exact h9 r hr
theorem Hd_setW {X : Nat → Int32} {nr w : Nat} {t : xT} (hT : Hd X t) (hr4 : nr ≤ 4) : Hd (setW X nr w) t := hT.congr (setW_hi hr4 (by omega)) (fun j hj => setW_hi hr4 (by omega))
theorem way_set {X : Nat → Int32} {nr nb w : Nat} (hG : Gd X nr nb) (hw : okV nr nb w) : wayX (setW X nr w) nr = w := by
  have hG2 := Gd_setW hG hw
  have hb7 := hG.b7
  refine dgW_ext (way_lt hG2) hw.1 (fun r hr => ?_)
  rw [way_dg hG2 hr, dgX]
  by_cases e : r < nr
  · rw [setW_has e, hsW]
    rcases hw.2 r hr with h | h
    · rw [if_pos h, if_neg (fun q => q.2 rfl), h]
    · rw [if_neg (show ¬ dgW w r = 7 by omega), if_pos ⟨e, nI_nneg (by omega) (by decide)⟩, nI_clamp (by omega)]
  · rw [if_neg (fun q => e q.1)]
    rcases hw.2 r hr with h | h
    · exact h.symm
    · exact absurd h.1 e
def swpF (X : Nat → Int32) (a b : Nat) : Nat → Int32 := upd (upd X (1 + a) (X (1 + b))) (1 + b) (X (1 + a))
def chF (X : Nat → Int32) (t : xT) (a b : Nat) : Bool := decide (X (1 + a) ≠ -1) && (decide (X (1 + b) ≠ -1) && (decide (likF X t a (X (1 + a)).toNatClampNeg < likF X t a (X (1 + b)).toNatClampNeg) && decide (likF X t b (X (1 + b)).toNatClampNeg < likF X t b (X (1 + a)).toNatClampNeg)))
def tkB (X : Nat → Int32) (nr r : Nat) : Nat → List Nat
  | 0 => []
  | b + 1 => tkB X nr r b ++ (if mayF X nr r b then [wayX (upd X (1 + r) (nI b)) nr] else [])
def tkR (X : Nat → Int32) (nr nb : Nat) : Nat → List Nat
  | 0 => []
  | r + 1 => tkR X nr nb r ++ tkB X nr r nb
def chB (X : Nat → Int32) (t : xT) (nr a : Nat) : Nat → List Nat
  | 0 => []
  | b + 1 => chB X t nr a b ++ (if a < b ∧ chF X t a b = true then [wayX (swpF X a b) nr] else [])
def chA (X : Nat → Int32) (t : xT) (nr : Nat) : Nat → List Nat
  | 0 => []
  | a + 1 => chA X t nr a ++ chB X t nr a nr
def nbL (X : Nat → Int32) (t : xT) (nr nb : Nat) : List Nat := tkR X nr nb nr ++ chA X t nr nr
theorem tkB_mem {X : Nat → Int32} {nr r c : Nat} : ∀ {b : Nat}, c ∈ tkB X nr r b ↔ ∃ b', b' < b ∧ mayF X nr r b' = true ∧ c = wayX (upd X (1 + r) (nI b')) nr
  | 0 => by simp [tkB]
  | b + 1 => by
    rw [tkB, List.mem_append, tkB_mem]
    constructor
    · rintro (⟨b', h1, h2⟩ | h)
      · exact ⟨b', by omega, h2⟩
      · by_cases q : mayF X nr r b = true
        · rw [if_pos q, List.mem_singleton] at h; exact ⟨b, by omega, q, h⟩
        · rw [if_neg q] at h; exact absurd h (List.not_mem_nil)
    · rintro ⟨b', h1, h2, h3⟩
      by_cases e : b' = b
      · subst e; exact Or.inr (by rw [if_pos h2]; exact List.mem_singleton.mpr h3)
      · exact Or.inl ⟨b', by omega, h2, h3⟩
theorem tkR_mem {X : Nat → Int32} {nr nb c : Nat} : ∀ {r : Nat}, c ∈ tkR X nr nb r ↔ ∃ r', r' < r ∧ c ∈ tkB X nr r' nb
  | 0 => by simp [tkR]
  | r + 1 => by
    rw [tkR, List.mem_append, tkR_mem]
    constructor
    · rintro (⟨r', h1, h2⟩ | h)
      · exact ⟨r', by omega, h2⟩
      · exact ⟨r, by omega, h⟩
    · rintro ⟨r', h1, h2⟩
      by_cases e : r' = r
      · subst e; exact Or.inr h2
      · exact Or.inl ⟨r', by omega, h2⟩
theorem chB_mem {X : Nat → Int32} {t : xT} {nr a c : Nat} : ∀ {b : Nat}, c ∈ chB X t nr a b ↔ ∃ b', b' < b ∧ (a < b' ∧ chF X t a b' = true) ∧ c = wayX (swpF X a b') nr
  | 0 => by simp [chB]
  | b + 1 => by
    rw [chB, List.mem_append, chB_mem]
    constructor
    · rintro (⟨b', h1, h2⟩ | h)
      · exact ⟨b', by omega, h2⟩
      · by_cases q : a < b ∧ chF X t a b = true
        · rw [if_pos q, List.mem_singleton] at h; exact ⟨b, by omega, q, h⟩
        · rw [if_neg q] at h; exact absurd h (List.not_mem_nil)
    · rintro ⟨b', h1, h2, h3⟩
      by_cases e : b' = b
      · subst e; exact Or.inr (by rw [if_pos h2]; exact List.mem_singleton.mpr h3)
      · exact Or.inl ⟨b', by omega, h2, h3⟩
theorem chA_mem {X : Nat → Int32} {t : xT} {nr c : Nat} : ∀ {a : Nat}, c ∈ chA X t nr a ↔ ∃ a', a' < a ∧ c ∈ chB X t nr a' nr
  | 0 => by simp [chA]
  | a + 1 => by
    rw [chA, List.mem_append, chA_mem]
    constructor
    · rintro (⟨r', h1, h2⟩ | h)
      · exact ⟨r', by omega, h2⟩
      · exact ⟨a, by omega, h⟩
    · rintro ⟨r', h1, h2⟩
      by_cases e : r' = a
      · subst e; exact Or.inr h2
      · exact Or.inl ⟨r', by omega, h2⟩
/-- what one GO leads to -/
def NBq (X : Nat → Int32) (t : xT) (nr nb : Nat) (Y : Nat → Int32) : Prop := (∃ r b, r < nr ∧ b < nb ∧ mayF X nr r b = true ∧ Y = upd X (1 + r) (nI b)) ∨ ∃ a b, a < b ∧ b < nr ∧ chF X t a b = true ∧ Y = swpF X a b
theorem nbL_mem {X : Nat → Int32} {t : xT} {nr nb c : Nat} : c ∈ nbL X t nr nb ↔ ∃ Y, NBq X t nr nb Y ∧ c = wayX Y nr := by
  rw [nbL, List.mem_append, tkR_mem, chA_mem]
  constructor
  · rintro (⟨r, hr, h⟩ | ⟨a, ha, h⟩)
    · obtain ⟨b, hb, h1, h2⟩ := tkB_mem.mp h
      exact ⟨_, Or.inl ⟨r, b, hr, hb, h1, rfl⟩, h2⟩
    · obtain ⟨b, hb, h1, h2⟩ := chB_mem.mp h
      exact ⟨_, Or.inr ⟨a, b, h1.1, hb, h1.2, rfl⟩, h2⟩
  · rintro ⟨Y, (⟨r, b, hr, hb, h1, rfl⟩ | ⟨a, b, ha, hb, h1, rfl⟩), h2⟩
    · exact Or.inl ⟨r, hr, tkB_mem.mpr ⟨b, hb, h1, h2⟩⟩
    · exact Or.inr ⟨a, by omega, chB_mem.mpr ⟨b, hb, ⟨ha, h1⟩, h2⟩⟩
theorem NBq_ok {X Y : Nat → Int32} {t : xT} {nr nb : Nat} (hG : Gd X nr nb) (h : NBq X t nr nb Y) : Gd Y nr nb ∧ ∀ j, ¬ (1 ≤ j ∧ j ≤ nr) → Y j = X j := by
  rcases h with ⟨r, b, hr, hb, -, rfl⟩ | ⟨a, b, ha, hb, -, rfl⟩
  · exact ⟨hG.upd_has hr (Or.inr ⟨b, hb, rfl⟩), fun j hj => upd_n (by omega)⟩
  · refine ⟨(hG.upd_has (by omega) (hG.2.1 b hb)).upd_has hb (hG.2.1 a (by omega)), fun j hj => ?_⟩
    rw [swpF, upd_n (by omega), upd_n (by omega)]

/-! the row of WAYS that is found: (way, by how few) -/
abbrev wQ : Type := List (Nat × Nat)
def meetL (n : Nat) (ql : wQ) (c : Nat) : wQ := if ql.any (fun q => q.1 == c) then ql else ql ++ [(c, n)]
def mL (n : Nat) (ql : wQ) (l : List Nat) : wQ := l.foldl (meetL n) ql
def lkQ (ql : wQ) (c : Nat) : Int32 := match ql.find? (fun q => q.1 == c) with
  | some q => nI q.2
  | none => -1
def gQ (ql : wQ) (i : Nat) : Nat × Nat := ql.getD i (0, 0)
/-- the two rows hold ql -/
def RQ (Q S : Nat → Int32) (ql : wQ) : Prop := (∀ i, i < ql.length → Q i = nI (gQ ql i).1) ∧ ∀ c, c < 4096 → S c = lkQ ql c
def okQ (nr nb : Nat) (ql : wQ) : Prop := (ql.map (·.1)).Nodup ∧ (∀ q ∈ ql, okV nr nb q.1) ∧ ∀ i, i < ql.length → (gQ ql i).2 ≤ i
theorem gQ_mem {ql : wQ} {i : Nat} (h : i < ql.length) : gQ ql i ∈ ql := by
  rw [gQ, List.getD_eq_getElem?_getD, List.getElem?_eq_getElem h]
  exact List.getElem_mem h
theorem mem_gQ {ql : wQ} {q : Nat × Nat} (h : q ∈ ql) : ∃ i, i < ql.length ∧ gQ ql i = q := by
  obtain ⟨i, hi, e⟩ := List.getElem_of_mem h
  exact ⟨i, hi, by rw [gQ, List.getD_eq_getElem?_getD, List.getElem?_eq_getElem hi]; exact e⟩
theorem gQ_app {ql l : wQ} {i : Nat} (h : i < ql.length) : gQ (ql ++ l) i = gQ ql i := by
  rw [gQ, gQ, List.getD_eq_getElem?_getD, List.getD_eq_getElem?_getD, List.getElem?_append_left h]
theorem gQ_new {ql : wQ} {q : Nat × Nat} : gQ (ql ++ [q]) ql.length = q := by
  rw [gQ, List.getD_eq_getElem?_getD, List.getElem?_append_right (Nat.le_refl _), Nat.sub_self]; rfl
theorem any_iff {ql : wQ} {c : Nat} : ql.any (fun q => q.1 == c) = true ↔ c ∈ ql.map (·.1) := by
  rw [List.any_eq_true, List.mem_map]
  constructor
  · rintro ⟨q, h1, h2⟩; exact ⟨q, h1, by simpa using h2⟩
  · rintro ⟨q, h1, h2⟩; exact ⟨q, h1, by simpa using h2⟩
theorem nodup_le {l l2 : List Nat} (h : l.Nodup) (hs : ∀ a ∈ l, a ∈ l2) : l.length ≤ l2.length := by
  induction l generalizing l2 with
  | nil => exact Nat.zero_le _
  | cons a l ih =>
    have ha := hs a (List.mem_cons_self ..)
    rw [List.nodup_cons] at h
    have := ih (l2 := l2.erase a) h.2 (fun b hb => (List.mem_erase_of_ne (fun e => h.1 (by rw [← e]; exact hb))).mpr (hs b (List.mem_cons_of_mem _ hb)))
    rw [List.length_erase_of_mem ha] at this
    have : 0 < l2.length := List.length_pos_of_mem ha
    rw [List.length_cons]
    omega
theorem okQ_lt {nr nb c : Nat} {ql : wQ} (h : okQ nr nb ql) (hc : okV nr nb c) (hn : ¬ ql.any (fun q => q.1 == c) = true) : ql.length < 4096 := by
  rw [any_iff] at hn
  have hd : (c :: ql.map (·.1)).Nodup := List.nodup_cons.mpr ⟨hn, h.1⟩
  have := nodup_le (l2 := List.range 4096) hd (by
    intro a ha
    rw [List.mem_range]
    rcases List.mem_cons.mp ha with rfl | ha
    · exact hc.1
    · obtain ⟨q, hq, rfl⟩ := List.mem_map.mp ha
      exact (h.2.1 q hq).1)
  rw [List.length_cons, List.length_map, List.length_range] at this
  omega
theorem okQ_le {nr nb : Nat} {ql : wQ} (h : okQ nr nb ql) : ql.length ≤ 4096 := by
  have := nodup_le (l2 := List.range 4096) h.1 (by
    intro a ha
    rw [List.mem_range]
    obtain ⟨q, hq, rfl⟩ := List.mem_map.mp ha
    exact (h.2.1 q hq).1)
  rw [List.length_map, List.length_range] at this
  exact this
theorem nd_inj {ql : wQ} (h : (ql.map (·.1)).Nodup) {q q' : Nat × Nat} (h1 : q ∈ ql) (h2 : q' ∈ ql) (e : q.1 = q'.1) : q = q' := by
  induction ql with
  | nil => exact absurd h1 (List.not_mem_nil)
  | cons a l ih =>
    rw [List.map_cons, List.nodup_cons] at h
    rcases List.mem_cons.mp h1 with rfl | h1'
    · rcases List.mem_cons.mp h2 with rfl | h2
      · rfl
      · exact absurd (List.mem_map.mpr ⟨q', h2, e.symm⟩) h.1
    · rcases List.mem_cons.mp h2 with rfl | h2
      · exact absurd (List.mem_map_of_mem (f := (·.1)) h1') (by rw [e]; exact h.1)
      · exact ih h.2 h1' h2
theorem okQ_d {nr nb : Nat} {ql : wQ} (h : okQ nr nb ql) {q : Nat × Nat} (hq : q ∈ ql) : q.2 < 4096 := by
  obtain ⟨i, hi, rfl⟩ := mem_gQ hq
  have h1 := h.2.2 i hi
  have h2 := okQ_le h
  omega
theorem lkQ_mem {nr nb : Nat} {ql : wQ} (h : okQ nr nb ql) {q : Nat × Nat} (hq : q ∈ ql) : lkQ ql q.1 = nI q.2 := by
  rw [lkQ]
  cases hf : ql.find? (fun p => p.1 == q.1) with
  | none =>
    rw [List.find?_eq_none] at hf
    exact absurd (by simp) (hf q hq)
  | some p =>
    have h1 := List.mem_of_find?_eq_some hf
    have h2 := List.find?_some hf
    have h3 : p = q := nd_inj h.1 h1 hq (by simpa using h2)
    rw [h3]
theorem lkQ_none {nr nb : Nat} {ql : wQ} (h : okQ nr nb ql) {c : Nat} : lkQ ql c = -1 ↔ ¬ ql.any (fun q => q.1 == c) = true := by
  constructor
  · intro e a
    obtain ⟨q, h1, h2⟩ := List.any_eq_true.mp a
    have h3 : q.1 = c := by simpa using h2
    rw [← h3, lkQ_mem h h1] at e
    have := okQ_d h h1
    exact nI_nneg (by omega) (by decide) e
  · intro e
    rw [lkQ]
    cases hf : ql.find? (fun p => p.1 == c) with
    | none => rfl
    | some q => exact absurd (List.any_eq_true.mpr ⟨q, List.mem_of_find?_eq_some hf, List.find?_some hf⟩) e
theorem meet_y {n c : Nat} {ql : wQ} (h : ql.any (fun q => q.1 == c) = true) : meetL n ql c = ql := if_pos h
theorem meet_n {n c : Nat} {ql : wQ} (h : ¬ ql.any (fun q => q.1 == c) = true) : meetL n ql c = ql ++ [(c, n)] := if_neg h
theorem lkQ_app {ql : wQ} {c n d : Nat} (h : ¬ ql.any (fun q => q.1 == c) = true) : lkQ (ql ++ [(c, n)]) d = if d = c then nI n else lkQ ql d := by
  rw [lkQ, lkQ, List.find?_append]
  by_cases e : d = c
  · subst e
    rw [if_pos rfl]
    have h0 : ql.find? (fun q => q.1 == d) = none := by
      rw [List.find?_eq_none]
      intro q hq hc
      exact h (List.any_eq_true.mpr ⟨q, hq, hc⟩)
    rw [h0]
    simp
  · rw [if_neg e]
    cases ql.find? (fun q => q.1 == d) with
    | some q => rfl
    | none =>
      have : ¬ c = d := fun q => e q.symm
      simp [this]
/-- one way more in the rows -/
theorem RQ_new {Q S : Nat → Int32} {ql : wQ} {c n : Nat} (h : RQ Q S ql) (hc : ¬ ql.any (fun q => q.1 == c) = true) : RQ (upd Q ql.length (nI c)) (upd S c (nI n)) (ql ++ [(c, n)]) := by
  constructor
  · intro i hi
    rw [List.length_append, List.length_singleton] at hi
    by_cases e : i = ql.length
    · subst e; rw [upd_s, gQ_new]
    · rw [upd_n e, gQ_app (by omega)]; exact h.1 i (by omega)
  · intro d hd
    rw [lkQ_app hc]
    by_cases e : d = c
    · subst e; rw [if_pos rfl, upd_s]
    · rw [if_neg e, upd_n e]; exact h.2 d hd
theorem okQ_new {nr nb : Nat} {ql : wQ} {c n : Nat} (h : okQ nr nb ql) (hv : okV nr nb c) (hn : n ≤ ql.length) (hc : ¬ ql.any (fun q => q.1 == c) = true) : okQ nr nb (ql ++ [(c, n)]) := by
  refine ⟨?_, ?_, ?_⟩
  · rw [List.map_append, List.nodup_append]
    refine ⟨h.1, by simp, ?_⟩
    intro a ha b hb e
    have hb : b = c := by simpa using hb
    rw [any_iff] at hc
    exact hc (by rw [← hb, ← e]; exact ha)
  · intro q hq
    rcases List.mem_append.mp hq with hq | hq
    · exact h.2.1 q hq
    · rw [List.mem_singleton.mp hq]; exact hv
  · intro i hi
    rw [List.length_append, List.length_singleton] at hi
    by_cases e : i = ql.length
    · subst e; rw [gQ_new]; exact hn
    · rw [gQ_app (by omega)]; exact h.2.2 i (by omega)
theorem okQ_meet {nr nb : Nat} {ql : wQ} {c n : Nat} (h : okQ nr nb ql) (hv : okV nr nb c) (hn : n ≤ ql.length) : okQ nr nb (meetL n ql c) ∧ ql.length ≤ (meetL n ql c).length := by
  by_cases hc : ql.any (fun q => q.1 == c) = true
  · rw [meet_y hc]; exact ⟨h, Nat.le_refl _⟩
  · rw [meet_n hc]; exact ⟨okQ_new h hv hn hc, by rw [List.length_append]; omega⟩
theorem okQ_mL {nr nb n : Nat} : ∀ (l : List Nat) {ql : wQ}, okQ nr nb ql → (∀ c ∈ l, okV nr nb c) → n ≤ ql.length → okQ nr nb (mL n ql l) ∧ ql.length ≤ (mL n ql l).length
  | [], ql, h, _, _ => ⟨h, Nat.le_refl _⟩
  | c :: l, ql, h, hl, hn => by
    obtain ⟨h1, h2⟩ := okQ_meet h (hl c (List.mem_cons_self ..)) hn
    obtain ⟨h3, h4⟩ := okQ_mL l h1 (fun c hc => hl c (List.mem_cons_of_mem _ hc)) (Nat.le_trans hn h2)
    exact ⟨h3, Nat.le_trans h2 h4⟩
theorem mL_app {n : Nat} {ql : wQ} {l l' : List Nat} : mL n ql (l ++ l') = mL n (mL n ql l) l' := List.foldl_append
theorem mL_1 {n c : Nat} {ql : wQ} : mL n ql [c] = meetL n ql c := rfl
/-! what the search finds -/
def Rch (X : Nat → Int32) (t : xT) (nr nb : Nat) : Nat → Nat → Prop
  | 0, c => c = wayX X nr
  | n + 1, c => ∃ w, Rch X t nr nb n w ∧ c ∈ nbL (setW X nr w) t nr nb
def RES (X : Nat → Int32) (t : xT) (nr nb : Nat) (ql : wQ) : Prop := okQ nr nb ql ∧ (∀ q ∈ ql, Rch X t nr nb q.2 q.1) ∧ (∀ n c, Rch X t nr nb n c → ∃ q ∈ ql, q.1 = c ∧ q.2 ≤ n) ∧ ∀ i j, i < j → j < ql.length → (gQ ql i).2 ≤ (gQ ql j).2
/-- the search stands at k -/
def BIq (X : Nat → Int32) (t : xT) (nr nb : Nat) (ql : wQ) (k : Nat) : Prop := okQ nr nb ql ∧ (∀ q ∈ ql, Rch X t nr nb q.2 q.1) ∧ (∀ i j, i < j → j < ql.length → (gQ ql i).2 ≤ (gQ ql j).2) ∧ (wayX X nr, 0) ∈ ql ∧ (k < ql.length → ∀ q ∈ ql, q.2 ≤ (gQ ql k).2 + 1) ∧ ∀ i, i < k → i < ql.length → ∀ c, c ∈ nbL (setW X nr (gQ ql i).1) t nr nb → ∃ q ∈ ql, q.1 = c ∧ q.2 ≤ (gQ ql i).2 + 1
theorem BIq_0 {X : Nat → Int32} {t : xT} {nr nb : Nat} (hG : Gd X nr nb) : BIq X t nr nb [(wayX X nr, 0)] 0 := by
  refine ⟨⟨by simp, ?_, ?_⟩, ?_, ?_, by simp, ?_, ?_⟩
  · intro q hq; rw [List.mem_singleton.mp hq]; exact okV_way hG
  · intro i hi
    have : i = 0 := by rw [List.length_singleton] at hi; omega
    subst this; exact Nat.le_refl _
  · intro q hq; rw [List.mem_singleton.mp hq]; rfl
  · intro i j hij hj; rw [List.length_singleton] at hj; omega
  · intro _ q hq; rw [List.mem_singleton.mp hq]; exact Nat.zero_le _
  · intro i hi; exact absurd hi (Nat.not_lt_zero _)
/-- within the work at one way -/
theorem mL_work {X : Nat → Int32} {t : xT} {nr nb n : Nat} : ∀ (l : List Nat) {ql : wQ}, okQ nr nb ql → (∀ c ∈ l, okV nr nb c) → n ≤ ql.length → (∀ q ∈ ql, Rch X t nr nb q.2 q.1) → (∀ c ∈ l, Rch X t nr nb n c) → (∀ i j, i < j → j < ql.length → (gQ ql i).2 ≤ (gQ ql j).2) → (∀ q ∈ ql, q.2 ≤ n) →
    ∃ l2, mL n ql l = ql ++ l2 ∧ okQ nr nb (mL n ql l) ∧ (∀ q ∈ mL n ql l, Rch X t nr nb q.2 q.1) ∧ (∀ i j, i < j → j < (mL n ql l).length → (gQ (mL n ql l) i).2 ≤ (gQ (mL n ql l) j).2) ∧ (∀ q ∈ mL n ql l, q.2 ≤ n) ∧ ∀ c ∈ l, ∃ q ∈ mL n ql l, q.1 = c
  | [], ql, h, _, _, h2, _, h4, h5 => ⟨[], (List.append_nil _).symm, h, h2, h4, h5, fun c hc => absurd hc (List.not_mem_nil)⟩
  | c :: l, ql, h, hl, hn, h2, h3, h4, h5 => by
    have hv := hl c (List.mem_cons_self ..)
    have hl' : ∀ c ∈ l, okV nr nb c := fun c hc => hl c (List.mem_cons_of_mem _ hc)
    have h3' : ∀ c ∈ l, Rch X t nr nb n c := fun c hc => h3 c (List.mem_cons_of_mem _ hc)
    have eC : mL n ql (c :: l) = mL n (meetL n ql c) l := rfl
    rw [eC]
    by_cases hc : ql.any (fun q => q.1 == c) = true
    · rw [meet_y hc]
      obtain ⟨l2, e, q1, q2, q3, q4, q5⟩ := mL_work l h hl' hn h2 h3' h4 h5
      refine ⟨l2, e, q1, q2, q3, q4, ?_⟩
      intro d hd
      rcases List.mem_cons.mp hd with rfl | hd
      · obtain ⟨q, hq, e2⟩ := List.mem_map.mp (any_iff.mp hc)
        exact ⟨q, by rw [e]; exact List.mem_append_left _ hq, e2⟩
      · exact q5 d hd
    · rw [meet_n hc]
      obtain ⟨l2, e, q1, q2, q3, q4, q5⟩ := mL_work (ql := ql ++ [(c, n)]) l (okQ_new h hv hn hc) hl' (by rw [List.length_append]; omega)
        (fun q hq => by
          rcases List.mem_append.mp hq with hq | hq
          · exact h2 q hq
          · rw [List.mem_singleton.mp hq]; exact h3 c (List.mem_cons_self ..)) h3'
        (fun i j hij hj => by
          rw [List.length_append, List.length_singleton] at hj
          by_cases e : j = ql.length
          · subst e
            rw [gQ_new, gQ_app hij]
            exact h5 _ (gQ_mem hij)
          · rw [gQ_app (by omega), gQ_app (by omega)]; exact h4 i j hij (by omega))
        (fun q hq => by
          rcases List.mem_append.mp hq with hq | hq
          · exact h5 q hq
          · rw [List.mem_singleton.mp hq]; exact Nat.le_refl _)
      refine ⟨[(c, n)] ++ l2, by rw [e, List.append_assoc], q1, q2, q3, q4, ?_⟩
      intro d hd
      rcases List.mem_cons.mp hd with rfl | hd
      · exact ⟨(d, n), by rw [e]; exact List.mem_append_left _ (List.mem_append_right _ (List.mem_singleton.mpr rfl)), rfl⟩
      · exact q5 d hd
theorem NB_ok {X : Nat → Int32} {t : xT} {nr nb w c : Nat} (hG : Gd X nr nb) (hw : okV nr nb w) (h : c ∈ nbL (setW X nr w) t nr nb) : okV nr nb c := by
  obtain ⟨Y, h1, rfl⟩ := nbL_mem.mp h
  exact okV_way (NBq_ok (Gd_setW hG hw) h1).1
theorem BIq_s {X : Nat → Int32} {t : xT} {nr nb k : Nat} {ql : wQ} {l : List Nat} (hG : Gd X nr nb) (h : BIq X t nr nb ql k) (hk : k < ql.length) (hl : ∀ c, c ∈ l ↔ c ∈ nbL (setW X nr (gQ ql k).1) t nr nb) : BIq X t nr nb (mL ((gQ ql k).2 + 1) ql l) (k + 1) := by
  obtain ⟨h1, h2, h3, h4, h5, h6⟩ := h
  have hkm := gQ_mem hk
  have hv := h1.2.1 _ hkm
  obtain ⟨l2, e, q1, q2, q3, q4, q5⟩ := mL_work (X := X) (t := t) (n := (gQ ql k).2 + 1) l h1 (fun c hc => NB_ok hG hv ((hl c).mp hc)) (by have := h1.2.2 k hk; omega) h2 (fun c hc => ⟨_, h2 _ hkm, (hl c).mp hc⟩) h3 (h5 hk)
  have hmem : ∀ q ∈ ql, q ∈ mL ((gQ ql k).2 + 1) ql l := fun q hq => by rw [e]; exact List.mem_append_left _ hq
  have hlen : ql.length ≤ (mL ((gQ ql k).2 + 1) ql l).length := by rw [e, List.length_append]; omega
  have hgq : ∀ i, i < ql.length → gQ (mL ((gQ ql k).2 + 1) ql l) i = gQ ql i := fun i hi => by rw [e]; exact gQ_app hi
  refine ⟨q1, q2, q3, hmem _ h4, ?_, ?_⟩
  · intro hk1 q hq
    have := q3 k (k + 1) (by omega) hk1
    rw [hgq k hk] at this
    have := q4 q hq
    omega
  · intro i hi hil c hc
    rw [hgq i (by omega)] at hc ⊢
    by_cases ek : i = k
    · subst ek
      obtain ⟨q, a1, a2⟩ := q5 c ((hl c).mpr hc)
      exact ⟨q, a1, a2, q4 q a1⟩
    · obtain ⟨q, a1, a2⟩ := h6 i (by omega) (by omega) c hc
      exact ⟨q, hmem q a1, a2⟩
theorem BIq_e {X : Nat → Int32} {t : xT} {nr nb : Nat} {ql : wQ} (h : BIq X t nr nb ql ql.length) : RES X t nr nb ql := by
  obtain ⟨h1, h2, h3, h4, h5, h6⟩ := h
  refine ⟨h1, h2, ?_, h3⟩
  intro n
  induction n with
  | zero => intro c hc; exact ⟨_, h4, hc.symm, Nat.le_refl _⟩
  | succ n ih =>
    rintro c ⟨w, hw, hc⟩
    obtain ⟨q, a1, rfl, a3⟩ := ih w hw
    obtain ⟨i, hi, rfl⟩ := mem_gQ a1
    obtain ⟨q', b1, b2, b3⟩ := h6 i hi hi c hc
    exact ⟨q', b1, b2, by omega⟩
/-- by how few -/
def fewL (ql : wQ) (r : Nat) (b : Int32) : Int32 := match ql.find? (fun q => hsW q.1 r == b) with
  | some q => nI q.2
  | none => -5
theorem few_one {X : Nat → Int32} {t : xT} {nr nb r : Nat} {b : Int32} {ql ql' : wQ} (h : RES X t nr nb ql) (h' : RES X t nr nb ql') : fewL ql r b = fewL ql' r b := by
  have key : ∀ {ql ql' : wQ}, RES X t nr nb ql → RES X t nr nb ql' → ∀ q, ql.find? (fun q => hsW q.1 r == b) = some q → ∃ q', ql'.find? (fun q => hsW q.1 r == b) = some q' ∧ q'.2 ≤ q.2 := by
    intro ql ql' h h' q hq
    obtain ⟨p, a1, a2, a3⟩ := h'.2.2.1 _ _ (h.2.1 q (List.mem_of_find?_eq_some hq))
    have hp : (fun q : Nat × Nat => hsW q.1 r == b) p = true := by
      have := List.find?_some hq
      show (hsW p.1 r == b) = true
      rw [a2]; exact this
    cases hf : ql'.find? (fun q => hsW q.1 r == b) with
    | none => exact absurd hp (List.find?_eq_none.mp hf p a1)
    | some q' =>
      refine ⟨q', rfl, ?_⟩
      obtain ⟨j, hj, ej⟩ := mem_gQ a1
      obtain ⟨l1, l2, e1, e2⟩ := List.find?_eq_some_iff_append.mp hf |>.2
      have hi : gQ ql' l1.length = q' := by
        rw [e1, gQ, List.getD_eq_getElem?_getD, List.getElem?_append_right (Nat.le_refl _), Nat.sub_self]; rfl
      by_cases hjl : j < l1.length
      · have : p ∈ l1 := by
          rw [← ej, e1, gQ, List.getD_eq_getElem?_getD, List.getElem?_append_left hjl, List.getElem?_eq_getElem hjl]
          exact List.getElem_mem hjl
        have := e2 p this
        have hp : (hsW p.1 r == b) = true := hp
        rw [hp] at this
        exact absurd this (by decide)
      · by_cases he : j = l1.length
        · rw [he, hi] at ej
          rw [ej]; exact a3
        · have := h'.2.2.2 l1.length j (by omega) hj
          rw [hi, ej] at this
          omega
  rw [fewL, fewL]
  cases h1 : ql.find? (fun q => hsW q.1 r == b) with
  | none =>
    cases h2 : ql'.find? (fun q => hsW q.1 r == b) with
    | none => rfl
    | some q' =>
      obtain ⟨q, e, _⟩ := key h' h q' h2
      rw [h1] at e; exact absurd e (by simp)
  | some q =>
    obtain ⟨q', e, h3⟩ := key h h' q h1
    rw [e]
    obtain ⟨q2, e2, h4⟩ := key h' h q' e
    rw [h1] at e2
    have e2 : q = q2 := Option.some.inj e2
    subst e2
    show nI q.2 = nI q'.2
    rw [show q.2 = q'.2 by omega]
theorem and7 (a : Nat) (ha : a < 2 ^ 31) : nI a &&& 7 = nI (a % 8) := pk_andN (by omega) (m := 7) 3 (by decide)
theorem dgW_eq {w r : Nat} : w / 2 ^ (3 * (3 - r)) % 8 = dgW w r := by
  rw [dgW, Nat.pow_mul]
def PLq (P X : Nat → Int32) (t : xT) (nr nb : Nat) : Prop := ∀ r b, r < nr → b < nb → P (7 * r + b) = plainF X t r b
theorem plain_cg {X Y : Nat → Int32} {t : xT} {nr r b : Nat} (hr : nr ≤ 4) (h : ∀ j, ¬ (1 ≤ j ∧ j ≤ nr) → Y j = X j) : plainF Y t r b = plainF X t r b := by
  have e : subX Y r b = subX X r b := by
    funext i
    unfold subX
    split
    · rfl
    · exact h _ (by omega)
    · exact h _ (by omega)
    · rfl
    · rw [h (5 + b) (by omega)]
    · rw [h 0 (by omega)]
  rw [plainF, plainF, e]
theorem PLq.cg {P X Y : Nat → Int32} {t : xT} {nr nb : Nat} (hr : nr ≤ 4) (hP : PLq P X t nr nb) (h : ∀ j, ¬ (1 ≤ j ∧ j ≤ nr) → Y j = X j) : PLq P Y t nr nb := fun r b h1 h2 => (hP r b h1 h2).trans (plain_cg hr h).symm
theorem setW_0 {X : Nat → Int32} {w : Nat} : setW X 0 w = X := by
  funext j
  exact setW_n (by omega)
theorem setW_s {X : Nat → Int32} {w r : Nat} : setW X (r + 1) w = upd (setW X r w) (1 + r) (hsW w r) := by
  funext j
  by_cases e : j = 1 + r
  · subst e; rw [upd_s, setW_has (by omega)]
  · rw [upd_n e]
    by_cases h : 1 ≤ j ∧ j ≤ r
    · rw [setW, setW, if_pos (by omega), if_pos h]
    · rw [setW_n h, setW_n (by omega)]
theorem tk_ok {X : Nat → Int32} {nr nb r b c : Nat} (hG : Gd X nr nb) (hr : r < nr) (hb : b ≤ nb) (h : c ∈ tkR X nr nb r ++ tkB X nr r b) : okV nr nb c := by
  have key : ∀ r' b', r' < nr → b' ≤ nb → c ∈ tkB X nr r' b' → okV nr nb c := by
    intro r' b' hr' hb' hc
    obtain ⟨b2, h1, -, rfl⟩ := tkB_mem.mp hc
    exact okV_way (hG.upd_has hr' (Or.inr ⟨b2, by omega, rfl⟩))
  rcases List.mem_append.mp h with h | h
  · obtain ⟨r', h1, h2⟩ := tkR_mem.mp h
    exact key r' nb (by omega) (Nat.le_refl _) h2
  · exact key r b hr hb h
theorem Gd.swp {X : Nat → Int32} {nr nb a b : Nat} (hG : Gd X nr nb) (ha : a < nr) (hb : b < nr) : Gd (swpF X a b) nr nb := (hG.upd_has ha (hG.2.1 b hb)).upd_has hb (hG.2.1 a ha)
theorem ch_ok {X : Nat → Int32} {t : xT} {nr nb a b c : Nat} (hG : Gd X nr nb) (ha : a < nr) (hb : b ≤ nr) (h : c ∈ tkR X nr nb nr ++ chA X t nr a ++ chB X t nr a b) : okV nr nb c := by
  have key : ∀ a' b', a' < nr → b' ≤ nr → c ∈ chB X t nr a' b' → okV nr nb c := by
    intro a' b' ha' hb' hc
    obtain ⟨b2, h1, h2, rfl⟩ := chB_mem.mp hc
    exact okV_way (hG.swp ha' (by omega))
  rcases List.mem_append.mp h with h | h
  · rcases List.mem_append.mp h with h | h
    · obtain ⟨r', h1, h2⟩ := tkR_mem.mp h
      obtain ⟨b2, h3, -, rfl⟩ := tkB_mem.mp h2
      exact okV_way (hG.upd_has (by omega) (Or.inr ⟨b2, h3, rfl⟩))
    · obtain ⟨r', h1, h2⟩ := chA_mem.mp h
      exact key r' nr (by omega) (Nat.le_refl _) h2
  · exact key a b ha hb h
theorem swp_back {X : Nat → Int32} {a b : Nat} (h : a < b) : swpF (swpF X a b) a b = X := by
  funext j
  rw [swpF, swpF]
  by_cases e1 : j = 1 + b
  · subst e1
    rw [upd_s, upd_n (by omega), upd_s]
  · rw [upd_n e1]
    by_cases e2 : j = 1 + a
    · subst e2; rw [upd_s, upd_s]
    · rw [upd_n e2, upd_n e1, upd_n e2]
theorem chB_nil {X : Nat → Int32} {t : xT} {nr a : Nat} : ∀ {b : Nat}, b ≤ a + 1 → chB X t nr a b = []
  | 0, _ => rfl
  | b + 1, h => by rw [chB, chB_nil (by omega), if_neg (fun q => absurd q.1 (by omega))]; rfl
theorem bit_may {X : Nat → Int32} {nr nb r b : Nat} (hb : b < nb) : bitN (fun b => mayF X nr r b) nb / 2 ^ b % 2 = 1 ↔ mayF X nr r b = true := by
  rw [bitN_bit hb]
  split <;> simp_all
