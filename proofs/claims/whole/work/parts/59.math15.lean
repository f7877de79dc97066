/-! THE CLASS'S SETS AND HOLDINGS -/
theorem bit_clr {a b : Nat} (ha : a < 128) (hb : b < 7) : nI a &&& ((1 <<< (nI b &&& 31)) ^^^ (-1)) = nI (if a / 2 ^ b % 2 = 1 then a - 2 ^ b else a) := by
  have h : ∀ a, a < 128 → ∀ b, b < 7 → nI a &&& ((1 <<< (nI b &&& 31)) ^^^ (-1)) = nI (if a / 2 ^ b % 2 = 1 then a - 2 ^ b else a) := by decide +kernel
  exact h a ha b hb
theorem bit_set {a b : Nat} (ha : a < 128) (hb : b < 7) : nI a ||| (1 <<< (nI b &&& 31)) = nI (if a / 2 ^ b % 2 = 1 then a else a + 2 ^ b) := by
  have h : ∀ a, a < 128 → ∀ b, b < 7 → nI a ||| (1 <<< (nI b &&& 31)) = nI (if a / 2 ^ b % 2 = 1 then a else a + 2 ^ b) := by decide +kernel
  exact h a ha b hb
theorem bitN_cg {p q : Nat → Bool} {n : Nat} (h : ∀ c, c < n → p c = q c) : bitN p n = bitN q n := by
  induction n with
  | zero => rfl
  | succ n ih => rw [bitN, bitN, ih (fun c hc => h c (by omega)), h n (by omega)]
theorem bitN_cut {p : Nat → Bool} {n b : Nat} (hb : b < n) : bitN p n = bitN (fun c => p c && decide (c ≠ b)) n + (if p b then 2 ^ b else 0) := by
  induction n with
  | zero => exact absurd hb (Nat.not_lt_zero _)
  | succ n ih =>
    rw [bitN, bitN]
    by_cases e : b = n
    · subst e
      rw [bitN_cg (p := p) (q := fun c => p c && decide (c ≠ b)) (fun c hc => by simp [show ¬ c = b by omega])]
      simp
    · rw [ih (by omega)]
      have : (p n && decide (n ≠ b)) = p n := by simp [show ¬ n = b by omega]
      rw [this]
      omega
theorem bit128 {p : Nat → Bool} {n : Nat} (hn : n ≤ 7) : bitN p n < 128 := Nat.lt_of_lt_of_le (bitN_lt n) (Nat.pow_le_pow_right (by decide) hn)
theorem bitN_clr {p : Nat → Bool} {n b : Nat} (hn : n ≤ 7) (hb : b < n) : nI (bitN p n) &&& ((1 <<< (nI b &&& 31)) ^^^ (-1)) = nI (bitN (fun c => p c && decide (c ≠ b)) n) := by
  rw [bit_clr (bit128 hn) (by omega), bitN_bit hb]
  have h := bitN_cut (p := p) hb
  cases q : p b
  · rw [q] at h
    simp only [Bool.false_eq_true, if_false, Nat.add_zero] at h
    rw [← h]
    rfl
  · rw [q] at h
    simp only [if_true] at h
    simp only [if_true]
    rw [h, Nat.add_sub_cancel]
theorem bitN_set {p : Nat → Bool} {n b : Nat} (hn : n ≤ 7) (hb : b < n) : nI (bitN p n) ||| (1 <<< (nI b &&& 31)) = nI (bitN (fun c => p c || decide (c = b)) n) := by
  rw [bit_set (bit128 hn) (by omega), bitN_bit hb]
  have h := bitN_cut (p := p) hb
  have h2 := bitN_cut (p := fun c => p c || decide (c = b)) hb
  have e : bitN (fun c => (p c || decide (c = b)) && decide (c ≠ b)) n = bitN (fun c => p c && decide (c ≠ b)) n := bitN_cg (fun c _ => by by_cases e : c = b <;> simp [e])
  rw [e] at h2
  simp only [decide_true, Bool.or_true, if_true] at h2
  cases q : p b
  · rw [q] at h
    simp only [Bool.false_eq_true, if_false, Nat.add_zero] at h
    simp only [Bool.false_eq_true, if_false]
    rw [h2, ← h]
    rfl
  · rw [q] at h
    simp only [if_true] at h
    simp only [if_true]
    rw [h2, ← h]
theorem all_bits {n : Nat} (hn : n ≤ 7) : (1 <<< (nI n &&& 31)) - 1 = nI (bitN (fun _ => true) n) := by
  have h : ∀ n, n ≤ 7 → (1 <<< (nI n &&& 31)) - 1 = nI (bitN (fun _ => true) n) := by decide +kernel
  exact h n hn
theorem none_s {q : Nat → Bool} {n : Nat} : (fst q (n + 1)).isNone = ((fst q n).isNone && !q n) := by
  cases h : fst q n with
  | none =>
    cases e : q n
    · rw [fst_none.mpr (fun j hj => by
        rcases Nat.lt_or_eq_of_le (Nat.le_of_lt_succ hj) with z | z
        · exact fst_none.mp h j z
        · subst z; exact e)]
      rfl
    · rw [fst_some.mpr ⟨Nat.lt_succ_self n, e, fst_none.mp h⟩]
      rfl
  | some j =>
    have h1 := fst_some.mp h
    rw [fst_some.mpr ⟨Nat.lt_succ_of_lt h1.1, h1.2.1, h1.2.2⟩]
    rfl
def shlP (X : Nat → Int32) (r b : Nat) : Bool := (fst (fun j => X (1 + j) == nI b) r).isNone
theorem shelf_bits {X : Nat → Int32} {nr nb : Nat} (hn : nb ≤ 7) : shelfF X nr nb = nI (bitN (shlP X nr) nb) := itr_bit (p := fun b => onF X nr (nI b)) hn
theorem shlP_none {X : Nat → Int32} {nb r : Nat} (hn : nb ≤ 7) (h : X (1 + r) = -1) : bitN (shlP X (r + 1)) nb = bitN (shlP X r) nb := bitN_cg (fun b hb => by
  have e : (X (1 + r) == nI b) = false := by
    rw [h]
    exact beq_eq_false_iff_ne.mpr (fun q => nI_nneg (by omega) (show (-1 : Int32) < 0 by decide) q.symm)
  rw [shlP, none_s, shlP, e]; simp)
theorem shlP_has {X : Nat → Int32} {nb r h : Nat} (hn : nb ≤ 7) (hh : h < 7) (e : X (1 + r) = nI h) : bitN (shlP X (r + 1)) nb = bitN (fun c => shlP X r c && decide (c ≠ h)) nb := bitN_cg (fun b hb => by
  rw [shlP, none_s, shlP, e]
  congr 1
  by_cases q : b = h
  · subst q; simp
  · have : ¬ nI h = nI b := fun z => q ((nI_eq (by omega) (by omega)).mp z).symm
    simp [this, q])
/-- the class's number of a way -/
def cdW (nr w : Nat) : Nat := w / 8 ^ (4 - nr)
theorem cd_way {X : Nat → Int32} {nr nb : Nat} (hG : Gd X nr nb) : itr (fun r a => 8 * a + dgX X nr r) 0 nr = cdW nr (wayX X nr) := by
  have hr4 := hG.r4
  have h0 := dgX_7 (r := 0) hG
  have h1 := dgX_7 (r := 1) hG
  have h2 := dgX_7 (r := 2) hG
  have h3 := dgX_7 (r := 3) hG
  rw [cdW, wayX_eq]
  rcases (show nr = 0 ∨ nr = 1 ∨ nr = 2 ∨ nr = 3 ∨ nr = 4 by omega) with rfl | rfl | rfl | rfl | rfl
  · show 0 = _ / 4096; omega
  · show 8 * 0 + dgX X 1 0 = _ / 512; omega
  · show 8 * (8 * 0 + dgX X 2 0) + dgX X 2 1 = _ / 64; omega
  · show 8 * (8 * (8 * 0 + dgX X 3 0) + dgX X 3 1) + dgX X 3 2 = _ / 8; omega
  · show 8 * (8 * (8 * (8 * 0 + dgX X 4 0) + dgX X 4 1) + dgX X 4 2) + dgX X 4 3 = _ / 1; omega
theorem cd_dg {nr w r : Nat} (hr : r < nr) (hn : nr ≤ 4) : cdW nr w / 2 ^ (3 * (nr - 1 - r)) % 8 = dgW w r := by
  rw [cdW, dgW, Nat.pow_mul, show (2 ^ 3 : Nat) = 8 from rfl, Nat.div_div_eq_div_mul, ← Nat.pow_add, show 4 - nr + (nr - 1 - r) = 3 - r by omega]
theorem cd_lt {nr w : Nat} (h : w < 4096) : cdW nr w < 4096 := Nat.lt_of_le_of_lt (Nat.div_le_self _ _) h
theorem RWc.set_all {F : Nat → Int32} {A : Nat → Nat → Int32} {X : Nat → Int32} {nr nb : Nat} {t : xT} {ln v : Nat} {g : Nat → Int32} (h : RWc F A X nr nb t ln) (hr4 : nr ≤ 4) (hg : ∀ j, j < nr → g j = orN (hsW v j)) : RWc F (upA A 4 g) (setW X nr v) nr nb t ln := by
  obtain ⟨h1, h2, h3, h4, h5, h6, h7, h8, h9, h10, h11, h12⟩ := h
  refine ⟨fun b hb => ?_, fun q hq => ?_, fun q hq => ?_, fun q hq => ?_, fun q hq => ?_, h6, h7, ?_, ?_, h10, h11, fun dg hdg hl q hq b hb => ?_⟩
  · rw [upA_n (by omega), setW_hi hr4 (by omega)]; exact h1 b hb
  · rw [upA_n (by omega), setW_hi hr4 (by omega)]; exact h2 q hq
  · rw [upA_n (by omega), setW_hi hr4 (by omega)]; exact h3 q hq
  · rw [upA_s, setW_has hq]; exact hg q hq
  · rw [upA_n (by omega), setW_hi hr4 (by omega)]; exact h5 q hq
  · rw [setW_n (by omega)]; exact h8
  · rw [setW_hi hr4 (by omega)]; exact h9
  · rw [upA_n (by omega)]
    have e : subD (setW X nr v) q b dg = subD X q b dg := by
      funext i
      unfold subD
      split
      · rfl
      · exact setW_hi hr4 (by omega)
      · exact setW_hi hr4 (by omega)
      · rfl
      · rw [setW_hi hr4 (by omega)]
      · rfl
    rw [e]; exact h12 dg hdg hl q hq b hb
theorem hs_or {v j : Nat} : orN (hsW v j) = if dgW v j = 7 then -5 else nI (dgW v j) := by
  have h8 : dgW v j < 8 := Nat.mod_lt _ (by decide)
  rw [hsW]
  split
  · rfl
  · exact orN_nI (by omega)
theorem WX.stale {σ : xS} {w tw : Nat} {X : Nat → Int32} {nr nb : Nat} {t : xT} {ln : Nat} (h : WX σ w tw X nr nb t ln) : WX σ w tw X nr nb t 1024 := by
  obtain ⟨F, T, A, ⟨h1, h2, h3⟩, h4⟩ := h
  refine ⟨F, T, A, ⟨h1, ?_, h3⟩, h4⟩
  obtain ⟨k1, k2, k3, k4, k5, k6, k7, k8, k9, k10, k11, k12⟩ := h2
  refine ⟨k1, k2, k3, k4, k5, k6, k7, k8, k9, Nat.le_refl _, Or.inr rfl, fun dg hdg hl => ?_⟩
  have h : ∀ d, d < 10 → (1024 : Nat).testBit d = false := by decide
  rw [h dg hdg] at hl
  exact absurd hl (by decide)
