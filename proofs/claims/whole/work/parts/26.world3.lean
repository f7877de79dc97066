/-! THE CLASS'S WORLD goes on -/
theorem sh1_all : ∀ d : Fin 31, (1 : Int32) <<< (nI d &&& 31) = nI (2 ^ (d : Nat)) := by decide +kernel
theorem sh1 {d : Nat} (h : d < 31) : (1 : Int32) <<< (nI d &&& 31) = nI (2 ^ d) := sh1_all ⟨d, h⟩
theorem smd_all : ∀ d : Fin 31, ((nI d &&& 31 : Int32).toBitVec.smod 32).toNat = d := by decide +kernel
theorem shrN {d a : Nat} (h : d < 31) (ha : a < 2 ^ 31) : nI a >>> (nI d &&& 31) = nI (a / 2 ^ d) := pk_shrN ha _ d (smd_all ⟨d, h⟩)
theorem nI_or (a b : Nat) : nI a ||| nI b = nI (a ||| b) := by
  apply Int32.toBitVec_inj.mp
  show BitVec.ofNat 32 a ||| BitVec.ofNat 32 b = BitVec.ofNat 32 (a ||| b)
  exact (BitVec.ofNat_or).symm
theorem and1 (a : Nat) (ha : a < 2 ^ 31) : nI a &&& 1 = nI (a % 2) := pk_andN (by omega) (m := 1) 1 (by decide)
theorem tb_iff {a d : Nat} : a / 2 ^ d % 2 = 0 ↔ a.testBit d = false := by
  rw [Nat.testBit_eq_decide_div_mod_eq]
  simp only [decide_eq_false_iff_not]
  omega
theorem tb_or {ln d e : Nat} : (ln ||| 2 ^ d).testBit e = true ↔ ln.testBit e = true ∨ d = e := by
  rw [Nat.testBit_or, Nat.testBit_two_pow]
  simp
theorem lt_or {ln d : Nat} (h : ln < 1024) (hd : d < 10) : ln ||| 2 ^ d < 1024 := Nat.or_lt_two_pow (n := 10) h (Nat.lt_of_lt_of_le (Nat.pow_lt_pow_right (by decide) hd) (by decide))
/-- the class's World at w is X, its TOWN at tw is t; ln: the last digits of DAYS that are learned -/
def WX (σ : xS) (w tw : Nat) (X : Nat → Int32) (nr nb : Nat) (t : xT) (ln : Nat) : Prop := ∃ F T A, WB σ w X nr nb t F T A ln ∧ T 12 = tw
/-- and the DAY is dy, which is learned -/
def WL (σ : xS) (w tw : Nat) (X : Nat → Int32) (nr nb : Nat) (t : xT) (dy : Nat) : Prop := ∃ ln, WX σ w tw X nr nb t ln ∧ dy ≤ 20000 ∧ X 0 = nI dy ∧ ln.testBit (dy % 10) = true
theorem WX.off {σ σ1 : xS} {o w tw : Nat} {X : Nat → Int32} {nr nb : Nat} {t : xT} {ln : Nat} (h : WX σ w tw X nr nb t ln) (ho : Off o σ σ1) (hne : w ≠ o) (hne2 : tw ≠ o) : WX σ1 w tw X nr nb t ln := by
  obtain ⟨F, T, A, h1, h2⟩ := h
  exact ⟨F, T, A, h1.off ho hne (by rw [h2]; exact hne2), h2⟩
theorem WL.off {σ σ1 : xS} {o w tw : Nat} {X : Nat → Int32} {nr nb : Nat} {t : xT} {dy : Nat} (h : WL σ w tw X nr nb t dy) (ho : Off o σ σ1) (hne : w ≠ o) (hne2 : tw ≠ o) : WL σ1 w tw X nr nb t dy := by
  obtain ⟨ln, h1, h2⟩ := h
  exact ⟨ln, h1.off ho hne hne2, h2⟩
theorem orN_5 {X : Nat → Int32} {t : xT} {nr nb r : Nat} (hb : nb ≤ 7) : orN (choF X t nr nb r) = -5 ↔ choF X t nr nb r = -1 := by
  rcases choF_in (X := X) (t := t) (nr := nr) (nb := nb) (r := r) with q | ⟨b, hb', q⟩
  · rw [q]; exact ⟨fun _ => rfl, fun _ => rfl⟩
  · rw [q, orN_nI (by omega)]
    exact ⟨fun h => absurd h (nI_nm5 (by omega)), fun h => absurd h (nI_nm1 (by omega))⟩
theorem upd_self {f : Nat → Int32} {k : Nat} : upd f k (f k) = f := by
  funext j
  by_cases h : j = k
  · subst h; rw [upd_s]
  · rw [upd_n h]
theorem subD_has {X : Nat → Int32} {r b dg k : Nat} {v : Int32} (hk : k < 5) : subD (upd X k v) r b dg = subD X r b dg := by
  funext i
  match i with
  | 0 => rfl
  | 1 => exact upd_n (by omega)
  | 2 => exact upd_n (by omega)
  | 3 => rfl
  | 4 => show upd X k v (5 + b) / 10 = _; rw [upd_n (by omega)]; rfl
  | i + 5 => rfl
/-- one HAS another BOOK -/
theorem RWc.set_has {F : Nat → Int32} {A : Nat → Nat → Int32} {X : Nat → Int32} {nr nb : Nat} {t : xT} {ln r : Nat} {v : Int32} (h : RWc F A X nr nb t ln) (hr : r < 4) : RWc F (upA A 4 (upd (A 4) r (orN v))) (upd X (1 + r) v) nr nb t ln := by
  obtain ⟨h1, h2, h3, h4, h5, h6, h7, h8, h9, h10, h11, h12⟩ := h
  refine ⟨fun b hb => ?_, fun q hq => ?_, fun q hq => ?_, fun q hq => ?_, fun q hq => ?_, h6, h7, ?_, ?_, h10, h11, fun dg hdg hl q hq b hb => ?_⟩
  · rw [upA_n (by omega), upd_n (by omega)]; exact h1 b hb
  · rw [upA_n (by omega), upd_n (by omega)]; exact h2 q hq
  · rw [upA_n (by omega), upd_n (by omega)]; exact h3 q hq
  · rw [upA_s]
    by_cases e : q = r
    · subst e; rw [upd_s, upd_s]
    · rw [upd_n e, upd_n (by omega)]; exact h4 q hq
  · rw [upA_n (by omega), upd_n (by omega)]; exact h5 q hq
  · rw [upd_n (by omega)]; exact h8
  · rw [upd_n (by omega)]; exact h9
  · rw [upA_n (by omega), subD_has (by omega)]; exact h12 dg hdg hl q hq b hb
