/-! MORE NUMBERS: what goes on -/
theorem upd_s {f : Nat → Int32} {k : Nat} {x : Int32} : upd f k x k = x := pk_us
theorem upd_n {f : Nat → Int32} {k j : Nat} {x : Int32} (h : j ≠ k) : upd f k x j = f j := pk_un h
def totF (X : Nat → Int32) (t : xT) (nr : Nat) : Int32 := itr (fun r a => a + (if X (1 + r) = -1 then 0 else likF X t r (X (1 + r)).toNatClampNeg)) 0 nr
def shelfF (X : Nat → Int32) (nr nb : Nat) : Int32 := itr (fun b a => a ||| (if onF X nr (nI b) then 1 <<< (nI b &&& 31) else 0)) 0 nb
def shThF (X : Nat → Int32) (nr nb : Nat) : Int32 := itr (fun b a => a + (if onF X nr (nI b) then X (5 + b) else 0)) 0 nb
def goStep (t : xT) (nr nb : Nat) (r : Nat) (q : Int32 × (Nat → Int32)) : Int32 × (Nat → Int32) := (q.1 + (if choF q.2 t nr nb r = -1 then 0 else 1), comeF q.2 t nr nb r)
def goAll (X : Nat → Int32) (t : xT) (nr nb : Nat) : Int32 × (Nat → Int32) := itr (goStep t nr nb) (0, X) nr
def goF (X : Nat → Int32) (t : xT) (nr nb : Nat) : Int32 × (Nat → Int32) := ((goAll X t nr nb).1, upd (goAll X t nr nb).2 0 ((goAll X t nr nb).2 0 + 1))
/-- n DAYS: how many took something, together; how all is then -/
def daysF (X : Nat → Int32) (t : xT) (nr nb : Nat) (n : Nat) : Int32 × (Nat → Int32) := itr (fun _ q => (q.1 + (goF q.2 t nr nb).1, (goF q.2 t nr nb).2)) (0, X) n
def wiF (v lo hi : Int32) : Int32 := if v < lo then lo else if v > hi then hi else v
def pastF (X : Nat → Int32) (r : Nat) (is : Int32) : Nat → Int32 := if X (1 + r) = -1 then X else upd X (5 + (X (1 + r)).toNatClampNeg) (wiF (X (5 + (X (1 + r)).toNatClampNeg) + (if is = 0 then -pasteF X else pasteF X)) 1 99)
theorem choF_in {X : Nat → Int32} {t : xT} {nr nb r : Nat} : choF X t nr nb r = -1 ∨ ∃ b, b < nb ∧ choF X t nr nb r = nI b := by
  have key : ∀ k, k ≤ nb → (itr (choStep X t nr r) (-1, choTop X t r) k).1 = -1 ∨ ∃ b, b < nb ∧ (itr (choStep X t nr r) (-1, choTop X t r) k).1 = nI b := by
    intro k
    induction k with
    | zero => intro _; exact Or.inl rfl
    | succ k ih =>
      intro hk
      rw [itr]
      generalize itr (choStep X t nr r) (-1, choTop X t r) k = q at ih ⊢
      rw [choStep]
      split
      · dsimp only
        generalize (if thinF X r = true then -X (5 + k) else likF X t r k) = is
        split
        · exact Or.inr ⟨k, by omega, rfl⟩
        · exact ih (by omega)
      · exact ih (by omega)
  exact key nb (Nat.le_refl _)
theorem Gd.upd_has {X : Nat → Int32} {nr nb r : Nat} {v : Int32} (h : Gd X nr nb) (hr : r < nr) (hv : v = -1 ∨ ∃ b, b < nb ∧ v = nI b) : Gd (upd X (1 + r) v) nr nb := by
  obtain ⟨⟨h1, h2, h3, h4⟩, h5, h6, h7, h8, h9⟩ := h
  refine ⟨⟨h1, h2, ?_, ?_⟩, fun q hq => ?_, fun b hb => ?_, ?_, fun q hq => ?_, fun q hq => ?_⟩
  · rw [upd_n (by omega)]; exact h3
  · rw [upd_n (by omega)]; exact h4
  · by_cases he : q = r
    · subst he; rw [upd_s]; exact hv
    · rw [upd_n (by omega)]; exact h5 q hq
  · rw [upd_n (by omega)]; exact h6 b hb
  · rw [upd_n (by omega)]; exact h7
  · rw [upd_n (by omega)]; exact h8 q hq
  · rw [upd_n (by omega)]; exact h9 q hq
theorem Gd.upd_day {X : Nat → Int32} {nr nb : Nat} {v : Int32} (h : Gd X nr nb) : Gd (upd X 0 v) nr nb := by
  obtain ⟨⟨h1, h2, h3, h4⟩, h5, h6, h7, h8, h9⟩ := h
  refine ⟨⟨h1, h2, ?_, ?_⟩, fun q hq => ?_, fun b hb => ?_, ?_, fun q hq => ?_, fun q hq => ?_⟩
  · rw [upd_n (by omega)]; exact h3
  · rw [upd_n (by omega)]; exact h4
  · rw [upd_n (by omega)]; exact h5 q hq
  · rw [upd_n (by omega)]; exact h6 b hb
  · rw [upd_n (by omega)]; exact h7
  · rw [upd_n (by omega)]; exact h8 q hq
  · rw [upd_n (by omega)]; exact h9 q hq
theorem Gd.upd_thick {X : Nat → Int32} {nr nb b : Nat} {v : Int32} (h : Gd X nr nb) (hb : b < nb) (hv : ∃ k, 1 ≤ k ∧ k ≤ 99 ∧ v = nI k) : Gd (upd X (5 + b) v) nr nb := by
  obtain ⟨⟨h1, h2, h3, h4⟩, h5, h6, h7, h8, h9⟩ := h
  refine ⟨⟨h1, h2, ?_, ?_⟩, fun q hq => ?_, fun b' hb' => ?_, ?_, fun q hq => ?_, fun q hq => ?_⟩
  · rw [upd_n (by omega)]; exact h3
  · rw [upd_n (by omega)]; exact h4
  · rw [upd_n (by omega)]; exact h5 q hq
  · by_cases he : b' = b
    · subst he; rw [upd_s]; exact hv
    · rw [upd_n (by omega)]; exact h6 b' hb'
  · rw [upd_n (by omega)]; exact h7
  · rw [upd_n (by omega)]; exact h8 q hq
  · rw [upd_n (by omega)]; exact h9 q hq
theorem RTn.congr {X Y : Nat → Int32} {a : Nat} {t : xT} (h : RTn X a t) (hXY : ∀ k, 194 ≤ k → Y k = X k) : RTn Y a t := by
  obtain ⟨h1, h2, h3, h4, h5, h6⟩ := h
  exact ⟨by rw [hXY _ (by omega)]; exact h1, by rw [hXY _ (by omega)]; exact h2, h3, h4, by rw [hXY _ (by omega)]; exact h5, fun i hi => by rw [hXY _ (by omega)]; exact h6 i hi⟩
theorem Hd.congr {X Y : Nat → Int32} {t : xT} (h : Hd X t) (h19 : Y 19 = X 19) (hXY : ∀ k, 194 ≤ k → Y k = X k) : Hd Y t := by
  rcases h with ⟨h1, h2⟩ | ⟨a, h1, h2, h3⟩
  · exact Or.inl ⟨by rw [h19]; exact h1, h2⟩
  · exact Or.inr ⟨a, h1, by rw [h19]; exact h2, h3.congr hXY⟩
theorem Hd.upd {X : Nat → Int32} {t : xT} {k : Nat} {v : Int32} (h : Hd X t) (hk : k < 19) : Hd (upd X k v) t := h.congr (upd_n (by omega)) (fun j hj => upd_n (by omega))
theorem Gd.come {X : Nat → Int32} {t : xT} {nr nb r : Nat} (h : Gd X nr nb) (hr : r < nr) : Gd (comeF X t nr nb r) nr nb := by
  refine h.upd_has hr ?_
  split
  · exact h.2.1 r hr
  · exact choF_in
theorem Hd.come {X : Nat → Int32} {t : xT} {nr nb r : Nat} (h : Hd X t) (h4 : nr ≤ 4) (hr : r < nr) : Hd (comeF X t nr nb r) t := h.upd (by omega)
theorem goAll_ok {X : Nat → Int32} {t : xT} {nr nb : Nat} (hG : Gd X nr nb) (hT : Hd X t) : ∀ k, k ≤ nr → Gd (itr (goStep t nr nb) (0, X) k).2 nr nb ∧ Hd (itr (goStep t nr nb) (0, X) k).2 t := by
  intro k
  induction k with
  | zero => intro _; exact ⟨hG, hT⟩
  | succ k ih =>
    intro hk
    obtain ⟨i1, i2⟩ := ih (by omega)
    exact ⟨i1.come (by omega), i2.come hG.r4 (by omega)⟩
theorem Gd.go {X : Nat → Int32} {t : xT} {nr nb : Nat} (h : Gd X nr nb) (hT : Hd X t) : Gd (goF X t nr nb).2 nr nb := (goAll_ok h hT nr (Nat.le_refl _)).1.upd_day
theorem Hd.go {X : Nat → Int32} {t : xT} {nr nb : Nat} (hT : Hd X t) (h : Gd X nr nb) : Hd (goF X t nr nb).2 t := (goAll_ok h hT nr (Nat.le_refl _)).2.upd (by omega)
theorem days_ok {X : Nat → Int32} {t : xT} {nr nb : Nat} (hG : Gd X nr nb) (hT : Hd X t) : ∀ k, Gd (daysF X t nr nb k).2 nr nb ∧ Hd (daysF X t nr nb k).2 t := by
  intro k
  induction k with
  | zero => exact ⟨hG, hT⟩
  | succ k ih => exact ⟨ih.1.go ih.2, ih.2.go ih.1⟩
theorem wiF_in {v : Int32} : ∃ k, 1 ≤ k ∧ k ≤ 99 ∧ wiF v 1 99 = nI k := by
  rw [wiF]
  split
  · exact ⟨1, by omega, by omega, rfl⟩
  · split
    · exact ⟨99, by omega, by omega, rfl⟩
    · next h1 h2 =>
      have h1 : ¬ v < 1 := h1
      have h2 : ¬ 99 < v := h2
      have h0 : ¬ v < 0 := fun q => h1 (by rw [Int32.lt_iff_toInt_lt] at q ⊢; have e0 : (0 : Int32).toInt = 0 := by decide
                                           have e1 : (1 : Int32).toInt = 1 := by decide
                                           omega)
      obtain ⟨j, hj, rfl⟩ := nI_of h0
      have e1 : (1 : Int32) = nI 1 := rfl
      have e99 : (99 : Int32) = nI 99 := rfl
      rw [e1, nI_ltI hj (by omega)] at h1
      rw [e99, nI_ltI (by omega) hj] at h2
      exact ⟨j, by omega, by omega, rfl⟩
theorem Gd.past {X : Nat → Int32} {nr nb r : Nat} {is : Int32} (h : Gd X nr nb) (hr : r < nr) : Gd (pastF X r is) nr nb := by
  rw [pastF]
  split
  · exact h
  · next hc =>
    obtain ⟨b, hb, he⟩ := h.has hr hc
    rw [he, nI_clamp (by have := h.b7; omega)]
    exact h.upd_thick hb wiF_in
theorem Hd.past {X : Nat → Int32} {t : xT} {nr nb r : Nat} {is : Int32} (hT : Hd X t) (h : Gd X nr nb) (hr : r < nr) : Hd (pastF X r is) t := by
  rw [pastF]
  split
  · exact hT
  · next hc =>
    obtain ⟨b, hb, he⟩ := h.has hr hc
    rw [he, nI_clamp (by have := h.b7; omega)]
    exact hT.upd (by have := h.b7; omega)
