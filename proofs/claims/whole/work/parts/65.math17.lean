/-! ONE READER MORE in the class's World -/
theorem en_x {X : Nat → Int32} {nr j : Nat} {a b c d : Int32} : (upd (upd (upd (upd X (20 + nr) a) (24 + nr) b) (1 + nr) c) 12 d) j = if j = 12 then d else if j = 1 + nr then c else if j = 24 + nr then b else if j = 20 + nr then a else X j := rfl
theorem RWc.enter {F : Nat → Int32} {A : Nat → Nat → Int32} {X : Nat → Int32} {nr nb : Nat} {t : xT} {k v : Int32} (h : RWc F A X nr nb t 1024) (hn : nr < 4) (hb7 : nb ≤ 7) : RWc (upd F 9 (nI (nr + 1))) (upA (upA (upA A 2 (upd (A 2) nr k)) 3 (upd (A 3) nr v)) 4 (upd (A 4) nr (-5))) (upd (upd (upd (upd X (20 + nr) k) (24 + nr) v) (1 + nr) (-1)) 12 (nI (nr + 1))) (nr + 1) nb t 1024 := by
  obtain ⟨h1, h2, h3, h4, h5, h6, h7, h8, h9, h10, h11, h12⟩ := h
  refine ⟨fun b hb => ?_, fun q hq => ?_, fun q hq => ?_, fun q hq => ?_, fun q hq => ?_, h6, rfl, ?_, ?_, Nat.le_refl _, Or.inr rfl, fun dg hdg hl => ?_⟩
  · rw [en_x, if_neg (by omega), if_neg (by omega), if_neg (by omega), if_neg (by omega)]; exact h1 b hb
  · show upd (A 2) nr k q = _
    by_cases e : q = nr
    · subst e; rw [en_x, if_neg (by omega), if_neg (by omega), if_neg (by omega), if_pos rfl, upd_s]
    · rw [en_x, if_neg (by omega), if_neg (by omega), if_neg (by omega), if_neg (by omega), upd_n e]; exact h2 q hq
  · show upd (A 3) nr v q = _
    by_cases e : q = nr
    · subst e; rw [en_x, if_neg (by omega), if_neg (by omega), if_pos rfl, upd_s]
    · rw [en_x, if_neg (by omega), if_neg (by omega), if_neg (by omega), if_neg (by omega), upd_n e]; exact h3 q hq
  · show upd (A 4) nr (-5) q = _
    by_cases e : q = nr
    · subst e; rw [en_x, if_neg (by omega), if_pos rfl, upd_s]; rfl
    · rw [en_x, if_neg (by omega), if_neg (by omega), if_neg (by omega), if_neg (by omega), upd_n e]; exact h4 q (by omega)
  · rw [en_x, if_neg (by omega), if_neg (by omega), if_neg (by omega), if_neg (by omega)]; exact h5 q hq
  · rw [en_x, if_neg (by omega), if_neg (by omega), if_neg (by omega), if_neg (by omega)]; exact h8
  · rw [en_x, if_neg (by omega), if_neg (by omega), if_neg (by omega), if_neg (by omega)]; exact h9
  · have h : ∀ d, d < 10 → (1024 : Nat).testBit d = false := by decide
    rw [h dg hdg] at hl
    exact absurd hl (by decide)
theorem Gd.enter {X : Nat → Int32} {nr nb k v : Nat} (h : Gd X nr nb) (hn : nr < 4) (hk : k ≤ 6) (hv : v ≤ 9) : Gd (upd (upd (upd (upd X (20 + nr) (nI k)) (24 + nr) (nI v)) (1 + nr) (-1)) 12 (nI (nr + 1))) (nr + 1) nb := by
  obtain ⟨⟨h1, h2, h3, h4⟩, h5, h6, h7, h8, h9⟩ := h
  refine ⟨⟨by omega, h2, upd_s, ?_⟩, fun r hr => ?_, fun b hb => ?_, ?_, fun r hr => ?_, fun r hr => ?_⟩
  · rw [en_x, if_neg (by omega), if_neg (by omega), if_neg (by omega), if_neg (by omega)]; exact h4
  · by_cases e : r = nr
    · subst e; rw [en_x, if_neg (by omega), if_pos rfl]; exact Or.inl rfl
    · rw [en_x, if_neg (by omega), if_neg (by omega), if_neg (by omega), if_neg (by omega)]; exact h5 r (by omega)
  · rw [en_x, if_neg (by omega), if_neg (by omega), if_neg (by omega), if_neg (by omega)]; exact h6 b hb
  · rw [en_x, if_neg (by omega), if_neg (by omega), if_neg (by omega), if_neg (by omega)]; exact h7
  · by_cases e : r = nr
    · subst e; rw [en_x, if_neg (by omega), if_neg (by omega), if_neg (by omega), if_pos rfl]; exact ⟨k, hk, rfl⟩
    · rw [en_x, if_neg (by omega), if_neg (by omega), if_neg (by omega), if_neg (by omega)]; exact h8 r (by omega)
  · by_cases e : r = nr
    · subst e; rw [en_x, if_neg (by omega), if_neg (by omega), if_pos rfl]; exact ⟨v, hv, rfl⟩
    · rw [en_x, if_neg (by omega), if_neg (by omega), if_neg (by omega), if_neg (by omega)]; exact h9 r (by omega)
theorem Hd_enter {X : Nat → Int32} {t : xT} {nr : Nat} {a b c d : Int32} (h : Hd X t) (hn : nr < 4) : Hd (upd (upd (upd (upd X (20 + nr) a) (24 + nr) b) (1 + nr) c) 12 d) t := h.congr (by rw [en_x, if_neg (by omega), if_neg (by omega), if_neg (by omega), if_neg (by omega)]) (fun j hj => by rw [en_x, if_neg (by omega), if_neg (by omega), if_neg (by omega), if_neg (by omega)])
