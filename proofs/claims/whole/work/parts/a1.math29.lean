/-! TOWNS: what is kept -/
def ptP (t : xT) : Prop := ∃ n, 1 ≤ n ∧ n ≤ 99 ∧ t.2.1 = nI n
theorem ptP_0 : ptP tow0 := ⟨5, by decide, by decide, rfl⟩
theorem feel_pt {H : Nat → Int32} {w : List Int32} {b : Bool} {p : Nat} {t : xT} (h : ptP t) : ptP (feelP H w b p t).2.2 := by
  rw [feelP]
  dsimp only
  split
  · exact h
  · exact h
theorem clauP_pt {H : Nat → Int32} {p : Nat} {t : xT} (h : ptP t) : ptP (clauP H p t).2.2 := by
  by_cases h0 : H p = 98
  · rw [clau_98 h0]; exact feel_pt h
  · by_cases h1 : H p = 103
    · rw [clau_103 h0 h1]; dsimp only; split
      · exact h
      · exact h
    · by_cases h2 : H p = 108
      · rw [clau_108 h0 h1 h2]; exact feel_pt h
      · by_cases h3 : H p = 112
        · rw [clau_112 h0 h1 h2 h3]
          dsimp only
          split
          · have h99 : (tellP H (sByt 7) p).2 < 100 := figP_99
            by_cases k : (tellP H (sByt 7) p).2 = 0
            · refine ⟨1, by decide, by decide, ?_⟩
              show (if nI (tellP H (sByt 7) p).2 < 1 then 1 else nI (tellP H (sByt 7) p).2) = nI 1
              rw [k, if_pos (by decide)]; rfl
            · refine ⟨(tellP H (sByt 7) p).2, by omega, by omega, ?_⟩
              show (if nI (tellP H (sByt 7) p).2 < 1 then 1 else nI (tellP H (sByt 7) p).2) = _
              rw [if_neg (by rw [Int32.lt_iff_toInt_lt, nI_toInt (by omega)]; have l1_ : (1 : Int32).toInt = 1 := by decide
                             omega)]
          · exact h
        · rw [clau_no h0 h1 h2 h3]; exact h
theorem lpC_pt {H : Nat → Int32} : ∀ n (r : cR), ptP r.2.2 → ptP (lpC H n r).2.2
  | 0, _, h => h
  | n + 1, r, h => by
    rw [lpC]
    split
    · exact lpC_pt n _ (clauP_pt h)
    · exact h
theorem towP_pt {H : Nat → Int32} : ptP (towP H).2.2 := lpC_pt 9 _ (clauP_pt ptP_0)
theorem sl_lo {a j : Nat} (h : j < 194) : ¬ slotA a j := by rw [slotA]; omega
theorem sl_hi {a j : Nat} (ha : a < 5) (h : 909 ≤ j) : ¬ slotA a j := by rw [slotA]; omega
theorem RTn.oth {X Y : Nat → Int32} {a b : Nat} {t : xT} (ha : a < 5) (hb : b < 5) (hne : a ≠ b) (h : RTn X a t) (e : ∀ j, 194 ≤ j → ¬ slotA b j → Y j = X j) : RTn Y a t := by
  obtain ⟨h1, h2, h3, h4, h5, h6⟩ := h
  have f1 : Y (194 + a) = X (194 + a) := e _ (by omega) (by rw [slotA]; omega)
  have f2 : Y (199 + a) = X (199 + a) := e _ (by omega) (by rw [slotA]; omega)
  have f3 : Y (204 + a) = X (204 + a) := e _ (by omega) (by rw [slotA]; omega)
  refine ⟨f1.trans h1, by rw [f2]; exact h2, h3, h4, f3.trans h5, fun i hi => ?_⟩
  rw [e _ (by omega) (by rw [slotA]; omega)]
  exact h6 i hi
section TWN
variable {X X1 : Nat → Int32} {nr nb ns np nn nt na dy : Nat} {t : xT} {z : Int32}
theorem OK.town (h : OK X nr nb t ns np nn nt na dy) (hW : okW X) (hlt : na < 5) (hT : TWR X X1 nt na z) (hok : townOk X nt) : (OK X1 nr nb (towP (tapeH X nt)).2.2 ns np nn 0 (na + 1) dy ∧ okW X1 ∧ okPt X1) ∧ hi9 X X1 ∧ (∀ j, j < 194 → j ≠ 18 → j ≠ 14 → j ≠ 19 → X1 j = X j) ∧ X1 14 = nI (na + 1) ∧ z = nI na := by
  obtain ⟨e18, eo, hc⟩ := hT
  rcases hc with ⟨-, hz, e14, e19, hRT⟩ | ⟨hno, -⟩
  · have ex : ∀ j, j < 194 → j ≠ 18 → j ≠ 14 → j ≠ 19 → X1 j = X j := fun j h1 h2 h3 h4 => eo j (sl_lo h1) h2 h3 h4
    obtain ⟨hG, hH, h3, h4, h5, h6, h7, h8, h9, h10⟩ := h
    have r4 := hG.r4
    obtain ⟨⟨g1, g2, g3, g4⟩, g5, g6, g7, g8, g9⟩ := id hG
    have b7 : nb ≤ 7 := g2
    have r4' : nr ≤ 4 := g1
    have hG1 : Gd X1 nr nb := by
      refine ⟨⟨g1, g2, ?_, ?_⟩, fun r hr => ?_, fun b hb => ?_, Or.inr ⟨na, hlt, e19⟩, fun r hr => ?_, fun r hr => ?_⟩
      · rw [ex _ (by omega) (by omega) (by omega) (by omega)]; exact g3
      · rw [ex _ (by omega) (by omega) (by omega) (by omega)]; exact g4
      · rw [ex _ (by omega) (by omega) (by omega) (by omega)]; exact g5 r hr
      · rw [ex _ (by omega) (by omega) (by omega) (by omega)]; exact g6 b hb
      · rw [ex _ (by omega) (by omega) (by omega) (by omega)]; exact g8 r hr
      · rw [ex _ (by omega) (by omega) (by omega) (by omega)]; exact g9 r hr
    have hT1 : Hd X1 (towP (tapeH X nt)).2.2 := Or.inr ⟨na, hlt, e19, hRT⟩
    refine ⟨⟨⟨hG1, hT1, h3.cg2 (Nat.le_refl _) (fun j hj => ex _ (by omega) (by omega) (by omega) (by omega)), h4.cg (Nat.le_refl _) (fun j hj => ex _ (by omega) (by omega) (by omega) (by omega)), h5.cg (Nat.le_refl _) (Nat.le_refl _) (fun j hj => ex _ (by omega) (by omega) (by omega) (by omega)), ⟨by omega, e18, fun k hk => absurd hk (Nat.not_lt_zero k)⟩, ⟨by omega, e14, Or.inr ⟨na, Nat.lt_succ_self na, e19⟩⟩, h8.cg r4 (fun j _ _ => ex _ (by omega) (by omega) (by omega) (by omega)), h9.cg (fun j _ _ => ex _ (by omega) (by omega) (by omega) (by omega)), h10.1, (ex 0 (by omega) (by omega) (by omega) (by omega)).trans h10.2⟩, hW.cg (fun j _ _ => ex _ (by omega) (by omega) (by omega) (by omega)), ?_⟩, fun j hj => eo j (sl_hi hlt hj) (by omega) (by omega) (by omega), ex, e14, hz⟩
    obtain ⟨n, n1, n9, ne⟩ := towP_pt (H := tapeH X nt)
    exact ⟨n, n1, n9, hT1.paste.trans ne⟩
  · exact absurd hok hno
theorem OK.town0 (h : OK X nr nb t ns np nn nt na dy) (hW : okW X) (hp9 : okPt X) (hlt : na < 5) (hT : TWR X X1 nt na z) (hok : ¬ townOk X nt) : (OK X1 nr nb t ns np nn 0 na dy ∧ okW X1 ∧ okPt X1) ∧ hi9 X X1 ∧ (∀ j, j < 194 → j ≠ 18 → X1 j = X j) ∧ Hd X1 t ∧ z = -10 - nI (towP (tapeH X nt)).2.1 := by
  obtain ⟨e18, eo, hc⟩ := hT
  rcases hc with ⟨hy, -⟩ | ⟨-, hz, e14, e19⟩
  · exact absurd hy hok
  · have ex : ∀ j, j < 194 → j ≠ 18 → X1 j = X j := fun j h1 h2 => by
      by_cases q14 : j = 14
      · rw [q14]; exact e14
      · by_cases q19 : j = 19
        · rw [q19]; exact e19
        · exact eo j (sl_lo h1) h2 q14 q19
    obtain ⟨hG, hH, h3, h4, h5, h6, h7, h8, h9, h10⟩ := h
    have r4 := hG.r4
    have hH1 : Hd X1 t := by
      rcases hH with ⟨q1, q2⟩ | ⟨a, ha, q1, q2⟩
      · exact Or.inl ⟨e19.trans q1, q2⟩
      · refine Or.inr ⟨a, ha, e19.trans q1, ?_⟩
        have hne : a ≠ na := by
          rcases h7.2.2 with q | ⟨a', ha', q⟩
          · rw [q] at q1; exact absurd q1.symm (nI_nm1 (by omega))
          · have := (nI_eq (show a < 2 ^ 31 by omega) (show a' < 2 ^ 31 by omega)).mp (q1.symm.trans q)
            omega
        exact q2.oth ha hlt hne (fun j hj hs => eo j hs (by omega) (by omega) (by omega))
    refine ⟨⟨⟨hG.cg (fun j hj => ex _ (by omega) (by omega)), hH1, h3.cg2 (Nat.le_refl _) (fun j hj => ex _ (by omega) (by omega)), h4.cg (Nat.le_refl _) (fun j hj => ex _ (by omega) (by omega)), h5.cg (Nat.le_refl _) (Nat.le_refl _) (fun j hj => ex _ (by omega) (by omega)), ⟨by omega, e18, fun k hk => absurd hk (Nat.not_lt_zero k)⟩, h7.cg (fun j hj => ex _ (by omega) (by omega)), h8.cg r4 (fun j _ _ => ex _ (by omega) (by omega)), h9.cg (fun j _ _ => ex _ (by omega) (by omega)), h10.1, (ex 0 (by omega) (by omega)).trans h10.2⟩, hW.cg (fun j _ _ => ex _ (by omega) (by omega)), ?_⟩, fun j hj => eo j (sl_hi hlt hj) (by omega) (by omega) (by omega), ex, hH1, hz⟩
    obtain ⟨n, n1, n9, ne⟩ := hp9
    exact ⟨n, n1, n9, (hH1.paste.trans hH.paste.symm).trans ne⟩
end TWN
theorem RPc.tape0 {F : Nat → Int32} {A : Nat → Nat → Int32} {X X1 : Nat → Int32} {ns np nn nt : Nat} (h : RPc F A X ns np nn nt) (h1 : ns ≤ 6) (h2 : np ≤ 8) (h3 : nn ≤ 8) (e : ∀ j, 44 ≤ j → j < 94 → X1 j = X j) : RPc (upd F 8 0) A X1 ns np nn 0 := by
  obtain ⟨e1, e2, e3, e4, e5, e6, e7, e8⟩ := h
  refine ⟨upd_s, (upd_n (by decide)).trans e2, (upd_n (by decide)).trans e3, (upd_n (by decide)).trans e4, fun k hk => absurd hk (Nat.not_lt_zero k), fun k hk => ?_, fun k hk => ?_, fun k hk => ?_⟩
  · rw [e _ (by omega) (by omega), e _ (by omega) (by omega), e _ (by omega) (by omega)]; exact e6 k hk
  · rw [e _ (by omega) (by omega), e _ (by omega) (by omega)]; exact e7 k hk
  · rw [e _ (by omega) (by omega), e _ (by omega) (by omega)]; exact e8 k hk
theorem TWc_0 : TWc F4i Z1 tow0 := ⟨rfl, rfl, fun f hf => absurd hf (List.not_mem_nil), Nat.zero_le _, rfl, Nat.zero_le _, rfl, fun i hi => absurd hi (Nat.not_lt_zero i), fun c hc => absurd hc (Nat.not_lt_zero c)⟩
theorem tape_sg {X : Nat → Int32} {nt : Nat} (h : okT X nt) (q : Nat) : isSg (tapeH X nt q) := by
  rw [tapeH]
  by_cases hq : q < nt
  · rw [if_pos hq]
    obtain ⟨c, hc, e⟩ := h.2.2 q hq
    exact Or.inr ⟨c, by omega, e⟩
  · rw [if_neg hq]; exact Or.inl rfl
theorem tb1024 : ∀ d, d < 10 → (1024 : Nat).testBit d = false := by decide
theorem WX.tw0 {σ : xS} {w tw : Nat} {X X1 : Nat → Int32} {nr nb : Nat} {t : xT} (h : WX σ w tw X nr nb t 1024) (e : ∀ j, j < 194 → j ≠ 18 → X1 j = X j) (hG : Gd X1 nr nb) (hH : Hd X1 t) : WX σ w tw X1 nr nb t 1024 := by
  obtain ⟨F, T, A, ⟨h1, h2, h3, h4, h5, -⟩, h7⟩ := h
  have r4 := hG.r4
  have b7 := hG.b7
  obtain ⟨k1, k2, k3, k4, k5, k6, k7, k8, k9, k10, k11, k12⟩ := h2
  refine ⟨F, T, A, ⟨h1, ⟨fun b hb => ?_, fun r hr => ?_, fun r hr => ?_, fun r hr => ?_, fun r hr => ?_, k6, k7, ?_, ?_, k10, k11, fun dg hdg hl => ?_⟩, h3, h4, hG, hH⟩, h7⟩
  · rw [e _ (by omega) (by omega)]; exact k1 b hb
  · rw [e _ (by omega) (by omega)]; exact k2 r hr
  · rw [e _ (by omega) (by omega)]; exact k3 r hr
  · rw [e _ (by omega) (by omega)]; exact k4 r hr
  · rw [e _ (by omega) (by omega)]; exact k5 r hr
  · rw [e _ (by omega) (by omega)]; exact k8
  · rw [e _ (by omega) (by omega)]; exact k9
  · rw [tb1024 dg hdg] at hl; exact absurd hl (by decide)
