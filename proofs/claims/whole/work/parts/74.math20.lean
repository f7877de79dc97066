/-! THE CLASS'S CLAUSES -/
theorem max1 {x : Int32} : maxF 1 x = if x < 1 then 1 else x := by
  rw [maxF]
  by_cases h : (1 : Int32) < x
  · rw [if_pos h, if_neg (Int32.not_lt.mpr (Int32.le_of_lt h))]
  · rw [if_neg h]
    by_cases h2 : x < 1
    · rw [if_pos h2]
    · rw [if_neg h2]; exact Int32.le_antisymm (Int32.not_lt.mp h2) (Int32.not_lt.mp h)
theorem wrC_lo : ∀ (l : List Int32) {g : Nat → Int32} {n i : Nat}, i < n → wrC g n l i = g i
  | [], _, _, _, _ => rfl
  | e :: l, g, n, i, h => (wrC_lo l (g := upd g n e) (n := n + 1) (by omega)).trans (upd_n (by omega))
theorem wrC_at : ∀ (l : List Int32) {g : Nat → Int32} {n i : Nat}, i < l.length → wrC g n l (n + i) = l.getD i 0
  | [], _, _, _, h => absurd h (Nat.not_lt_zero _)
  | e :: l, g, n, 0, _ => (wrC_lo l (g := upd g n e) (n := n + 1) (i := n + 0) (by omega)).trans upd_s
  | e :: l, g, n, i + 1, h => by
    have h2 : i < l.length := by rw [List.length_cons] at h; omega
    have := wrC_at l (g := upd g n e) (n := n + 1) h2
    rw [show n + 1 + i = n + (i + 1) by omega] at this
    exact this
theorem flatC_snoc {l : List xFe} {f : xFe} : (l ++ [f]).flatMap flC = l.flatMap flC ++ flC f := by
  rw [List.flatMap_append, List.flatMap_cons, List.flatMap_nil, List.append_nil]
theorem TWc_feel {F : Nat → Int32} {A : Nat → Nat → Int32} {t : xT} {its : List xI} {b : Bool} {n : Nat} {v : Int32} (h : TWc F A t) (hok : okF (its, b, n)) (hl : t.2.2.length < 10) (hlen : (t.2.2.flatMap flC).length + its.length ≤ 100) (hv : v = wor (its, b, n)) :
    TWc (upd (upd F 3 (nI ((t.2.2.flatMap flC).length + (its.map encC).length))) 4 (nI (t.2.2.length + 1))) (upA (upA (upA A 1 (wrC (A 1) (t.2.2.flatMap flC).length (its.map encC))) 2 (upd (A 2) t.2.2.length v)) 3 (upd (A 3) t.2.2.length (nI ((t.2.2.flatMap flC).length + (its.map encC).length)))) (t.1, t.2.1, t.2.2 ++ [(its, b, n)]) := by
  obtain ⟨h1, h2, h3, h4, h5, h6, h7, h8, h9⟩ := h
  have efl : (t.2.2 ++ [(its, b, n)]).flatMap flC = t.2.2.flatMap flC ++ its.map encC := flatC_snoc
  have ele : ((t.2.2 ++ [(its, b, n)]).flatMap flC).length = (t.2.2.flatMap flC).length + (its.map encC).length := by rw [efl, List.length_append]
  refine ⟨?_, ?_, ?_, ?_, ?_, ?_, ?_, ?_, ?_⟩
  · rw [upd_n (by decide), upd_n (by decide)]; exact h1
  · rw [upd_n (by decide), upd_n (by decide)]; exact h2
  · intro f hf
    rcases List.mem_append.mp hf with hf | hf
    · exact h3 f hf
    · rw [List.mem_singleton.mp hf]; exact hok
  · show (t.2.2 ++ [(its, b, n)]).length ≤ 10
    rw [List.length_append, List.length_singleton]; omega
  · show _ = nI (t.2.2 ++ [(its, b, n)]).length
    rw [upd_s, List.length_append, List.length_singleton]
  · show ((t.2.2 ++ [(its, b, n)]).flatMap flC).length ≤ 100
    rw [ele, List.length_map]; exact hlen
  · show _ = nI ((t.2.2 ++ [(its, b, n)]).flatMap flC).length
    rw [upd_n (by decide), upd_s, ele]
  · intro i hi
    have hi : i < ((t.2.2 ++ [(its, b, n)]).flatMap flC).length := hi
    show _ = ((t.2.2 ++ [(its, b, n)]).flatMap flC).getD i 0
    rw [upA_n (by decide), upA_n (by decide), upA_s, efl, List.getD_eq_getElem?_getD]
    by_cases q : i < (t.2.2.flatMap flC).length
    · rw [wrC_lo _ q, h8 i q, List.getElem?_append_left q, ← List.getD_eq_getElem?_getD]
    · rw [List.getElem?_append_right (by omega)]
      have q2 : i = (t.2.2.flatMap flC).length + (i - (t.2.2.flatMap flC).length) := by omega
      have q3 := wrC_at (its.map encC) (g := A 1) (n := (t.2.2.flatMap flC).length) (i := i - (t.2.2.flatMap flC).length) (by rw [ele] at hi; omega)
      rw [← q2] at q3
      rw [q3, List.getD_eq_getElem?_getD]
  · intro c hc
    have hc : c < (t.2.2 ++ [(its, b, n)]).length := hc
    rw [List.length_append, List.length_singleton] at hc
    show _ = wor ((t.2.2 ++ [(its, b, n)]).getD c ([], true, 0)) ∧ _ = nI (((t.2.2 ++ [(its, b, n)]).take (c + 1)).flatMap flC).length
    rw [upA_s, upA_n (by decide), upA_s]
    by_cases q : c = t.2.2.length
    · subst q
      rw [upd_s, upd_s]
      refine ⟨?_, ?_⟩
      · rw [List.getD_eq_getElem?_getD, List.getElem?_append_right (Nat.le_refl _), Nat.sub_self]; exact hv
      · rw [List.take_of_length_le (by rw [List.length_append, List.length_singleton]; omega), ele]
    · have q2 : c < t.2.2.length := by omega
      rw [upd_n q, upd_n q, List.take_append_of_le_length (by omega), List.getD_eq_getElem?_getD, List.getElem?_append_left q2, ← List.getD_eq_getElem?_getD]
      exact h9 c q2
theorem TWc_gap {F : Nat → Int32} {A : Nat → Nat → Int32} {t : xT} {v : Int32} (h : TWc F A t) : TWc (upd F 5 v) A (v, t.2.1, t.2.2) := by
  obtain ⟨h1, h2, h3, h4, h5, h6, h7, h8, h9⟩ := h
  exact ⟨upd_s, (upd_n (by decide)).trans h2, h3, h4, (upd_n (by decide)).trans h5, h6, (upd_n (by decide)).trans h7, h8, h9⟩
theorem TWc_paste {F : Nat → Int32} {A : Nat → Nat → Int32} {t : xT} {v : Int32} (h : TWc F A t) : TWc (upd F 6 v) A (t.1, v, t.2.2) := by
  obtain ⟨h1, h2, h3, h4, h5, h6, h7, h8, h9⟩ := h
  exact ⟨(upd_n (by decide)).trans h1, upd_s, h3, h4, (upd_n (by decide)).trans h5, h6, (upd_n (by decide)).trans h7, h8, h9⟩
theorem gEa_f {H : Nat → Int32} {d q : Nat} : gEa H d (false, q) = (false, q, []) := by
  have h1 : gFa H d (false, q) = (false, q, []) := if_neg (fun e => Bool.noConfusion e)
  have h2 : gTa H d (false, q) = (false, q, []) := by rw [gTa, h1]; exact lpJ_x (fun e => Bool.noConfusion e.1) 100
  rw [gEa, h2]
  exact lpJ_x (fun e => Bool.noConfusion e.1) 100
theorem tell_f1 {H : Nat → Int32} {w : List Int32} {p : Nat} (h : (spelP H w (true, p)).1 = false) : tellP H w p = ((false, (spelP H w (true, p)).2), 0) := by
  rw [tellP, show spelP H w (true, p) = (false, (spelP H w (true, p)).2) from Prod.ext h rfl]
  exact figP_f
theorem tell_e {H : Nat → Int32} {w : List Int32} {p : Nat} (h : (spelP H w (true, p)).1 = true) : tellP H w p = figP H (true, (spelP H w (true, p)).2) := by
  rw [tellP, show spelP H w (true, p) = (true, (spelP H w (true, p)).2) from Prod.ext h rfl]
theorem mFig_t {H : Nat → Int32} {w : List Int32} {p : Nat} : mFig H w p = tellP H w p := rfl
theorem feel_f1 {H : Nat → Int32} {w : List Int32} {p : Nat} {b : Bool} {t : xT} (h : (spelP H w (true, p)).1 = false) : feelP H w b p t = (false, (spelP H w (true, p)).2, t) := by
  have e : muchP H w p = (false, (spelP H w (true, p)).2, []) := by rw [muchP, mFig_t, tell_f1 h]; show gEa H 5 (mustP H 32 (false, _)) = _; rw [must_f, gEa_f]
  rw [feelP, e]; rfl
theorem feel_f2 {H : Nat → Int32} {w : List Int32} {p : Nat} {b : Bool} {t : xT} (h : (spelP H w (true, p)).1 = true) (h2 : (figP H (true, (spelP H w (true, p)).2)).1.1 = false) : feelP H w b p t = (false, (figP H (true, (spelP H w (true, p)).2)).1.2, t) := by
  have e : muchP H w p = (false, (figP H (true, (spelP H w (true, p)).2)).1.2, []) := by
    rw [muchP, mFig_t, tell_e h, show (figP H (true, (spelP H w (true, p)).2)).1 = (false, (figP H (true, (spelP H w (true, p)).2)).1.2) from Prod.ext h2 rfl, must_f, gEa_f]
  rw [feelP, e]; rfl
theorem feel_f3 {H : Nat → Int32} {w : List Int32} {p : Nat} {b : Bool} {t : xT} (h : (spelP H w (true, p)).1 = true) (h2 : (figP H (true, (spelP H w (true, p)).2)).1.1 = true) (h3 : (mustP H 32 (true, (figP H (true, (spelP H w (true, p)).2)).1.2)).1 = false) : feelP H w b p t = (false, (mustP H 32 (true, (figP H (true, (spelP H w (true, p)).2)).1.2)).2, t) := by
  have e : muchP H w p = (false, (mustP H 32 (true, (figP H (true, (spelP H w (true, p)).2)).1.2)).2, []) := by
    rw [muchP, mFig_t, tell_e h, show (figP H (true, (spelP H w (true, p)).2)).1 = (true, (figP H (true, (spelP H w (true, p)).2)).1.2) from Prod.ext h2 rfl, show mustP H 32 (true, (figP H (true, (spelP H w (true, p)).2)).1.2) = (false, (mustP H 32 (true, (figP H (true, (spelP H w (true, p)).2)).1.2)).2) from Prod.ext h3 rfl, gEa_f]
  rw [feelP, e]; rfl
theorem feel_e {H : Nat → Int32} {w : List Int32} {p : Nat} {b : Bool} {t : xT} (h : (spelP H w (true, p)).1 = true) (h2 : (figP H (true, (spelP H w (true, p)).2)).1.1 = true) (h3 : (mustP H 32 (true, (figP H (true, (spelP H w (true, p)).2)).1.2)).1 = true) :
    feelP H w b p t = ((eofP H (factP H 5) (mustP H 32 (true, (figP H (true, (spelP H w (true, p)).2)).1.2)).2).1, (eofP H (factP H 5) (mustP H 32 (true, (figP H (true, (spelP H w (true, p)).2)).1.2)).2).2.1, if (eofP H (factP H 5) (mustP H 32 (true, (figP H (true, (spelP H w (true, p)).2)).1.2)).2).1 = true then (t.1, t.2.1, t.2.2 ++ [((eofP H (factP H 5) (mustP H 32 (true, (figP H (true, (spelP H w (true, p)).2)).1.2)).2).2.2, b, (figP H (true, (spelP H w (true, p)).2)).2)]) else t) := by
  have e0 : mFig H w p = figP H (true, (spelP H w (true, p)).2) := mFig_t.trans (tell_e h)
  have e : muchP H w p = eofP H (factP H 5) (mustP H 32 (true, (figP H (true, (spelP H w (true, p)).2)).1.2)).2 := by
    rw [muchP, e0, show (figP H (true, (spelP H w (true, p)).2)).1 = (true, (figP H (true, (spelP H w (true, p)).2)).1.2) from Prod.ext h2 rfl, show mustP H 32 (true, (figP H (true, (spelP H w (true, p)).2)).1.2) = (true, (mustP H 32 (true, (figP H (true, (spelP H w (true, p)).2)).1.2)).2) from Prod.ext h3 rfl]
    exact gEa_t
  rw [feelP, e, e0]
theorem spel_1 {H : Nat → Int32} {c : Int32} {w : List Int32} {p : Nat} (h : ¬ H p = c) : spelP H (c :: w) (true, p) = (false, p) := by
  show spelP H w (mustP H c (true, p)) = _
  rw [must_x h, spelP_f]
theorem clauP_go {H : Nat → Int32} {nt p : Nat} {t : xT} (hH : Hend H nt) (hp : p ≤ nt) : p ≤ (clauP H p t).2.1 ∧ (clauP H p t).2.1 ≤ nt := by
  by_cases h0 : H p = 98
  · rw [clau_98 h0]
    obtain ⟨a, b, c, -⟩ := muchP_go hH (s_ne 9 (by decide)) hp
    exact ⟨Nat.le_trans a b, c⟩
  · by_cases h1 : H p = 103
    · rw [clau_103 h0 h1]
      exact tellP_go hH (s_ne 6 (by decide)) hp
    · by_cases h2 : H p = 108
      · rw [clau_108 h0 h1 h2]
        obtain ⟨a, b, c, -⟩ := muchP_go hH (s_ne 8 (by decide)) hp
        exact ⟨Nat.le_trans a b, c⟩
      · by_cases h3 : H p = 112
        · rw [clau_112 h0 h1 h2 h3]
          exact tellP_go hH (s_ne 7 (by decide)) hp
        · rw [clau_no h0 h1 h2 h3]
          exact ⟨Nat.le_refl _, hp⟩
theorem lpC_s2 {H : Nat → Int32} {n : Nat} {r : cR} (h1 : r.1 = true) (h : H r.2.1 = 59) : lpC H (n + 1) r = lpC H n (clauP H (r.2.1 + 1) r.2.2) := if_pos ⟨h1, h⟩
