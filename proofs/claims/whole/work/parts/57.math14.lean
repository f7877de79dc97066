/-! CLAUSES AND THE TOWN -/
abbrev cR : Type := Bool × Nat × xT
def tellP (H : Nat → Int32) (w : List Int32) (p : Nat) : (Bool × Nat) × Nat := figP H (spelP H w (true, p))
def mFig (H : Nat → Int32) (w : List Int32) (p : Nat) : (Bool × Nat) × Nat := figP H (spelP H w (true, p))
def muchP (H : Nat → Int32) (w : List Int32) (p : Nat) : pR := gEa H 5 (mustP H 32 (mFig H w p).1)
def feelP (H : Nat → Int32) (w : List Int32) (b : Bool) (p : Nat) (t : xT) : cR := ((muchP H w p).1, (muchP H w p).2.1, if (muchP H w p).1 = true then (t.1, t.2.1, t.2.2 ++ [((muchP H w p).2.2, b, (mFig H w p).2)]) else t)
def clauP (H : Nat → Int32) (p : Nat) (t : xT) : cR :=
  if H p = 98 then feelP H [98, 111, 114, 101, 32] false p t
  else if H p = 103 then ((tellP H [103, 97, 112, 32] p).1.1, (tellP H [103, 97, 112, 32] p).1.2, if (tellP H [103, 97, 112, 32] p).1.1 = true then (nI (tellP H [103, 97, 112, 32] p).2, t.2.1, t.2.2) else t)
  else if H p = 108 then feelP H [108, 111, 118, 101, 32] true p t
  else if H p = 112 then ((tellP H [112, 97, 115, 116, 101, 32] p).1.1, (tellP H [112, 97, 115, 116, 101, 32] p).1.2, if (tellP H [112, 97, 115, 116, 101, 32] p).1.1 = true then (t.1, (if nI (tellP H [112, 97, 115, 116, 101, 32] p).2 < 1 then 1 else nI (tellP H [112, 97, 115, 116, 101, 32] p).2), t.2.2) else t)
  else (false, p, t)
def lpC (H : Nat → Int32) : Nat → cR → cR
  | 0, r => r
  | n + 1, r => if r.1 = true ∧ H r.2.1 = 59 then lpC H n (clauP H (r.2.1 + 1) r.2.2) else r
def towP (H : Nat → Int32) : cR := lpC H 9 (clauP H 0 tow0)
/-! where the place goes -/
theorem spelP_go {H : Nat → Int32} {nt : Nat} (hH : Hend H nt) : ∀ (w : List Int32) (s : Bool × Nat), (∀ c ∈ w, c ≠ -1) → s.2 ≤ nt → s.2 ≤ (spelP H w s).2 ∧ (spelP H w s).2 ≤ nt
  | [], s, _, hs => ⟨Nat.le_refl _, hs⟩
  | c :: w, s, hw, hs => by
    obtain ⟨h1, h2⟩ := mustP_go hH (hw c (List.mem_cons_self ..)) hs
    obtain ⟨h3, h4⟩ := spelP_go hH w (mustP H c s) (fun c hc => hw c (List.mem_cons_of_mem _ hc)) h2
    exact ⟨Nat.le_trans h1 h3, h4⟩
theorem spelP_f {H : Nat → Int32} {p : Nat} : ∀ (w : List Int32), spelP H w (false, p) = (false, p)
  | [] => rfl
  | c :: w => by
    show spelP H w (mustP H c (false, p)) = _
    rw [must_f, spelP_f w]
theorem figP_f {H : Nat → Int32} {p : Nat} : figP H (false, p) = ((false, p), 0) := if_neg (fun q => Bool.noConfusion q.1)
theorem tellP_go {H : Nat → Int32} {nt p : Nat} (hH : Hend H nt) {w : List Int32} (hw : ∀ c ∈ w, c ≠ -1) (hp : p ≤ nt) : p ≤ (tellP H w p).1.2 ∧ (tellP H w p).1.2 ≤ nt := by
  obtain ⟨h1, h2⟩ := spelP_go hH w (true, p) hw hp
  obtain ⟨h3, h4, -⟩ := figP_go hH h2
  exact ⟨Nat.le_trans h1 h3, h4⟩
theorem muchP_go {H : Nat → Int32} {nt p : Nat} (hH : Hend H nt) {w : List Int32} (hw : ∀ c ∈ w, c ≠ -1) (hp : p ≤ nt) : p ≤ (mustP H 32 (mFig H w p).1).2 ∧ (mustP H 32 (mFig H w p).1).2 ≤ (muchP H w p).2.1 ∧ (muchP H w p).2.1 ≤ nt ∧ (muchP H w p).2.2.length + (mustP H 32 (mFig H w p).1).2 ≤ (muchP H w p).2.1 := by
  obtain ⟨h1, h2⟩ := tellP_go hH hw hp
  obtain ⟨h3, h4⟩ := mustP_go hH (c := 32) (by decide) (s := (mFig H w p).1) h2
  obtain ⟨h5, h6, -, h7⟩ := gEa_go (d := 5) hH (s := mustP H 32 (mFig H w p).1) h4
  exact ⟨Nat.le_trans h1 h3, h5, h6, h7⟩
theorem must_adv {H : Nat → Int32} {c : Int32} {s : Bool × Nat} (h : (mustP H c s).1 = true) : s.1 = true ∧ (mustP H c s).2 = s.2 + 1 := by
  rw [mustP] at h ⊢
  by_cases q : s.1 = true ∧ H s.2 = c
  · rw [if_pos q]; exact ⟨q.1, rfl⟩
  · rw [if_neg q] at h; exact Bool.noConfusion h
theorem gFa_ok {H : Nat → Int32} {d : Nat} {s : Bool × Nat} (h : (gFa H d s).1 = true) : s.1 = true := by
  rw [gFa] at h
  by_cases q : s.1 = true
  · exact q
  · rw [if_neg q] at h; exact Bool.noConfusion h
theorem lpJ_ok {H : Nat → Int32} {f : Nat → pR} {c : Int32} {op : Nat} : ∀ (n : Nat) (r : pR), (lpJ H f c op n r).1 = true → r.1 = true
  | 0, r, h => h
  | n + 1, r, h => by
    rw [lpJ] at h
    by_cases q : r.1 = true ∧ H r.2.1 = c
    · exact q.1
    · rw [if_neg q] at h; exact h
theorem gEa_ok {H : Nat → Int32} {d : Nat} {s : Bool × Nat} (h : (gEa H d s).1 = true) : s.1 = true := gFa_ok (lpJ_ok _ _ (lpJ_ok _ _ h))
/-! what is read is well made -/
def itP (f : Nat → pR) (m : Nat) : Prop := ∀ p, (f p).1 = true → (f p).2.2.all okI = true ∧ ∀ d l, d + m ≤ 30 → depI ((f p).2.2 ++ l) d = depI l (d + 1)
theorem figP_99 {H : Nat → Int32} {s : Bool × Nat} : (figP H s).2 < 100 := by
  rw [figP]
  by_cases h : s.1 = true ∧ dgP (H s.2) = true
  · obtain ⟨c, h1, h2, e⟩ := dg_nat h.2
    have e1 : cl (H s.2) = c := by rw [e]; exact cl_nI (by omega)
    rw [if_pos h]
    by_cases h3 : 0 < cl (H s.2) - 48 ∧ dgP (H (s.2 + 1)) = true
    · obtain ⟨c', h4, h5, e'⟩ := dg_nat h3.2
      have e2 : cl (H (s.2 + 1)) = c' := by rw [e']; exact cl_nI (by omega)
      rw [if_pos h3]
      show 10 * (cl (H s.2) - 48) + (cl (H (s.2 + 1)) - 48) < 100
      omega
    · rw [if_neg h3]
      show cl (H s.2) - 48 < 100
      omega
  · rw [if_neg h]
    show 0 < 100
    omega
theorem testP_it {H : Nat → Int32} : itP (testP H) 1 := by
  intro p hp
  cases h1 : amoP 4 (H p) with
  | none => rw [te_n1 h1] at hp; exact Bool.noConfusion hp
  | some a =>
    cases h2 : amoP 5 (H (p + 1)) with
    | none => rw [te_n2 h1 h2] at hp; exact Bool.noConfusion hp
    | some c =>
      rw [te_s h1 h2] at hp ⊢
      have ha : a < 6 := amo_lt h1
      have hc : c < 3 := amo_lt h2
      have hv := figP_99 (H := H) (s := (true, p + 2))
      have hp : (figP H (true, p + 2)).1.1 = true := hp
      rw [if_pos hp]
      constructor
      · simp [okI, ha, hc, hv]
      · intro d l hd
        show (if d < 30 then depI l (d + 1) else none) = _
        rw [if_pos (by omega)]
theorem depI_op {op d : Nat} {l : List xI} (h : op = 1 ∨ op = 2) : depI (.inr op :: l) (d + 2) = depI l (d + 1) := by
  rcases h with rfl | rfl <;> rfl
theorem lpJ_it {H : Nat → Int32} {f : Nat → pR} {c : Int32} {op m : Nat} (hop : op = 1 ∨ op = 2) (hf : itP f m) : ∀ (n : Nat) (r : pR), (r.1 = true → r.2.2.all okI = true ∧ ∀ d l, d + (m + 1) ≤ 30 → depI (r.2.2 ++ l) d = depI l (d + 1)) → ((lpJ H f c op n r).1 = true → (lpJ H f c op n r).2.2.all okI = true ∧ ∀ d l, d + (m + 1) ≤ 30 → depI ((lpJ H f c op n r).2.2 ++ l) d = depI l (d + 1))
  | 0, r, h => h
  | n + 1, r, h => by
    rw [lpJ]
    by_cases q : r.1 = true ∧ H r.2.1 = c
    · rw [if_pos q]
      refine lpJ_it hop hf n _ ?_
      intro hq
      have hq : (f (r.2.1 + 1)).1 = true := hq
      obtain ⟨a1, a2⟩ := h q.1
      obtain ⟨b1, b2⟩ := hf _ hq
      rw [if_pos hq]
      constructor
      · rw [List.all_append, List.all_append, a1, b1]
        rcases hop with rfl | rfl <;> rfl
      · intro d l hd
        rw [List.append_assoc, List.append_assoc, a2 d _ hd, b2 (d + 1) _ (by omega)]
        exact depI_op hop
    · rw [if_neg q]; exact h
theorem itP.up {f : Nat → pR} {m k : Nat} (h : itP f m) (hk : m ≤ k) : itP f k := fun p hp => ⟨(h p hp).1, fun d l hd => (h p hp).2 d l (by omega)⟩
theorem tofP_it {H : Nat → Int32} {f : Nat → pR} {m : Nat} (hf : itP f m) : itP (tofP H f) (m + 1) := fun p hp => lpJ_it (Or.inl rfl) hf 100 (f p) (fun h => hf.up (Nat.le_succ m) p h) hp
theorem eofP_it {H : Nat → Int32} {f : Nat → pR} {m : Nat} (hf : itP f m) : itP (eofP H f) (m + 2) := fun p hp => lpJ_it (Or.inr rfl) (tofP_it hf) 100 (tofP H f p) (fun h => (tofP_it hf).up (Nat.le_succ _) p h) hp
theorem factP_it {H : Nat → Int32} : ∀ d, itP (factP H d) (1 + 2 * d)
  | 0 => by
    intro p hp
    by_cases h : H p = 33 ∨ H p = 40
    · rw [fa_end h] at hp; exact Bool.noConfusion hp
    · rw [fa_test (fun q => h (Or.inl q)) (fun q => h (Or.inr q))] at hp ⊢
      exact testP_it p hp
  | d + 1 => by
    intro p hp
    by_cases h1 : H p = 33
    · rw [fa_bang h1] at hp ⊢
      have hp : (factP H d (p + 1)).1 = true := hp
      obtain ⟨a1, a2⟩ := factP_it d _ hp
      rw [if_pos hp]
      constructor
      · rw [List.all_append, a1]; rfl
      · intro e l he
        rw [List.append_assoc, a2 e _ (by omega)]
        rfl
    · by_cases h2 : H p = 40
      · rw [fa_par h1 h2] at hp ⊢
        have hp := (must_adv hp).1
        obtain ⟨a1, a2⟩ := eofP_it (factP_it d) _ hp
        exact ⟨a1, fun e l he => a2 e l (by omega)⟩
      · rw [fa_test h1 h2] at hp ⊢
        exact (testP_it.up (by omega)) p hp
theorem gEa_t {H : Nat → Int32} {d p : Nat} : gEa H d (true, p) = eofP H (factP H d) p := rfl
theorem gEa_okF {H : Nat → Int32} {s : Bool × Nat} {b : Bool} {n : Nat} (h : (gEa H 5 s).1 = true) (hn : n < 100) : okF ((gEa H 5 s).2.2, b, n) := by
  have hs := gEa_ok h
  obtain ⟨ok, p⟩ := s
  have hs : ok = true := hs
  subst hs
  rw [gEa_t] at h ⊢
  obtain ⟨a1, a2⟩ := eofP_it (factP_it 5) p h
  refine ⟨a1, ?_, hn⟩
  have := a2 0 [] (by omega)
  rw [List.append_nil] at this
  exact this
/-! what is written -/
def slotA (a j : Nat) : Prop := j = 194 + a ∨ j = 199 + a ∨ j = 204 + a ∨ (209 + 140 * a ≤ j ∧ j < 349 + 140 * a)
def SBa (a : Nat) (X Y : Nat → Int32) : Prop := ∀ j, ¬ slotA a j → Y j = X j
theorem SBa.rf {a : Nat} {X : Nat → Int32} : SBa a X X := fun _ _ => rfl
theorem SBa.tr {a : Nat} {X Y Z : Nat → Int32} (h : SBa a X Y) (h2 : SBa a Y Z) : SBa a X Z := fun j hj => (h2 j hj).trans (h j hj)
def EMr (X : Nat → Int32) (a : Nat) (E : List Int32) : Prop := X (204 + a) = nI E.length ∧ ∀ i, i < E.length → X (209 + 140 * a + i) = E.getD i 0
theorem getD_snoc {E : List Int32} {e : Int32} {i : Nat} : (E ++ [e]).getD i 0 = if i = E.length then e else E.getD i 0 := by
  by_cases h : i < E.length
  · rw [if_neg (by omega), List.getD_eq_getElem?_getD, List.getD_eq_getElem?_getD, List.getElem?_append_left h]
  · by_cases q : i = E.length
    · subst q; rw [if_pos rfl, List.getD_eq_getElem?_getD, List.getElem?_append_right (Nat.le_refl _)]; simp
    · rw [if_neg q, List.getD_eq_getElem?_getD, List.getD_eq_getElem?_getD, List.getElem?_eq_none (by simp; omega), List.getElem?_eq_none (by omega)]
theorem EMr_1 {X : Nat → Int32} {a : Nat} {E : List Int32} {e : Int32} (h : EMr X a E) (ha : a < 5) (hl : E.length < 140) : EMr (wr1 a X e) a (E ++ [e]) ∧ SBa a X (wr1 a X e) ∧ wr1 a X e (194 + a) = X (194 + a) ∧ wr1 a X e (199 + a) = X (199 + a) := by
  have hc : cl (X (204 + a)) = E.length := by rw [h.1]; exact cl_nI (by omega)
  rw [wr1, hc]
  refine ⟨⟨?_, ?_⟩, ?_, ?_, ?_⟩
  · rw [upd_s, h.1, List.length_append, List.length_singleton]; exact nI_1 _
  · intro i hi
    rw [List.length_append, List.length_singleton] at hi
    rw [upd_n (by omega), getD_snoc]
    by_cases q : i = E.length
    · subst q; rw [if_pos rfl, upd_s]
    · rw [if_neg q, upd_n (by omega)]; exact h.2 i (by omega)
  · intro j hj
    have h1 : j ≠ 204 + a := fun q => hj (Or.inr (Or.inr (Or.inl q)))
    have h2 : j ≠ 209 + 140 * a + E.length := fun q => hj (Or.inr (Or.inr (Or.inr (by omega))))
    rw [upd_n h1, upd_n h2]
  · rw [upd_n (by omega), upd_n (by omega)]
  · rw [upd_n (by omega), upd_n (by omega)]
theorem EMr_l {a : Nat} (ha : a < 5) : ∀ (l : List Int32) {X : Nat → Int32} {E : List Int32}, EMr X a E → E.length + l.length ≤ 140 → EMr (wrL a X l) a (E ++ l) ∧ SBa a X (wrL a X l) ∧ wrL a X l (194 + a) = X (194 + a) ∧ wrL a X l (199 + a) = X (199 + a)
  | [], X, E, h, _ => ⟨by rw [List.append_nil]; exact h, SBa.rf, rfl, rfl⟩
  | e :: l, X, E, h, hl => by
    rw [List.length_cons] at hl
    obtain ⟨h1, h2, h3, h4⟩ := EMr_1 (e := e) h ha (by omega)
    obtain ⟨h5, h6, h7, h8⟩ := EMr_l ha l h1 (by rw [List.length_append, List.length_singleton]; omega)
    refine ⟨?_, h2.tr h6, h7.trans h3, h8.trans h4⟩
    rw [List.append_assoc] at h5
    exact h5
theorem s_ne : ∀ i, i < 10 → ∀ c ∈ sByt i, c ≠ -1 := by decide +kernel
theorem spel_s {H : Nat → Int32} {w : List Int32} {k : Nat} {s : Bool × Nat} (h : k < w.length) : spelP H (w.take (k + 1)) s = mustP H (w.getD k 0) (spelP H (w.take k) s) := by
  rw [spelP, spelP, List.take_succ, List.getElem?_eq_getElem h, List.foldl_append, List.getD_eq_getElem?_getD, List.getElem?_eq_getElem h]
  rfl
theorem spel_hs {H : Nat → Int32} {nt i k : Nat} {s : Bool × Nat} (hH : Hend H nt) (hi : i < 10) (hs : s.2 ≤ nt) : (spelP H ((sByt i).take k) s).2 ≤ nt := (spelP_go hH _ s (fun c hc => s_ne i hi c (List.mem_of_mem_take hc)) hs).2
theorem RTn.em {X : Nat → Int32} {a : Nat} {t : xT} (h : RTn X a t) : EMr X a (t.2.2.flatMap flR) := ⟨h.2.2.2.2.1, h.2.2.2.2.2⟩
theorem flat_snoc {l : List xFe} {f : xFe} : (l ++ [f]).flatMap flR = l.flatMap flR ++ flR f := by
  rw [List.flatMap_append, List.flatMap_cons, List.flatMap_nil, List.append_nil]
theorem feel_ok {X : Nat → Int32} {a p nt : Nat} {t : xT} {H : Nat → Int32} {w : List Int32} {b : Bool} {K : Int32} (hH : Hend H nt) (hnt : nt ≤ 100) (hw : ∀ c ∈ w, c ≠ -1) (hp : p ≤ nt) (h : RTn X a t) (ha : a < 5) (hc : (t.2.2.flatMap flR).length ≤ p) (hK : K = if b = true then -10 else -200) :
    SBa a X (wrL a X ((muchP H w p).2.2.map encR ++ (if (muchP H w p).1 = true then [K - nI (mFig H w p).2] else []))) ∧ ((feelP H w b p t).1 = true → RTn (wrL a X ((muchP H w p).2.2.map encR ++ (if (muchP H w p).1 = true then [K - nI (mFig H w p).2] else []))) a (feelP H w b p t).2.2 ∧ ((feelP H w b p t).2.2.2.2.flatMap flR).length ≤ (feelP H w b p t).2.1) ∧ p ≤ (feelP H w b p t).2.1 ∧ (feelP H w b p t).2.1 ≤ nt := by
  obtain ⟨g1, g2, g3, g4⟩ := muchP_go hH hw hp
  have hgo : p ≤ (feelP H w b p t).2.1 ∧ (feelP H w b p t).2.1 ≤ nt := ⟨Nat.le_trans g1 g2, g3⟩
  by_cases hok : (muchP H w p).1 = true
  · have hadv := must_adv (gEa_ok hok)
    obtain ⟨f1, f2⟩ := tellP_go hH hw hp
    have f1 : p ≤ (mFig H w p).1.2 := f1
    have hlen : ((muchP H w p).2.2.map encR ++ [K - nI (mFig H w p).2]).length = (muchP H w p).2.2.length + 1 := by
      rw [List.length_append, List.length_map, List.length_singleton]
    rw [if_pos hok]
    obtain ⟨e1, e2, e3, e4⟩ := EMr_l ha ((muchP H w p).2.2.map encR ++ [K - nI (mFig H w p).2]) h.em (by rw [hlen]; omega)
    refine ⟨e2, fun _ => ?_, hgo⟩
    have et : (feelP H w b p t).2.2 = (t.1, t.2.1, t.2.2 ++ [((muchP H w p).2.2, b, (mFig H w p).2)]) := if_pos hok
    have efl : flR ((muchP H w p).2.2, b, (mFig H w p).2) = (muchP H w p).2.2.map encR ++ [K - nI (mFig H w p).2] := by
      rw [flR, hK]
      cases b <;> rfl
    rw [et]
    have e1' : EMr (wrL a X ((muchP H w p).2.2.map encR ++ [K - nI (mFig H w p).2])) a ((t.2.2 ++ [((muchP H w p).2.2, b, (mFig H w p).2)]).flatMap flR) := by
      rw [flat_snoc, efl]; exact e1
    have hl2 : ((t.2.2 ++ [((muchP H w p).2.2, b, (mFig H w p).2)]).flatMap flR).length = (t.2.2.flatMap flR).length + ((muchP H w p).2.2.length + 1) := by
      rw [flat_snoc, List.length_append, efl, hlen]
    have hpos : (feelP H w b p t).2.1 = (muchP H w p).2.1 := rfl
    refine ⟨⟨e3.trans h.1, ?_, ?_, ?_, e1'.1, e1'.2⟩, ?_⟩
    · rw [e4]; exact h.2.1
    · intro f hf
      rcases List.mem_append.mp hf with hf | hf
      · exact h.2.2.1 f hf
      · rw [List.mem_singleton.mp hf]
        exact gEa_okF hok figP_99
    · show ((t.2.2 ++ [((muchP H w p).2.2, b, (mFig H w p).2)]).flatMap flR).length ≤ 140
      rw [hl2]; omega
    · show ((t.2.2 ++ [((muchP H w p).2.2, b, (mFig H w p).2)]).flatMap flR).length ≤ _
      rw [hl2, hpos]; omega
  · rw [if_neg hok, List.append_nil]
    obtain ⟨e1, e2, e3, e4⟩ := EMr_l ha ((muchP H w p).2.2.map encR) h.em (by rw [List.length_map]; omega)
    exact ⟨e2, fun q => absurd q hok, hgo⟩
theorem RTn.upd_gap {X : Nat → Int32} {a : Nat} {t : xT} {v : Int32} (h : RTn X a t) (ha : a < 5) : RTn (upd X (194 + a) v) a (v, t.2.1, t.2.2) := by
  obtain ⟨h1, h2, h3, h4, h5, h6⟩ := h
  refine ⟨upd_s, ?_, h3, h4, ?_, fun i hi => ?_⟩
  · rw [upd_n (by omega)]; exact h2
  · rw [upd_n (by omega)]; exact h5
  · rw [upd_n (by omega)]; exact h6 i hi
theorem RTn.upd_paste {X : Nat → Int32} {a : Nat} {t : xT} {v : Int32} (h : RTn X a t) (ha : a < 5) : RTn (upd X (199 + a) v) a (t.1, (if v < 1 then 1 else v), t.2.2) := by
  obtain ⟨h1, h2, h3, h4, h5, h6⟩ := h
  refine ⟨?_, ?_, h3, h4, ?_, fun i hi => ?_⟩
  · rw [upd_n (by omega)]; exact h1
  · rw [upd_s]
  · rw [upd_n (by omega)]; exact h5
  · rw [upd_n (by omega)]; exact h6 i hi
def clOK (H : Nat → Int32) (nt a p : Nat) (X X' : Nat → Int32) (r : cR) : Prop := SBa a X X' ∧ (r.1 = true → RTn X' a r.2.2 ∧ (r.2.2.2.2.flatMap flR).length ≤ r.2.1) ∧ p ≤ r.2.1 ∧ r.2.1 ≤ nt
theorem gap_ok {X : Nat → Int32} {a p nt : Nat} {t : xT} {H : Nat → Int32} {w : List Int32} (hH : Hend H nt) (hw : ∀ c ∈ w, c ≠ -1) (hp : p ≤ nt) (h : RTn X a t) (ha : a < 5) (hc : (t.2.2.flatMap flR).length ≤ p) :
    clOK H nt a p X (if (tellP H w p).1.1 = true then upd X (194 + a) (nI (tellP H w p).2) else X) ((tellP H w p).1.1, (tellP H w p).1.2, if (tellP H w p).1.1 = true then (nI (tellP H w p).2, t.2.1, t.2.2) else t) := by
  obtain ⟨f1, f2⟩ := tellP_go hH hw hp
  by_cases hok : (tellP H w p).1.1 = true
  · rw [if_pos hok, if_pos hok]
    exact ⟨fun j hj => upd_n (fun q => hj (Or.inl q)), fun _ => ⟨h.upd_gap ha, Nat.le_trans hc f1⟩, f1, f2⟩
  · rw [if_neg hok, if_neg hok]
    exact ⟨SBa.rf, fun q => absurd q hok, f1, f2⟩
theorem paste_ok {X : Nat → Int32} {a p nt : Nat} {t : xT} {H : Nat → Int32} {w : List Int32} (hH : Hend H nt) (hw : ∀ c ∈ w, c ≠ -1) (hp : p ≤ nt) (h : RTn X a t) (ha : a < 5) (hc : (t.2.2.flatMap flR).length ≤ p) :
    clOK H nt a p X (if (tellP H w p).1.1 = true then upd X (199 + a) (nI (tellP H w p).2) else X) ((tellP H w p).1.1, (tellP H w p).1.2, if (tellP H w p).1.1 = true then (t.1, (if nI (tellP H w p).2 < 1 then 1 else nI (tellP H w p).2), t.2.2) else t) := by
  obtain ⟨f1, f2⟩ := tellP_go hH hw hp
  by_cases hok : (tellP H w p).1.1 = true
  · rw [if_pos hok, if_pos hok]
    exact ⟨fun j hj => upd_n (fun q => hj (Or.inr (Or.inl q))), fun _ => ⟨h.upd_paste ha, Nat.le_trans hc f1⟩, f1, f2⟩
  · rw [if_neg hok, if_neg hok]
    exact ⟨SBa.rf, fun q => absurd q hok, f1, f2⟩
theorem clau_98 {H : Nat → Int32} {p : Nat} {t : xT} (h : H p = 98) : clauP H p t = feelP H (sByt 9) false p t := if_pos h
theorem clau_103 {H : Nat → Int32} {p : Nat} {t : xT} (h0 : ¬ H p = 98) (h : H p = 103) : clauP H p t = ((tellP H (sByt 6) p).1.1, (tellP H (sByt 6) p).1.2, if (tellP H (sByt 6) p).1.1 = true then (nI (tellP H (sByt 6) p).2, t.2.1, t.2.2) else t) := by
  rw [clauP, if_neg h0, if_pos h]; rfl
theorem clau_108 {H : Nat → Int32} {p : Nat} {t : xT} (h0 : ¬ H p = 98) (h1 : ¬ H p = 103) (h : H p = 108) : clauP H p t = feelP H (sByt 8) true p t := by
  rw [clauP, if_neg h0, if_neg h1, if_pos h]; rfl
theorem clau_112 {H : Nat → Int32} {p : Nat} {t : xT} (h0 : ¬ H p = 98) (h1 : ¬ H p = 103) (h2 : ¬ H p = 108) (h : H p = 112) : clauP H p t = ((tellP H (sByt 7) p).1.1, (tellP H (sByt 7) p).1.2, if (tellP H (sByt 7) p).1.1 = true then (t.1, (if nI (tellP H (sByt 7) p).2 < 1 then 1 else nI (tellP H (sByt 7) p).2), t.2.2) else t) := by
  rw [clauP, if_neg h0, if_neg h1, if_neg h2, if_pos h]; rfl
theorem clau_no {H : Nat → Int32} {p : Nat} {t : xT} (h0 : ¬ H p = 98) (h1 : ¬ H p = 103) (h2 : ¬ H p = 108) (h3 : ¬ H p = 112) : clauP H p t = (false, p, t) := by
  rw [clauP, if_neg h0, if_neg h1, if_neg h2, if_neg h3]
theorem lpC_x {H : Nat → Int32} {r : cR} (h : ¬ (r.1 = true ∧ H r.2.1 = 59)) : ∀ n, lpC H n r = r
  | 0 => rfl
  | n + 1 => by rw [lpC, if_neg h]
theorem lpC_s {H : Nat → Int32} {n p : Nat} {t : xT} (h : H p = 59) : lpC H (n + 1) (true, p, t) = lpC H n (clauP H (p + 1) t) := if_pos ⟨rfl, h⟩
def tapeH (X : Nat → Int32) (nt : Nat) : Nat → Int32 := fun q => if q < nt then X (94 + q) else -1
theorem tape_end {X : Nat → Int32} {nt : Nat} : Hend (tapeH X nt) nt := fun q hq => if_neg (by omega)
theorem tape_at {X : Nat → Int32} {nt q : Nat} (h : q < nt) : tapeH X nt q = X (94 + q) := if_pos h
/-- whether a TOWN was read -/
def townOk (X : Nat → Int32) (nt : Nat) : Prop := (towP (tapeH X nt)).1 = true ∧ (towP (tapeH X nt)).2.1 = nt
/-- the row behind town() -/
def TWR (X X' : Nat → Int32) (nt na : Nat) (z : Int32) : Prop := X' 18 = 0 ∧ (∀ j, ¬ slotA na j → j ≠ 18 → j ≠ 14 → j ≠ 19 → X' j = X j) ∧
  ((townOk X nt ∧ z = nI na ∧ X' 14 = nI (na + 1) ∧ X' 19 = nI na ∧ RTn X' na (towP (tapeH X nt)).2.2) ∨ (¬ townOk X nt ∧ z = -10 - nI (towP (tapeH X nt)).2.1 ∧ X' 14 = X 14 ∧ X' 19 = X 19))
theorem RTn.cg {X Y : Nat → Int32} {a : Nat} {t : xT} (h : RTn X a t) (hXY : ∀ k, 194 ≤ k → Y k = X k) : RTn Y a t := by
  obtain ⟨h1, h2, h3, h4, h5, h6⟩ := h
  refine ⟨?_, ?_, h3, h4, ?_, fun i hi => ?_⟩
  · rw [hXY _ (by omega)]; exact h1
  · rw [hXY _ (by omega)]; exact h2
  · rw [hXY _ (by omega)]; exact h5
  · rw [hXY _ (by omega)]; exact h6 i hi
def tow0X (X : Nat → Int32) (a : Nat) : Nat → Int32 := upd (upd (upd (upd X 18 0) (194 + a) 1) (199 + a) 5) (204 + a) 0
theorem tow0_rt {X : Nat → Int32} {a : Nat} (ha : a < 5) : RTn (tow0X X a) a tow0 := by
  refine ⟨?_, ?_, fun f hf => absurd hf (List.not_mem_nil), Nat.zero_le _, ?_, fun i hi => absurd hi (Nat.not_lt_zero _)⟩
  · rw [tow0X, upd_n (by omega), upd_n (by omega), upd_s]; rfl
  · rw [tow0X, upd_n (by omega), upd_s]; rfl
  · rw [tow0X, upd_s]; rfl
theorem tow0_n {X : Nat → Int32} {a j : Nat} (h : ¬ slotA a j) (h18 : j ≠ 18) : tow0X X a j = X j := by
  have h1 : j ≠ 194 + a := fun q => h (Or.inl q)
  have h2 : j ≠ 199 + a := fun q => h (Or.inr (Or.inl q))
  have h3 : j ≠ 204 + a := fun q => h (Or.inr (Or.inr (Or.inl q)))
  rw [tow0X, upd_n h3, upd_n h2, upd_n h1, upd_n h18]
theorem slot_lo {a j : Nat} (h : j < 194) : ¬ slotA a j := by
  rintro (q | q | q | q) <;> omega
