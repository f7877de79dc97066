/-! THE STATIC ROWS -/
def aboF (k : Nat) : Int32 := ([-1, 0, 0, 0, 1, 2, 3] : List Int32).getD k 0
def bodF (k : Nat) : Int32 := ([1, 11, 0, 0, 0, 51, 0, 2, 0, 21, 0, 0, 0, 61, 3, 0, 0, 31, 41, 0, 0] : List Int32).getD k 0
/-- the two static rows stand in the store -/
def PSA (G : xG) (σ : xS) : Prop := σ.2 (gA G, 0) = some (.inl (2, 7, aboF)) ∧ σ.2 (gO G, 0) = some (.inl (2, 21, bodF))
theorem PSA.off {G : xG} {o : Nat} {σ σ1 : xS} (h : PSA G σ) (ho : Off o σ σ1) (h1 : gA G ≠ o) (h2 : gO G ≠ o) : PSA G σ1 := ⟨ho.at h1 h.1, ho.at h2 h.2⟩
theorem PSA.cg {G : xG} {σ σ1 : xS} (h : PSA G σ) (h1 : σ1.2 (gA G, 0) = σ.2 (gA G, 0)) (h2 : σ1.2 (gO G, 0) = σ.2 (gO G, 0)) : PSA G σ1 := ⟨h1.trans h.1, h2.trans h.2⟩
section GETS
variable {G : xG} {μ : xM} {cc : ByteArray} {nL d mc ms k n pc : Nat} {ret : Option FieldType} {L : List (Nat × Value)} {S : List Value} {σ : xS}
theorem e_gets_X6_303 (X : xC G μ cc nL RX6 ret d mc ms) (hd : decode cc pc = .ok (.getstatic 303, 3)) (K : Ev G μ nL k n (pc + 3) L (.ref (gA G) :: S) σ) : Ev G μ nL k n pc L S σ := fun H locs ls hH hS hl =>
  va_gets X.1 X.2.1 X.2.2.2.2.2.2.2.1.1 hS X.2.2.2.1 (X.hts w_fl_X6_303) (fun _ h => h) hd (K H locs ls hH hS hl)
theorem e_gets_X0_40 (X : xC G μ cc nL RX0 ret d mc ms) (hd : decode cc pc = .ok (.getstatic 40, 3)) (K : Ev G μ nL k n (pc + 3) L (.ref (gO G) :: S) σ) : Ev G μ nL k n pc L S σ := fun H locs ls hH hS hl =>
  va_gets X.1 X.2.1 X.2.2.2.2.2.2.2.1.2.1 hS X.2.2.2.1 (X.hts w_fl_X0_40) (fun _ h => h) hd (K H locs ls hH hS hl)
theorem e_gets_X0_47 (X : xC G μ cc nL RX0 ret d mc ms) (hd : decode cc pc = .ok (.getstatic 47, 3)) (K : Ev G μ nL k n (pc + 3) L (.ref (gA G) :: S) σ) : Ev G μ nL k n pc L S σ := fun H locs ls hH hS hl =>
  va_getsN X.1 X.2.1 X.2.2.2.2.2.2.2.1.1 hS X.2.2.2.1 (X.hnw w_fl_X0_47 rfl) (fun _ h => h) hd (K H locs ls hH hS hl)
end GETS
/-- the Acts at ac: kind, number, v; bodies that ran -/
def AX (σ : xS) (ac k : Nat) (u w : Int32) (s : actS) : Prop := ∃ F T A, PX0 σ ac F T A ∧ F 1 = nI s.1 ∧ F 2 = u ∧ F 3 = nI k ∧ F 4 = w ∧ ∀ q, q < 20 → A 1 q = s.2 q
theorem AX.body {σ : xS} {ac k : Nat} {u w : Int32} {s : actS} {F : Nat → Int32} {T : Nat → Nat} {A : Nat → Nat → Int32} (b : Int32) (h : PX0 σ ac (upd F 1 (nI (s.1 + 1))) T (upA A 1 (upd (A 1) s.1 b))) (hs : s.1 < 20) (h2 : F 2 = u) (h3 : F 3 = nI k) (h4 : F 4 = w) (hA : ∀ q, q < 20 → A 1 q = s.2 q) : AX σ ac k u w (rbS s b) := by
  refine ⟨_, _, _, h, upd_s, (upd_n (by decide)).trans h2, (upd_n (by decide)).trans h3, (upd_n (by decide)).trans h4, fun q hq => ?_⟩
  show upA A 1 (upd (A 1) s.1 b) 1 q = rbF s.1 s.2 b q
  rw [upA_s, rbF, if_pos hs]
  by_cases e : q = s.1
  · rw [e, upd_s, upd_s]
  · rw [upd_n e, upd_n e]; exact hA q hq
theorem rdA_k0 {u : Int32} {s : actS} {x : Int32} : rdA (nI 0) u s x = plR u s x := (if_neg (show ¬ undF (nI 0) 1 = true by decide)).trans (if_neg (show ¬ nI 0 = 5 by decide))
theorem brA_k0 {u w : Int32} {s : actS} {x : Int32} : brA (nI 0) u w s x = plB (nI 0) u w s x := (if_neg (show ¬ undF (nI 0) 2 = true by decide)).trans (if_neg (show ¬ nI 0 = 6 by decide))
theorem teA_k0 {u w : Int32} {s : actS} {x : Int32} : teA (nI 0) u w s x = plTe (nI 0) u w s x := (if_neg (show ¬ undF (nI 0) 3 = true by decide)).trans (if_neg (show ¬ nI 0 = 4 by decide))
theorem rdA_k1 {u : Int32} {s : actS} {x : Int32} : rdA (nI 1) u s x = plR u (rbS s 11) (x * 3) := (if_pos (show undF (nI 1) 1 = true by decide))
theorem brA_k1 {u w : Int32} {s : actS} {x : Int32} : brA (nI 1) u w s x = plB (nI 1) u w s x := (if_neg (show ¬ undF (nI 1) 2 = true by decide)).trans (if_neg (show ¬ nI 1 = 6 by decide))
theorem teA_k1 {u w : Int32} {s : actS} {x : Int32} : teA (nI 1) u w s x = plTe (nI 1) u w s x := (if_neg (show ¬ undF (nI 1) 3 = true by decide)).trans (if_neg (show ¬ nI 1 = 4 by decide))
theorem rdA_k2 {u : Int32} {s : actS} {x : Int32} : rdA (nI 2) u s x = plR u s x := (if_neg (show ¬ undF (nI 2) 1 = true by decide)).trans (if_neg (show ¬ nI 2 = 5 by decide))
theorem brA_k2 {u w : Int32} {s : actS} {x : Int32} : brA (nI 2) u w s x = (-(plB (nI 2) u w (rbS s 21) x).1, (plB (nI 2) u w (rbS s 21) x).2) := (if_pos (show undF (nI 2) 2 = true by decide))
theorem teA_k2 {u w : Int32} {s : actS} {x : Int32} : teA (nI 2) u w s x = plTe (nI 2) u w s x := (if_neg (show ¬ undF (nI 2) 3 = true by decide)).trans (if_neg (show ¬ nI 2 = 4 by decide))
theorem rdA_k3 {u : Int32} {s : actS} {x : Int32} : rdA (nI 3) u s x = plR u s x := (if_neg (show ¬ undF (nI 3) 1 = true by decide)).trans (if_neg (show ¬ nI 3 = 5 by decide))
theorem brA_k3 {u w : Int32} {s : actS} {x : Int32} : brA (nI 3) u w s x = plB (nI 3) u w s x := (if_neg (show ¬ undF (nI 3) 2 = true by decide)).trans (if_neg (show ¬ nI 3 = 6 by decide))
theorem teA_k3 {u w : Int32} {s : actS} {x : Int32} : teA (nI 3) u w s x = ((plTe (nI 3) u w (rbS s 31) x).1 ^^^ 7, (plTe (nI 3) u w (rbS s 31) x).2) := (if_pos (show undF (nI 3) 3 = true by decide))
theorem rdA_k4 {u : Int32} {s : actS} {x : Int32} : rdA (nI 4) u s x = plR u (rbS s 11) (x * 3) := (if_pos (show undF (nI 4) 1 = true by decide))
theorem brA_k4 {u w : Int32} {s : actS} {x : Int32} : brA (nI 4) u w s x = plB (nI 4) u w s x := (if_neg (show ¬ undF (nI 4) 2 = true by decide)).trans (if_neg (show ¬ nI 4 = 6 by decide))
theorem teA_k4 {u w : Int32} {s : actS} {x : Int32} : teA (nI 4) u w s x = ((plTe (nI 4) u w (rbS s 41) (x - 1)).1 + (rdA (nI 4) u (plTe (nI 4) u w (rbS s 41) (x - 1)).2 2).1, (rdA (nI 4) u (plTe (nI 4) u w (rbS s 41) (x - 1)).2 2).2) := (if_neg (show ¬ undF (nI 4) 3 = true by decide)).trans (if_pos (show nI 4 = 4 by decide))
theorem rdA_k5 {u : Int32} {s : actS} {x : Int32} : rdA (nI 5) u s x = ((plR u (rbS s 51) x).1 ^^^ u, (plR u (rbS s 51) x).2) := (if_neg (show ¬ undF (nI 5) 1 = true by decide)).trans (if_pos (show nI 5 = 5 by decide))
theorem brA_k5 {u w : Int32} {s : actS} {x : Int32} : brA (nI 5) u w s x = (-(plB (nI 5) u w (rbS s 21) x).1, (plB (nI 5) u w (rbS s 21) x).2) := (if_pos (show undF (nI 5) 2 = true by decide))
theorem teA_k5 {u w : Int32} {s : actS} {x : Int32} : teA (nI 5) u w s x = plTe (nI 5) u w s x := (if_neg (show ¬ undF (nI 5) 3 = true by decide)).trans (if_neg (show ¬ nI 5 = 4 by decide))
theorem rdA_k6 {u : Int32} {s : actS} {x : Int32} : rdA (nI 6) u s x = plR u s x := (if_neg (show ¬ undF (nI 6) 1 = true by decide)).trans (if_neg (show ¬ nI 6 = 5 by decide))
theorem brA_k6 {u w : Int32} {s : actS} {x : Int32} : brA (nI 6) u w s x = ((plB (nI 6) u w (rbS s 61) x).1 + w, (plB (nI 6) u w (rbS s 61) x).2) := (if_neg (show ¬ undF (nI 6) 2 = true by decide)).trans (if_pos (show nI 6 = 6 by decide))
theorem teA_k6 {u w : Int32} {s : actS} {x : Int32} : teA (nI 6) u w s x = ((plTe (nI 6) u w (rbS s 31) x).1 ^^^ 7, (plTe (nI 6) u w (rbS s 31) x).2) := (if_pos (show undF (nI 6) 3 = true by decide))
