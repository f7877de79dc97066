-- ===== end of PART A; then your names; then what follows =====
/-! THE CLAIM OUT OF ONE WALK OF THE LAW'S BODY. Your part is whole_start (and what it stands on); all else here is the same for every law, but numbers. -/
def R_law : String := "ThickerBookLaw"
def lw_P (b : Addr) (xs : List Int32) (args : Array Value) (s : State) : Prop := args = #[.ref b] ∧ s.IntsAt b xs ∧ xs.length ≤ 2048 ∧ (Jvm.Cond.and given_1 narrow_1).before args s = true
def lw_Q (_ : Array Value) (s : State) (o : Outcome) (t : State) : Prop := o = .returned (some (.int 1)) ∧ Framed s o t [] 600000 7302250
def lw_Z (below : List Frame) (a : Array Value) (s : State) : State → Prop := fun t => ∃ o, t.status = .running ∧ Ended t below o ∧ lw_Q a s o t
/-- the law's own end, with 1 on the stack, nothing written that was there before, its room as the claim has it -/
theorem lw_ret {p : Program} {l : Launch} {e : Env} {s : State} {m : MethodId} {below : List Frame} {meth : Method} {c : Code} {b : Nat} (hx : p.tables.exec = Jvm.exec) (hb : c.code = code) (hr : meth.sig.returnType = ret) (hlocks : meth.locks = false) {pc : Nat} {H : Heap} {ls : Array Slot} (hdg : decode code pc = .ok (.ireturn, 1)) : W p l e room_1 s m #[Value.ref b] below meth c H [] 600000 7302250 (lw_Z below #[Value.ref b] s) (F0 m pc ls [.int 1]) := by
  intro T hT X
  obtain ⟨fs, hret, hrun, hended, hW, hframe⟩ := X.leave (v := some (.int 1)) (hlocks := hlocks) (fun h => by rw [hr] at h; cases h)
  have hmeth' : T.vm.method? m = some meth := X.method'
  refine ⟨T.setFrames fs, ?_, .returned (some (.int 1)), hrun, hended, rfl, ⟨_, rfl⟩, hW, hframe⟩
  jvm_step X.here [X.here.top, hx, hb, hdg, hmeth', hr, ret, narrow_b1]
  (try refine ⟨rfl, ?_⟩); (try refine ⟨rfl, ?_⟩)
  first | (intro acts; rw [hret _ acts rfl rfl rfl]) | rw [hret _ _ rfl rfl rfl]
  exact Steps.refl _
/-- what holds at the law's entry: the machine, the code, the tables' words (any of lw_tbl by 'hts w (by decide +kernel)'), the script of L ints xs at the cell b, what the Statement gives of the start (any of its parts by flat_of_before) -/
def lw_At (p : Program) (s : State) (m : MethodId) (meth : Method) (c : Code) (b L : Nat) (xs : Nat → Int32) : Prop :=
  p.tables.exec = Jvm.exec ∧ c.code = code ∧ meth.sig.returnType = ret ∧ c.maxLocals = 4 ∧ s.vm.findClass R_law = some m.cls ∧ (∀ w ∈ lw_tbl, w.before #[Value.ref b] s = true) ∧ va_X b L xs s s.heap ∧ b < s.heap.size ∧ meth.locks = false ∧ (Jvm.Cond.and given_1 narrow_1).before #[Value.ref b] s = true
/-! THE LAW: what stands between the calls -/
def LI (G : xG) (σ : xS) (x m b L : Nat) (xs : Nat → Int32) : Prop := ∃ X Y bd hi rr, ST G σ x m X Y bd hi rr ∧ MK σ m X Y bd hi (nI rr) ∧ (∀ j, 909 ≤ j → X j = Y j) ∧ rr ≤ 1000 ∧ σ.2 (b, 0) = some (.inl (2, L, xs)) ∧ b < x
theorem BK.ms {G : xG} {σ : xS} {x m : Nat} {X Y bd : Nat → Int32} {hi : Int32} {rr nr nb ns np nn nt : Nat} {t : xT} (h : BK G σ x m X Y bd hi rr nr nb ns np nn nt t) : x + 60 ≤ m ∧ m < σ.1 := ⟨h.2.2.1, h.2.2.2.1⟩
theorem BK.he {G : xG} {σ : xS} {x m : Nat} {X Y bd : Nat → Int32} {hi : Int32} {rr nr nb ns np nn nt : Nat} {t : xT} (h : BK G σ x m X Y bd hi rr nr nb ns np nn nt t) : ∃ fs, σ.2 (x, 0) = some (.inr (6, fs)) := by
  obtain ⟨-, -, -, -, ⟨F, A, h1, -⟩, -⟩ := h
  exact ⟨_, h1.o⟩
theorem MK.he {σ : xS} {m : Nat} {X Y bd : Nat → Int32} {hi rn : Int32} (h : MK σ m X Y bd hi rn) : ∃ fs, σ.2 (m, 0) = some (.inr (7, fs)) := by
  obtain ⟨F, T, A, h1, -⟩ := h
  exact ⟨_, h1.o⟩
theorem ST.mod {G : xG} {σ σ1 : xS} {x m : Nat} {X Y bd : Nat → Int32} {hi : Int32} {rr : Nat} (h : ST G σ x m X Y bd hi rr) (ho : Off m σ σ1) : ST G σ1 x m X Y bd hi rr := by
  obtain ⟨nr, nb, ns, np, nn, nt, na, dy, t, h1, h2⟩ := h
  exact ⟨nr, nb, ns, np, nn, nt, na, dy, t, h1.mod ho, h2⟩
theorem LI.mk {G : xG} {σ σ1 σ2 : xS} {x m b L : Nat} {xs X Y bd : Nat → Int32} {hi : Int32} {rr : Nat} (hst : ST G σ1 x m X Y bd hi rr) (hob : OffB x σ σ1) (hms : m < σ.1) (ho : Off m σ1 σ2) (hmk : MK σ2 m X Y bd hi (nI rr)) (h9 : ∀ j, 909 ≤ j → X j = Y j) (hrr : rr ≤ 1000) (hs : σ.2 (b, 0) = some (.inl (2, L, xs))) (hbx : b < x) (hxm : x + 60 ≤ m) : LI G σ2 x m b L xs :=
  ⟨X, Y, bd, hi, rr, hst.mod ho, hmk, h9, hrr, (ho.cl (by omega) 0).trans ((hob.2 (b, 0) (show b < σ.1 by omega) (fun q => by have := q.1; have : x ≤ b := this; omega)).trans hs), hbx⟩
theorem OffB.m {σ σ1 : xS} {x m : Nat} (ho : OffB x σ σ1) (hms : m < σ.1) (hxm : x + 60 ≤ m) (i : Nat) : σ1.2 (m, i) = σ.2 (m, i) := ho.2 (m, i) hms (fun q => by have := q.2; have : m < x + 60 := this; omega)
theorem OffB.b {σ σ1 : xS} {x m b : Nat} (ho : OffB x σ σ1) (hms : m < σ.1) (hxm : x + 60 ≤ m) (hbx : b < x) {e : Option xE} (h : σ.2 (b, 0) = e) : σ1.2 (b, 0) = e := (ho.2 (b, 0) (show b < σ.1 by omega) (fun q => by have := q.1; have : x ≤ b := this; omega)).trans h
theorem act_n {X g : Nat → Int32} {nr : Nat} {v a x : Int32} : (v_act X g nr v a x).2.1 ≤ 1000 := by
  rw [v_act]
  by_cases h : inF v 0 (nI nr - 1) = true ∧ inF a 0 2 = true
  · rw [if_pos h]
    by_cases h0 : a = 0
    · rw [if_pos h0]; have := rdA_n (k := X (20 + cl v)) (u := v) (x := x) (s := (0, g)); have e : ((0, g) : actS).1 = 0 := rfl; omega
    · rw [if_neg h0]
      by_cases h1 : a = 1
      · rw [if_pos h1]; have := brA_n (k := X (20 + cl v)) (u := v) (w := X (24 + cl v)) (x := x) (s := (0, g)); have e : ((0, g) : actS).1 = 0 := rfl; omega
      · rw [if_neg h1]
        have g1 := plTe_n (k := X (20 + cl v)) (u := v) (w := X (24 + cl v)) (x := x) (s := rbS (0, g) 31)
        have g2 := plTe_n (k := X (20 + cl v)) (u := v) (w := X (24 + cl v)) (x := x - 1) (s := rbS (0, g) 41)
        have g3 := plTe_n (k := X (20 + cl v)) (u := v) (w := X (24 + cl v)) (x := x) (s := (0, g))
        have g4 := rdA_n (k := X (20 + cl v)) (u := v) (x := 2) (s := (plTe (X (20 + cl v)) v (X (24 + cl v)) (rbS (0, g) 41) (x - 1)).2)
        have e : ((0, g) : actS).1 = 0 := rfl
        have e1 : (rbS (0, g) 31).1 = 1 := rfl
        have e2 : (rbS (0, g) 41).1 = 1 := rfl
        rw [teA]
        by_cases q : undF (X (20 + cl v)) 3 = true
        · rw [if_pos q]; show (plTe (X (20 + cl v)) v (X (24 + cl v)) (rbS (0, g) 31) x).2.1 ≤ _; omega
        · rw [if_neg q]
          by_cases q4 : X (20 + cl v) = 4
          · rw [if_pos q4]; show (rdA (X (20 + cl v)) v (plTe (X (20 + cl v)) v (X (24 + cl v)) (rbS (0, g) 41) (x - 1)).2 2).2.1 ≤ _; omega
          · rw [if_neg q4]; omega
  · rw [if_neg h]; exact Nat.zero_le _
theorem lc0 {z : Int64} : (if z > z then (1 : Int32) else if z = z then 0 else -1) = 0 := by
  rw [if_neg (fun h => absurd h Int64.lt_irrefl), if_pos rfl]
/-- where the law ends: true is answered -/
theorem e_lawret {G : xG} {μ : xM} {k n pc b : Nat} {L : List (Nat × Value)} {σ : xS} (X : xC G μ code 4 RL (some .boolean) 30 600000 7302250) (hR : mR μ = room_1) (hA : mA μ = #[Value.ref b]) (hQ : mQ μ = lw_Z (mB μ) (mA μ) (mS μ)) (hB : gB G = (mS μ).heap.size) (hk : k ≤ 600000) (hn : n ≤ 7302250) (hd : decode code pc = .ok (.ireturn, 1)) : Ev G μ 4 k n pc L [.int 1] σ := by
  intro H locs ls hH hS hl
  rw [hA, hQ, hR, hA]
  refine va_forget (fun q hq => by rw [← hB]; exact hS.2.2 q hq) ?_
  refine W.widen hk hn ?_
  exact lw_ret X.1 X.2.1 X.2.2.2.2.2.2.2.2.1 X.2.2.2.2.2.1 hd
