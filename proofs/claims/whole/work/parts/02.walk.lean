/-! THE STORE: cells by object and place (o, i): the cell at the address o + i. An array: (kind, length, contents), kind 0 an int row, 1 a boolean row, 2 and more a row that no method writes (a static one, the script). An object: (number of its class, its fields). -/
abbrev xE : Type := (Nat × Nat × (Nat → Int32)) ⊕ (Nat × List Value)
abbrev xS : Type := Nat × (Nat × Nat → Option xE)
/-- what stays through the whole run: launch, class numbers, the two array classes, the first new address, the two static rows, the literals and their bytes -/
abbrev xG : Type := Launch × va_G × (ClassId × ClassId) × Nat × (Nat × Nat) × (Nat → Nat) × (Nat → Nat)
def gl (G : xG) : Launch := G.1
def gD (G : xG) : va_G := G.2.1
def gI (G : xG) : ClassId := G.2.2.1.1
def gZ (G : xG) : ClassId := G.2.2.1.2
def gB (G : xG) : Nat := G.2.2.2.1
def gA (G : xG) : Nat := G.2.2.2.2.1.1
def gO (G : xG) : Nat := G.2.2.2.2.1.2
def gK (G : xG) : Nat → Nat := G.2.2.2.2.2.1
def gV (G : xG) : Nat → Nat := G.2.2.2.2.2.2
def gF (G : xG) : Nat → Prop := fun q => gB G ≤ q
def xset (σ : xS) (k : Nat × Nat) (e : xE) : xS := (σ.1, fun q => if q = k then some e else σ.2 q)
def xpush (σ : xS) (k : Nat × Nat) (e : xE) : xS := (σ.1 + 1, fun q => if q = k then some e else σ.2 q)
def xAt (G : xG) (a : Nat) (e : xE) (U : State) (H : Heap) : Prop := match e with
  | .inl (0, n, f) => va_at (gD G) vwCl (a, .inl (gI G, n, .inl f)) H
  | .inl (1, n, f) => va_at (gD G) vwCl (a, .inl (gZ G, n, .inl f)) H
  | .inl (_, n, f) => va_T .int a n (fun j => .int (f j)) (gF G) U H
  | .inr o => va_at (gD G) vwCl (a, .inr o) H
def xH (G : xG) (σ : xS) (U : State) (H : Heap) : Prop :=
  H.size = σ.1 ∧ gB G ≤ σ.1 ∧ (∀ (o i : Nat) (e : xE), σ.2 (o, i) = some e → xAt G (o + i) e U H) ∧ ∀ (o i o' i' : Nat), σ.2 (o, i) ≠ none → σ.2 (o', i') ≠ none → o + i = o' + i' → o = o' ∧ i = i'
def isNw : Cond → Bool
  | .fieldLinkNest .. => true
  | .methodLinkNest .. => true
  | _ => false
def T0 : List Cond := lw_tbl.filter goodWord
/-- the literals: class, pool number, text -/
def sRef (i : Nat) : String × Nat × String := match i with
  | 0 => ("ThickerBook$Reading", 41, "love ")
  | 1 => ("ThickerBook$Reading", 43, "bore ")
  | 2 => ("ThickerBook$Reading", 56, "gap ")
  | 3 => ("ThickerBook$Reading", 58, "paste ")
  | 4 => ("ThickerBookModel", 94, "rkvbtd")
  | 5 => ("ThickerBookModel", 102, "<=>")
  | 6 => ("ThickerBookModel", 114, "gap ")
  | 7 => ("ThickerBookModel", 118, "paste ")
  | 8 => ("ThickerBookModel", 120, "love ")
  | _ => ("ThickerBookModel", 126, "bore ")
def sByt (i : Nat) : List Int32 := match i with
  | 0 => [108, 111, 118, 101, 32]
  | 1 => [98, 111, 114, 101, 32]
  | 2 => [103, 97, 112, 32]
  | 3 => [112, 97, 115, 116, 101, 32]
  | 4 => [114, 107, 118, 98, 116, 100]
  | 5 => [60, 61, 62]
  | 6 => [103, 97, 112, 32]
  | 7 => [112, 97, 115, 116, 101, 32]
  | 8 => [108, 111, 118, 101, 32]
  | _ => [98, 111, 114, 101, 32]
def xU (G : xG) (U : State) : Prop :=
  va_K (gD G) vwCl [(gI G, .int), (gZ G, .boolean)] U ∧ (∀ w ∈ lw_tbl, isNw w = true → va_Nw w U) ∧ ∀ i, i < 10 → vk_R (sRef i).1 (sRef i).2.1 (sRef i).2.2 (gK G i) U
def xZ (G : xG) (U : State) (H : Heap) : Prop :=
  va_Z "ThickerBook" "ABOVE" "[I" (.ref (gA G)) (gF G) U H ∧ va_Z "ThickerBook$Acts" "BODIES" "[I" (.ref (gO G)) (gF G) U H ∧
  va_Z "java/lang/String" "COMPACT_STRINGS" "Z" (.int 1) (gF G) U H ∧ va_Zq "jdk/internal/util/Preconditions" "SIOOBE_FORMATTER" "Ljava/util/function/BiFunction;" (gF G) U H ∧
  ∀ i, i < 10 → va_O "java/lang/String" (gK G i) (gF G) U H ∧ va_OF "java/lang/String" "coder" "B" (.int 0) (gK G i) (gF G) U H ∧ va_OF "java/lang/String" "value" "[B" (.ref (gV G i)) (gK G i) (gF G) U H ∧ va_T .byte (gV G i) (sByt i).length (fun j => .int ((sByt i).getD j 0)) (gF G) U H
theorem xAt.moved {G : xG} {a : Nat} {e : xE} {u U : State} {H : Heap} (hvm : u.vm.Alike U.vm) (h : xAt G a e u H) : xAt G a e U H := by
  rcases e with ⟨t, n, f⟩ | o
  · match t, h with
    | 0, h => exact h
    | 1, h => exact h
    | t + 2, h => exact va_T.moved hvm h
  · exact h
theorem xAt.kept {G : xG} {a : Nat} {e : xE} {U : State} {H H1 : Heap} (h : xAt G a e U H) (hq : H1[a]? = H[a]?) : xAt G a e U H1 := by
  rcases e with ⟨t, n, f⟩ | o
  · match t, h with
    | 0, h => exact va_at.kept (D := gD G) (cl := vwCl) (q := (a, .inl (gI G, n, .inl f))) h hq
    | 1, h => exact va_at.kept (D := gD G) (cl := vwCl) (q := (a, .inl (gZ G, n, .inl f))) h hq
    | t + 2, h =>
      obtain ⟨cell, h1, h2⟩ := h
      exact ⟨cell, by rw [hq]; exact h1, h2⟩
  · exact va_at.kept (D := gD G) (cl := vwCl) (q := (a, .inr o)) h hq
theorem xAt.lt {G : xG} {a : Nat} {e : xE} {U : State} {H : Heap} (h : xAt G a e U H) : a < H.size := by
  rcases e with ⟨t, n, f⟩ | o
  · match t, h with
    | 0, h => exact va_at.lt (D := gD G) (cl := vwCl) (q := (a, .inl (gI G, n, .inl f))) h
    | 1, h => exact va_at.lt (D := gD G) (cl := vwCl) (q := (a, .inl (gZ G, n, .inl f))) h
    | t + 2, h =>
      obtain ⟨cell, h1, h2⟩ := h
      exact (Array.getElem?_eq_some_iff.mp h1).1
  · exact va_at.lt (D := gD G) (cl := vwCl) (q := (a, .inr o)) h
theorem xH.moved {G : xG} {σ : xS} {u U : State} {H : Heap} (hvm : u.vm.Alike U.vm) (h : xH G σ u H) : xH G σ U H := ⟨h.1, h.2.1, fun o i e he => (h.2.2.1 o i e he).moved hvm, h.2.2.2⟩
theorem isNw_tab {w : Cond} (h : isNw w = true) : w.onTables = true := by
  cases w <;> first | rfl | (simp [isNw] at h)
theorem xU.same {G : xG} {u U : State} (hv : u.vm = U.vm) (h : xU G u) : xU G U :=
  ⟨va_K.moved (by rw [hv]; exact Vm.Alike.refl _) h.1, fun w hw hn => va_Nw.same (isNw_tab hn) hv (h.2.1 w hw hn), fun i hi => vk_R.same hv.symm (h.2.2 i hi)⟩
theorem xU.warm {G : xG} {s U : State} (hW : s.WarmedH U.vm) (h : xU G s) : xU G U :=
  ⟨va_K.moved hW.alike h.1, fun w hw hn => by
    have h1 := h.2.1 w hw hn
    cases w <;> first | (simp [isNw] at hn; done) | exact va_Nw.warmF hW h1 | exact va_Nw.warmM hW h1, fun i hi => vk_R.warm hW (h.2.2 i hi)⟩
theorem xZ.moved {G : xG} {u U : State} {H : Heap} (hvm : u.vm.Alike U.vm) (h : xZ G u H) : xZ G U H :=
  ⟨va_Z.moved hvm h.1, va_Z.moved hvm h.2.1, va_Z.moved hvm h.2.2.1, va_Zq.moved hvm h.2.2.2.1, fun i hi => ⟨va_O.moved hvm (h.2.2.2.2 i hi).1, va_OF.moved hvm (h.2.2.2.2 i hi).2.1, va_OF.moved hvm (h.2.2.2.2 i hi).2.2.1, va_T.moved hvm (h.2.2.2.2 i hi).2.2.2⟩⟩
theorem xZ.kept {G : xG} {U : State} {H H1 : Heap} (h : xZ G U H) (hq : ∀ a : Nat, a < H.size → ¬ gF G a → H1[a]? = H[a]?) : xZ G U H1 :=
  ⟨va_Z.kept h.1 hq, va_Z.kept h.2.1 hq, va_Z.kept h.2.2.1 hq, va_Zq.kept h.2.2.2.1 hq, fun i hi => ⟨va_O.kept (h.2.2.2.2 i hi).1 hq, va_OF.kept (h.2.2.2.2 i hi).2.1 hq, va_OF.kept (h.2.2.2.2 i hi).2.2.1 hq, va_T.kept (h.2.2.2.2 i hi).2.2.2 hq⟩⟩
/-! THE WALK: a method's own numbers in one word -/
abbrev xM : Type := Program × Env × Room × State × MethodId × Array Value × List Frame × Method × Code × (State → Prop)
def mP (μ : xM) : Program := μ.1
def mE (μ : xM) : Env := μ.2.1
def mR (μ : xM) : Room := μ.2.2.1
def mS (μ : xM) : State := μ.2.2.2.1
def mM (μ : xM) : MethodId := μ.2.2.2.2.1
def mA (μ : xM) : Array Value := μ.2.2.2.2.2.1
def mB (μ : xM) : List Frame := μ.2.2.2.2.2.2.1
def mT (μ : xM) : Method := μ.2.2.2.2.2.2.2.1
def mC (μ : xM) : Code := μ.2.2.2.2.2.2.2.2.1
def mQ (μ : xM) : State → Prop := μ.2.2.2.2.2.2.2.2.2
def xC (G : xG) (μ : xM) (cc : ByteArray) (nL : Nat) (own : String) (ret : Option FieldType) (d mc ms : Nat) : Prop :=
  (mP μ).tables.exec = Jvm.exec ∧ (mC μ).code = cc ∧ (mC μ).maxLocals = nL ∧ (mS μ).vm.findClass own = some (mM μ).cls ∧ (∀ w ∈ T0, w.before (mA μ) (mS μ) = true) ∧ (mT μ).locks = false ∧ xU G (mS μ) ∧ xZ G (mS μ) (mS μ).heap ∧ (mT μ).sig.returnType = ret ∧ d ≤ (mR μ).frames ∧ 48 * d ≤ (mR μ).locals ∧ mc ≤ (mR μ).cells ∧ ms ≤ (mR μ).slots ∧ gB G ≤ (mS μ).heap.size
def Ev (G : xG) (μ : xM) (nL k n pc : Nat) (L : List (Nat × Value)) (S : List Value) (σ : xS) : Prop :=
  ∀ (H : Heap) (locs : List Loc) (ls : Array Slot), xH G σ (mS μ) H → va_S (gF G) (mS μ).heap H locs → lv_has ls nL L → W (mP μ) (gl G) (mE μ) (mR μ) (mS μ) (mM μ) (mA μ) (mB μ) (mT μ) (mC μ) H locs k n (mQ μ) (F0 (mM μ) pc ls S)
def rmOf (d mc ms : Nat) : Room := { frames := d, cells := mc, slots := ms, locals := 48 * d }
def xPc (G : xG) (as : List Value) (σ : xS) : Array Value → State → Prop := va_Pc as (fun U => xH G σ U U.heap ∧ xU G U ∧ xZ G U U.heap)
def xW (y : MethodName) (cc : ByteArray) (nL : Nat) (ret : Option FieldType) : List Cond := Cond.code y cc nL ret :: T0
def QI (G : xG) (Q : Int32 → xS → Prop) : Array Value → State → Outcome → State → Prop := va_Qi Q (fun u t => xH G u t t.heap) (gF G)
def QL (G : xG) (Q : Int64 → xS → Prop) : Array Value → State → Outcome → State → Prop := va_Ql Q (fun u t => xH G u t t.heap) (gF G)
def QV (G : xG) (Q : xS → Prop) : Array Value → State → Outcome → State → Prop := va_Qv Q (fun u t => xH G u t t.heap) (gF G)
/-- a method's contract: with the arguments as, from the store σ, it returns, and its answer and the store then are as Q says; d calls deep at most, mc new cells of ms slots -/
def CI (G : xG) (y : MethodName) (cc : ByteArray) (nL : Nat) (ret : Option FieldType) (d mc ms : Nat) (as : List Value) (σ : xS) (Q : Int32 → xS → Prop) : Prop := Met (gl G) y (xW y cc nL ret) (rmOf d mc ms) (xPc G as σ) (QI G Q) mc ms (gF G)
def CL (G : xG) (y : MethodName) (cc : ByteArray) (nL : Nat) (ret : Option FieldType) (d mc ms : Nat) (as : List Value) (σ : xS) (Q : Int64 → xS → Prop) : Prop := Met (gl G) y (xW y cc nL ret) (rmOf d mc ms) (xPc G as σ) (QL G Q) mc ms (gF G)
def CV (G : xG) (y : MethodName) (cc : ByteArray) (nL : Nat) (ret : Option FieldType) (d mc ms : Nat) (as : List Value) (σ : xS) (Q : xS → Prop) : Prop := Met (gl G) y (xW y cc nL ret) (rmOf d mc ms) (xPc G as σ) (QV G Q) mc ms (gF G)
theorem Met.ofX {G : xG} {y : MethodName} {cc : ByteArray} {nL d mc ms : Nat} {ret : Option FieldType} {as : List Value} {σ : xS} {Qc : Array Value → State → Outcome → State → Prop} (hy : plainName y.cls = true) (hn : (lg_sl as).length ≤ nL)
    (body : ∀ μ : xM, xC G μ cc nL y.cls ret d mc ms → mQ μ = MQ (mB μ) Qc (mA μ) (mS μ) mc ms (gF G) → (mT μ).name = y.name → Ev G μ nL 0 0 0 (lv_args 0 as) [] σ) : Met (gl G) y (xW y cc nL ret) (rmOf d mc ms) (xPc G as σ) Qc mc ms (gF G) := by
  refine Met.ofW (cc := cc) (maxL := nL) (ret := ret) hy rfl ?_
  intro p e s m args below meth c s₁ B hml hv
  obtain ⟨rfl, hH, hU, hZ⟩ := hv
  have hts := atoms_spec (ws := xW y cc nL ret) B.pre
  have hown : s.vm.findClass y.cls = some m.cls := findClass_of_methodNamed B.named
  have hl := lv_entry as (n := nL) hn
  rw [lg_entry_eq]
  have X : xC G (p, e, (headSpec (xW y cc nL ret) (rmOf d mc ms)).room, s, m, as.toArray, below, meth, c, MQ below Qc as.toArray s mc ms (gF G)) cc nL y.cls ret d mc ms :=
    ⟨B.exec, B.bytes, hml, hown, fun w hw => hts w (List.mem_cons_of_mem _ hw), B.notSynchronized, hU, hZ, B.returns, Nat.le_refl _, Nat.le_refl _, Nat.le_refl _, Nat.le_refl _, (show gB G ≤ s.heap.size by rw [hH.1]; exact hH.2.1)⟩
  exact body _ X rfl (name_of_methodNamed B.named B.method).1 s.heap [] _ hH va_S.rf hl
/-! THE ROWS: an instruction each -/
section ROWS
variable {G : xG} {μ : xM} {cc : ByteArray} {nL d mc ms k n pc : Nat} {own : String} {ret : Option FieldType} {L L' : List (Nat × Value)} {S : List Value} {σ : xS}
theorem e_iconst {z : Int} {v : Int32} (X : xC G μ cc nL own ret d mc ms) (hd : decode cc pc = .ok (.iconst z, 1)) (hv : Int32.ofInt z = v) (K : Ev G μ nL k n (pc + 1) L (.int v :: S) σ) : Ev G μ nL k n pc L (S) σ := fun H locs ls hH hS hl => lv_iconst X.1 X.2.1 hd hv (K H locs ls hH hS hl)
theorem e_bipush {z : Int} {v : Int32} (X : xC G μ cc nL own ret d mc ms) (hd : decode cc pc = .ok (.bipush z, 2)) (hv : (Int8.ofInt z).toInt32 = v) (K : Ev G μ nL k n (pc + 2) L (.int v :: S) σ) : Ev G μ nL k n pc L (S) σ := fun H locs ls hH hS hl => lv_bipush X.1 X.2.1 hd hv (K H locs ls hH hS hl)
theorem e_sipush {z : Int} {v : Int32} (X : xC G μ cc nL own ret d mc ms) (hd : decode cc pc = .ok (.sipush z, 3)) (hv : (Int16.ofInt z).toInt32 = v) (K : Ev G μ nL k n (pc + 3) L (.int v :: S) σ) : Ev G μ nL k n pc L (S) σ := fun H locs ls hH hS hl => lv_sipush X.1 X.2.1 hd hv (K H locs ls hH hS hl)
theorem e_lconst {z : Fin 2} {v : Int64} (X : xC G μ cc nL own ret d mc ms) (hd : decode cc pc = .ok (.lconst z, 1)) (hv : Int64.ofNat (z : Nat) = v) (K : Ev G μ nL k n (pc + 1) L (.long v :: S) σ) : Ev G μ nL k n pc L (S) σ := fun H locs ls hH hS hl => lv_lconst X.1 X.2.1 hd hv (K H locs ls hH hS hl)
theorem e_iload_n {i : Fin 4} {x : Int32} (X : xC G μ cc nL own ret d mc ms) (hd : decode cc pc = .ok (.iload_n i, 1)) (j : Nat) (hj : L[j]? = some ((i : Nat), .int x)) (K : Ev G μ nL k n (pc + 1) L (.int x :: S) σ) : Ev G μ nL k n pc L (S) σ := fun H locs ls hH hS hl => lv_iload_n X.1 X.2.1 hd rfl (lv_at hl j hj) (K H locs ls hH hS hl)
theorem e_iload {i : Nat} {x : Int32} (X : xC G μ cc nL own ret d mc ms) (hd : decode cc pc = .ok (.iload i, 2)) (j : Nat) (hj : L[j]? = some (i, .int x)) (K : Ev G μ nL k n (pc + 2) L (.int x :: S) σ) : Ev G μ nL k n pc L (S) σ := fun H locs ls hH hS hl => lv_iload X.1 X.2.1 hd (lv_at hl j hj) (K H locs ls hH hS hl)
theorem e_lload_n {i : Fin 4} {x : Int64} (X : xC G μ cc nL own ret d mc ms) (hd : decode cc pc = .ok (.lload_n i, 1)) (j : Nat) (hj : L[j]? = some ((i : Nat), .long x)) (K : Ev G μ nL k n (pc + 1) L (.long x :: S) σ) : Ev G μ nL k n pc L (S) σ := fun H locs ls hH hS hl => lv_lload_n X.1 X.2.1 hd rfl (lv_at hl j hj) (K H locs ls hH hS hl)
theorem e_lload {i : Nat} {x : Int64} (X : xC G μ cc nL own ret d mc ms) (hd : decode cc pc = .ok (.lload i, 2)) (j : Nat) (hj : L[j]? = some (i, .long x)) (K : Ev G μ nL k n (pc + 2) L (.long x :: S) σ) : Ev G μ nL k n pc L (S) σ := fun H locs ls hH hS hl => lv_lload X.1 X.2.1 hd (lv_at hl j hj) (K H locs ls hH hS hl)
theorem e_aload_n {i : Fin 4} {x : Nat} (X : xC G μ cc nL own ret d mc ms) (hd : decode cc pc = .ok (.aload_n i, 1)) (j : Nat) (hj : L[j]? = some ((i : Nat), .ref x)) (K : Ev G μ nL k n (pc + 1) L (.ref x :: S) σ) : Ev G μ nL k n pc L (S) σ := fun H locs ls hH hS hl => lv_aload_n X.1 X.2.1 hd rfl (lv_at hl j hj) (K H locs ls hH hS hl)
theorem e_aload {i : Nat} {x : Nat} (X : xC G μ cc nL own ret d mc ms) (hd : decode cc pc = .ok (.aload i, 2)) (j : Nat) (hj : L[j]? = some (i, .ref x)) (K : Ev G μ nL k n (pc + 2) L (.ref x :: S) σ) : Ev G μ nL k n pc L (S) σ := fun H locs ls hH hS hl => lv_aload X.1 X.2.1 hd (lv_at hl j hj) (K H locs ls hH hS hl)
theorem e_istore_n {i : Fin 4} {x : Int32} (X : xC G μ cc nL own ret d mc ms) (hd : decode cc pc = .ok (.istore_n i, 1)) (hn : (i : Nat) < nL) (hL : ((i : Nat), Value.int x) :: L.filter (fun q => !(q.1 == (i : Nat)) && !(q.1 + 1 == (i : Nat) && q.2.category == 2)) = L') (K : Ev G μ nL k n (pc + 1) L' S σ) : Ev G μ nL k n pc L (Value.int x :: S) σ := fun H locs ls hH hS hl => lv_istore_n X.1 X.2.1 hd rfl hl hn hL (fun ls' hl' => K H locs ls' hH hS hl')
theorem e_istore {i : Nat} {x : Int32} (X : xC G μ cc nL own ret d mc ms) (hd : decode cc pc = .ok (.istore i, 2)) (hn : i < nL) (hL : (i, Value.int x) :: L.filter (fun q => !(q.1 == i) && !(q.1 + 1 == i && q.2.category == 2)) = L') (K : Ev G μ nL k n (pc + 2) L' S σ) : Ev G μ nL k n pc L (Value.int x :: S) σ := fun H locs ls hH hS hl => lv_istore X.1 X.2.1 hd hl hn hL (fun ls' hl' => K H locs ls' hH hS hl')
theorem e_lstore_n {i : Fin 4} {x : Int64} (X : xC G μ cc nL own ret d mc ms) (hd : decode cc pc = .ok (.lstore_n i, 1)) (hn : (i : Nat) + 1 < nL) (hL : ((i : Nat), Value.long x) :: L.filter (fun q => !(q.1 == (i : Nat)) && (!(q.1 == (i : Nat) + 1) && !(q.1 + 1 == (i : Nat) && q.2.category == 2))) = L') (K : Ev G μ nL k n (pc + 1) L' S σ) : Ev G μ nL k n pc L (Value.long x :: S) σ := fun H locs ls hH hS hl => lv_lstore_n X.1 X.2.1 hd rfl hl hn hL (fun ls' hl' => K H locs ls' hH hS hl')
theorem e_lstore {i : Nat} {x : Int64} (X : xC G μ cc nL own ret d mc ms) (hd : decode cc pc = .ok (.lstore i, 2)) (hn : i + 1 < nL) (hL : (i, Value.long x) :: L.filter (fun q => !(q.1 == i) && (!(q.1 == i + 1) && !(q.1 + 1 == i && q.2.category == 2))) = L') (K : Ev G μ nL k n (pc + 2) L' S σ) : Ev G μ nL k n pc L (Value.long x :: S) σ := fun H locs ls hH hS hl => lv_lstore X.1 X.2.1 hd hl hn hL (fun ls' hl' => K H locs ls' hH hS hl')
theorem e_astore_n {i : Fin 4} {x : Nat} (X : xC G μ cc nL own ret d mc ms) (hd : decode cc pc = .ok (.astore_n i, 1)) (hn : (i : Nat) < nL) (hL : ((i : Nat), Value.ref x) :: L.filter (fun q => !(q.1 == (i : Nat)) && !(q.1 + 1 == (i : Nat) && q.2.category == 2)) = L') (K : Ev G μ nL k n (pc + 1) L' S σ) : Ev G μ nL k n pc L (Value.ref x :: S) σ := fun H locs ls hH hS hl => lv_astore_n X.1 X.2.1 hd rfl hl hn hL (fun ls' hl' => K H locs ls' hH hS hl')
theorem e_astore {i : Nat} {x : Nat} (X : xC G μ cc nL own ret d mc ms) (hd : decode cc pc = .ok (.astore i, 2)) (hn : i < nL) (hL : (i, Value.ref x) :: L.filter (fun q => !(q.1 == i) && !(q.1 + 1 == i && q.2.category == 2)) = L') (K : Ev G μ nL k n (pc + 2) L' S σ) : Ev G μ nL k n pc L (Value.ref x :: S) σ := fun H locs ls hH hS hl => lv_astore X.1 X.2.1 hd hl hn hL (fun ls' hl' => K H locs ls' hH hS hl')
theorem e_iinc {i : Nat} {z : Int} {x v : Int32} (X : xC G μ cc nL own ret d mc ms) (hd : decode cc pc = .ok (.iinc i z, 3)) (j : Nat) (hj : L[j]? = some (i, .int x)) (hv : x + Int32.ofInt z = v) (hn : i < nL) (hL : (i, Value.int v) :: L.filter (fun q => !(q.1 == i) && !(q.1 + 1 == i && q.2.category == 2)) = L') (K : Ev G μ nL k n (pc + 3) L' S σ) : Ev G μ nL k n pc L S σ := fun H locs ls hH hS hl => lv_iinc X.1 X.2.1 hd hl hj hv hn hL (fun ls' hl' => K H locs ls' hH hS hl')
theorem e_iadd {x y : Int32} (X : xC G μ cc nL own ret d mc ms) (hd : decode cc pc = .ok (.iadd, 1))  (K : Ev G μ nL k n (pc + 1) L (.int (x + y) :: S) σ) : Ev G μ nL k n pc L (.int y :: .int x :: S) σ := fun H locs ls hH hS hl => lv_iadd X.1 X.2.1 hd (K H locs ls hH hS hl)
theorem e_isub {x y : Int32} (X : xC G μ cc nL own ret d mc ms) (hd : decode cc pc = .ok (.isub, 1))  (K : Ev G μ nL k n (pc + 1) L (.int (x - y) :: S) σ) : Ev G μ nL k n pc L (.int y :: .int x :: S) σ := fun H locs ls hH hS hl => lv_isub X.1 X.2.1 hd (K H locs ls hH hS hl)
theorem e_imul {x y : Int32} (X : xC G μ cc nL own ret d mc ms) (hd : decode cc pc = .ok (.imul, 1))  (K : Ev G μ nL k n (pc + 1) L (.int (x * y) :: S) σ) : Ev G μ nL k n pc L (.int y :: .int x :: S) σ := fun H locs ls hH hS hl => lv_imul X.1 X.2.1 hd (K H locs ls hH hS hl)
theorem e_iand {x y : Int32} (X : xC G μ cc nL own ret d mc ms) (hd : decode cc pc = .ok (.iand, 1))  (K : Ev G μ nL k n (pc + 1) L (.int (x &&& y) :: S) σ) : Ev G μ nL k n pc L (.int y :: .int x :: S) σ := fun H locs ls hH hS hl => lv_iand X.1 X.2.1 hd (K H locs ls hH hS hl)
theorem e_ior {x y : Int32} (X : xC G μ cc nL own ret d mc ms) (hd : decode cc pc = .ok (.ior, 1))  (K : Ev G μ nL k n (pc + 1) L (.int (x ||| y) :: S) σ) : Ev G μ nL k n pc L (.int y :: .int x :: S) σ := fun H locs ls hH hS hl => lv_ior X.1 X.2.1 hd (K H locs ls hH hS hl)
theorem e_ixor {x y : Int32} (X : xC G μ cc nL own ret d mc ms) (hd : decode cc pc = .ok (.ixor, 1))  (K : Ev G μ nL k n (pc + 1) L (.int (x ^^^ y) :: S) σ) : Ev G μ nL k n pc L (.int y :: .int x :: S) σ := fun H locs ls hH hS hl => lv_ixor X.1 X.2.1 hd (K H locs ls hH hS hl)
theorem e_idiv {x y : Int32} (X : xC G μ cc nL own ret d mc ms) (hd : decode cc pc = .ok (.idiv, 1)) (hne : ¬ y = 0) (K : Ev G μ nL k n (pc + 1) L (.int (x / y) :: S) σ) : Ev G μ nL k n pc L (.int y :: .int x :: S) σ := fun H locs ls hH hS hl => lv_idiv X.1 X.2.1 hd hne (K H locs ls hH hS hl)
theorem e_irem {x y : Int32} (X : xC G μ cc nL own ret d mc ms) (hd : decode cc pc = .ok (.irem, 1)) (hne : ¬ y = 0) (K : Ev G μ nL k n (pc + 1) L (.int (x - x / y * y) :: S) σ) : Ev G μ nL k n pc L (.int y :: .int x :: S) σ := fun H locs ls hH hS hl => lv_irem X.1 X.2.1 hd hne (K H locs ls hH hS hl)
theorem e_ineg {x : Int32} (X : xC G μ cc nL own ret d mc ms) (hd : decode cc pc = .ok (.ineg, 1))  (K : Ev G μ nL k n (pc + 1) L (.int (-x) :: S) σ) : Ev G μ nL k n pc L (.int x :: S) σ := fun H locs ls hH hS hl => lv_ineg X.1 X.2.1 hd (K H locs ls hH hS hl)
theorem e_ishl {x y : Int32} (X : xC G μ cc nL own ret d mc ms) (hd : decode cc pc = .ok (.ishl, 1))  (K : Ev G μ nL k n (pc + 1) L (.int (x <<< (y &&& 31)) :: S) σ) : Ev G μ nL k n pc L (.int y :: .int x :: S) σ := fun H locs ls hH hS hl => lv_ishl X.1 X.2.1 hd (K H locs ls hH hS hl)
theorem e_ishr {x y : Int32} (X : xC G μ cc nL own ret d mc ms) (hd : decode cc pc = .ok (.ishr, 1))  (K : Ev G μ nL k n (pc + 1) L (.int (x >>> (y &&& 31)) :: S) σ) : Ev G μ nL k n pc L (.int y :: .int x :: S) σ := fun H locs ls hH hS hl => lv_ishr X.1 X.2.1 hd (K H locs ls hH hS hl)
theorem e_iushr {x y v : Int32} (X : xC G μ cc nL own ret d mc ms) (hd : decode cc pc = .ok (.iushr, 1)) (hv : (x.toUInt32 >>> (y.toUInt32 &&& Int32.toUInt32 31)).toInt32 = v) (K : Ev G μ nL k n (pc + 1) L (.int v :: S) σ) : Ev G μ nL k n pc L (.int y :: .int x :: S) σ := fun H locs ls hH hS hl => lv_iushr X.1 X.2.1 hd hv (K H locs ls hH hS hl)
theorem e_i2l {x : Int32} {v : Int64} (X : xC G μ cc nL own ret d mc ms) (hd : decode cc pc = .ok (.i2l, 1)) (hv : x.toInt64 = v) (K : Ev G μ nL k n (pc + 1) L (.long v :: S) σ) : Ev G μ nL k n pc L (.int x :: S) σ := fun H locs ls hH hS hl => lv_i2l X.1 X.2.1 hd hv (K H locs ls hH hS hl)
theorem e_ladd {x y : Int64} (X : xC G μ cc nL own ret d mc ms) (hd : decode cc pc = .ok (.ladd, 1))  (K : Ev G μ nL k n (pc + 1) L (.long (x + y) :: S) σ) : Ev G μ nL k n pc L (.long y :: .long x :: S) σ := fun H locs ls hH hS hl => lv_ladd X.1 X.2.1 hd (K H locs ls hH hS hl)
theorem e_ldiv {x y : Int64} (X : xC G μ cc nL own ret d mc ms) (hd : decode cc pc = .ok (.ldiv, 1)) (hne : ¬ y = 0) (K : Ev G μ nL k n (pc + 1) L (.long (x / y) :: S) σ) : Ev G μ nL k n pc L (.long y :: .long x :: S) σ := fun H locs ls hH hS hl => lv_ldiv X.1 X.2.1 hd hne (K H locs ls hH hS hl)
theorem e_lrem {x y : Int64} (X : xC G μ cc nL own ret d mc ms) (hd : decode cc pc = .ok (.lrem, 1)) (hne : ¬ y = 0) (K : Ev G μ nL k n (pc + 1) L (.long (x - x / y * y) :: S) σ) : Ev G μ nL k n pc L (.long y :: .long x :: S) σ := fun H locs ls hH hS hl => lv_lrem X.1 X.2.1 hd hne (K H locs ls hH hS hl)
theorem e_lcmp {x y : Int64} (X : xC G μ cc nL own ret d mc ms) (hd : decode cc pc = .ok (.lcmp, 1))  (K : Ev G μ nL k n (pc + 1) L (.int (if x > y then 1 else if x = y then 0 else -1) :: S) σ) : Ev G μ nL k n pc L (.long y :: .long x :: S) σ := fun H locs ls hH hS hl => W.lcmp X.1 X.2.1 hd (K H locs ls hH hS hl)
theorem e_dup {v : Value} (X : xC G μ cc nL own ret d mc ms) (hd : decode cc pc = .ok (.dup, 1)) (hv : v.category = 1) (K : Ev G μ nL k n (pc + 1) L (v :: v :: S) σ) : Ev G μ nL k n pc L (v :: S) σ := fun H locs ls hH hS hl => lv_dup X.1 X.2.1 hd hv (K H locs ls hH hS hl)
theorem e_dup2 {v w : Value} (X : xC G μ cc nL own ret d mc ms) (hd : decode cc pc = .ok (.dup2, 1)) (hv : v.category = 1) (hw : w.category = 1) (K : Ev G μ nL k n (pc + 1) L (v :: w :: v :: w :: S) σ) : Ev G μ nL k n pc L (v :: w :: S) σ := fun H locs ls hH hS hl => lv_dup2_11 X.1 X.2.1 hd hv hw (K H locs ls hH hS hl)
theorem e_pop {v : Value} (X : xC G μ cc nL own ret d mc ms) (hd : decode cc pc = .ok (.pop, 1)) (hv : v.category = 1) (K : Ev G μ nL k n (pc + 1) L (S) σ) : Ev G μ nL k n pc L (v :: S) σ := fun H locs ls hH hS hl => lv_pop X.1 X.2.1 hd hv (K H locs ls hH hS hl)
theorem e_if_eq {x : Int32} {off : Int} {tgt : Nat} (X : xC G μ cc nL own ret d mc ms) (hd : decode cc pc = .ok (.ifCond .eq off, 3)) (ht : (pc : Int) + off = (tgt : Int)) (K1 : x = 0 → Ev G μ nL k n tgt L S σ) (K2 : ¬ x = 0 → Ev G μ nL k n (pc + 3) L S σ) : Ev G μ nL k n pc L (.int x :: S) σ := fun H locs ls hH hS hl => lv_if_eq X.1 X.2.1 hd ht (fun q => K1 q H locs ls hH hS hl) (fun q => K2 q H locs ls hH hS hl)
theorem e_if_ne {x : Int32} {off : Int} {tgt : Nat} (X : xC G μ cc nL own ret d mc ms) (hd : decode cc pc = .ok (.ifCond .ne off, 3)) (ht : (pc : Int) + off = (tgt : Int)) (K1 : ¬ x = 0 → Ev G μ nL k n tgt L S σ) (K2 : x = 0 → Ev G μ nL k n (pc + 3) L S σ) : Ev G μ nL k n pc L (.int x :: S) σ := fun H locs ls hH hS hl => lv_if_ne X.1 X.2.1 hd ht (fun q => K1 q H locs ls hH hS hl) (fun q => K2 q H locs ls hH hS hl)
theorem e_if_lt {x : Int32} {off : Int} {tgt : Nat} (X : xC G μ cc nL own ret d mc ms) (hd : decode cc pc = .ok (.ifCond .lt off, 3)) (ht : (pc : Int) + off = (tgt : Int)) (K1 : x < 0 → Ev G μ nL k n tgt L S σ) (K2 : ¬ x < 0 → Ev G μ nL k n (pc + 3) L S σ) : Ev G μ nL k n pc L (.int x :: S) σ := fun H locs ls hH hS hl => lv_if_lt X.1 X.2.1 hd ht (fun q => K1 q H locs ls hH hS hl) (fun q => K2 q H locs ls hH hS hl)
theorem e_if_ge {x : Int32} {off : Int} {tgt : Nat} (X : xC G μ cc nL own ret d mc ms) (hd : decode cc pc = .ok (.ifCond .ge off, 3)) (ht : (pc : Int) + off = (tgt : Int)) (K1 : 0 ≤ x → Ev G μ nL k n tgt L S σ) (K2 : ¬ 0 ≤ x → Ev G μ nL k n (pc + 3) L S σ) : Ev G μ nL k n pc L (.int x :: S) σ := fun H locs ls hH hS hl => lv_if_ge X.1 X.2.1 hd ht (fun q => K1 q H locs ls hH hS hl) (fun q => K2 q H locs ls hH hS hl)
theorem e_if_gt {x : Int32} {off : Int} {tgt : Nat} (X : xC G μ cc nL own ret d mc ms) (hd : decode cc pc = .ok (.ifCond .gt off, 3)) (ht : (pc : Int) + off = (tgt : Int)) (K1 : 0 < x → Ev G μ nL k n tgt L S σ) (K2 : ¬ 0 < x → Ev G μ nL k n (pc + 3) L S σ) : Ev G μ nL k n pc L (.int x :: S) σ := fun H locs ls hH hS hl => lv_if_gt X.1 X.2.1 hd ht (fun q => K1 q H locs ls hH hS hl) (fun q => K2 q H locs ls hH hS hl)
theorem e_if_le {x : Int32} {off : Int} {tgt : Nat} (X : xC G μ cc nL own ret d mc ms) (hd : decode cc pc = .ok (.ifCond .le off, 3)) (ht : (pc : Int) + off = (tgt : Int)) (K1 : x ≤ 0 → Ev G μ nL k n tgt L S σ) (K2 : ¬ x ≤ 0 → Ev G μ nL k n (pc + 3) L S σ) : Ev G μ nL k n pc L (.int x :: S) σ := fun H locs ls hH hS hl => lv_if_le X.1 X.2.1 hd ht (fun q => K1 q H locs ls hH hS hl) (fun q => K2 q H locs ls hH hS hl)
theorem e_icmp_eq {x y : Int32} {off : Int} {tgt : Nat} (X : xC G μ cc nL own ret d mc ms) (hd : decode cc pc = .ok (.if_icmp .eq off, 3)) (ht : (pc : Int) + off = (tgt : Int)) (K1 : x = y → Ev G μ nL k n tgt L S σ) (K2 : ¬ x = y → Ev G μ nL k n (pc + 3) L S σ) : Ev G μ nL k n pc L (.int y :: .int x :: S) σ := fun H locs ls hH hS hl => lv_icmp_eq X.1 X.2.1 hd ht (fun q => K1 q H locs ls hH hS hl) (fun q => K2 q H locs ls hH hS hl)
theorem e_icmp_ne {x y : Int32} {off : Int} {tgt : Nat} (X : xC G μ cc nL own ret d mc ms) (hd : decode cc pc = .ok (.if_icmp .ne off, 3)) (ht : (pc : Int) + off = (tgt : Int)) (K1 : ¬ x = y → Ev G μ nL k n tgt L S σ) (K2 : x = y → Ev G μ nL k n (pc + 3) L S σ) : Ev G μ nL k n pc L (.int y :: .int x :: S) σ := fun H locs ls hH hS hl => lv_icmp_ne X.1 X.2.1 hd ht (fun q => K1 q H locs ls hH hS hl) (fun q => K2 q H locs ls hH hS hl)
theorem e_icmp_lt {x y : Int32} {off : Int} {tgt : Nat} (X : xC G μ cc nL own ret d mc ms) (hd : decode cc pc = .ok (.if_icmp .lt off, 3)) (ht : (pc : Int) + off = (tgt : Int)) (K1 : x < y → Ev G μ nL k n tgt L S σ) (K2 : ¬ x < y → Ev G μ nL k n (pc + 3) L S σ) : Ev G μ nL k n pc L (.int y :: .int x :: S) σ := fun H locs ls hH hS hl => lv_icmp_lt X.1 X.2.1 hd ht (fun q => K1 q H locs ls hH hS hl) (fun q => K2 q H locs ls hH hS hl)
theorem e_icmp_ge {x y : Int32} {off : Int} {tgt : Nat} (X : xC G μ cc nL own ret d mc ms) (hd : decode cc pc = .ok (.if_icmp .ge off, 3)) (ht : (pc : Int) + off = (tgt : Int)) (K1 : y ≤ x → Ev G μ nL k n tgt L S σ) (K2 : ¬ y ≤ x → Ev G μ nL k n (pc + 3) L S σ) : Ev G μ nL k n pc L (.int y :: .int x :: S) σ := fun H locs ls hH hS hl => lv_icmp_ge X.1 X.2.1 hd ht (fun q => K1 q H locs ls hH hS hl) (fun q => K2 q H locs ls hH hS hl)
theorem e_icmp_gt {x y : Int32} {off : Int} {tgt : Nat} (X : xC G μ cc nL own ret d mc ms) (hd : decode cc pc = .ok (.if_icmp .gt off, 3)) (ht : (pc : Int) + off = (tgt : Int)) (K1 : y < x → Ev G μ nL k n tgt L S σ) (K2 : ¬ y < x → Ev G μ nL k n (pc + 3) L S σ) : Ev G μ nL k n pc L (.int y :: .int x :: S) σ := fun H locs ls hH hS hl => lv_icmp_gt X.1 X.2.1 hd ht (fun q => K1 q H locs ls hH hS hl) (fun q => K2 q H locs ls hH hS hl)
theorem e_icmp_le {x y : Int32} {off : Int} {tgt : Nat} (X : xC G μ cc nL own ret d mc ms) (hd : decode cc pc = .ok (.if_icmp .le off, 3)) (ht : (pc : Int) + off = (tgt : Int)) (K1 : x ≤ y → Ev G μ nL k n tgt L S σ) (K2 : ¬ x ≤ y → Ev G μ nL k n (pc + 3) L S σ) : Ev G μ nL k n pc L (.int y :: .int x :: S) σ := fun H locs ls hH hS hl => lv_icmp_le X.1 X.2.1 hd ht (fun q => K1 q H locs ls hH hS hl) (fun q => K2 q H locs ls hH hS hl)
theorem e_goto {off : Int} {tgt : Nat} (X : xC G μ cc nL own ret d mc ms) (hd : decode cc pc = .ok (.goto off, 3)) (ht : (pc : Int) + off = (tgt : Int)) (K : Ev G μ nL k n tgt L S σ) : Ev G μ nL k n pc L S σ := fun H locs ls hH hS hl => lv_goto X.1 X.2.1 hd ht (K H locs ls hH hS hl)
theorem e_ifnull {x : Nat} {off : Int} (X : xC G μ cc nL own ret d mc ms) (hd : decode cc pc = .ok (.ifnull off, 3)) (K : Ev G μ nL k n (pc + 3) L S σ) : Ev G μ nL k n pc L (.ref x :: S) σ := fun H locs ls hH hS hl => lv_ifnull X.1 X.2.1 hd (K H locs ls hH hS hl)
theorem e_ifnonnull {x : Nat} {off : Int} {tgt : Nat} (X : xC G μ cc nL own ret d mc ms) (hd : decode cc pc = .ok (.ifnonnull off, 3)) (ht : (pc : Int) + off = (tgt : Int)) (K : Ev G μ nL k n tgt L S σ) : Ev G μ nL k n pc L (.ref x :: S) σ := fun H locs ls hH hS hl => lv_ifnonnull X.1 X.2.1 hd ht (K H locs ls hH hS hl)
theorem e_lookup {dflt : Int} {ps : Array (Int × Int)} {len : Nat} {x : Int32} {off : Int} {tgt : Nat} (X : xC G μ cc nL own ret d mc ms) (hd : decode cc pc = .ok (.lookupswitch dflt ps, len)) (hp : (ps.toList.zip (ps.toList.drop 1)).all (fun (a, next) => a.1 < next.1) = true) (ho : Op.lookupswitch.offset ps.toList dflt x.toInt = off) (ht : (pc : Int) + off = (tgt : Int)) (K : Ev G μ nL k n tgt L S σ) : Ev G μ nL k n pc L (.int x :: S) σ := fun H locs ls hH hS hl => lv_lookup X.1 X.2.1 hd hp ho ht (K H locs ls hH hS hl)
theorem e_tableOut {dflt lo hi : Int} {offs : Array Int} {len : Nat} {x : Int32} {tgt : Nat} (X : xC G μ cc nL own ret d mc ms) (hd : decode cc pc = .ok (.tableswitch dflt lo hi offs, len)) (h : x.toInt < lo ∨ hi < x.toInt) (ht : (pc : Int) + dflt = (tgt : Int)) (K : Ev G μ nL k n tgt L S σ) : Ev G μ nL k n pc L (.int x :: S) σ := fun H locs ls hH hS hl => lv_tableOut X.1 X.2.1 hd h ht (K H locs ls hH hS hl)
theorem e_tableIn {dflt lo hi : Int} {offs : Array Int} {len : Nat} {x : Int32} {off : Int} {tgt : Nat} (X : xC G μ cc nL own ret d mc ms) (hd : decode cc pc = .ok (.tableswitch dflt lo hi offs, len)) (h1 : ¬ x.toInt < lo) (h2 : ¬ hi < x.toInt) (ho : offs[(x.toInt - lo).toNat]? = some off) (ht : (pc : Int) + off = (tgt : Int)) (K : Ev G μ nL k n tgt L S σ) : Ev G μ nL k n pc L (.int x :: S) σ := fun H locs ls hH hS hl => lv_tableIn X.1 X.2.1 hd h1 h2 ho ht (K H locs ls hH hS hl)
theorem e_ldc {idx : Nat} {v : Int32} (X : xC G μ cc nL own ret d mc ms) (hd : decode cc pc = .ok (.ldc idx, 2)) (hw : Cond.constant own idx v ∈ T0) (K : Ev G μ nL k n (pc + 2) L (.int v :: S) σ) : Ev G μ nL k n pc L S σ := fun H locs ls hH hS hl => lv_ldc X.1 X.2.1 X.2.2.2.1 (X.2.2.2.2.1 _ hw) hd (K H locs ls hH hS hl)
theorem e_ldc2 {idx : Nat} {v : Int64} (X : xC G μ cc nL own ret d mc ms) (hd : decode cc pc = .ok (.ldc2_w idx, 3)) (hw : Cond.constantLong own idx v ∈ T0) (K : Ev G μ nL k n (pc + 3) L (.long v :: S) σ) : Ev G μ nL k n pc L S σ := fun H locs ls hH hS hl => lv_ldc2 X.1 X.2.1 X.2.2.2.1 (X.2.2.2.2.1 _ hw) hd (K H locs ls hH hS hl)
theorem Ev.pick (ks : List Nat) (h : lv_pick L ks = L') (K : Ev G μ nL k n pc L' S σ) : Ev G μ nL k n pc L S σ := fun H locs ls hH hS hl => K H locs ls hH hS (lv_sub hl ks h)
theorem Ev.wide {k' n' : Nat} (h1 : k ≤ k') (h2 : n ≤ n') (K : Ev G μ nL k' n' pc L S σ) : Ev G μ nL k n pc L S σ := fun H locs ls hH hS hl => W.widen h1 h2 (K H locs ls hH hS hl)
theorem e_topi {x : Int32} (K : ∀ y : Int32, y = x → Ev G μ nL k n pc L (.int y :: S) σ) : Ev G μ nL k n pc L (.int x :: S) σ := K x rfl
theorem e_val {x y : Int32} (h : x = y) (K : Ev G μ nL k n pc L (.int y :: S) σ) : Ev G μ nL k n pc L (.int x :: S) σ := h ▸ K
end ROWS
