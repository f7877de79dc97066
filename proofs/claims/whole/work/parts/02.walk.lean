/-! THE STORE: cells by object and place (o, i): the cell at the address o + i. An array: (kind, length, contents), kind 0 an int row, 1 a boolean row, 2 and more a row that no method writes (a static one, the script). An object: (number of its class, its fields). -/
abbrev xE : Type := (Nat × Nat × (Nat → Int32)) ⊕ (Nat × List Value)
abbrev xS : Type := Nat × (Nat × Nat → Option xE)
/-- what stays through the whole run: launch, class numbers, the two array classes, the first new address, the two static rows, the literals and their bytes -/
abbrev xG : Type := Launch × va_G × (ClassId × ClassId) × Nat × (Nat × Nat) × (Nat → Nat) × (Nat → Nat)
def gl (G : xG) : Launch := G.1
def gD (G : xG) : va_G := G.2.1
def gI (G : xG) : ClassId := G.2.2.1.1
def gZ (G : xG) : ClassId := G.2.2.1.2
def gB (G : xG) : Nat := G.2.2.2.1
def gA (G : xG) : Nat := G.2.2.2.2.1.1
def gO (G : xG) : Nat := G.2.2.2.2.1.2
def gK (G : xG) : Nat → Nat := G.2.2.2.2.2.1
def gV (G : xG) : Nat → Nat := G.2.2.2.2.2.2
def gF (G : xG) : Nat → Prop := fun q => gB G ≤ q
def xset (σ : xS) (k : Nat × Nat) (e : xE) : xS := (σ.1, fun q => if q = k then some e else σ.2 q)
def xpush (σ : xS) (k : Nat × Nat) (e : xE) : xS := (σ.1 + 1, fun q => if q = k then some e else σ.2 q)
def xAt (G : xG) (a : Nat) (e : xE) (U : State) (H : Heap) : Prop := match e with
  | .inl (0, n, f) => gB G ≤ a ∧ va_at (gD G) vwCl (a, .inl (gI G, n, .inl f)) H
  | .inl (1, n, f) => gB G ≤ a ∧ va_at (gD G) vwCl (a, .inl (gZ G, n, .inl f)) H
  | .inl (_, n, f) => va_T .int a n (fun j => .int (f j)) (gF G) U H
  | .inr o => gB G ≤ a ∧ va_at (gD G) vwCl (a, .inr o) H
def xH (G : xG) (σ : xS) (U : State) (H : Heap) : Prop :=
  H.size = σ.1 ∧ gB G ≤ σ.1 ∧ (∀ (o i : Nat) (e : xE), σ.2 (o, i) = some e → xAt G (o + i) e U H) ∧ ∀ (o i o' i' : Nat), σ.2 (o, i) ≠ none → σ.2 (o', i') ≠ none → o + i = o' + i' → o = o' ∧ i = i'
def isNw : Cond → Bool
  | .fieldLinkNest .. => true
  | .methodLinkNest .. => true
  | _ => false
def T0 : List Cond := lw_tbl.filter goodWord
/-- the literals: class, pool number, text -/
def sRef (i : Nat) : String × Nat × String := match i with
  | 0 => ("ThickerBook$Reading", 41, "love ")
  | 1 => ("ThickerBook$Reading", 43, "bore ")
  | 2 => ("ThickerBook$Reading", 61, "gap ")
  | 3 => ("ThickerBook$Reading", 63, "paste ")
  | 4 => ("ThickerBookModel", 96, "rkvbtd")
  | 5 => ("ThickerBookModel", 102, "<=>")
  | 6 => ("ThickerBookModel", 114, "gap ")
  | 7 => ("ThickerBookModel", 120, "paste ")
  | 8 => ("ThickerBookModel", 122, "love ")
  | _ => ("ThickerBookModel", 127, "bore ")
def sByt (i : Nat) : List Int32 := match i with
  | 0 => [108, 111, 118, 101, 32]
  | 1 => [98, 111, 114, 101, 32]
  | 2 => [103, 97, 112, 32]
  | 3 => [112, 97, 115, 116, 101, 32]
  | 4 => [114, 107, 118, 98, 116, 100]
  | 5 => [60, 61, 62]
  | 6 => [103, 97, 112, 32]
  | 7 => [112, 97, 115, 116, 101, 32]
  | 8 => [108, 111, 118, 101, 32]
  | _ => [98, 111, 114, 101, 32]
def xU (G : xG) (U : State) : Prop :=
  va_K (gD G) vwCl [(gI G, .int), (gZ G, .boolean)] U ∧ (∀ w ∈ lw_tbl, isNw w = true → va_Nw w U) ∧ ∀ i, i < 10 → vk_R (sRef i).1 (sRef i).2.1 (sRef i).2.2 (gK G i) U
def xZ (G : xG) (U : State) (H : Heap) : Prop :=
  va_Z "ThickerBook" "ABOVE" "[I" (.ref (gA G)) (gF G) U H ∧ va_Z "ThickerBook$Acts" "BODIES" "[I" (.ref (gO G)) (gF G) U H ∧
  va_Z "java/lang/String" "COMPACT_STRINGS" "Z" (.int 1) (gF G) U H ∧ va_Zq "jdk/internal/util/Preconditions" "SIOOBE_FORMATTER" "Ljava/util/function/BiFunction;" (gF G) U H ∧
  ∀ i, i < 10 → va_O "java/lang/String" (gK G i) (gF G) U H ∧ va_OF "java/lang/String" "coder" "B" (.int 0) (gK G i) (gF G) U H ∧ va_OF "java/lang/String" "value" "[B" (.ref (gV G i)) (gK G i) (gF G) U H ∧ va_T .byte (gV G i) (sByt i).length (fun j => .int ((sByt i).getD j 0)) (gF G) U H
theorem xAt.moved {G : xG} {a : Nat} {e : xE} {u U : State} {H : Heap} (hvm : u.vm.Alike U.vm) (h : xAt G a e u H) : xAt G a e U H := by
  rcases e with ⟨t, n, f⟩ | o
  · match t, h with
    | 0, h => exact h
    | 1, h => exact h
    | t + 2, h => exact va_T.moved hvm h
  · exact h
theorem xAt.kept {G : xG} {a : Nat} {e : xE} {U : State} {H H1 : Heap} (h : xAt G a e U H) (hq : H1[a]? = H[a]?) : xAt G a e U H1 := by
  rcases e with ⟨t, n, f⟩ | o
  · match t, h with
    | 0, h => exact ⟨h.1, va_at.kept (D := gD G) (cl := vwCl) (q := (a, .inl (gI G, n, .inl f))) h.2 hq⟩
    | 1, h => exact ⟨h.1, va_at.kept (D := gD G) (cl := vwCl) (q := (a, .inl (gZ G, n, .inl f))) h.2 hq⟩
    | t + 2, h =>
      obtain ⟨cell, h1, h2⟩ := h
      exact ⟨cell, by rw [hq]; exact h1, h2⟩
  · exact ⟨h.1, va_at.kept (D := gD G) (cl := vwCl) (q := (a, .inr o)) h.2 hq⟩
theorem xAt.lt {G : xG} {a : Nat} {e : xE} {U : State} {H : Heap} (h : xAt G a e U H) : a < H.size := by
  rcases e with ⟨t, n, f⟩ | o
  · match t, h with
    | 0, h => exact va_at.lt (D := gD G) (cl := vwCl) (q := (a, .inl (gI G, n, .inl f))) h.2
    | 1, h => exact va_at.lt (D := gD G) (cl := vwCl) (q := (a, .inl (gZ G, n, .inl f))) h.2
    | t + 2, h =>
      obtain ⟨cell, h1, h2⟩ := h
      exact (Array.getElem?_eq_some_iff.mp h1).1
  · exact va_at.lt (D := gD G) (cl := vwCl) (q := (a, .inr o)) h.2
theorem xH.moved {G : xG} {σ : xS} {u U : State} {H : Heap} (hvm : u.vm.Alike U.vm) (h : xH G σ u H) : xH G σ U H := ⟨h.1, h.2.1, fun o i e he => (h.2.2.1 o i e he).moved hvm, h.2.2.2⟩
theorem isNw_tab {w : Cond} (h : isNw w = true) : w.onTables = true := by
  cases w <;> first | rfl | (simp [isNw] at h)
theorem xU.same {G : xG} {u U : State} (hv : u.vm = U.vm) (h : xU G u) : xU G U :=
  ⟨va_K.moved (by rw [hv]; exact Vm.Alike.refl _) h.1, fun w hw hn => va_Nw.same (isNw_tab hn) hv (h.2.1 w hw hn), fun i hi => vk_R.same hv.symm (h.2.2 i hi)⟩
theorem xU.warm {G : xG} {s U : State} (hW : s.WarmedH U.vm) (h : xU G s) : xU G U :=
  ⟨va_K.moved hW.alike h.1, fun w hw hn => by
    have h1 := h.2.1 w hw hn
    cases w <;> first | (simp [isNw] at hn; done) | exact va_Nw.warmF hW h1 | exact va_Nw.warmM hW h1, fun i hi => vk_R.warm hW (h.2.2 i hi)⟩
theorem xZ.moved {G : xG} {u U : State} {H : Heap} (hvm : u.vm.Alike U.vm) (h : xZ G u H) : xZ G U H :=
  ⟨va_Z.moved hvm h.1, va_Z.moved hvm h.2.1, va_Z.moved hvm h.2.2.1, va_Zq.moved hvm h.2.2.2.1, fun i hi => ⟨va_O.moved hvm (h.2.2.2.2 i hi).1, va_OF.moved hvm (h.2.2.2.2 i hi).2.1, va_OF.moved hvm (h.2.2.2.2 i hi).2.2.1, va_T.moved hvm (h.2.2.2.2 i hi).2.2.2⟩⟩
theorem xZ.kept {G : xG} {U : State} {H H1 : Heap} (h : xZ G U H) (hq : ∀ a : Nat, a < H.size → ¬ gF G a → H1[a]? = H[a]?) : xZ G U H1 :=
  ⟨va_Z.kept h.1 hq, va_Z.kept h.2.1 hq, va_Z.kept h.2.2.1 hq, va_Zq.kept h.2.2.2.1 hq, fun i hi => ⟨va_O.kept (h.2.2.2.2 i hi).1 hq, va_OF.kept (h.2.2.2.2 i hi).2.1 hq, va_OF.kept (h.2.2.2.2 i hi).2.2.1 hq, va_T.kept (h.2.2.2.2 i hi).2.2.2 hq⟩⟩
/-! THE WALK: a method's own numbers in one word -/
abbrev xM : Type := Program × Env × Room × State × MethodId × Array Value × List Frame × Method × Code × (State → Prop)
def mP (μ : xM) : Program := μ.1
def mE (μ : xM) : Env := μ.2.1
def mR (μ : xM) : Room := μ.2.2.1
def mS (μ : xM) : State := μ.2.2.2.1
def mM (μ : xM) : MethodId := μ.2.2.2.2.1
def mA (μ : xM) : Array Value := μ.2.2.2.2.2.1
def mB (μ : xM) : List Frame := μ.2.2.2.2.2.2.1
def mT (μ : xM) : Method := μ.2.2.2.2.2.2.2.1
def mC (μ : xM) : Code := μ.2.2.2.2.2.2.2.2.1
def mQ (μ : xM) : State → Prop := μ.2.2.2.2.2.2.2.2.2
def xC (G : xG) (μ : xM) (cc : ByteArray) (nL : Nat) (own : String) (ret : Option FieldType) (d mc ms : Nat) : Prop :=
  (mP μ).tables.exec = Jvm.exec ∧ (mC μ).code = cc ∧ (mC μ).maxLocals = nL ∧ (mS μ).vm.findClass own = some (mM μ).cls ∧ (∀ w ∈ T0, w.before (mA μ) (mS μ) = true) ∧ (mT μ).locks = false ∧ xU G (mS μ) ∧ xZ G (mS μ) (mS μ).heap ∧ (mT μ).sig.returnType = ret ∧ d ≤ (mR μ).frames ∧ 48 * d ≤ (mR μ).locals ∧ mc ≤ (mR μ).cells ∧ ms ≤ (mR μ).slots ∧ gB G ≤ (mS μ).heap.size
def Ev (G : xG) (μ : xM) (nL k n pc : Nat) (L : List (Nat × Value)) (S : List Value) (σ : xS) : Prop :=
  ∀ (H : Heap) (locs : List Loc) (ls : Array Slot), xH G σ (mS μ) H → va_S (gF G) (mS μ).heap H locs → lv_has ls nL L → W (mP μ) (gl G) (mE μ) (mR μ) (mS μ) (mM μ) (mA μ) (mB μ) (mT μ) (mC μ) H locs k n (mQ μ) (F0 (mM μ) pc ls S)
def rmOf (d mc ms : Nat) : Room := { frames := d, cells := mc, slots := ms, locals := 48 * d }
def xPc (G : xG) (as : List Value) (σ : xS) : Array Value → State → Prop := va_Pc as (fun U => xH G σ U U.heap ∧ xU G U ∧ xZ G U U.heap)
def xW (y : MethodName) (cc : ByteArray) (nL : Nat) (ret : Option FieldType) : List Cond := Cond.code y cc nL ret :: T0
def QI (G : xG) (Q : Int32 → xS → Prop) : Array Value → State → Outcome → State → Prop := va_Qi Q (fun u t => xH G u t t.heap) (gF G)
def QL (G : xG) (Q : Int64 → xS → Prop) : Array Value → State → Outcome → State → Prop := va_Ql Q (fun u t => xH G u t t.heap) (gF G)
def QV (G : xG) (Q : xS → Prop) : Array Value → State → Outcome → State → Prop := va_Qv Q (fun u t => xH G u t t.heap) (gF G)
/-- a method's contract: with the arguments as, from the store σ, it returns, and its answer and the store then are as Q says; d calls deep at most, mc new cells of ms slots -/
def CI (G : xG) (y : MethodName) (cc : ByteArray) (nL : Nat) (ret : Option FieldType) (d mc ms : Nat) (as : List Value) (σ : xS) (Q : Int32 → xS → Prop) : Prop := Met (gl G) y (xW y cc nL ret) (rmOf d mc ms) (xPc G as σ) (QI G Q) mc ms (gF G)
def CL (G : xG) (y : MethodName) (cc : ByteArray) (nL : Nat) (ret : Option FieldType) (d mc ms : Nat) (as : List Value) (σ : xS) (Q : Int64 → xS → Prop) : Prop := Met (gl G) y (xW y cc nL ret) (rmOf d mc ms) (xPc G as σ) (QL G Q) mc ms (gF G)
def CV (G : xG) (y : MethodName) (cc : ByteArray) (nL : Nat) (ret : Option FieldType) (d mc ms : Nat) (as : List Value) (σ : xS) (Q : xS → Prop) : Prop := Met (gl G) y (xW y cc nL ret) (rmOf d mc ms) (xPc G as σ) (QV G Q) mc ms (gF G)
theorem Met.ofX {G : xG} {y : MethodName} {cc : ByteArray} {nL d mc ms : Nat} {ret : Option FieldType} {as : List Value} {σ : xS} {Qc : Array Value → State → Outcome → State → Prop} (hy : plainName y.cls = true) (hn : (lg_sl as).length ≤ nL)
    (body : ∀ μ : xM, xC G μ cc nL y.cls ret d mc ms → mQ μ = MQ (mB μ) Qc (mA μ) (mS μ) mc ms (gF G) → (mT μ).name = y.name → Ev G μ nL 0 0 0 (lv_args 0 as) [] σ) : Met (gl G) y (xW y cc nL ret) (rmOf d mc ms) (xPc G as σ) Qc mc ms (gF G) := by
  refine Met.ofW (cc := cc) (maxL := nL) (ret := ret) hy rfl ?_
  intro p e s m args below meth c s₁ B hml hv
  obtain ⟨rfl, hH, hU, hZ⟩ := hv
  have hts := atoms_spec (ws := xW y cc nL ret) B.pre
  have hown : s.vm.findClass y.cls = some m.cls := findClass_of_methodNamed B.named
  have hl := lv_entry as (n := nL) hn
  rw [lg_entry_eq]
  have X : xC G (p, e, (headSpec (xW y cc nL ret) (rmOf d mc ms)).room, s, m, as.toArray, below, meth, c, MQ below Qc as.toArray s mc ms (gF G)) cc nL y.cls ret d mc ms :=
    ⟨B.exec, B.bytes, hml, hown, fun w hw => hts w (List.mem_cons_of_mem _ hw), B.notSynchronized, hU, hZ, B.returns, Nat.le_refl _, Nat.le_refl _, Nat.le_refl _, Nat.le_refl _, (show gB G ≤ s.heap.size by rw [hH.1]; exact hH.2.1)⟩
  exact body _ X rfl (name_of_methodNamed B.named B.method).1 s.heap [] _ hH va_S.rf hl
/-! THE ROWS: an instruction each -/
section ROWS
variable {G : xG} {μ : xM} {cc : ByteArray} {nL d mc ms k n pc : Nat} {own : String} {ret : Option FieldType} {L L' : List (Nat × Value)} {S : List Value} {σ : xS}
theorem e_iconst {z : Int} {v : Int32} (X : xC G μ cc nL own ret d mc ms) (hd : decode cc pc = .ok (.iconst z, 1)) (hv : Int32.ofInt z = v) (K : Ev G μ nL k n (pc + 1) L (.int v :: S) σ) : Ev G μ nL k n pc L (S) σ := fun H locs ls hH hS hl => lv_iconst X.1 X.2.1 hd hv (K H locs ls hH hS hl)
theorem e_bipush {z : Int} {v : Int32} (X : xC G μ cc nL own ret d mc ms) (hd : decode cc pc = .ok (.bipush z, 2)) (hv : (Int8.ofInt z).toInt32 = v) (K : Ev G μ nL k n (pc + 2) L (.int v :: S) σ) : Ev G μ nL k n pc L (S) σ := fun H locs ls hH hS hl => lv_bipush X.1 X.2.1 hd hv (K H locs ls hH hS hl)
theorem e_sipush {z : Int} {v : Int32} (X : xC G μ cc nL own ret d mc ms) (hd : decode cc pc = .ok (.sipush z, 3)) (hv : (Int16.ofInt z).toInt32 = v) (K : Ev G μ nL k n (pc + 3) L (.int v :: S) σ) : Ev G μ nL k n pc L (S) σ := fun H locs ls hH hS hl => lv_sipush X.1 X.2.1 hd hv (K H locs ls hH hS hl)
theorem e_lconst {z : Fin 2} {v : Int64} (X : xC G μ cc nL own ret d mc ms) (hd : decode cc pc = .ok (.lconst z, 1)) (hv : Int64.ofNat (z : Nat) = v) (K : Ev G μ nL k n (pc + 1) L (.long v :: S) σ) : Ev G μ nL k n pc L (S) σ := fun H locs ls hH hS hl => lv_lconst X.1 X.2.1 hd hv (K H locs ls hH hS hl)
theorem e_iload_n {i : Fin 4} {x : Int32} (X : xC G μ cc nL own ret d mc ms) (hd : decode cc pc = .ok (.iload_n i, 1)) (j : Nat) (hj : L[j]? = some ((i : Nat), .int x)) (K : Ev G μ nL k n (pc + 1) L (.int x :: S) σ) : Ev G μ nL k n pc L (S) σ := fun H locs ls hH hS hl => lv_iload_n X.1 X.2.1 hd rfl (lv_at hl j hj) (K H locs ls hH hS hl)
theorem e_iload {i : Nat} {x : Int32} (X : xC G μ cc nL own ret d mc ms) (hd : decode cc pc = .ok (.iload i, 2)) (j : Nat) (hj : L[j]? = some (i, .int x)) (K : Ev G μ nL k n (pc + 2) L (.int x :: S) σ) : Ev G μ nL k n pc L (S) σ := fun H locs ls hH hS hl => lv_iload X.1 X.2.1 hd (lv_at hl j hj) (K H locs ls hH hS hl)
theorem e_lload_n {i : Fin 4} {x : Int64} (X : xC G μ cc nL own ret d mc ms) (hd : decode cc pc = .ok (.lload_n i, 1)) (j : Nat) (hj : L[j]? = some ((i : Nat), .long x)) (K : Ev G μ nL k n (pc + 1) L (.long x :: S) σ) : Ev G μ nL k n pc L (S) σ := fun H locs ls hH hS hl => lv_lload_n X.1 X.2.1 hd rfl (lv_at hl j hj) (K H locs ls hH hS hl)
theorem e_lload {i : Nat} {x : Int64} (X : xC G μ cc nL own ret d mc ms) (hd : decode cc pc = .ok (.lload i, 2)) (j : Nat) (hj : L[j]? = some (i, .long x)) (K : Ev G μ nL k n (pc + 2) L (.long x :: S) σ) : Ev G μ nL k n pc L (S) σ := fun H locs ls hH hS hl => lv_lload X.1 X.2.1 hd (lv_at hl j hj) (K H locs ls hH hS hl)
theorem e_aload_n {i : Fin 4} {x : Nat} (X : xC G μ cc nL own ret d mc ms) (hd : decode cc pc = .ok (.aload_n i, 1)) (j : Nat) (hj : L[j]? = some ((i : Nat), .ref x)) (K : Ev G μ nL k n (pc + 1) L (.ref x :: S) σ) : Ev G μ nL k n pc L (S) σ := fun H locs ls hH hS hl => lv_aload_n X.1 X.2.1 hd rfl (lv_at hl j hj) (K H locs ls hH hS hl)
theorem e_aload {i : Nat} {x : Nat} (X : xC G μ cc nL own ret d mc ms) (hd : decode cc pc = .ok (.aload i, 2)) (j : Nat) (hj : L[j]? = some (i, .ref x)) (K : Ev G μ nL k n (pc + 2) L (.ref x :: S) σ) : Ev G μ nL k n pc L (S) σ := fun H locs ls hH hS hl => lv_aload X.1 X.2.1 hd (lv_at hl j hj) (K H locs ls hH hS hl)
theorem e_istore_n {i : Fin 4} {x : Int32} (X : xC G μ cc nL own ret d mc ms) (hd : decode cc pc = .ok (.istore_n i, 1)) (hn : (i : Nat) < nL) (hL : ((i : Nat), Value.int x) :: L.filter (fun q => !(q.1 == (i : Nat)) && !(q.1 + 1 == (i : Nat) && q.2.category == 2)) = L') (K : Ev G μ nL k n (pc + 1) L' S σ) : Ev G μ nL k n pc L (Value.int x :: S) σ := fun H locs ls hH hS hl => lv_istore_n X.1 X.2.1 hd rfl hl hn hL (fun ls' hl' => K H locs ls' hH hS hl')
theorem e_istore {i : Nat} {x : Int32} (X : xC G μ cc nL own ret d mc ms) (hd : decode cc pc = .ok (.istore i, 2)) (hn : i < nL) (hL : (i, Value.int x) :: L.filter (fun q => !(q.1 == i) && !(q.1 + 1 == i && q.2.category == 2)) = L') (K : Ev G μ nL k n (pc + 2) L' S σ) : Ev G μ nL k n pc L (Value.int x :: S) σ := fun H locs ls hH hS hl => lv_istore X.1 X.2.1 hd hl hn hL (fun ls' hl' => K H locs ls' hH hS hl')
theorem e_lstore_n {i : Fin 4} {x : Int64} (X : xC G μ cc nL own ret d mc ms) (hd : decode cc pc = .ok (.lstore_n i, 1)) (hn : (i : Nat) + 1 < nL) (hL : ((i : Nat), Value.long x) :: L.filter (fun q => !(q.1 == (i : Nat)) && (!(q.1 == (i : Nat) + 1) && !(q.1 + 1 == (i : Nat) && q.2.category == 2))) = L') (K : Ev G μ nL k n (pc + 1) L' S σ) : Ev G μ nL k n pc L (Value.long x :: S) σ := fun H locs ls hH hS hl => lv_lstore_n X.1 X.2.1 hd rfl hl hn hL (fun ls' hl' => K H locs ls' hH hS hl')
theorem e_lstore {i : Nat} {x : Int64} (X : xC G μ cc nL own ret d mc ms) (hd : decode cc pc = .ok (.lstore i, 2)) (hn : i + 1 < nL) (hL : (i, Value.long x) :: L.filter (fun q => !(q.1 == i) && (!(q.1 == i + 1) && !(q.1 + 1 == i && q.2.category == 2))) = L') (K : Ev G μ nL k n (pc + 2) L' S σ) : Ev G μ nL k n pc L (Value.long x :: S) σ := fun H locs ls hH hS hl => lv_lstore X.1 X.2.1 hd hl hn hL (fun ls' hl' => K H locs ls' hH hS hl')
theorem e_astore_n {i : Fin 4} {x : Nat} (X : xC G μ cc nL own ret d mc ms) (hd : decode cc pc = .ok (.astore_n i, 1)) (hn : (i : Nat) < nL) (hL : ((i : Nat), Value.ref x) :: L.filter (fun q => !(q.1 == (i : Nat)) && !(q.1 + 1 == (i : Nat) && q.2.category == 2)) = L') (K : Ev G μ nL k n (pc + 1) L' S σ) : Ev G μ nL k n pc L (Value.ref x :: S) σ := fun H locs ls hH hS hl => lv_astore_n X.1 X.2.1 hd rfl hl hn hL (fun ls' hl' => K H locs ls' hH hS hl')
theorem e_astore {i : Nat} {x : Nat} (X : xC G μ cc nL own ret d mc ms) (hd : decode cc pc = .ok (.astore i, 2)) (hn : i < nL) (hL : (i, Value.ref x) :: L.filter (fun q => !(q.1 == i) && !(q.1 + 1 == i && q.2.category == 2)) = L') (K : Ev G μ nL k n (pc + 2) L' S σ) : Ev G μ nL k n pc L (Value.ref x :: S) σ := fun H locs ls hH hS hl => lv_astore X.1 X.2.1 hd hl hn hL (fun ls' hl' => K H locs ls' hH hS hl')
theorem e_iinc {i : Nat} {z : Int} {x v : Int32} (X : xC G μ cc nL own ret d mc ms) (hd : decode cc pc = .ok (.iinc i z, 3)) (j : Nat) (hj : L[j]? = some (i, .int x)) (hv : x + Int32.ofInt z = v) (hn : i < nL) (hL : (i, Value.int v) :: L.filter (fun q => !(q.1 == i) && !(q.1 + 1 == i && q.2.category == 2)) = L') (K : Ev G μ nL k n (pc + 3) L' S σ) : Ev G μ nL k n pc L S σ := fun H locs ls hH hS hl => lv_iinc X.1 X.2.1 hd hl hj hv hn hL (fun ls' hl' => K H locs ls' hH hS hl')
theorem e_iadd {x y : Int32} (X : xC G μ cc nL own ret d mc ms) (hd : decode cc pc = .ok (.iadd, 1))  (K : Ev G μ nL k n (pc + 1) L (.int (x + y) :: S) σ) : Ev G μ nL k n pc L (.int y :: .int x :: S) σ := fun H locs ls hH hS hl => lv_iadd X.1 X.2.1 hd (K H locs ls hH hS hl)
theorem e_isub {x y : Int32} (X : xC G μ cc nL own ret d mc ms) (hd : decode cc pc = .ok (.isub, 1))  (K : Ev G μ nL k n (pc + 1) L (.int (x - y) :: S) σ) : Ev G μ nL k n pc L (.int y :: .int x :: S) σ := fun H locs ls hH hS hl => lv_isub X.1 X.2.1 hd (K H locs ls hH hS hl)
theorem e_imul {x y : Int32} (X : xC G μ cc nL own ret d mc ms) (hd : decode cc pc = .ok (.imul, 1))  (K : Ev G μ nL k n (pc + 1) L (.int (x * y) :: S) σ) : Ev G μ nL k n pc L (.int y :: .int x :: S) σ := fun H locs ls hH hS hl => lv_imul X.1 X.2.1 hd (K H locs ls hH hS hl)
theorem e_iand {x y : Int32} (X : xC G μ cc nL own ret d mc ms) (hd : decode cc pc = .ok (.iand, 1))  (K : Ev G μ nL k n (pc + 1) L (.int (x &&& y) :: S) σ) : Ev G μ nL k n pc L (.int y :: .int x :: S) σ := fun H locs ls hH hS hl => lv_iand X.1 X.2.1 hd (K H locs ls hH hS hl)
theorem e_ior {x y : Int32} (X : xC G μ cc nL own ret d mc ms) (hd : decode cc pc = .ok (.ior, 1))  (K : Ev G μ nL k n (pc + 1) L (.int (x ||| y) :: S) σ) : Ev G μ nL k n pc L (.int y :: .int x :: S) σ := fun H locs ls hH hS hl => lv_ior X.1 X.2.1 hd (K H locs ls hH hS hl)
theorem e_ixor {x y : Int32} (X : xC G μ cc nL own ret d mc ms) (hd : decode cc pc = .ok (.ixor, 1))  (K : Ev G μ nL k n (pc + 1) L (.int (x ^^^ y) :: S) σ) : Ev G μ nL k n pc L (.int y :: .int x :: S) σ := fun H locs ls hH hS hl => lv_ixor X.1 X.2.1 hd (K H locs ls hH hS hl)
theorem e_idiv {x y : Int32} (X : xC G μ cc nL own ret d mc ms) (hd : decode cc pc = .ok (.idiv, 1)) (hne : ¬ y = 0) (K : Ev G μ nL k n (pc + 1) L (.int (x / y) :: S) σ) : Ev G μ nL k n pc L (.int y :: .int x :: S) σ := fun H locs ls hH hS hl => lv_idiv X.1 X.2.1 hd hne (K H locs ls hH hS hl)
theorem e_irem {x y : Int32} (X : xC G μ cc nL own ret d mc ms) (hd : decode cc pc = .ok (.irem, 1)) (hne : ¬ y = 0) (K : Ev G μ nL k n (pc + 1) L (.int (x - x / y * y) :: S) σ) : Ev G μ nL k n pc L (.int y :: .int x :: S) σ := fun H locs ls hH hS hl => lv_irem X.1 X.2.1 hd hne (K H locs ls hH hS hl)
theorem e_ineg {x : Int32} (X : xC G μ cc nL own ret d mc ms) (hd : decode cc pc = .ok (.ineg, 1))  (K : Ev G μ nL k n (pc + 1) L (.int (-x) :: S) σ) : Ev G μ nL k n pc L (.int x :: S) σ := fun H locs ls hH hS hl => lv_ineg X.1 X.2.1 hd (K H locs ls hH hS hl)
theorem e_ishl {x y : Int32} (X : xC G μ cc nL own ret d mc ms) (hd : decode cc pc = .ok (.ishl, 1))  (K : Ev G μ nL k n (pc + 1) L (.int (x <<< (y &&& 31)) :: S) σ) : Ev G μ nL k n pc L (.int y :: .int x :: S) σ := fun H locs ls hH hS hl => lv_ishl X.1 X.2.1 hd (K H locs ls hH hS hl)
theorem e_ishr {x y : Int32} (X : xC G μ cc nL own ret d mc ms) (hd : decode cc pc = .ok (.ishr, 1))  (K : Ev G μ nL k n (pc + 1) L (.int (x >>> (y &&& 31)) :: S) σ) : Ev G μ nL k n pc L (.int y :: .int x :: S) σ := fun H locs ls hH hS hl => lv_ishr X.1 X.2.1 hd (K H locs ls hH hS hl)
theorem e_iushr {x y v : Int32} (X : xC G μ cc nL own ret d mc ms) (hd : decode cc pc = .ok (.iushr, 1)) (hv : (x.toUInt32 >>> (y.toUInt32 &&& Int32.toUInt32 31)).toInt32 = v) (K : Ev G μ nL k n (pc + 1) L (.int v :: S) σ) : Ev G μ nL k n pc L (.int y :: .int x :: S) σ := fun H locs ls hH hS hl => lv_iushr X.1 X.2.1 hd hv (K H locs ls hH hS hl)
theorem e_i2l {x : Int32} {v : Int64} (X : xC G μ cc nL own ret d mc ms) (hd : decode cc pc = .ok (.i2l, 1)) (hv : x.toInt64 = v) (K : Ev G μ nL k n (pc + 1) L (.long v :: S) σ) : Ev G μ nL k n pc L (.int x :: S) σ := fun H locs ls hH hS hl => lv_i2l X.1 X.2.1 hd hv (K H locs ls hH hS hl)
theorem e_ladd {x y : Int64} (X : xC G μ cc nL own ret d mc ms) (hd : decode cc pc = .ok (.ladd, 1))  (K : Ev G μ nL k n (pc + 1) L (.long (x + y) :: S) σ) : Ev G μ nL k n pc L (.long y :: .long x :: S) σ := fun H locs ls hH hS hl => lv_ladd X.1 X.2.1 hd (K H locs ls hH hS hl)
theorem e_ldiv {x y : Int64} (X : xC G μ cc nL own ret d mc ms) (hd : decode cc pc = .ok (.ldiv, 1)) (hne : ¬ y = 0) (K : Ev G μ nL k n (pc + 1) L (.long (x / y) :: S) σ) : Ev G μ nL k n pc L (.long y :: .long x :: S) σ := fun H locs ls hH hS hl => lv_ldiv X.1 X.2.1 hd hne (K H locs ls hH hS hl)
theorem e_lrem {x y : Int64} (X : xC G μ cc nL own ret d mc ms) (hd : decode cc pc = .ok (.lrem, 1)) (hne : ¬ y = 0) (K : Ev G μ nL k n (pc + 1) L (.long (x - x / y * y) :: S) σ) : Ev G μ nL k n pc L (.long y :: .long x :: S) σ := fun H locs ls hH hS hl => lv_lrem X.1 X.2.1 hd hne (K H locs ls hH hS hl)
theorem e_lcmp {x y : Int64} (X : xC G μ cc nL own ret d mc ms) (hd : decode cc pc = .ok (.lcmp, 1))  (K : Ev G μ nL k n (pc + 1) L (.int (if x > y then 1 else if x = y then 0 else -1) :: S) σ) : Ev G μ nL k n pc L (.long y :: .long x :: S) σ := fun H locs ls hH hS hl => W.lcmp X.1 X.2.1 hd (K H locs ls hH hS hl)
theorem e_dup {v : Value} (X : xC G μ cc nL own ret d mc ms) (hd : decode cc pc = .ok (.dup, 1)) (hv : v.category = 1) (K : Ev G μ nL k n (pc + 1) L (v :: v :: S) σ) : Ev G μ nL k n pc L (v :: S) σ := fun H locs ls hH hS hl => lv_dup X.1 X.2.1 hd hv (K H locs ls hH hS hl)
theorem e_dup2 {v w : Value} (X : xC G μ cc nL own ret d mc ms) (hd : decode cc pc = .ok (.dup2, 1)) (hv : v.category = 1) (hw : w.category = 1) (K : Ev G μ nL k n (pc + 1) L (v :: w :: v :: w :: S) σ) : Ev G μ nL k n pc L (v :: w :: S) σ := fun H locs ls hH hS hl => lv_dup2_11 X.1 X.2.1 hd hv hw (K H locs ls hH hS hl)
theorem e_pop {v : Value} (X : xC G μ cc nL own ret d mc ms) (hd : decode cc pc = .ok (.pop, 1)) (hv : v.category = 1) (K : Ev G μ nL k n (pc + 1) L (S) σ) : Ev G μ nL k n pc L (v :: S) σ := fun H locs ls hH hS hl => lv_pop X.1 X.2.1 hd hv (K H locs ls hH hS hl)
theorem e_if_eq {x : Int32} {off : Int} {tgt : Nat} (X : xC G μ cc nL own ret d mc ms) (hd : decode cc pc = .ok (.ifCond .eq off, 3)) (ht : (pc : Int) + off = (tgt : Int)) (K1 : x = 0 → Ev G μ nL k n tgt L S σ) (K2 : ¬ x = 0 → Ev G μ nL k n (pc + 3) L S σ) : Ev G μ nL k n pc L (.int x :: S) σ := fun H locs ls hH hS hl => lv_if_eq X.1 X.2.1 hd ht (fun q => K1 q H locs ls hH hS hl) (fun q => K2 q H locs ls hH hS hl)
theorem e_if_ne {x : Int32} {off : Int} {tgt : Nat} (X : xC G μ cc nL own ret d mc ms) (hd : decode cc pc = .ok (.ifCond .ne off, 3)) (ht : (pc : Int) + off = (tgt : Int)) (K1 : ¬ x = 0 → Ev G μ nL k n tgt L S σ) (K2 : x = 0 → Ev G μ nL k n (pc + 3) L S σ) : Ev G μ nL k n pc L (.int x :: S) σ := fun H locs ls hH hS hl => lv_if_ne X.1 X.2.1 hd ht (fun q => K1 q H locs ls hH hS hl) (fun q => K2 q H locs ls hH hS hl)
theorem e_if_lt {x : Int32} {off : Int} {tgt : Nat} (X : xC G μ cc nL own ret d mc ms) (hd : decode cc pc = .ok (.ifCond .lt off, 3)) (ht : (pc : Int) + off = (tgt : Int)) (K1 : x < 0 → Ev G μ nL k n tgt L S σ) (K2 : ¬ x < 0 → Ev G μ nL k n (pc + 3) L S σ) : Ev G μ nL k n pc L (.int x :: S) σ := fun H locs ls hH hS hl => lv_if_lt X.1 X.2.1 hd ht (fun q => K1 q H locs ls hH hS hl) (fun q => K2 q H locs ls hH hS hl)
theorem e_if_ge {x : Int32} {off : Int} {tgt : Nat} (X : xC G μ cc nL own ret d mc ms) (hd : decode cc pc = .ok (.ifCond .ge off, 3)) (ht : (pc : Int) + off = (tgt : Int)) (K1 : 0 ≤ x → Ev G μ nL k n tgt L S σ) (K2 : ¬ 0 ≤ x → Ev G μ nL k n (pc + 3) L S σ) : Ev G μ nL k n pc L (.int x :: S) σ := fun H locs ls hH hS hl => lv_if_ge X.1 X.2.1 hd ht (fun q => K1 q H locs ls hH hS hl) (fun q => K2 q H locs ls hH hS hl)
theorem e_if_gt {x : Int32} {off : Int} {tgt : Nat} (X : xC G μ cc nL own ret d mc ms) (hd : decode cc pc = .ok (.ifCond .gt off, 3)) (ht : (pc : Int) + off = (tgt : Int)) (K1 : 0 < x → Ev G μ nL k n tgt L S σ) (K2 : ¬ 0 < x → Ev G μ nL k n (pc + 3) L S σ) : Ev G μ nL k n pc L (.int x :: S) σ := fun H locs ls hH hS hl => lv_if_gt X.1 X.2.1 hd ht (fun q => K1 q H locs ls hH hS hl) (fun q => K2 q H locs ls hH hS hl)
theorem e_if_le {x : Int32} {off : Int} {tgt : Nat} (X : xC G μ cc nL own ret d mc ms) (hd : decode cc pc = .ok (.ifCond .le off, 3)) (ht : (pc : Int) + off = (tgt : Int)) (K1 : x ≤ 0 → Ev G μ nL k n tgt L S σ) (K2 : ¬ x ≤ 0 → Ev G μ nL k n (pc + 3) L S σ) : Ev G μ nL k n pc L (.int x :: S) σ := fun H locs ls hH hS hl => lv_if_le X.1 X.2.1 hd ht (fun q => K1 q H locs ls hH hS hl) (fun q => K2 q H locs ls hH hS hl)
theorem e_icmp_eq {x y : Int32} {off : Int} {tgt : Nat} (X : xC G μ cc nL own ret d mc ms) (hd : decode cc pc = .ok (.if_icmp .eq off, 3)) (ht : (pc : Int) + off = (tgt : Int)) (K1 : x = y → Ev G μ nL k n tgt L S σ) (K2 : ¬ x = y → Ev G μ nL k n (pc + 3) L S σ) : Ev G μ nL k n pc L (.int y :: .int x :: S) σ := fun H locs ls hH hS hl => lv_icmp_eq X.1 X.2.1 hd ht (fun q => K1 q H locs ls hH hS hl) (fun q => K2 q H locs ls hH hS hl)
theorem e_icmp_ne {x y : Int32} {off : Int} {tgt : Nat} (X : xC G μ cc nL own ret d mc ms) (hd : decode cc pc = .ok (.if_icmp .ne off, 3)) (ht : (pc : Int) + off = (tgt : Int)) (K1 : ¬ x = y → Ev G μ nL k n tgt L S σ) (K2 : x = y → Ev G μ nL k n (pc + 3) L S σ) : Ev G μ nL k n pc L (.int y :: .int x :: S) σ := fun H locs ls hH hS hl => lv_icmp_ne X.1 X.2.1 hd ht (fun q => K1 q H locs ls hH hS hl) (fun q => K2 q H locs ls hH hS hl)
theorem e_icmp_lt {x y : Int32} {off : Int} {tgt : Nat} (X : xC G μ cc nL own ret d mc ms) (hd : decode cc pc = .ok (.if_icmp .lt off, 3)) (ht : (pc : Int) + off = (tgt : Int)) (K1 : x < y → Ev G μ nL k n tgt L S σ) (K2 : ¬ x < y → Ev G μ nL k n (pc + 3) L S σ) : Ev G μ nL k n pc L (.int y :: .int x :: S) σ := fun H locs ls hH hS hl => lv_icmp_lt X.1 X.2.1 hd ht (fun q => K1 q H locs ls hH hS hl) (fun q => K2 q H locs ls hH hS hl)
theorem e_icmp_ge {x y : Int32} {off : Int} {tgt : Nat} (X : xC G μ cc nL own ret d mc ms) (hd : decode cc pc = .ok (.if_icmp .ge off, 3)) (ht : (pc : Int) + off = (tgt : Int)) (K1 : y ≤ x → Ev G μ nL k n tgt L S σ) (K2 : ¬ y ≤ x → Ev G μ nL k n (pc + 3) L S σ) : Ev G μ nL k n pc L (.int y :: .int x :: S) σ := fun H locs ls hH hS hl => lv_icmp_ge X.1 X.2.1 hd ht (fun q => K1 q H locs ls hH hS hl) (fun q => K2 q H locs ls hH hS hl)
theorem e_icmp_gt {x y : Int32} {off : Int} {tgt : Nat} (X : xC G μ cc nL own ret d mc ms) (hd : decode cc pc = .ok (.if_icmp .gt off, 3)) (ht : (pc : Int) + off = (tgt : Int)) (K1 : y < x → Ev G μ nL k n tgt L S σ) (K2 : ¬ y < x → Ev G μ nL k n (pc + 3) L S σ) : Ev G μ nL k n pc L (.int y :: .int x :: S) σ := fun H locs ls hH hS hl => lv_icmp_gt X.1 X.2.1 hd ht (fun q => K1 q H locs ls hH hS hl) (fun q => K2 q H locs ls hH hS hl)
theorem e_icmp_le {x y : Int32} {off : Int} {tgt : Nat} (X : xC G μ cc nL own ret d mc ms) (hd : decode cc pc = .ok (.if_icmp .le off, 3)) (ht : (pc : Int) + off = (tgt : Int)) (K1 : x ≤ y → Ev G μ nL k n tgt L S σ) (K2 : ¬ x ≤ y → Ev G μ nL k n (pc + 3) L S σ) : Ev G μ nL k n pc L (.int y :: .int x :: S) σ := fun H locs ls hH hS hl => lv_icmp_le X.1 X.2.1 hd ht (fun q => K1 q H locs ls hH hS hl) (fun q => K2 q H locs ls hH hS hl)
theorem e_goto {off : Int} {tgt : Nat} (X : xC G μ cc nL own ret d mc ms) (hd : decode cc pc = .ok (.goto off, 3)) (ht : (pc : Int) + off = (tgt : Int)) (K : Ev G μ nL k n tgt L S σ) : Ev G μ nL k n pc L S σ := fun H locs ls hH hS hl => lv_goto X.1 X.2.1 hd ht (K H locs ls hH hS hl)
theorem e_ifnull {x : Nat} {off : Int} (X : xC G μ cc nL own ret d mc ms) (hd : decode cc pc = .ok (.ifnull off, 3)) (K : Ev G μ nL k n (pc + 3) L S σ) : Ev G μ nL k n pc L (.ref x :: S) σ := fun H locs ls hH hS hl => lv_ifnull X.1 X.2.1 hd (K H locs ls hH hS hl)
theorem e_ifnonnull {x : Nat} {off : Int} {tgt : Nat} (X : xC G μ cc nL own ret d mc ms) (hd : decode cc pc = .ok (.ifnonnull off, 3)) (ht : (pc : Int) + off = (tgt : Int)) (K : Ev G μ nL k n tgt L S σ) : Ev G μ nL k n pc L (.ref x :: S) σ := fun H locs ls hH hS hl => lv_ifnonnull X.1 X.2.1 hd ht (K H locs ls hH hS hl)
theorem e_lookup {dflt : Int} {ps : Array (Int × Int)} {len : Nat} {x : Int32} {off : Int} {tgt : Nat} (X : xC G μ cc nL own ret d mc ms) (hd : decode cc pc = .ok (.lookupswitch dflt ps, len)) (hp : (ps.toList.zip (ps.toList.drop 1)).all (fun (a, next) => a.1 < next.1) = true) (ho : Op.lookupswitch.offset ps.toList dflt x.toInt = off) (ht : (pc : Int) + off = (tgt : Int)) (K : Ev G μ nL k n tgt L S σ) : Ev G μ nL k n pc L (.int x :: S) σ := fun H locs ls hH hS hl => lv_lookup X.1 X.2.1 hd hp ho ht (K H locs ls hH hS hl)
theorem e_tableOut {dflt lo hi : Int} {offs : Array Int} {len : Nat} {x : Int32} {tgt : Nat} (X : xC G μ cc nL own ret d mc ms) (hd : decode cc pc = .ok (.tableswitch dflt lo hi offs, len)) (h : x.toInt < lo ∨ hi < x.toInt) (ht : (pc : Int) + dflt = (tgt : Int)) (K : Ev G μ nL k n tgt L S σ) : Ev G μ nL k n pc L (.int x :: S) σ := fun H locs ls hH hS hl => lv_tableOut X.1 X.2.1 hd h ht (K H locs ls hH hS hl)
theorem e_tableIn {dflt lo hi : Int} {offs : Array Int} {len : Nat} {x : Int32} {off : Int} {tgt : Nat} (X : xC G μ cc nL own ret d mc ms) (hd : decode cc pc = .ok (.tableswitch dflt lo hi offs, len)) (h1 : ¬ x.toInt < lo) (h2 : ¬ hi < x.toInt) (ho : offs[(x.toInt - lo).toNat]? = some off) (ht : (pc : Int) + off = (tgt : Int)) (K : Ev G μ nL k n tgt L S σ) : Ev G μ nL k n pc L (.int x :: S) σ := fun H locs ls hH hS hl => lv_tableIn X.1 X.2.1 hd h1 h2 ho ht (K H locs ls hH hS hl)
theorem e_ldc {idx : Nat} {v : Int32} (X : xC G μ cc nL own ret d mc ms) (hd : decode cc pc = .ok (.ldc idx, 2)) (hw : Cond.constant own idx v ∈ T0) (K : Ev G μ nL k n (pc + 2) L (.int v :: S) σ) : Ev G μ nL k n pc L S σ := fun H locs ls hH hS hl => lv_ldc X.1 X.2.1 X.2.2.2.1 (X.2.2.2.2.1 _ hw) hd (K H locs ls hH hS hl)
theorem e_ldc2 {idx : Nat} {v : Int64} (X : xC G μ cc nL own ret d mc ms) (hd : decode cc pc = .ok (.ldc2_w idx, 3)) (hw : Cond.constantLong own idx v ∈ T0) (K : Ev G μ nL k n (pc + 3) L (.long v :: S) σ) : Ev G μ nL k n pc L S σ := fun H locs ls hH hS hl => lv_ldc2 X.1 X.2.1 X.2.2.2.1 (X.2.2.2.2.1 _ hw) hd (K H locs ls hH hS hl)
theorem Ev.pick (ks : List Nat) (h : lv_pick L ks = L') (K : Ev G μ nL k n pc L' S σ) : Ev G μ nL k n pc L S σ := fun H locs ls hH hS hl => K H locs ls hH hS (lv_sub hl ks h)
theorem Ev.wide {k' n' : Nat} (h1 : k ≤ k') (h2 : n ≤ n') (K : Ev G μ nL k' n' pc L S σ) : Ev G μ nL k n pc L S σ := fun H locs ls hH hS hl => W.widen h1 h2 (K H locs ls hH hS hl)
theorem e_topi {x : Int32} (K : ∀ y : Int32, y = x → Ev G μ nL k n pc L (.int y :: S) σ) : Ev G μ nL k n pc L (.int x :: S) σ := K x rfl
theorem e_val {x y : Int32} (h : x = y) (K : Ev G μ nL k n pc L (.int y :: S) σ) : Ev G μ nL k n pc L (.int x :: S) σ := h ▸ K
end ROWS
/-! THE ROWS OF THE STORE -/
theorem xset_s {σ : xS} {k : Nat × Nat} {e : xE} : (xset σ k e).2 k = some e := by simp [xset]
theorem xset_n {σ : xS} {k q : Nat × Nat} {e : xE} (h : q ≠ k) : (xset σ k e).2 q = σ.2 q := by simp [xset, h]
theorem xset_1 {σ : xS} {k : Nat × Nat} {e : xE} : (xset σ k e).1 = σ.1 := rfl
theorem xpush_s {σ : xS} {k : Nat × Nat} {e : xE} : (xpush σ k e).2 k = some e := by simp [xpush]
theorem xpush_n {σ : xS} {k q : Nat × Nat} {e : xE} (h : q ≠ k) : (xpush σ k e).2 q = σ.2 q := by simp [xpush, h]
theorem xpush_1 {σ : xS} {k : Nat × Nat} {e : xE} : (xpush σ k e).1 = σ.1 + 1 := rfl
theorem x1P {D : va_G} {cl : List vw_C} {a : Nat} {e : va_E} {H : Heap} (h : va_at D cl (a, e) H) : va_P D cl [(a, e)] H := by
  intro k q hk
  match k, hk with
  | 0, hk => cases hk; exact h
  | k + 1, hk => simp at hk
theorem xH.set {G : xG} {σ : xS} {s : State} {H H1 : Heap} {k : Nat × Nat} {e0 e : xE} (h : xH G σ s H) (hk : σ.2 k = some e0) (ha : xAt G (k.1 + k.2) e s H1) (hz : H1.size = H.size) (hq : ∀ q : Nat, q ≠ k.1 + k.2 → H1[q]? = H[q]?) : xH G (xset σ k e) s H1 := by
  have hdom : ∀ x : Nat × Nat, (xset σ k e).2 x ≠ none → σ.2 x ≠ none := by
    intro x hx
    by_cases hxk : x = k
    · rw [hxk, hk]; exact fun q => by cases q
    · rwa [xset_n hxk] at hx
  refine ⟨hz.trans h.1, h.2.1, fun o i e1 he => ?_, fun o i o' i' h1 h2 h3 => h.2.2.2 o i o' i' (hdom _ h1) (hdom _ h2) h3⟩
  by_cases hx : (o, i) = k
  · subst hx
    rw [xset_s] at he
    cases he
    exact ha
  · rw [xset_n hx] at he
    refine (h.2.2.1 o i e1 he).kept (hq _ fun q => hx ?_)
    have := h.2.2.2 o i k.1 k.2 (by rw [he]; exact fun q => by cases q) (by rw [show (k.1, k.2) = k from rfl, hk]; exact fun q => by cases q) q
    exact Prod.ext this.1 this.2
theorem xH.push {G : xG} {σ : xS} {s : State} {H H1 : Heap} {k : Nat × Nat} {e : xE} (h : xH G σ s H) (hk : k.1 + k.2 = σ.1) (ha : xAt G (k.1 + k.2) e s H1) (hz : H1.size = H.size + 1) (hq : ∀ q : Nat, q < H.size → H1[q]? = H[q]?) : xH G (xpush σ k e) s H1 := by
  have hlt : ∀ (o i : Nat), σ.2 (o, i) ≠ none → o + i < σ.1 := by
    intro o i hx
    cases hv : σ.2 (o, i) with
    | none => exact absurd hv hx
    | some e1 => rw [← h.1]; exact (h.2.2.1 o i e1 hv).lt
  have hdom : ∀ o i : Nat, (xpush σ k e).2 (o, i) ≠ none → ((o, i) = k ∧ o + i = σ.1) ∨ ((o, i) ≠ k ∧ σ.2 (o, i) ≠ none ∧ o + i < σ.1) := by
    intro o i hx
    by_cases hxk : (o, i) = k
    · refine Or.inl ⟨hxk, ?_⟩
      rw [← hk, ← hxk]
    · rw [xpush_n hxk] at hx
      exact Or.inr ⟨hxk, hx, hlt o i hx⟩
  refine ⟨by rw [hz, h.1]; rfl, Nat.le_succ_of_le h.2.1, fun o i e1 he => ?_, fun o i o' i' h1 h2 h3 => ?_⟩
  · by_cases hx : (o, i) = k
    · subst hx
      rw [xpush_s] at he
      cases he
      exact ha
    · rw [xpush_n hx] at he
      have := h.2.2.1 o i e1 he
      exact this.kept (hq _ this.lt)
  · rcases hdom o i h1 with ⟨a1, a2⟩ | ⟨a1, a2, a3⟩ <;> rcases hdom o' i' h2 with ⟨b1, b2⟩ | ⟨b1, b2, b3⟩
    · have := a1.trans b1.symm
      exact ⟨congrArg Prod.fst this, congrArg Prod.snd this⟩
    · omega
    · omega
    · exact h.2.2.2 o i o' i' a2 b2 h3
theorem T0_good {w : Cond} (h : w ∈ T0) : (w.onTables && w.keeps) = true ∨ ∃ ty, w = .arrayClass ty := good_of_word (List.mem_filter.mp h).2
theorem T0_in {w : Cond} (h : w ∈ lw_tbl) (h2 : goodWord w = true) : w ∈ T0 := List.mem_filter.mpr ⟨h, h2⟩
/-- a class: its place, its fields' words -/
def xK (ci : Nat) (C : String) (T : u_T) (N : Nat) (ty : Nat → FieldType) : Prop := vwCl[ci]? = some (C, T, N) ∧ (∀ w ∈ u_ws C T N, w ∈ T0) ∧ (∀ k, k < N → parseFieldDescriptor (T k).2.2.1 = some (ty k)) ∧ (∀ a, a < N → ∀ b, b < N → a ≠ b → (T a).2.1 ≠ (T b).2.1)
/-- a method as its callers need it -/
def xY (y : MethodName) (bytes : ByteArray) (nL : Nat) (ret : Option FieldType) (na : Nat) : Prop := Cond.code y bytes nL ret ∈ T0 ∧ Cond.initialized y.cls ∈ T0 ∧ (y.cls ≠ "java/lang/invoke/MethodHandle" ∧ y.cls ≠ "java/lang/invoke/VarHandle") ∧ (parseMethodDescriptor y.desc).map (fun d => d.parameters.length) = some na
def xYi (y : MethodName) : Prop := Cond.instanceMethod y ∈ T0 ∧ Cond.selects y.cls y y ∈ T0
section ROWS2
variable {G : xG} {μ : xM} {cc : ByteArray} {nL d mc ms k n pc : Nat} {own : String} {ret : Option FieldType} {L L' : List (Nat × Value)} {S : List Value} {σ : xS}
theorem xC.hts (X : xC G μ cc nL own ret d mc ms) {w : Cond} (h : w ∈ T0) : w.before (mA μ) (mS μ) = true := X.2.2.2.2.1 w h
theorem xC.hnw (X : xC G μ cc nL own ret d mc ms) {w : Cond} (h : w ∈ lw_tbl) (hn : isNw w = true) : w.before (mA μ) (mS μ) = true := va_Nw.use (isNw_tab hn) (X.2.2.2.2.2.2.1.2.1 w h hn)
theorem e_get {ci idx fld N o : Nat} {C : String} {T : u_T} {ty : Nat → FieldType} {fs : List Value} {v : Value} (X : xC G μ cc nL own ret d mc ms) (hK : xK ci C T N ty) (hf : fld < N) (hw : Cond.fieldLink own idx (T fld).1 (T fld).2.1 (T fld).2.2.1 ∈ T0) (hd : decode cc pc = .ok (.getfield idx, 3)) (he : σ.2 (o, 0) = some (.inr (ci, fs))) (hv : fs[fld]? = some v) (K : Ev G μ nL k n (pc + 3) L (v :: S) σ) : Ev G μ nL k n pc L (.ref o :: S) σ := fun H locs ls hH hS hl =>
  va_get X.1 X.2.1 (Ts := T0) (fun w h => X.hts h) hK.2.1 X.2.2.2.1 X.2.2.2.2.2.2.1.1 (x1P (hH.2.2.1 o 0 _ he).2) 0 rfl hK.1 fld hf (X.hts hw) (fun _ h => h) hv hd (K H locs ls hH hS hl)
theorem e_getN {ci idx fld N o : Nat} {C host : String} {T : u_T} {ty : Nat → FieldType} {fs : List Value} {v : Value} (X : xC G μ cc nL own ret d mc ms) (hK : xK ci C T N ty) (hf : fld < N) (hw : Cond.fieldLinkNest own idx (T fld).1 (T fld).2.1 (T fld).2.2.1 host ∈ lw_tbl) (hd : decode cc pc = .ok (.getfield idx, 3)) (he : σ.2 (o, 0) = some (.inr (ci, fs))) (hv : fs[fld]? = some v) (K : Ev G μ nL k n (pc + 3) L (v :: S) σ) : Ev G μ nL k n pc L (.ref o :: S) σ := fun H locs ls hH hS hl =>
  va_getN X.1 X.2.1 (Ts := T0) (fun w h => X.hts h) hK.2.1 X.2.2.2.1 X.2.2.2.2.2.2.1.1 (x1P (hH.2.2.1 o 0 _ he).2) 0 rfl hK.1 fld hf (X.hnw hw rfl) (fun _ h => h) hv hd (K H locs ls hH hS hl)
theorem e_put {ci idx fld N o : Nat} {C : String} {T : u_T} {ty : Nat → FieldType} {fs fs' : List Value} {v : Value} (X : xC G μ cc nL own ret d mc ms) (hK : xK ci C T N ty) (hf : fld < N) (hfin : (T fld).2.2.2 = false) (hw : Cond.fieldLink own idx (T fld).1 (T fld).2.1 (T fld).2.2.1 ∈ T0) (hd : decode cc pc = .ok (.putfield idx, 3)) (hn : narrow (ty fld) v = v) (hfit : fits (ty fld) v = true) (he : σ.2 (o, 0) = some (.inr (ci, fs))) (hl : fld < fs.length) (hs : fs.set fld v = fs') (K : Ev G μ nL k n (pc + 3) L S (xset σ (o, 0) (.inr (ci, fs')))) : Ev G μ nL k n pc L (v :: .ref o :: S) σ := by
  intro H locs ls hH hS hll
  have hts : ∀ w ∈ T0, w.before (mA μ) (mS μ) = true := fun w h => X.hts h
  have hKK := X.2.2.2.2.2.2.1.1
  have hap := va_apart (own := own) hts hK.2.1 ty hK.2.2.1 hK.2.2.2 hKK hK.1
  obtain ⟨hB, r, h1, cell, q1, q2, q3, q4⟩ := hH.2.2.1 o 0 _ he
  have hr : r = (C, T, N) := Option.some.inj (h1.symm.trans hK.1)
  subst hr
  obtain ⟨hSl, hfc, kC, hkC, hkind⟩ := hKK.1 ci _ hK.1
  obtain ⟨cf, kf, fi, f, hi, hsl⟩ := hSl fld hf
  have hlay := hts _ (hK.2.1 _ (u_in_lay hf))
  unfold u_lay at hlay
  rw [if_neg (by rw [hfin]; decide)] at hlay
  have hst := (u_facts hfc hkC (u_lays hts hK.2.1 hf) hi).1
  have h6 := u_store hfc hkC hkind hlay hi (hK.2.2.1 fld hf) hn hfit
  refine W.putK X.1 X.2.1 (f := f) ⟨X.2.2.2.1, X.hts hw, ⟨_, _, _, hi⟩, hst⟩ (by rw [q2]; exact h6) q1 q3 (by rw [hsl]; exact k2_hasslot (q4 fld hf)) rfl rfl hd fun H' e1 e2 e3 => ?_
  rw [hsl] at e1 ⊢
  subst hs
  refine K H' _ ls (hH.set he ⟨hB, _, hK.1, t_OB.to (V := updV (vp_V fs) fld v) ⟨_, e1, q2, q3, t_set q4 hap hf v⟩ (fun j _ => vp_updV_set hl v j)⟩ e2 e3) (hS.put e2 e3 hB) hll
theorem e_putF {ci idx fld N o : Nat} {C : String} {T : u_T} {ty : Nat → FieldType} {fs fs' : List Value} {v : Value} (X : xC G μ cc nL own ret d mc ms) (hK : xK ci C T N ty) (hf : fld < N) (hfin : (T fld).2.2.2 = true) (hnm : (mT μ).name = "<init>") (hdecl : (T fld).1 = own) (hw : Cond.fieldLink own idx (T fld).1 (T fld).2.1 (T fld).2.2.1 ∈ T0) (hd : decode cc pc = .ok (.putfield idx, 3)) (hn : narrow (ty fld) v = v) (hfit : fits (ty fld) v = true) (he : σ.2 (o, 0) = some (.inr (ci, fs))) (hl : fld < fs.length) (hs : fs.set fld v = fs') (K : Ev G μ nL k n (pc + 3) L S (xset σ (o, 0) (.inr (ci, fs')))) : Ev G μ nL k n pc L (v :: .ref o :: S) σ := by
  intro H locs ls hH hS hll
  have hts : ∀ w ∈ T0, w.before (mA μ) (mS μ) = true := fun w h => X.hts h
  have hKK := X.2.2.2.2.2.2.1.1
  have hap := va_apart (own := own) hts hK.2.1 ty hK.2.2.1 hK.2.2.2 hKK hK.1
  obtain ⟨hB, r, h1, cell, q1, q2, q3, q4⟩ := hH.2.2.1 o 0 _ he
  have hr : r = (C, T, N) := Option.some.inj (h1.symm.trans hK.1)
  subst hr
  obtain ⟨hSl, hfc, kC, hkC, hkind⟩ := hKK.1 ci _ hK.1
  obtain ⟨cf, kf, fi, f, hi, hsl⟩ := hSl fld hf
  have hlay := hts _ (hK.2.1 _ (u_in_lay hf))
  unfold u_lay at hlay
  rw [if_pos hfin] at hlay
  have hst := (u_facts hfc hkC (u_lays hts hK.2.1 hf) hi).1
  have hcf : (mM μ).cls = cf := by
    obtain ⟨_, _, c', _, _, _, -, -, hf', -, -, -, hown2, -⟩ := Cond.laysFinal_spec hlay
    have e1 : c' = cf := by have := hi.symm.trans hf'; simp at this; exact this.1.symm
    rw [hdecl] at hown2
    rw [← e1]; exact Option.some.inj (X.2.2.2.1.symm.trans hown2)
  have h6 := u_fits hfc hkC hkind (Or.inr hlay) hi (hK.2.2.1 fld hf) hn hfit
  refine W.putFinK X.1 X.2.1 X.2.2.2.1 (X.hts hw) hi hst hcf hnm (by rw [q2]; exact h6) q1 q3 (by rw [hsl]; exact k2_hasslot (q4 fld hf)) rfl rfl hd fun H' e1 e2 e3 => ?_
  rw [hsl] at e1 ⊢
  subst hs
  exact K H' _ ls (hH.set he ⟨hB, _, hK.1, t_OB.to (V := updV (vp_V fs) fld v) ⟨_, e1, q2, q3, t_set q4 hap hf v⟩ (fun j _ => vp_updV_set hl v j)⟩ e2 e3) (hS.put e2 e3 hB) hll
theorem e_putN {ci idx fld N o : Nat} {C host : String} {T : u_T} {ty : Nat → FieldType} {fs fs' : List Value} {v : Value} (X : xC G μ cc nL own ret d mc ms) (hK : xK ci C T N ty) (hf : fld < N) (hfin : (T fld).2.2.2 = false) (hw : Cond.fieldLinkNest own idx (T fld).1 (T fld).2.1 (T fld).2.2.1 host ∈ lw_tbl) (hd : decode cc pc = .ok (.putfield idx, 3)) (hn : narrow (ty fld) v = v) (hfit : fits (ty fld) v = true) (he : σ.2 (o, 0) = some (.inr (ci, fs))) (hl : fld < fs.length) (hs : fs.set fld v = fs') (K : Ev G μ nL k n (pc + 3) L S (xset σ (o, 0) (.inr (ci, fs')))) : Ev G μ nL k n pc L (v :: .ref o :: S) σ := by
  intro H locs ls hH hS hll
  have hts : ∀ w ∈ T0, w.before (mA μ) (mS μ) = true := fun w h => X.hts h
  have hKK := X.2.2.2.2.2.2.1.1
  have hap := va_apart (own := own) hts hK.2.1 ty hK.2.2.1 hK.2.2.2 hKK hK.1
  obtain ⟨hB, r, h1, cell, q1, q2, q3, q4⟩ := hH.2.2.1 o 0 _ he
  have hr : r = (C, T, N) := Option.some.inj (h1.symm.trans hK.1)
  subst hr
  obtain ⟨hSl, hfc, kC, hkC, hkind⟩ := hKK.1 ci _ hK.1
  obtain ⟨cf, kf, fi, f, hi, hsl⟩ := hSl fld hf
  have hlay := hts _ (hK.2.1 _ (u_in_lay hf))
  unfold u_lay at hlay
  rw [if_neg (by rw [hfin]; decide)] at hlay
  have hst := (u_facts hfc hkC (u_lays hts hK.2.1 hf) hi).1
  have h6 := u_store hfc hkC hkind hlay hi (hK.2.2.1 fld hf) hn hfit
  refine va_WputK X.1 X.2.1 (f := f) X.2.2.2.1 (X.hnw hw rfl) hi hst (by rw [q2]; exact h6) q1 q3 (by rw [hsl]; exact k2_hasslot (q4 fld hf)) rfl rfl hd fun H' e1 e2 e3 => ?_
  rw [hsl] at e1 ⊢
  subst hs
  refine K H' _ ls (hH.set he ⟨hB, _, hK.1, t_OB.to (V := updV (vp_V fs) fld v) ⟨_, e1, q2, q3, t_set q4 hap hf v⟩ (fun j _ => vp_updV_set hl v j)⟩ e2 e3) (hS.put e2 e3 hB) hll
theorem e_iald {o i a t len : Nat} {f : Nat → Int32} {j : Int32} (X : xC G μ cc nL own ret d mc ms) (hd : decode cc pc = .ok (.iaload, 1)) (he : σ.2 (o, i) = some (.inl (t, len, f))) (ht : t ≠ 1) (ha : o + i = a) (hin : vp_in j len) (K : Ev G μ nL k n (pc + 1) L (.int (f j.toNatClampNeg) :: S) σ) : Ev G μ nL k n pc L (.int j :: .ref a :: S) σ := by
  subst ha
  intro H locs ls hH hS hl
  have hA := hH.2.2.1 o i _ he
  match t, hA, ht with
  | 0, hA, _ => exact va_iald X.1 X.2.1 X.2.2.2.2.2.2.1.1 (x1P hA.2) 0 0 rfl rfl hin hd (K H locs ls hH hS hl)
  | 1, _, ht => exact absurd rfl ht
  | t + 2, hA, _ =>
    obtain ⟨cell, h1, h2, h3, h4, h5, h6, h7⟩ := hA
    have hlt : j.toNatClampNeg < len := Nat.not_le.mp fun q => hin (Or.inr q)
    have hin' : ¬ (j < 0 ∨ cell.slots.size ≤ j.toNatClampNeg) := by
      rintro (q | q)
      · exact hin (Or.inl q)
      · omega
    exact W.iald (v := .int (f j.toNatClampNeg)) X.1 X.2.1 h1 h2 h3 hin' (h6 _ hlt) rfl rfl hd (K H locs ls hH hS hl)
theorem e_zald {o i a len : Nat} {f : Nat → Int32} {j : Int32} (X : xC G μ cc nL own ret d mc ms) (hd : decode cc pc = .ok (.baload, 1)) (he : σ.2 (o, i) = some (.inl (1, len, f))) (ha : o + i = a) (hin : vp_in j len) (K : Ev G μ nL k n (pc + 1) L (.int (f j.toNatClampNeg) :: S) σ) : Ev G μ nL k n pc L (.int j :: .ref a :: S) σ := by
  subst ha
  intro H locs ls hH hS hl
  exact va_zald X.1 X.2.1 X.2.2.2.2.2.2.1.1 (x1P (hH.2.2.1 o i _ he).2) 0 1 rfl rfl hin hd (K H locs ls hH hS hl)
theorem e_alen {o i a t len : Nat} {f : Nat → Int32} {v : Int32} (X : xC G μ cc nL own ret d mc ms) (hd : decode cc pc = .ok (.arraylength, 1)) (he : σ.2 (o, i) = some (.inl (t, len, f))) (ha : o + i = a) (hv : nI len = v) (K : Ev G μ nL k n (pc + 1) L (.int v :: S) σ) : Ev G μ nL k n pc L (.ref a :: S) σ := by
  subst ha
  intro H locs ls hH hS hl
  have hA := hH.2.2.1 o i _ he
  match t, hA with
  | 0, hA => exact va_alen X.1 X.2.1 X.2.2.2.2.2.2.1.1 (x1P hA.2) 0 0 rfl rfl hv hd (K H locs ls hH hS hl)
  | 1, hA => exact va_alen X.1 X.2.1 X.2.2.2.2.2.2.1.1 (x1P hA.2) 0 1 rfl rfl hv hd (K H locs ls hH hS hl)
  | t + 2, hA =>
    obtain ⟨cell, h1, h2, h3, h4, h5, h6, h7⟩ := hA
    exact W.alen (n := v) X.1 X.2.1 h1 h2 (h5.trans hv) rfl rfl hd (K H locs ls hH hS hl)
theorem e_iast {o i a len : Nat} {f : Nat → Int32} {j x : Int32} (X : xC G μ cc nL own ret d mc ms) (hd : decode cc pc = .ok (.iastore, 1)) (he : σ.2 (o, i) = some (.inl (0, len, f))) (ha : o + i = a) (hin : vp_in j len) (K : Ev G μ nL k n (pc + 1) L S (xset σ (o, i) (.inl (0, len, upd f j.toNatClampNeg x)))) : Ev G μ nL k n pc L (.int x :: .int j :: .ref a :: S) σ := by
  subst ha
  intro H locs ls hH hS hl
  have hA := hH.2.2.1 o i _ he
  have hKK := X.2.2.2.2.2.2.1.1
  refine W.iast X.1 X.2.1 hA.2 ((hKK.2 0 _ rfl).1 len (fun j => .int (f j))) (fun q => by cases q) (by show ¬ (j < 0 ∨ (arrV _ _ _).slots.size ≤ _); rw [arrV_size]; exact hin) rfl rfl hd fun H1 e z oq => ?_
  refine K H1 _ ls (hH.set he ⟨hA.1, ?_⟩ z oq) (hS.put z oq hA.1) hl
  show H1[o + i]? = some (vp_cell _ _)
  rw [e]
  show some ((vp_cell _ (len, .inl f)).setSlot _ _) = _
  rw [vp_cell_i, vp_cell_i, arrV_store]
  congr 2
  funext q
  by_cases hq : q = j.toNatClampNeg
  · subst hq
    simp [updV, upd]
  · simp [updV, upd, hq]
theorem e_zast {o i a len : Nat} {f : Nat → Int32} {j x : Int32} (X : xC G μ cc nL own ret d mc ms) (hd : decode cc pc = .ok (.bastore, 1)) (he : σ.2 (o, i) = some (.inl (1, len, f))) (ha : o + i = a) (hin : vp_in j len) (hx : x = 0 ∨ x = 1) (K : Ev G μ nL k n (pc + 1) L S (xset σ (o, i) (.inl (1, len, upd f j.toNatClampNeg x)))) : Ev G μ nL k n pc L (.int x :: .int j :: .ref a :: S) σ := by
  subst ha
  intro H locs ls hH hS hl
  have hA := hH.2.2.1 o i _ he
  have hKK := X.2.2.2.2.2.2.1.1
  refine W.zast X.1 X.2.1 hA.2 ((hKK.2 1 _ rfl).1 len (fun j => .int (f j))) (fun q => by cases q) (by show ¬ (j < 0 ∨ (arrV _ _ _).slots.size ≤ _); rw [arrV_size]; exact hin) rfl rfl hd fun H1 e z oq => ?_
  have hnx : narrow .boolean (.int x) = .int x := by rcases hx with rfl | rfl <;> rfl
  rw [hnx] at e
  refine K H1 _ ls (hH.set he ⟨hA.1, ?_⟩ z oq) (hS.put z oq hA.1) hl
  show H1[o + i]? = some (vp_cell _ _)
  rw [e]
  show some ((vp_cell _ (len, .inl f)).setSlot _ _) = _
  rw [vp_cell_i, vp_cell_i, arrV_store]
  congr 2
  funext q
  by_cases hq : q = j.toNatClampNeg
  · subst hq
    simp [updV, upd]
  · simp [updV, upd, hq]
theorem e_newa {N' : Nat} {atype : ArrayType} {o i t : Nat} {z : Int32} (X : xC G μ cc nL own ret d mc ms) (hd : decode cc pc = .ok (.newarray atype, 2)) (hat : (atype = .int ∧ t = 0) ∨ (atype = .boolean ∧ t = 1)) (hw : Cond.arrayClass (newarray.typeOf atype) ∈ T0) (hn : ¬ z < 0) (hN : z.toNatClampNeg = N') (hb : N' ≤ 100000) (hc : k + 1 ≤ mc) (hs : n + N' ≤ ms) (ho : o + i = σ.1) (K : Ev G μ nL (k + 1) (n + N') (pc + 2) L (.ref (o + i) :: S) (xpush σ (o, i) (.inl (t, N', fun _ => 0)))) : Ev G μ nL k n pc L (.int z :: S) σ := by
  intro H locs ls hH hS hl
  have hKK := X.2.2.2.2.2.2.1.1
  have hh : H.size = o + i := by rw [hH.1, ho]
  have hbase : gB G ≤ o + i := by rw [ho]; exact hH.2.1
  have hbytes : N' * componentBytes (newarray.typeOf atype) ≤ 536870912 := by
    rcases hat with ⟨rfl, -⟩ | ⟨rfl, -⟩
    · show N' * 4 ≤ _; omega
    · show N' * 1 ≤ _; omega
  refine va_newaK X.1 X.2.1 (X.hts hw) rfl hd rfl hn hN hbytes (Nat.le_trans hc X.2.2.2.2.2.2.2.2.2.2.2.1) (Nat.le_trans hs X.2.2.2.2.2.2.2.2.2.2.2.2.1) hh fun H1 cA e1 z1 o1 hAr hNm => ?_
  refine K H1 _ ls (hH.push ho ?_ (by rw [z1, hh]) (fun q hq => o1 q (by rw [← hh]; exact hq))) ⟨Nat.le_trans hS.1 (by omega), fun x h1 h2 => (o1 x (by rw [← hh]; exact Nat.lt_of_lt_of_le h1 hS.1)).trans (hS.2.1 x h1 h2), hS.2.2⟩ hl
  rcases hat with ⟨rfl, rfl⟩ | ⟨rfl, rfl⟩
  · have hc1 : gI G = cA := Option.some.inj ((hKK.2 0 _ rfl).2.symm.trans hNm)
    refine ⟨hbase, ?_⟩
    show H1[o + i]? = some (vp_cell _ _)
    rw [e1, vp_cell_i, hc1]
    rfl
  · have hc1 : gZ G = cA := Option.some.inj ((hKK.2 1 _ rfl).2.symm.trans hNm)
    refine ⟨hbase, ?_⟩
    show H1[o + i]? = some (vp_cell _ _)
    rw [e1, vp_cell_i, hc1]
    rfl
theorem e_new {ci idx N o : Nat} {C : String} {T : u_T} {ty : Nat → FieldType} {fs : List Value} (X : xC G μ cc nL own ret d mc ms) (hK : xK ci C T N ty) (hd : decode cc pc = .ok (.new idx, 3)) (hw1 : Cond.classLink own idx C ∈ T0) (hw2 : Cond.instantiable C N ∈ T0) (hw3 : Cond.initialized C ∈ T0) (hfs : ∀ j, j < N → defaultValue (ty j) = vp_V fs j) (hc : k + 1 ≤ mc) (hs : n + N ≤ ms) (ho : o = σ.1) (K : Ev G μ nL (k + 1) (n + N) (pc + 3) L (.ref o :: S) (xpush σ (o, 0) (.inr (ci, fs)))) : Ev G μ nL k n pc L S σ := by
  intro H locs ls hH hS hl
  have hKK := X.2.2.2.2.2.2.1.1
  have hh : H.size = o := by rw [hH.1, ho]
  have hbase : gB G ≤ o := by rw [ho]; exact hH.2.1
  have hts : ∀ w ∈ T0, w.before (mA μ) (mS μ) = true := fun w h => X.hts h
  have hKn := hKK.1 ci _ hK.1
  refine W.newcK X.1 X.2.1 X.2.2.2.1 (X.hts hw1) (X.hts hw2) (X.hts hw3) rfl hd (Nat.le_trans hc X.2.2.2.2.2.2.2.2.2.2.2.1) (Nat.le_trans hs X.2.2.2.2.2.2.2.2.2.2.2.2.1) hKn.2.1 hh fun H1 kC hkC e1 z1 o1 => ?_
  refine K H1 _ ls (hH.push (k := (o, 0)) ho ?_ (by rw [z1, hh]) (fun q hq => o1 q (by rw [← hh]; exact hq))) ⟨Nat.le_trans hS.1 (by omega), fun x h1 h2 => (o1 x (by rw [← hh]; exact Nat.lt_of_lt_of_le h1 hS.1)).trans (hS.2.1 x h1 h2), hS.2.2⟩ hl
  exact ⟨hbase, _, hK.1, (u_born ty hts hK.2.1 hKn hkC e1 hK.2.2.1).to hfs⟩
theorem e_objInit {idx a : Nat} (X : xC G μ cc nL own ret d mc ms) (hw1 : Cond.methodLink own idx objectInit ∈ T0) (hw2 : Cond.instanceMethod objectInit ∈ T0) (hw3 : Cond.code objectInit ⟨#[0xb1]⟩ 1 none ∈ T0) (hd : decode cc pc = .ok (.invokespecial idx, 3)) (h1 : 1 ≤ d) (hst : (S.map fun v => v.category).sum ≤ 8) (K : Ev G μ nL k n (pc + 3) L S σ) : Ev G μ nL k n pc L (.ref a :: S) σ := by
  intro H locs ls hH hS hl
  have hf := X.2.2.2.2.2.2.2.2.2.1
  have hlo := X.2.2.2.2.2.2.2.2.2.2.1
  exact W.objInit X.1 X.2.1 X.2.2.2.1 (X.hts hw1) (X.hts hw2) (X.hts hw3) rfl (by rw [X.2.2.1]; exact hl.1) rfl hd (by omega) (Nat.le_trans (Nat.add_le_add_right (lv_room hst) 12) (by omega)) (K H locs ls hH hS hl)
end ROWS2
/-! RETURNS AND CALLS -/
section ROWS3
variable {G : xG} {μ : xM} {cc : ByteArray} {nL d mc ms k n pc : Nat} {own : String} {ret : Option FieldType} {L L' : List (Nat × Value)} {S : List Value} {σ : xS}
theorem xH.at {U : State} {H : Heap} {t : State} (h : xH G σ U H) (ht : t.heap = H) : xH G σ U t.heap := by rw [ht]; exact h
theorem e_iret {v : Int32} {Q : Int32 → xS → Prop} (X : xC G μ cc nL own (some .int) d mc ms) (hQ : mQ μ = MQ (mB μ) (QI G Q) (mA μ) (mS μ) mc ms (gF G)) (hd : decode cc pc = .ok (.ireturn, 1)) (hk : k ≤ mc) (hn : n ≤ ms) (h : Q v σ) : Ev G μ nL k n pc L [.int v] σ := by
  intro H locs ls hH hS hl
  rw [hQ]
  exact W.widen hk hn (W.iret X.1 X.2.1 X.2.2.2.2.2.2.2.2.1 (fun t ht hW => ⟨⟨v, σ, rfl, h, (xH.moved hW.alike hH).at ht⟩, hS.F ht⟩) hS.2.2 hd X.2.2.2.2.2.1)
theorem e_zret {v : Int32} {Q : Int32 → xS → Prop} (X : xC G μ cc nL own (some .boolean) d mc ms) (hQ : mQ μ = MQ (mB μ) (QI G Q) (mA μ) (mS μ) mc ms (gF G)) (hd : decode cc pc = .ok (.ireturn, 1)) (hk : k ≤ mc) (hn : n ≤ ms) (hv : v = 0 ∨ v = 1) (h : Q v σ) : Ev G μ nL k n pc L [.int v] σ := by
  intro H locs ls hH hS hl
  rw [hQ]
  exact W.widen hk hn (W.zret X.1 X.2.1 X.2.2.2.2.2.2.2.2.1 (by rcases hv with rfl | rfl <;> rfl) (fun t ht hW => ⟨⟨v, σ, rfl, h, (xH.moved hW.alike hH).at ht⟩, hS.F ht⟩) hS.2.2 hd X.2.2.2.2.2.1)
theorem e_nret {v : Int32} {ty : FieldType} {Q : Int32 → xS → Prop} (X : xC G μ cc nL own (some ty) d mc ms) (hQ : mQ μ = MQ (mB μ) (QI G Q) (mA μ) (mS μ) mc ms (gF G)) (hd : decode cc pc = .ok (.ireturn, 1)) (hk : k ≤ mc) (hn : n ≤ ms) (hv : narrow ty (.int v) = .int v) (h : Q v σ) : Ev G μ nL k n pc L [.int v] σ := by
  intro H locs ls hH hS hl
  rw [hQ]
  exact W.widen hk hn (W.zret X.1 X.2.1 X.2.2.2.2.2.2.2.2.1 hv (fun t ht hW => ⟨⟨v, σ, rfl, h, (xH.moved hW.alike hH).at ht⟩, hS.F ht⟩) hS.2.2 hd X.2.2.2.2.2.1)
theorem e_lret {v : Int64} {Q : Int64 → xS → Prop} (X : xC G μ cc nL own (some .long) d mc ms) (hQ : mQ μ = MQ (mB μ) (QL G Q) (mA μ) (mS μ) mc ms (gF G)) (hd : decode cc pc = .ok (.lreturn, 1)) (hk : k ≤ mc) (hn : n ≤ ms) (h : Q v σ) : Ev G μ nL k n pc L [.long v] σ := by
  intro H locs ls hH hS hl
  rw [hQ]
  exact W.widen hk hn (W.lret X.1 X.2.1 X.2.2.2.2.2.2.2.2.1 (fun t ht hW => ⟨⟨v, σ, rfl, h, (xH.moved hW.alike hH).at ht⟩, hS.F ht⟩) hS.2.2 hd X.2.2.2.2.2.1)
theorem e_vret {Q : xS → Prop} (X : xC G μ cc nL own none d mc ms) (hQ : mQ μ = MQ (mB μ) (QV G Q) (mA μ) (mS μ) mc ms (gF G)) (hd : decode cc pc = .ok (.return_, 1)) (hk : k ≤ mc) (hn : n ≤ ms) (h : Q σ) : Ev G μ nL k n pc L [] σ := by
  intro H locs ls hH hS hl
  rw [hQ]
  exact W.widen hk hn (W.vret X.1 X.2.1 X.2.2.2.2.2.2.2.2.1 (fun t ht hW => ⟨⟨σ, rfl, h, (xH.moved hW.alike hH).at ht⟩, hS.F ht⟩) hS.2.2 hd X.2.2.2.2.2.1)
theorem xPc.blind {as : List Value} : FrameBlind (xPc G as σ) := fun a U g mk q => by
  obtain ⟨h1, h2, h3, h4⟩ := q
  exact ⟨h1, h2, xU.same (u := U) (U := U.calling g mk a) rfl h3, h4⟩
theorem xPc.pre {as : List Value} {H : Heap} {locs : List Loc} (X : xC G μ cc nL own ret d mc ms) (hH : xH G σ (mS μ) H) (hS : va_S (gF G) (mS μ).heap H locs) : ∀ U : State, U.heap = H → (mS μ).WarmedH U.vm → xPc G as σ as.toArray U := by
  intro U hU hW
  refine ⟨rfl, ?_, xU.warm hW X.2.2.2.2.2.2.1, ?_⟩
  · rw [hU]
    exact hH.moved hW.alike
  · rw [hU]
    exact (X.2.2.2.2.2.2.2.1.kept (fun a h1 h2 => hS.2.1 a h1 h2)).moved hW.alike
theorem T0_all {y : MethodName} {bytes : ByteArray} {nL' : Nat} {ret' : Option FieldType} (X : xC G μ cc nL own ret d mc ms) (h : Cond.code y bytes nL' ret' ∈ T0) : ∀ w ∈ xW y bytes nL' ret', ∀ (a' : Array Value) (U : State), (mS μ).WarmedH U.vm → w.before a' U = true := by
  intro w hw a' U hW
  have hw' : w ∈ T0 := by
    rcases List.mem_cons.mp hw with rfl | q
    · exact h
    · exact q
  exact word_at hW (T0_good hw') (X.hts hw')
theorem x_cb {y : MethodName} {bytes : ByteArray} {nL' idx na d' mc' ms' : Nat} {ret' : Option FieldType} (X : xC G μ cc nL own ret d mc ms) (hY : xY y bytes nL' ret' na) (hw : Cond.methodLink own idx y ∈ T0) (hd1 : d' + 1 ≤ d) (hnL : nL' ≤ 29) : CallB (mR μ) (mS μ) (mA μ) own idx y bytes nL' ret' (xW y bytes nL' ret') (rmOf d' mc' ms') mc' ms' na := by
  have hf := X.2.2.2.2.2.2.2.2.2.1
  have hlo := X.2.2.2.2.2.2.2.2.2.2.1
  refine ⟨rfl, rfl, by show d' + 1 ≤ _; omega, by show 8 + (nL' + 11) + 48 * d' ≤ _; omega, T0_all X hY.1, List.mem_cons_self, X.hts hY.1, X.hts hY.2.1, hY.2.2.1, fun sig h => ?_, X.hts hw⟩
  have h2 := hY.2.2.2
  rw [h] at h2
  exact (Option.some.inj h2).symm
theorem x_cn {y : MethodName} {host : String} {bytes : ByteArray} {nL' idx na d' mc' ms' : Nat} {ret' : Option FieldType} (X : xC G μ cc nL own ret d mc ms) (hY : xY y bytes nL' ret' na) (hw : Cond.methodLinkNest own idx y host ∈ lw_tbl) (hd1 : d' + 1 ≤ d) (hnL : nL' ≤ 29) : va_CN (mR μ) (mS μ) (mA μ) own idx y host bytes nL' ret' (xW y bytes nL' ret') (rmOf d' mc' ms') mc' ms' na := by
  have hf := X.2.2.2.2.2.2.2.2.2.1
  have hlo := X.2.2.2.2.2.2.2.2.2.2.1
  refine ⟨⟨rfl, rfl, by show d' + 1 ≤ _; omega, by show 8 + (nL' + 11) + 48 * d' ≤ _; omega, T0_all X hY.1, List.mem_cons_self⟩, X.hts hY.1, X.hts hY.2.1, hY.2.2.1, fun sig h => ?_, X.hnw hw rfl⟩
  have h2 := hY.2.2.2
  rw [h] at h2
  exact (Option.some.inj h2).symm
theorem x_recv {ci o : Nat} {q : vw_C} {fs : List Value} {H : Heap} (X : xC G μ cc nL own ret d mc ms) (hH : xH G σ (mS μ) H) (he : σ.2 (o, 0) = some (.inr (ci, fs))) (hc : vwCl[ci]? = some q) : ∃ cell : Cell, H[o]? = some cell ∧ cell.vm.isStatics = false ∧ (mS μ).vm.findClass q.1 = some cell.cls :=
  va_recv X.2.2.2.2.2.2.1.1 (x1P (hH.2.2.1 o 0 _ he).2) hc (q0 := 0) rfl
theorem e_callVI {y : MethodName} {bytes : ByteArray} {nL' idx na d' mc' ms' : Nat} {ret' : Option FieldType} {As S0 : List Value} {b : Nat} {ci : Nat} {fs : List Value} {Q : Int32 → xS → Prop} (X : xC G μ cc nL own ret d mc ms) (hY : xY y bytes nL' ret' na) (hw : Cond.methodLink own idx y ∈ T0) (hin : Cond.instanceMethod y ∈ T0) (hse : Cond.selects y.cls y y ∈ T0) {q : vw_C} (he : σ.2 (b, 0) = some (.inr (ci, fs))) (hci : vwCl[ci]? = some q) (hqn : q.1 = y.cls) (hM : CI G y bytes nL' ret' d' mc' ms' (.ref b :: As) σ Q) (hd : decode cc pc = .ok (.invokevirtual idx, 3)) (hn : As.length = na) (hd1 : d' + 1 ≤ d) (hnL : nL' ≤ 29) (hc : k + mc' ≤ mc) (hs : n + ms' ≤ ms) (hS0 : S0 = As.reverse ++ .ref b :: S) (hcat : (S.map fun v => v.category).sum ≤ 8) (K : ∀ (r : Int32) (σ1 : xS), Q r σ1 → Ev G μ nL (k + mc') (n + ms') (pc + 3) L (.int r :: S) σ1) : Ev G μ nL k n pc L S0 σ := by
  subst hS0
  intro H locs ls hH hS hl
  exact va_calli (va_runV (As := As) (rest := S) ⟨X.1, X.2.1, X.2.2.1, X.2.2.2.1, fun w h => X.hts h⟩ hM ⟨x_cb X hY hw hd1 hnL, X.hts hin, X.hts hse⟩ ⟨xPc.blind, by rw [← hqn]; exact x_recv X hH he hci, xPc.pre X hH hS⟩ rfl hn hl.1 rfl (lv_room hcat) hd ⟨Nat.le_trans hc X.2.2.2.2.2.2.2.2.2.2.2.1, Nat.le_trans hs X.2.2.2.2.2.2.2.2.2.2.2.2.1⟩) hS (fun _ _ h => h) (fun _ h => h) (fun r u t H1 locs1 ht hvm hq hB hz hk hS1 => K r u hq H1 locs1 ls (by rw [ht] at hB; exact hB.moved hvm.symm) hS1 hl)
theorem e_callVL {y : MethodName} {bytes : ByteArray} {nL' idx na d' mc' ms' : Nat} {ret' : Option FieldType} {As S0 : List Value} {b : Nat} {ci : Nat} {fs : List Value} {Q : Int64 → xS → Prop} (X : xC G μ cc nL own ret d mc ms) (hY : xY y bytes nL' ret' na) (hw : Cond.methodLink own idx y ∈ T0) (hin : Cond.instanceMethod y ∈ T0) (hse : Cond.selects y.cls y y ∈ T0) {q : vw_C} (he : σ.2 (b, 0) = some (.inr (ci, fs))) (hci : vwCl[ci]? = some q) (hqn : q.1 = y.cls) (hM : CL G y bytes nL' ret' d' mc' ms' (.ref b :: As) σ Q) (hd : decode cc pc = .ok (.invokevirtual idx, 3)) (hn : As.length = na) (hd1 : d' + 1 ≤ d) (hnL : nL' ≤ 29) (hc : k + mc' ≤ mc) (hs : n + ms' ≤ ms) (hS0 : S0 = As.reverse ++ .ref b :: S) (hcat : (S.map fun v => v.category).sum ≤ 8) (K : ∀ (r : Int64) (σ1 : xS), Q r σ1 → Ev G μ nL (k + mc') (n + ms') (pc + 3) L (.long r :: S) σ1) : Ev G μ nL k n pc L S0 σ := by
  subst hS0
  intro H locs ls hH hS hl
  exact va_calll (va_runV (As := As) (rest := S) ⟨X.1, X.2.1, X.2.2.1, X.2.2.2.1, fun w h => X.hts h⟩ hM ⟨x_cb X hY hw hd1 hnL, X.hts hin, X.hts hse⟩ ⟨xPc.blind, by rw [← hqn]; exact x_recv X hH he hci, xPc.pre X hH hS⟩ rfl hn hl.1 rfl (lv_room hcat) hd ⟨Nat.le_trans hc X.2.2.2.2.2.2.2.2.2.2.2.1, Nat.le_trans hs X.2.2.2.2.2.2.2.2.2.2.2.2.1⟩) hS (fun _ _ h => h) (fun _ h => h) (fun r u t H1 locs1 ht hvm hq hB hz hk hS1 => K r u hq H1 locs1 ls (by rw [ht] at hB; exact hB.moved hvm.symm) hS1 hl)
theorem e_callVV {y : MethodName} {bytes : ByteArray} {nL' idx na d' mc' ms' : Nat} {ret' : Option FieldType} {As S0 : List Value} {b : Nat} {ci : Nat} {fs : List Value} {Q : xS → Prop} (X : xC G μ cc nL own ret d mc ms) (hY : xY y bytes nL' ret' na) (hw : Cond.methodLink own idx y ∈ T0) (hin : Cond.instanceMethod y ∈ T0) (hse : Cond.selects y.cls y y ∈ T0) {q : vw_C} (he : σ.2 (b, 0) = some (.inr (ci, fs))) (hci : vwCl[ci]? = some q) (hqn : q.1 = y.cls) (hM : CV G y bytes nL' ret' d' mc' ms' (.ref b :: As) σ Q) (hd : decode cc pc = .ok (.invokevirtual idx, 3)) (hn : As.length = na) (hd1 : d' + 1 ≤ d) (hnL : nL' ≤ 29) (hc : k + mc' ≤ mc) (hs : n + ms' ≤ ms) (hS0 : S0 = As.reverse ++ .ref b :: S) (hcat : (S.map fun v => v.category).sum ≤ 8) (K : ∀ σ1 : xS, Q σ1 → Ev G μ nL (k + mc') (n + ms') (pc + 3) L (S) σ1) : Ev G μ nL k n pc L S0 σ := by
  subst hS0
  intro H locs ls hH hS hl
  exact va_callv (va_runV (As := As) (rest := S) ⟨X.1, X.2.1, X.2.2.1, X.2.2.2.1, fun w h => X.hts h⟩ hM ⟨x_cb X hY hw hd1 hnL, X.hts hin, X.hts hse⟩ ⟨xPc.blind, by rw [← hqn]; exact x_recv X hH he hci, xPc.pre X hH hS⟩ rfl hn hl.1 rfl (lv_room hcat) hd ⟨Nat.le_trans hc X.2.2.2.2.2.2.2.2.2.2.2.1, Nat.le_trans hs X.2.2.2.2.2.2.2.2.2.2.2.2.1⟩) hS (fun _ _ h => h) (fun _ h => h) (fun u t H1 locs1 ht hvm hq hB hz hk hS1 => K u hq H1 locs1 ls (by rw [ht] at hB; exact hB.moved hvm.symm) hS1 hl)
theorem e_callVNI {y : MethodName} {host : String} {bytes : ByteArray} {nL' idx na d' mc' ms' : Nat} {ret' : Option FieldType} {As S0 : List Value} {b : Nat} {ci : Nat} {fs : List Value} {Q : Int32 → xS → Prop} (X : xC G μ cc nL own ret d mc ms) (hY : xY y bytes nL' ret' na) (hw : Cond.methodLinkNest own idx y host ∈ lw_tbl) (hin : Cond.instanceMethod y ∈ T0) (hse : Cond.selects y.cls y y ∈ T0) {q : vw_C} (he : σ.2 (b, 0) = some (.inr (ci, fs))) (hci : vwCl[ci]? = some q) (hqn : q.1 = y.cls) (hM : CI G y bytes nL' ret' d' mc' ms' (.ref b :: As) σ Q) (hd : decode cc pc = .ok (.invokevirtual idx, 3)) (hn : As.length = na) (hd1 : d' + 1 ≤ d) (hnL : nL' ≤ 29) (hc : k + mc' ≤ mc) (hs : n + ms' ≤ ms) (hS0 : S0 = As.reverse ++ .ref b :: S) (hcat : (S.map fun v => v.category).sum ≤ 8) (K : ∀ (r : Int32) (σ1 : xS), Q r σ1 → Ev G μ nL (k + mc') (n + ms') (pc + 3) L (.int r :: S) σ1) : Ev G μ nL k n pc L S0 σ := by
  subst hS0
  intro H locs ls hH hS hl
  exact va_calli (va_runVN (As := As) (rest := S) ⟨X.1, X.2.1, X.2.2.1, X.2.2.2.1, fun w h => X.hts h⟩ hM ⟨x_cn X hY hw hd1 hnL, X.hts hin, X.hts hse⟩ ⟨xPc.blind, by rw [← hqn]; exact x_recv X hH he hci, xPc.pre X hH hS⟩ rfl hn hl.1 rfl (lv_room hcat) hd ⟨Nat.le_trans hc X.2.2.2.2.2.2.2.2.2.2.2.1, Nat.le_trans hs X.2.2.2.2.2.2.2.2.2.2.2.2.1⟩) hS (fun _ _ h => h) (fun _ h => h) (fun r u t H1 locs1 ht hvm hq hB hz hk hS1 => K r u hq H1 locs1 ls (by rw [ht] at hB; exact hB.moved hvm.symm) hS1 hl)
theorem e_callVNL {y : MethodName} {host : String} {bytes : ByteArray} {nL' idx na d' mc' ms' : Nat} {ret' : Option FieldType} {As S0 : List Value} {b : Nat} {ci : Nat} {fs : List Value} {Q : Int64 → xS → Prop} (X : xC G μ cc nL own ret d mc ms) (hY : xY y bytes nL' ret' na) (hw : Cond.methodLinkNest own idx y host ∈ lw_tbl) (hin : Cond.instanceMethod y ∈ T0) (hse : Cond.selects y.cls y y ∈ T0) {q : vw_C} (he : σ.2 (b, 0) = some (.inr (ci, fs))) (hci : vwCl[ci]? = some q) (hqn : q.1 = y.cls) (hM : CL G y bytes nL' ret' d' mc' ms' (.ref b :: As) σ Q) (hd : decode cc pc = .ok (.invokevirtual idx, 3)) (hn : As.length = na) (hd1 : d' + 1 ≤ d) (hnL : nL' ≤ 29) (hc : k + mc' ≤ mc) (hs : n + ms' ≤ ms) (hS0 : S0 = As.reverse ++ .ref b :: S) (hcat : (S.map fun v => v.category).sum ≤ 8) (K : ∀ (r : Int64) (σ1 : xS), Q r σ1 → Ev G μ nL (k + mc') (n + ms') (pc + 3) L (.long r :: S) σ1) : Ev G μ nL k n pc L S0 σ := by
  subst hS0
  intro H locs ls hH hS hl
  exact va_calll (va_runVN (As := As) (rest := S) ⟨X.1, X.2.1, X.2.2.1, X.2.2.2.1, fun w h => X.hts h⟩ hM ⟨x_cn X hY hw hd1 hnL, X.hts hin, X.hts hse⟩ ⟨xPc.blind, by rw [← hqn]; exact x_recv X hH he hci, xPc.pre X hH hS⟩ rfl hn hl.1 rfl (lv_room hcat) hd ⟨Nat.le_trans hc X.2.2.2.2.2.2.2.2.2.2.2.1, Nat.le_trans hs X.2.2.2.2.2.2.2.2.2.2.2.2.1⟩) hS (fun _ _ h => h) (fun _ h => h) (fun r u t H1 locs1 ht hvm hq hB hz hk hS1 => K r u hq H1 locs1 ls (by rw [ht] at hB; exact hB.moved hvm.symm) hS1 hl)
theorem e_callVNV {y : MethodName} {host : String} {bytes : ByteArray} {nL' idx na d' mc' ms' : Nat} {ret' : Option FieldType} {As S0 : List Value} {b : Nat} {ci : Nat} {fs : List Value} {Q : xS → Prop} (X : xC G μ cc nL own ret d mc ms) (hY : xY y bytes nL' ret' na) (hw : Cond.methodLinkNest own idx y host ∈ lw_tbl) (hin : Cond.instanceMethod y ∈ T0) (hse : Cond.selects y.cls y y ∈ T0) {q : vw_C} (he : σ.2 (b, 0) = some (.inr (ci, fs))) (hci : vwCl[ci]? = some q) (hqn : q.1 = y.cls) (hM : CV G y bytes nL' ret' d' mc' ms' (.ref b :: As) σ Q) (hd : decode cc pc = .ok (.invokevirtual idx, 3)) (hn : As.length = na) (hd1 : d' + 1 ≤ d) (hnL : nL' ≤ 29) (hc : k + mc' ≤ mc) (hs : n + ms' ≤ ms) (hS0 : S0 = As.reverse ++ .ref b :: S) (hcat : (S.map fun v => v.category).sum ≤ 8) (K : ∀ σ1 : xS, Q σ1 → Ev G μ nL (k + mc') (n + ms') (pc + 3) L (S) σ1) : Ev G μ nL k n pc L S0 σ := by
  subst hS0
  intro H locs ls hH hS hl
  exact va_callv (va_runVN (As := As) (rest := S) ⟨X.1, X.2.1, X.2.2.1, X.2.2.2.1, fun w h => X.hts h⟩ hM ⟨x_cn X hY hw hd1 hnL, X.hts hin, X.hts hse⟩ ⟨xPc.blind, by rw [← hqn]; exact x_recv X hH he hci, xPc.pre X hH hS⟩ rfl hn hl.1 rfl (lv_room hcat) hd ⟨Nat.le_trans hc X.2.2.2.2.2.2.2.2.2.2.2.1, Nat.le_trans hs X.2.2.2.2.2.2.2.2.2.2.2.2.1⟩) hS (fun _ _ h => h) (fun _ h => h) (fun u t H1 locs1 ht hvm hq hB hz hk hS1 => K u hq H1 locs1 ls (by rw [ht] at hB; exact hB.moved hvm.symm) hS1 hl)
theorem e_callSI {y : MethodName} {bytes : ByteArray} {nL' idx na d' mc' ms' : Nat} {ret' : Option FieldType} {As S0 : List Value} {Q : Int32 → xS → Prop} (X : xC G μ cc nL own ret d mc ms) (hY : xY y bytes nL' ret' na) (hw : Cond.methodLink own idx y ∈ T0) (hst : Cond.static y ∈ T0) (hM : CI G y bytes nL' ret' d' mc' ms' As σ Q) (hd : decode cc pc = .ok (.invokestatic idx, 3)) (hn : As.length = na) (hd1 : d' + 1 ≤ d) (hnL : nL' ≤ 29) (hc : k + mc' ≤ mc) (hs : n + ms' ≤ ms) (hS0 : S0 = As.reverse ++ S) (hcat : (S.map fun v => v.category).sum ≤ 8) (K : ∀ (r : Int32) (σ1 : xS), Q r σ1 → Ev G μ nL (k + mc') (n + ms') (pc + 3) L (.int r :: S) σ1) : Ev G μ nL k n pc L S0 σ := by
  subst hS0
  intro H locs ls hH hS hl
  exact va_calli (va_runS (As := As) (rest := S) ⟨X.1, X.2.1, X.2.2.1, X.2.2.2.1, fun w h => X.hts h⟩ hM ⟨x_cb X hY hw hd1 hnL, X.hts hst⟩ ⟨xPc.blind, xPc.pre X hH hS⟩ rfl hn hl.1 rfl (lv_room hcat) hd ⟨Nat.le_trans hc X.2.2.2.2.2.2.2.2.2.2.2.1, Nat.le_trans hs X.2.2.2.2.2.2.2.2.2.2.2.2.1⟩) hS (fun _ _ h => h) (fun _ h => h) (fun r u t H1 locs1 ht hvm hq hB hz hk hS1 => K r u hq H1 locs1 ls (by rw [ht] at hB; exact hB.moved hvm.symm) hS1 hl)
theorem e_callSL {y : MethodName} {bytes : ByteArray} {nL' idx na d' mc' ms' : Nat} {ret' : Option FieldType} {As S0 : List Value} {Q : Int64 → xS → Prop} (X : xC G μ cc nL own ret d mc ms) (hY : xY y bytes nL' ret' na) (hw : Cond.methodLink own idx y ∈ T0) (hst : Cond.static y ∈ T0) (hM : CL G y bytes nL' ret' d' mc' ms' As σ Q) (hd : decode cc pc = .ok (.invokestatic idx, 3)) (hn : As.length = na) (hd1 : d' + 1 ≤ d) (hnL : nL' ≤ 29) (hc : k + mc' ≤ mc) (hs : n + ms' ≤ ms) (hS0 : S0 = As.reverse ++ S) (hcat : (S.map fun v => v.category).sum ≤ 8) (K : ∀ (r : Int64) (σ1 : xS), Q r σ1 → Ev G μ nL (k + mc') (n + ms') (pc + 3) L (.long r :: S) σ1) : Ev G μ nL k n pc L S0 σ := by
  subst hS0
  intro H locs ls hH hS hl
  exact va_calll (va_runS (As := As) (rest := S) ⟨X.1, X.2.1, X.2.2.1, X.2.2.2.1, fun w h => X.hts h⟩ hM ⟨x_cb X hY hw hd1 hnL, X.hts hst⟩ ⟨xPc.blind, xPc.pre X hH hS⟩ rfl hn hl.1 rfl (lv_room hcat) hd ⟨Nat.le_trans hc X.2.2.2.2.2.2.2.2.2.2.2.1, Nat.le_trans hs X.2.2.2.2.2.2.2.2.2.2.2.2.1⟩) hS (fun _ _ h => h) (fun _ h => h) (fun r u t H1 locs1 ht hvm hq hB hz hk hS1 => K r u hq H1 locs1 ls (by rw [ht] at hB; exact hB.moved hvm.symm) hS1 hl)
theorem e_callSV {y : MethodName} {bytes : ByteArray} {nL' idx na d' mc' ms' : Nat} {ret' : Option FieldType} {As S0 : List Value} {Q : xS → Prop} (X : xC G μ cc nL own ret d mc ms) (hY : xY y bytes nL' ret' na) (hw : Cond.methodLink own idx y ∈ T0) (hst : Cond.static y ∈ T0) (hM : CV G y bytes nL' ret' d' mc' ms' As σ Q) (hd : decode cc pc = .ok (.invokestatic idx, 3)) (hn : As.length = na) (hd1 : d' + 1 ≤ d) (hnL : nL' ≤ 29) (hc : k + mc' ≤ mc) (hs : n + ms' ≤ ms) (hS0 : S0 = As.reverse ++ S) (hcat : (S.map fun v => v.category).sum ≤ 8) (K : ∀ σ1 : xS, Q σ1 → Ev G μ nL (k + mc') (n + ms') (pc + 3) L (S) σ1) : Ev G μ nL k n pc L S0 σ := by
  subst hS0
  intro H locs ls hH hS hl
  exact va_callv (va_runS (As := As) (rest := S) ⟨X.1, X.2.1, X.2.2.1, X.2.2.2.1, fun w h => X.hts h⟩ hM ⟨x_cb X hY hw hd1 hnL, X.hts hst⟩ ⟨xPc.blind, xPc.pre X hH hS⟩ rfl hn hl.1 rfl (lv_room hcat) hd ⟨Nat.le_trans hc X.2.2.2.2.2.2.2.2.2.2.2.1, Nat.le_trans hs X.2.2.2.2.2.2.2.2.2.2.2.2.1⟩) hS (fun _ _ h => h) (fun _ h => h) (fun u t H1 locs1 ht hvm hq hB hz hk hS1 => K u hq H1 locs1 ls (by rw [ht] at hB; exact hB.moved hvm.symm) hS1 hl)
theorem e_callSNI {y : MethodName} {host : String} {bytes : ByteArray} {nL' idx na d' mc' ms' : Nat} {ret' : Option FieldType} {As S0 : List Value} {Q : Int32 → xS → Prop} (X : xC G μ cc nL own ret d mc ms) (hY : xY y bytes nL' ret' na) (hw : Cond.methodLinkNest own idx y host ∈ lw_tbl) (hst : Cond.static y ∈ T0) (hM : CI G y bytes nL' ret' d' mc' ms' As σ Q) (hd : decode cc pc = .ok (.invokestatic idx, 3)) (hn : As.length = na) (hd1 : d' + 1 ≤ d) (hnL : nL' ≤ 29) (hc : k + mc' ≤ mc) (hs : n + ms' ≤ ms) (hS0 : S0 = As.reverse ++ S) (hcat : (S.map fun v => v.category).sum ≤ 8) (K : ∀ (r : Int32) (σ1 : xS), Q r σ1 → Ev G μ nL (k + mc') (n + ms') (pc + 3) L (.int r :: S) σ1) : Ev G μ nL k n pc L S0 σ := by
  subst hS0
  intro H locs ls hH hS hl
  exact va_calli (va_runSN (As := As) (rest := S) ⟨X.1, X.2.1, X.2.2.1, X.2.2.2.1, fun w h => X.hts h⟩ hM ⟨x_cn X hY hw hd1 hnL, X.hts hst, trivial⟩ ⟨xPc.blind, xPc.pre X hH hS⟩ rfl hn hl.1 rfl (lv_room hcat) hd ⟨Nat.le_trans hc X.2.2.2.2.2.2.2.2.2.2.2.1, Nat.le_trans hs X.2.2.2.2.2.2.2.2.2.2.2.2.1⟩) hS (fun _ _ h => h) (fun _ h => h) (fun r u t H1 locs1 ht hvm hq hB hz hk hS1 => K r u hq H1 locs1 ls (by rw [ht] at hB; exact hB.moved hvm.symm) hS1 hl)
theorem e_callSNL {y : MethodName} {host : String} {bytes : ByteArray} {nL' idx na d' mc' ms' : Nat} {ret' : Option FieldType} {As S0 : List Value} {Q : Int64 → xS → Prop} (X : xC G μ cc nL own ret d mc ms) (hY : xY y bytes nL' ret' na) (hw : Cond.methodLinkNest own idx y host ∈ lw_tbl) (hst : Cond.static y ∈ T0) (hM : CL G y bytes nL' ret' d' mc' ms' As σ Q) (hd : decode cc pc = .ok (.invokestatic idx, 3)) (hn : As.length = na) (hd1 : d' + 1 ≤ d) (hnL : nL' ≤ 29) (hc : k + mc' ≤ mc) (hs : n + ms' ≤ ms) (hS0 : S0 = As.reverse ++ S) (hcat : (S.map fun v => v.category).sum ≤ 8) (K : ∀ (r : Int64) (σ1 : xS), Q r σ1 → Ev G μ nL (k + mc') (n + ms') (pc + 3) L (.long r :: S) σ1) : Ev G μ nL k n pc L S0 σ := by
  subst hS0
  intro H locs ls hH hS hl
  exact va_calll (va_runSN (As := As) (rest := S) ⟨X.1, X.2.1, X.2.2.1, X.2.2.2.1, fun w h => X.hts h⟩ hM ⟨x_cn X hY hw hd1 hnL, X.hts hst, trivial⟩ ⟨xPc.blind, xPc.pre X hH hS⟩ rfl hn hl.1 rfl (lv_room hcat) hd ⟨Nat.le_trans hc X.2.2.2.2.2.2.2.2.2.2.2.1, Nat.le_trans hs X.2.2.2.2.2.2.2.2.2.2.2.2.1⟩) hS (fun _ _ h => h) (fun _ h => h) (fun r u t H1 locs1 ht hvm hq hB hz hk hS1 => K r u hq H1 locs1 ls (by rw [ht] at hB; exact hB.moved hvm.symm) hS1 hl)
theorem e_callSNV {y : MethodName} {host : String} {bytes : ByteArray} {nL' idx na d' mc' ms' : Nat} {ret' : Option FieldType} {As S0 : List Value} {Q : xS → Prop} (X : xC G μ cc nL own ret d mc ms) (hY : xY y bytes nL' ret' na) (hw : Cond.methodLinkNest own idx y host ∈ lw_tbl) (hst : Cond.static y ∈ T0) (hM : CV G y bytes nL' ret' d' mc' ms' As σ Q) (hd : decode cc pc = .ok (.invokestatic idx, 3)) (hn : As.length = na) (hd1 : d' + 1 ≤ d) (hnL : nL' ≤ 29) (hc : k + mc' ≤ mc) (hs : n + ms' ≤ ms) (hS0 : S0 = As.reverse ++ S) (hcat : (S.map fun v => v.category).sum ≤ 8) (K : ∀ σ1 : xS, Q σ1 → Ev G μ nL (k + mc') (n + ms') (pc + 3) L (S) σ1) : Ev G μ nL k n pc L S0 σ := by
  subst hS0
  intro H locs ls hH hS hl
  exact va_callv (va_runSN (As := As) (rest := S) ⟨X.1, X.2.1, X.2.2.1, X.2.2.2.1, fun w h => X.hts h⟩ hM ⟨x_cn X hY hw hd1 hnL, X.hts hst, trivial⟩ ⟨xPc.blind, xPc.pre X hH hS⟩ rfl hn hl.1 rfl (lv_room hcat) hd ⟨Nat.le_trans hc X.2.2.2.2.2.2.2.2.2.2.2.1, Nat.le_trans hs X.2.2.2.2.2.2.2.2.2.2.2.2.1⟩) hS (fun _ _ h => h) (fun _ h => h) (fun u t H1 locs1 ht hvm hq hB hz hk hS1 => K u hq H1 locs1 ls (by rw [ht] at hB; exact hB.moved hvm.symm) hS1 hl)
theorem e_callIV {y : MethodName} {bytes : ByteArray} {nL' idx na d' mc' ms' : Nat}  {As S0 : List Value} {b : Nat} {Q : xS → Prop} (X : xC G μ cc nL own ret d mc ms) (hY : xY y bytes nL' none na) (hw : Cond.methodLink own idx y ∈ T0) (hnm : y.name = "<init>") (hin : Cond.instanceMethod y ∈ T0) (hM : CV G y bytes nL' none d' mc' ms' (.ref b :: As) σ Q) (hd : decode cc pc = .ok (.invokespecial idx, 3)) (hn : As.length = na) (hd1 : d' + 1 ≤ d) (hnL : nL' ≤ 29) (hc : k + mc' ≤ mc) (hs : n + ms' ≤ ms) (hS0 : S0 = As.reverse ++ .ref b :: S) (hcat : (S.map fun v => v.category).sum ≤ 8) (K : ∀ σ1 : xS, Q σ1 → Ev G μ nL (k + mc') (n + ms') (pc + 3) L (S) σ1) : Ev G μ nL k n pc L S0 σ := by
  subst hS0
  intro H locs ls hH hS hl
  exact va_callv (va_runI (As := As) (rest := S) ⟨X.1, X.2.1, X.2.2.1, X.2.2.2.1, fun w h => X.hts h⟩ hM ⟨x_cb X hY hw hd1 hnL, hnm, X.hts hin⟩ ⟨xPc.blind, xPc.pre X hH hS⟩ rfl hn hl.1 rfl (lv_room hcat) hd ⟨Nat.le_trans hc X.2.2.2.2.2.2.2.2.2.2.2.1, Nat.le_trans hs X.2.2.2.2.2.2.2.2.2.2.2.2.1⟩) hS (fun _ _ h => h) (fun _ h => h) (fun u t H1 locs1 ht hvm hq hB hz hk hS1 => K u hq H1 locs1 ls (by rw [ht] at hB; exact hB.moved hvm.symm) hS1 hl)
theorem e_callINV {y : MethodName} {host : String} {bytes : ByteArray} {nL' idx na d' mc' ms' : Nat}  {As S0 : List Value} {b : Nat} {Q : xS → Prop} (X : xC G μ cc nL own ret d mc ms) (hY : xY y bytes nL' none na) (hw : Cond.methodLinkNest own idx y host ∈ lw_tbl) (hnm : y.name = "<init>") (hin : Cond.instanceMethod y ∈ T0) (hM : CV G y bytes nL' none d' mc' ms' (.ref b :: As) σ Q) (hd : decode cc pc = .ok (.invokespecial idx, 3)) (hn : As.length = na) (hd1 : d' + 1 ≤ d) (hnL : nL' ≤ 29) (hc : k + mc' ≤ mc) (hs : n + ms' ≤ ms) (hS0 : S0 = As.reverse ++ .ref b :: S) (hcat : (S.map fun v => v.category).sum ≤ 8) (K : ∀ σ1 : xS, Q σ1 → Ev G μ nL (k + mc') (n + ms') (pc + 3) L (S) σ1) : Ev G μ nL k n pc L S0 σ := by
  subst hS0
  intro H locs ls hH hS hl
  exact va_callv (va_runIN (As := As) (rest := S) ⟨X.1, X.2.1, X.2.2.1, X.2.2.2.1, fun w h => X.hts h⟩ hM ⟨x_cn X hY hw hd1 hnL, hnm, X.hts hin⟩ ⟨xPc.blind, xPc.pre X hH hS⟩ rfl hn hl.1 rfl (lv_room hcat) hd ⟨Nat.le_trans hc X.2.2.2.2.2.2.2.2.2.2.2.1, Nat.le_trans hs X.2.2.2.2.2.2.2.2.2.2.2.2.1⟩) hS (fun _ _ h => h) (fun _ h => h) (fun u t H1 locs1 ht hvm hq hB hz hk hS1 => K u hq H1 locs1 ls (by rw [ht] at hB; exact hB.moved hvm.symm) hS1 hl)
end ROWS3
