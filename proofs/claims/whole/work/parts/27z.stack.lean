/-! THE STACK of truths as one number, the latest lowest -/
def encS : List Bool → Nat
  | [] => 0
  | b :: s => 2 * encS s + (if b then 1 else 0)
theorem encS_lt : ∀ s : List Bool, encS s < 2 ^ s.length := by
  intro s
  induction s with
  | nil => exact Nat.one_pos
  | cons b s ih =>
    rw [encS, List.length_cons, Nat.pow_succ]
    split <;> omega
theorem encS_31 {s : List Bool} (h : s.length ≤ 30) : encS s < 2 ^ 30 := Nat.lt_of_lt_of_le (encS_lt s) (Nat.pow_le_pow_right (by decide) h)
theorem nI_and (a b : Nat) : nI a &&& nI b = nI (a &&& b) := by
  apply Int32.toBitVec_inj.mp
  show BitVec.ofNat 32 a &&& BitVec.ofNat 32 b = BitVec.ofNat 32 (a &&& b)
  exact (BitVec.ofNat_and).symm
theorem nI_xor (a b : Nat) : nI a ^^^ nI b = nI (a ^^^ b) := by
  apply Int32.toBitVec_inj.mp
  show BitVec.ofNat 32 a ^^^ BitVec.ofNat 32 b = BitVec.ofNat 32 (a ^^^ b)
  exact (BitVec.ofNat_xor).symm
theorem tb2 (e : Nat) (c : Bool) (i : Nat) : (2 * e + (if c then 1 else 0)).testBit i = if i = 0 then c else e.testBit (i - 1) := by
  cases i with
  | zero =>
    rw [Nat.testBit_zero]
    cases c <;> simp <;> omega
  | succ i =>
    rw [Nat.testBit_succ]
    have : (2 * e + (if c then 1 else 0)) / 2 = e := by cases c <;> simp <;> omega
    rw [this]
    simp
theorem tbE (b : Bool) (s : List Bool) (i : Nat) : (encS (b :: s)).testBit i = if i = 0 then b else (encS s).testBit (i - 1) := tb2 (encS s) b i
theorem tb1 (i : Nat) : (1 : Nat).testBit i = decide (i = 0) := by
  cases i with
  | zero => rfl
  | succ i => rw [Nat.testBit_succ]; simp
theorem tbm2 (i : Nat) : (4294967294 : Nat).testBit i = if i = 0 then false else decide (i - 1 < 31) := by
  have e : (4294967294 : Nat) = 2 * (2 ^ 31 - 1) + (if false then 1 else 0) := by decide
  rw [e, tb2, Nat.testBit_two_pow_sub_one]
theorem xor_enc (a : Bool) (s : List Bool) : nI (encS (a :: s)) ^^^ 1 = nI (encS ((!a) :: s)) := by
  rw [show (1 : Int32) = nI 1 from rfl, nI_xor]
  congr 1
  refine Nat.eq_of_testBit_eq (fun i => ?_)
  rw [Nat.testBit_xor, tbE, tbE, tb1]
  cases i with
  | zero => simp
  | succ i => simp
theorem shr1 {n : Nat} (h : n < 2 ^ 31) : nI n >>> (1 &&& 31) = nI (n / 2) := by
  have := shrN (d := 1) (a := n) (by decide) h
  exact this
theorem m2 : (-2 : Int32) = nI 4294967294 := by decide
theorem or_enc (b a : Bool) (s : List Bool) (h : s.length ≤ 28) : (nI (encS (b :: a :: s)) >>> (1 &&& 31)) ||| (nI (encS (b :: a :: s)) &&& 1) = nI (encS ((a || b) :: s)) := by
  have hl := encS_31 (s := b :: a :: s) (by simp; omega)
  rw [shr1 (by omega), show (1 : Int32) = nI 1 from rfl, nI_and, nI_or]
  congr 1
  refine Nat.eq_of_testBit_eq (fun i => ?_)
  rw [Nat.testBit_or, Nat.testBit_and, Nat.testBit_div_two, tb1]
  simp only [tbE]
  cases i with
  | zero => simp
  | succ i => simp
theorem and_enc (b a : Bool) (s : List Bool) (h : s.length ≤ 28) : (nI (encS (b :: a :: s)) >>> (1 &&& 31)) &&& (nI (encS (b :: a :: s)) ||| (-2)) = nI (encS ((a && b) :: s)) := by
  have hl := encS_31 (s := b :: a :: s) (by simp; omega)
  have hl2 := encS_31 (s := s) (by omega)
  rw [shr1 (by omega), m2, nI_or, nI_and]
  congr 1
  refine Nat.eq_of_testBit_eq (fun i => ?_)
  rw [Nat.testBit_and, Nat.testBit_or, Nat.testBit_div_two, tbm2]
  simp only [tbE]
  cases i with
  | zero => simp
  | succ i =>
    by_cases hi : i < 31
    · simp [hi]
    · have z : (encS s).testBit i = false := Nat.testBit_lt_two_pow (Nat.lt_of_lt_of_le hl2 (Nat.pow_le_pow_right (by decide) (by omega)))
      simp [z]
theorem psh_enc (b : Bool) (s : List Bool) : (nI (encS s) <<< (1 &&& 31)) ||| bI b = nI (encS (b :: s)) := by
  have h1 : nI (encS s) <<< (1 &&& 31) = nI (encS s * 2) := by
    apply Int32.toBitVec_inj.mp
    show BitVec.ofNat 32 (encS s) <<< _ = BitVec.ofNat 32 (encS s * 2)
    have e : ((1 &&& 31 : Int32).toBitVec.smod 32).toNat = 1 := by decide
    rw [show ((1 &&& 31 : Int32).toBitVec.smod 32) = (1 : BitVec 32) from by decide]
    apply BitVec.eq_of_toNat_eq
    simp [BitVec.toNat_shiftLeft, Nat.shiftLeft_eq]
  have h2 : bI b = nI (if b then 1 else 0) := by cases b <;> rfl
  rw [h1, h2, nI_or, encS]
  congr 1
  refine Nat.eq_of_testBit_eq (fun i => ?_)
  rw [Nat.testBit_or, tb2]
  have e0 : encS s * 2 = 2 * encS s + (if false then 1 else 0) := by simp; omega
  rw [e0, tb2]
  cases i with
  | zero => cases b <;> rfl
  | succ i =>
    have : (if b then 1 else 0 : Nat).testBit (i + 1) = false := by cases b <;> simp [Nat.testBit_succ]
    simp [this]
