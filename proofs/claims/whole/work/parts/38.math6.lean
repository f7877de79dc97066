/-! MORE CALLS: what was seen, odds, plans, notes -/
theorem e_valL {G : xG} {μ : xM} {nL k n pc : Nat} {L : List (Nat × Value)} {S : List Value} {σ : xS} {x y : Int64} (h : x = y) (K : Ev G μ nL k n pc L (.long y :: S) σ) : Ev G μ nL k n pc L (.long x :: S) σ := by rw [h]; exact K
theorem lcmp0 {q : Nat} (h : q < 2 ^ 31) : (if lN q > 0 then (1 : Int32) else if lN q = 0 then 0 else -1) = 0 ↔ q = 0 := by
  have e0 : (0 : Int64) = lN 0 := rfl
  rw [e0]
  by_cases hq : q = 0
  · subst hq
    rw [if_neg (by show ¬ lN 0 < lN 0; rw [pk_lLT (by omega) (by omega)]; omega), if_pos rfl]
    exact ⟨fun _ => rfl, fun _ => rfl⟩
  · rw [if_pos (by show lN 0 < lN q; rw [pk_lLT (by omega) (by omega)]; omega)]
    exact ⟨fun h => absurd h (by decide), fun h => absurd h hq⟩
def loF (a b : Nat) (part : Int32) : Int64 := lN ((if part = 0 then a else b) / Nat.gcd a b)
def v_wanted (X : Nat → Int32) (t : xT) (nr nb : Nat) (b : Int32) : Int32 := if inF b 0 (nI nb - 1) = true then itr (fun r a => a ||| (if mostLF X t nb r (cl b) then 1 <<< (nI r &&& 31) else 0)) 0 nr else -1
def v_had (X : Nat → Int32) (t : xT) (nr nb ns : Nat) (v : Int32) : Int32 := if inF v 0 (nI nr - 1) = true then itr (fun b a => a ||| (if allSeen (swapF X nr (cl v) b) t nr nb ns then 1 <<< (nI b &&& 31) else 0)) 0 nb else -1
def fiP (X : Nat → Int32) (t : xT) (nr nb ns r : Nat) (v : Nat) : Bool := allSeen (upd X (24 + r) (nI v)) t nr nb ns
/-- from 9 down: how many, the last -/
def fiF (p : Nat → Bool) (n : Nat) : Int32 × Int32 := itr (fun i q => (q.1 + (if p (9 - i) then 1 else 0), if p (9 - i) then nI (9 - i) else q.2)) (0, -5) n
def v_firm (X : Nat → Int32) (t : xT) (nr nb ns : Nat) (v w : Int32) : Int32 := if inF v 0 (nI nr - 1) = true ∧ inF w 0 1 = true then (if w = 0 then (fiF (fiP X t nr nb ns (cl v)) 10).1 else (fiF (fiP X t nr nb ns (cl v)) 10).2) else -1
def odN (X : Nat → Int32) (t : xT) (nr nb : Nat) (b : Int32) (n : Nat) : Nat := itr (fun r a => a + (if onF (comeF X t nr nb r) nr b then 1 else 0)) 0 n
def v_odds (X : Nat → Int32) (t : xT) (nr nb : Nat) (b part : Int32) : Int64 := if inF b 0 (nI nb - 1) = true ∧ inF part 0 1 = true ∧ nr ≠ 0 then loF (odN X t nr nb b nr) nr part else -9223372036854775808
def shN (X : Nat → Int32) (nr nb : Nat) : Nat := itr (fun b a => a ||| (if onF X nr (nI b) then 2 ^ b else 0)) 0 nb
def thN (X : Nat → Int32) (nr nb : Nat) : Nat := itr (fun b a => a + (if onF X nr (nI b) then cl (X (5 + b)) else 0)) 0 nb
def popN (S n : Nat) : Nat := itr (fun b a => a + S / 2 ^ b % 2) 0 n
def v_mean (X : Nat → Int32) (t : xT) (nr nb : Nat) (n part : Int32) : Int64 := if inF n 0 40 = true ∧ inF part 0 1 = true then (if popN (shN (daysF X t nr nb (cl n)).2 nr nb) 7 = 0 then -9223372036854775808 else loF (thN (daysF X t nr nb (cl n)).2 nr nb) (popN (shN (daysF X t nr nb (cl n)).2 nr nb) 7) part) else -9223372036854775808
def v_plan (X : Nat → Int32) (nr np : Nat) (w v : Int32) : Int32 × (Nat → Int32) := if w = -1 then (0, upd X 16 0) else if inF w 0 3 = true ∧ (¬ w < 3 ∨ inF v 0 (nI nr - 1) = true) then (if np = 8 then (-4, X) else (nI (np + 1), upd (upd (upd X (62 + np) w) (70 + np) v) 16 (nI (np + 1)))) else (-1, X)
def doesF (Y : Nat → Int32) (t : xT) (nr nb : Nat) (w v : Int32) : Nat → Int32 := if w = 0 then comeF Y t nr nb (cl v) else if w = 3 then (goF Y t nr nb).2 else pastF Y (cl v) (if w = 1 then 1 else 0)
def doN (X : Nat → Int32) (t : xT) (nr nb n : Nat) : Nat → Int32 := itr (fun k Y => doesF Y t nr nb (X (62 + k)) (X (70 + k))) X n
def v_done (X : Nat → Int32) (t : xT) (nr nb np : Nat) (w : Int32) : Int32 := if inF w 0 1 = true then (if w = 0 then totF (doN X t nr nb np) t nr else shelfF (doN X t nr nb np) nr nb) else -10001
def v_note (X : Nat → Int32) (nr nb nn : Nat) (v b : Int32) : Int32 × (Nat → Int32) := if v = -1 then (0, upd X 17 0) else if inF v 0 (nI nr - 1) = true ∧ inF b 0 (nI nb - 1) = true then (if nn = 8 then (-4, X) else (nI (nn + 1), upd (upd (upd X (78 + nn) v) (86 + nn) b) 17 (nI (nn + 1)))) else (-1, X)
def looP (X : Nat → Int32) (k : Nat) : Bool := decide (X (1 + cl (X (78 + k))) ≠ X (86 + k))
def v_looked (X : Nat → Int32) (nn : Nat) : Int32 := fndF (looP X) nn
theorem shN_lt {X : Nat → Int32} {nr nb : Nat} (hb : nb ≤ 7) : shN X nr nb < 128 := by
  have key : ∀ k, k ≤ 7 → itr (fun b a => a ||| (if onF X nr (nI b) then 2 ^ b else 0)) 0 k < 2 ^ 7 := by
    intro k
    induction k with
    | zero => intro _; exact Nat.zero_lt_succ _
    | succ k ih =>
      intro hk
      rw [itr]
      refine Nat.or_lt_two_pow (ih (by omega)) ?_
      split
      · exact Nat.pow_lt_pow_right (by decide) (by omega)
      · decide
  exact key nb hb
theorem shN_eq {X : Nat → Int32} {nr nb : Nat} (hb : nb ≤ 7) : shelfF X nr nb = nI (shN X nr nb) := by
  have key : ∀ k, k ≤ 7 → itr (fun b a => a ||| (if onF X nr (nI b) then 1 <<< (nI b &&& 31) else 0)) (0 : Int32) k = nI (itr (fun b a => a ||| (if onF X nr (nI b) then 2 ^ b else 0)) 0 k) := by
    intro k
    induction k with
    | zero => intro _; rfl
    | succ k ih =>
      intro hk
      rw [itr, itr, ih (by omega), ← nI_or]
      congr 1
      split
      · exact sh1 (by omega)
      · rfl
  exact key nb hb
theorem thN_eq {X : Nat → Int32} {nr nb : Nat} (hG : Gd X nr nb) : shThF X nr nb = nI (thN X nr nb) ∧ thN X nr nb ≤ 99 * nb := by
  have key : ∀ k, k ≤ nb → itr (fun b a => a + (if onF X nr (nI b) then X (5 + b) else 0)) (0 : Int32) k = nI (itr (fun b a => a + (if onF X nr (nI b) then cl (X (5 + b)) else 0)) 0 k) ∧ itr (fun b a => a + (if onF X nr (nI b) then cl (X (5 + b)) else 0)) 0 k ≤ 99 * k := by
    intro k
    induction k with
    | zero => intro _; exact ⟨rfl, Nat.zero_le _⟩
    | succ k ih =>
      intro hk
      obtain ⟨i1, i2⟩ := ih (by omega)
      rw [itr, itr, i1, ← nI_add]
      obtain ⟨tk, h1, h2, h3⟩ := hG.2.2.1 k (by omega)
      have h4 : cl (X (5 + k)) = tk := by rw [h3]; exact cl_nI (by omega)
      by_cases ho : onF X nr (nI k) = true
      · rw [if_pos ho, if_pos ho, h4, h3]
        exact ⟨rfl, by omega⟩
      · rw [if_neg ho, if_neg ho]
        exact ⟨rfl, by omega⟩
  exact key nb (Nat.le_refl _)
theorem popN_le {S : Nat} : ∀ n, popN S n ≤ n := by
  intro n
  induction n with
  | zero => exact Nat.le_refl _
  | succ n ih =>
    have : popN S (n + 1) = popN S n + S / 2 ^ n % 2 := rfl
    rw [this]
    have := Nat.mod_lt (S / 2 ^ n) (show 2 > 0 by decide)
    omega
theorem odN_le {X : Nat → Int32} {t : xT} {nr nb : Nat} {b : Int32} : ∀ n, odN X t nr nb b n ≤ n := by
  intro n
  induction n with
  | zero => exact Nat.le_refl _
  | succ n ih =>
    have : odN X t nr nb b (n + 1) = odN X t nr nb b n + (if onF (comeF X t nr nb n) nr b then 1 else 0) := rfl
    rw [this]
    split <;> omega
theorem Gdv {X : Nat → Int32} {nr nb r v : Nat} (h : Gd X nr nb) (hr : r < nr) (hv : v ≤ 9) : Gd (upd X (24 + r) (nI v)) nr nb := by
  obtain ⟨⟨h1, h2, h3, h4⟩, h5, h6, h7, h8, h9⟩ := h
  refine ⟨⟨h1, h2, ?_, ?_⟩, fun q hq => ?_, fun b hb => ?_, ?_, fun q hq => ?_, fun q hq => ?_⟩
  · rw [upd_n (by omega)]; exact h3
  · rw [upd_n (by omega)]; exact h4
  · rw [upd_n (by omega)]; exact h5 q hq
  · rw [upd_n (by omega)]; exact h6 b hb
  · rw [upd_n (by omega)]; exact h7
  · rw [upd_n (by omega)]; exact h8 q hq
  · by_cases e : q = r
    · subst e; rw [upd_s]; exact ⟨v, hv, rfl⟩
    · rw [upd_n (by omega)]; exact h9 q hq
theorem Hdv {X : Nat → Int32} {t : xT} {r : Nat} {v : Int32} (h : Hd X t) (hr : r < 4) : Hd (upd X (24 + r) v) t := h.congr (upd_n (by omega)) (fun j hj => upd_n (by omega))
theorem Gsv {X : Nat → Int32} {nb ns r : Nat} {v : Int32} (h : Gs X nb ns) (hr : r < 4) : Gs (upd X (24 + r) v) nb ns := by
  obtain ⟨h1, h2, h3⟩ := h
  exact ⟨h1, by rw [upd_n (by omega)]; exact h2, fun k hk => by rw [upd_n (by omega), upd_n (by omega), upd_n (by omega)]; exact h3 k hk⟩
theorem swap_hi {X : Nat → Int32} {nr nb r b j : Nat} (h : Gd X nr nb) (hr : r < nr) (hj : 5 ≤ j) : swapF X nr r b j = X j := by
  rw [swapF, upd_n (by have := h.r4; omega)]
  split
  · rfl
  · next hc =>
    obtain ⟨i, hi, hie⟩ := holdF_has hc
    rw [hie, nI_clamp (by have := h.r4; omega)]
    exact upd_n (by have := h.r4; omega)
theorem does_ok {X Y : Nat → Int32} {t : xT} {nr nb np k : Nat} (hP : okP X nr np) (hk : k < np) (hG : Gd Y nr nb) (hT : Hd Y t) : Gd (doesF Y t nr nb (X (62 + k)) (X (70 + k))) nr nb ∧ Hd (doesF Y t nr nb (X (62 + k)) (X (70 + k))) t := by
  obtain ⟨w, hw, hwe, hq⟩ := hP.2.2 k hk
  have h4 := hG.r4
  rw [doesF, hwe]
  by_cases h3 : w = 3
  · subst h3
    rw [if_neg (by decide), if_pos (show nI 3 = 3 from rfl)]
    exact ⟨hG.go hT, hT.go hG⟩
  · obtain ⟨q, hq1, hq2⟩ := hq (by omega)
    rw [hq2, cl_nI (by omega)]
    by_cases h0 : w = 0
    · subst h0
      rw [if_pos (show nI 0 = 0 from rfl)]
      exact ⟨hG.come hq1, hT.come h4 hq1⟩
    · rw [if_neg (by rw [← nI_0, nI_eq (by omega) (by omega)]; exact h0), if_neg (by rw [← nl3, nI_eq (by omega) (by omega)]; exact h3)]
      exact ⟨hG.past hq1, hT.past hG hq1⟩
theorem doN_ok {X : Nat → Int32} {t : xT} {nr nb np : Nat} (hP : okP X nr np) (hG : Gd X nr nb) (hT : Hd X t) : ∀ k, k ≤ np → Gd (doN X t nr nb k) nr nb ∧ Hd (doN X t nr nb k) t := by
  intro k
  induction k with
  | zero => intro _; exact ⟨hG, hT⟩
  | succ k ih => intro hk; exact does_ok hP (by omega) (ih (by omega)).1 (ih (by omega)).2
theorem does_hi {Y : Nat → Int32} {t : xT} {nr nb r j : Nat} {w v : Int32} (hG : Gd Y nr nb) (hr : r < nr) (hv : v = nI r) (hj : 12 ≤ j) : doesF Y t nr nb w v j = Y j := by
  have h4 := hG.r4
  rw [doesF, hv, cl_nI (by omega)]
  split
  · exact come_hi (by omega) (by omega)
  · split
    · exact go_hi h4 (by omega)
    · rw [pastF]
      split
      · rfl
      · next hc =>
        obtain ⟨b, hb, he⟩ := hG.has hr hc
        have := hG.b7
        rw [he, nI_clamp (by omega)]
        exact upd_n (by omega)
theorem doN_hi {X : Nat → Int32} {t : xT} {nr nb np : Nat} (hP : okP X nr np) (hG : Gd X nr nb) (hT : Hd X t) : ∀ k, k ≤ np → ∀ j, 12 ≤ j → doN X t nr nb k j = X j := by
  intro k
  induction k with
  | zero => intro _ j hj; rfl
  | succ k ih =>
    intro hk j hj
    refine Eq.trans ?_ (ih (by omega) j hj)
    have hok := doN_ok hP hG hT k (by omega)
    obtain ⟨w, hw, hwe, hq⟩ := hP.2.2 k (by omega)
    show doesF (doN X t nr nb k) t nr nb (X (62 + k)) (X (70 + k)) j = _
    by_cases h3 : w = 3
    · subst h3
      rw [doesF, hwe, if_neg (by decide), if_pos (show nI 3 = 3 from rfl)]
      exact go_hi hG.r4 (by omega)
    · obtain ⟨q, hq1, hq2⟩ := hq (by omega)
      exact does_hi hok.1 hq1 hq2 hj
theorem upd_2 {f : Nat → Int32} {k : Nat} {x y : Int32} : upd (upd f k x) k y = upd f k y := by
  funext j
  by_cases h : j = k
  · subst h; rw [upd_s, upd_s]
  · rw [upd_n h, upd_n h, upd_n h]
theorem back_v {X fr : Nat → Int32} {k : Nat} {v : Int32} (h : ∀ j, j < 12 → fr j = X j) (hk : 12 ≤ k) : backF (upd X k v) fr = upd X k v := by
  funext j
  rw [backF]
  by_cases hj : j < 12
  · rw [if_pos hj, upd_n (by omega)]; exact h j hj
  · rw [if_neg hj]
theorem fi_step {p : Nat → Bool} {j : Nat} (hj : j ≤ 9) : fiF p (10 - j) = ((fiF p (10 - (j + 1))).1 + (if p j then 1 else 0), if p j then nI j else (fiF p (10 - (j + 1))).2) := by
  have e1 : 10 - j = (10 - (j + 1)) + 1 := by omega
  have e2 : 9 - (10 - (j + 1)) = j := by omega
  have e3 : fiF p (10 - j) = ((fiF p (10 - (j + 1))).1 + (if p (9 - (10 - (j + 1))) then 1 else 0), if p (9 - (10 - (j + 1))) then nI (9 - (10 - (j + 1))) else (fiF p (10 - (j + 1))).2) := by rw [e1]; rfl
  rw [e3, e2]
theorem m1_neg {k : Nat} (hk : k ≤ 100) : nI k + (-1) < 0 ↔ k = 0 := by
  cases k with
  | zero => exact ⟨fun _ => rfl, fun _ => by decide⟩
  | succ j =>
    rw [show nI (j + 1) + (-1) = nI j from pk_m1 j]
    exact ⟨fun h => absurd h (nI_pos (by omega)), fun h => by omega⟩
theorem gcd_step {a b p q : Nat} (h : Nat.gcd p q = Nat.gcd a b) : Nat.gcd q (p % q) = Nat.gcd a b := by
  rw [← h, Nat.gcd_comm p q, Nat.gcd_rec q p, Nat.gcd_comm]
