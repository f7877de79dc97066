theorem RWc.back {F F' G0 : Nat → Int32} {A A' B : Nat → Nat → Int32} {X Y : Nat → Int32} {nr nb : Nat} {t : xT} {ln l2 : Nat} (h : RWc F A X nr nb t ln) (k : RWc G0 B Y nr nb t l2) (hXY : ∀ j, 5 ≤ j → X j = Y j) (e4 : ∀ j, j < 4 → A' 4 j = B 4 j) (eo : ∀ i, i ≠ 4 → A' i = A i) (f10 : F' 10 = G0 10) (fo : ∀ i, i ≠ 10 → F' i = F i) (hr4 : nr ≤ 4) : RWc F' A' Y nr nb t ln := by
  obtain ⟨h1, h2, h3, h4, h5, h6, h7, h8, h9, h10, h11, h12⟩ := h
  obtain ⟨k1, k2, k3, k4, k5, k6, k7, k8, k9, k10, k11, k12⟩ := k
  refine ⟨fun b hb => ?_, fun q hq => ?_, fun q hq => ?_, fun q hq => ?_, fun q hq => ?_, ?_, ?_, ?_, ?_, h10, ?_, fun dg hdg hl q hq b hb => ?_⟩
  · rw [eo 1 (by decide), h1 b hb, hXY _ (by omega)]
  · rw [eo 2 (by decide), h2 q hq, hXY _ (by omega)]
  · rw [eo 3 (by decide), h3 q hq, hXY _ (by omega)]
  · rw [e4 q (by omega)]; exact k4 q hq
  · rw [eo 5 (by decide), h5 q hq, hXY _ (by omega)]
  · rw [fo 8 (by decide)]; exact h6
  · rw [fo 9 (by decide)]; exact h7
  · rw [f10]; exact k8
  · rw [fo 11 (by decide), h9, hXY _ (by omega)]
  · rw [fo 7 (by decide)]; exact h11
  · rw [eo 6 (by decide), h12 dg hdg hl q hq b hb]
    congr 1
    funext i
    match i with
    | 0 => rfl
    | 1 => exact hXY _ (by omega)
    | 2 => exact hXY _ (by omega)
    | 3 => rfl
    | 4 => show X (5 + b) / 10 = Y (5 + b) / 10; rw [hXY _ (by omega)]
    | i + 5 => rfl
theorem Hd.back {X Y : Nat → Int32} {t : xT} (h : Hd X t) (hXY : ∀ j, 5 ≤ j → X j = Y j) : Hd Y t := h.congr (hXY 19 (by decide)).symm (fun j hj => (hXY j (by omega)).symm)
def wchF (X : Nat → Int32) (t : xT) (r o : Nat) : Bool := decide (X (1 + r) ≠ -1) && (decide (X (1 + o) ≠ -1) && (decide (likF X t r (X (1 + r)).toNatClampNeg < likF X t r (X (1 + o)).toNatClampNeg) && decide (likF X t o (X (1 + o)).toNatClampNeg < likF X t o (X (1 + r)).toNatClampNeg)))
def mostLF (X : Nat → Int32) (t : xT) (nb r b : Nat) : Bool := allTo (fun c => decide (likF X t r c ≤ likF X t r b)) nb
theorem Gd.swap {X : Nat → Int32} {nr nb r b : Nat} (h : Gd X nr nb) (hr : r < nr) (hb : b < nb) : Gd (swapF X nr r b) nr nb := by
  rw [swapF]
  refine Gd.upd_has ?_ hr (Or.inr ⟨b, hb, rfl⟩)
  split
  · exact h
  · next hc =>
    obtain ⟨j, hj, hje⟩ := holdF_has hc
    rw [hje, nI_clamp (by have := h.r4; omega)]
    exact h.upd_has hj (h.2.1 r hr)
theorem Hd.swap {X : Nat → Int32} {t : xT} {nr nb r b : Nat} (hT : Hd X t) (h : Gd X nr nb) (hr : r < nr) : Hd (swapF X nr r b) t := by
  rw [swapF]
  refine Hd.upd ?_ (by have := h.r4; omega)
  split
  · exact hT
  · next hc =>
    obtain ⟨j, hj, hje⟩ := holdF_has hc
    rw [hje, nI_clamp (by have := h.r4; omega)]
    exact hT.upd (by have := h.r4; omega)
