/-! ROWS BY NUMBERS -/
section ROWS4
variable {G : xG} {μ : xM} {cc : ByteArray} {nL d mc ms k n pc : Nat} {own : String} {ret : Option FieldType} {L L' : List (Nat × Value)} {S : List Value} {σ : xS}
theorem e_ialdN {o i a t len : Nat} {f : Nat → Int32} {j : Int32} (X : xC G μ cc nL own ret d mc ms) (hd : decode cc pc = .ok (.iaload, 1)) (he : σ.2 (o, i) = some (.inl (t, len, f))) (ht : t ≠ 1) (ha : o + i = a) (q : Nat) (hj : j = nI q) (hq : q < len) (hlen : len ≤ 4096) (K : Ev G μ nL k n (pc + 1) L (.int (f q) :: S) σ) : Ev G μ nL k n pc L (.int j :: .ref a :: S) σ := by
  subst hj
  refine e_iald X hd he ht ha (vp_in_nI hq (by omega)) ?_
  rw [nI_clamp (by omega)]
  exact K
theorem e_zaldN {o i a len : Nat} {f : Nat → Int32} {j : Int32} (X : xC G μ cc nL own ret d mc ms) (hd : decode cc pc = .ok (.baload, 1)) (he : σ.2 (o, i) = some (.inl (1, len, f))) (ha : o + i = a) (q : Nat) (hj : j = nI q) (hq : q < len) (hlen : len ≤ 4096) (K : Ev G μ nL k n (pc + 1) L (.int (f q) :: S) σ) : Ev G μ nL k n pc L (.int j :: .ref a :: S) σ := by
  subst hj
  refine e_zald X hd he ha (vp_in_nI hq (by omega)) ?_
  rw [nI_clamp (by omega)]
  exact K
theorem e_iastN {o i a len : Nat} {f : Nat → Int32} {j x : Int32} (X : xC G μ cc nL own ret d mc ms) (hd : decode cc pc = .ok (.iastore, 1)) (he : σ.2 (o, i) = some (.inl (0, len, f))) (ha : o + i = a) (q : Nat) (hj : j = nI q) (hq : q < len) (hlen : len ≤ 4096) (K : Ev G μ nL k n (pc + 1) L S (xset σ (o, i) (.inl (0, len, upd f q x)))) : Ev G μ nL k n pc L (.int x :: .int j :: .ref a :: S) σ := by
  subst hj
  refine e_iast X hd he ha (vp_in_nI hq (by omega)) ?_
  rw [nI_clamp (by omega)]
  exact K
theorem e_zastN {o i a len : Nat} {f : Nat → Int32} {j x : Int32} (X : xC G μ cc nL own ret d mc ms) (hd : decode cc pc = .ok (.bastore, 1)) (he : σ.2 (o, i) = some (.inl (1, len, f))) (ha : o + i = a) (q : Nat) (hj : j = nI q) (hq : q < len) (hlen : len ≤ 4096) (hx : x = 0 ∨ x = 1) (K : Ev G μ nL k n (pc + 1) L S (xset σ (o, i) (.inl (1, len, upd f q x)))) : Ev G μ nL k n pc L (.int x :: .int j :: .ref a :: S) σ := by
  subst hj
  refine e_zast X hd he ha (vp_in_nI hq (by omega)) hx ?_
  rw [nI_clamp (by omega)]
  exact K
theorem e_iaddN {a b : Nat} (X : xC G μ cc nL own ret d mc ms) (hd : decode cc pc = .ok (.iadd, 1)) (K : Ev G μ nL k n (pc + 1) L (.int (nI (a + b)) :: S) σ) : Ev G μ nL k n pc L (.int (nI b) :: .int (nI a) :: S) σ := e_iadd X hd (by rw [nI_add]; exact K)
theorem e_imulN {a b : Nat} (X : xC G μ cc nL own ret d mc ms) (hd : decode cc pc = .ok (.imul, 1)) (K : Ev G μ nL k n (pc + 1) L (.int (nI (a * b)) :: S) σ) : Ev G μ nL k n pc L (.int (nI b) :: .int (nI a) :: S) σ := e_imul X hd (by rw [pk_mul]; exact K)
theorem e_isubN {a b : Nat} (X : xC G μ cc nL own ret d mc ms) (hd : decode cc pc = .ok (.isub, 1)) (h : b ≤ a) (K : Ev G μ nL k n (pc + 1) L (.int (nI (a - b)) :: S) σ) : Ev G μ nL k n pc L (.int (nI b) :: .int (nI a) :: S) σ := e_isub X hd (by rw [pk_sub h]; exact K)
theorem e_idivN {a b : Nat} (X : xC G μ cc nL own ret d mc ms) (hd : decode cc pc = .ok (.idiv, 1)) (ha : a < 2 ^ 31) (h0 : 0 < b) (hb : b < 2 ^ 31) (K : Ev G μ nL k n (pc + 1) L (.int (nI (a / b)) :: S) σ) : Ev G μ nL k n pc L (.int (nI b) :: .int (nI a) :: S) σ := e_idiv X hd (nI_ne0 h0 hb) (by rw [pk_div ha h0 hb]; exact K)
theorem e_iremN {a b : Nat} (X : xC G μ cc nL own ret d mc ms) (hd : decode cc pc = .ok (.irem, 1)) (ha : a < 2 ^ 31) (h0 : 0 < b) (hb : b < 2 ^ 31) (K : Ev G μ nL k n (pc + 1) L (.int (nI (a % b)) :: S) σ) : Ev G μ nL k n pc L (.int (nI b) :: .int (nI a) :: S) σ := e_irem X hd (nI_ne0 h0 hb) (by rw [pk_rem ha h0 hb]; exact K)
theorem e_iincN {i a b : Nat} {z : Int} (X : xC G μ cc nL own ret d mc ms) (hd : decode cc pc = .ok (.iinc i z, 3)) (j : Nat) (hj : L[j]? = some (i, .int (nI a))) (hv : Int32.ofInt z = nI b) (hn : i < nL) (hL : (i, Value.int (nI (a + b))) :: L.filter (fun q => !(q.1 == i) && !(q.1 + 1 == i && q.2.category == 2)) = L') (K : Ev G μ nL k n (pc + 3) L' S σ) : Ev G μ nL k n pc L S σ := e_iinc X hd j hj (by rw [hv, nI_add]) hn hL K
theorem e_icmp_eqN {x y : Nat} {off : Int} {tgt : Nat} (X : xC G μ cc nL own ret d mc ms) (hd : decode cc pc = .ok (.if_icmp .eq off, 3)) (ht : (pc : Int) + off = (tgt : Int)) (hx : x < 2 ^ 31) (hy : y < 2 ^ 31) (K1 : x = y → Ev G μ nL k n tgt L S σ) (K2 : x ≠ y → Ev G μ nL k n (pc + 3) L S σ) : Ev G μ nL k n pc L (.int (nI y) :: .int (nI x) :: S) σ := e_icmp_eq X hd ht (fun h => K1 ((nI_eq hx hy).mp h)) (fun h => K2 (fun q => h ((nI_eq hx hy).mpr q)))
theorem e_icmp_neN {x y : Nat} {off : Int} {tgt : Nat} (X : xC G μ cc nL own ret d mc ms) (hd : decode cc pc = .ok (.if_icmp .ne off, 3)) (ht : (pc : Int) + off = (tgt : Int)) (hx : x < 2 ^ 31) (hy : y < 2 ^ 31) (K1 : x ≠ y → Ev G μ nL k n tgt L S σ) (K2 : x = y → Ev G μ nL k n (pc + 3) L S σ) : Ev G μ nL k n pc L (.int (nI y) :: .int (nI x) :: S) σ := e_icmp_ne X hd ht (fun h => K1 (fun q => h ((nI_eq hx hy).mpr q))) (fun h => K2 ((nI_eq hx hy).mp h))
theorem e_icmp_ltN {x y : Nat} {off : Int} {tgt : Nat} (X : xC G μ cc nL own ret d mc ms) (hd : decode cc pc = .ok (.if_icmp .lt off, 3)) (ht : (pc : Int) + off = (tgt : Int)) (hx : x < 2 ^ 31) (hy : y < 2 ^ 31) (K1 : x < y → Ev G μ nL k n tgt L S σ) (K2 : y ≤ x → Ev G μ nL k n (pc + 3) L S σ) : Ev G μ nL k n pc L (.int (nI y) :: .int (nI x) :: S) σ := e_icmp_lt X hd ht (fun h => K1 ((nI_ltI hx hy).mp h)) (fun h => K2 (Nat.not_lt.mp (fun q => h ((nI_ltI hx hy).mpr q))))
theorem e_icmp_geN {x y : Nat} {off : Int} {tgt : Nat} (X : xC G μ cc nL own ret d mc ms) (hd : decode cc pc = .ok (.if_icmp .ge off, 3)) (ht : (pc : Int) + off = (tgt : Int)) (hx : x < 2 ^ 31) (hy : y < 2 ^ 31) (K1 : y ≤ x → Ev G μ nL k n tgt L S σ) (K2 : x < y → Ev G μ nL k n (pc + 3) L S σ) : Ev G μ nL k n pc L (.int (nI y) :: .int (nI x) :: S) σ := e_icmp_ge X hd ht (fun h => K1 ((nI_leI hy hx).mp h)) (fun h => K2 (Nat.not_le.mp (fun q => h ((nI_leI hy hx).mpr q))))
theorem e_icmp_gtN {x y : Nat} {off : Int} {tgt : Nat} (X : xC G μ cc nL own ret d mc ms) (hd : decode cc pc = .ok (.if_icmp .gt off, 3)) (ht : (pc : Int) + off = (tgt : Int)) (hx : x < 2 ^ 31) (hy : y < 2 ^ 31) (K1 : y < x → Ev G μ nL k n tgt L S σ) (K2 : x ≤ y → Ev G μ nL k n (pc + 3) L S σ) : Ev G μ nL k n pc L (.int (nI y) :: .int (nI x) :: S) σ := e_icmp_gt X hd ht (fun h => K1 ((nI_ltI hy hx).mp h)) (fun h => K2 (Nat.not_lt.mp (fun q => h ((nI_ltI hy hx).mpr q))))
theorem e_icmp_leN {x y : Nat} {off : Int} {tgt : Nat} (X : xC G μ cc nL own ret d mc ms) (hd : decode cc pc = .ok (.if_icmp .le off, 3)) (ht : (pc : Int) + off = (tgt : Int)) (hx : x < 2 ^ 31) (hy : y < 2 ^ 31) (K1 : x ≤ y → Ev G μ nL k n tgt L S σ) (K2 : y < x → Ev G μ nL k n (pc + 3) L S σ) : Ev G μ nL k n pc L (.int (nI y) :: .int (nI x) :: S) σ := e_icmp_le X hd ht (fun h => K1 ((nI_leI hx hy).mp h)) (fun h => K2 (Nat.not_le.mp (fun q => h ((nI_leI hx hy).mpr q))))
theorem Ev.gen (P : xS → Prop) {o : Nat} {σ0 : xS} (h : P σ) (ho : Off o σ0 σ) (K : ∀ σ1 : xS, P σ1 → Off o σ0 σ1 → Ev G μ nL k n pc L S σ1) : Ev G μ nL k n pc L S σ := K σ h ho
theorem e_max {idx : Nat} {x y : Int32} (X : xC G μ cc nL own ret d mc ms) (hw : Cond.methodLink own idx yJ9_max_7cf53 ∈ T0) (hd : decode cc pc = .ok (.invokestatic idx, 3)) (h1 : 1 ≤ d) (hk : k ≤ mc) (hn : n ≤ ms) (hst : (S.map fun v => v.category).sum ≤ 8) (K : Ev G μ nL k n (pc + 3) L (.int (if x < y then y else x) :: S) σ) : Ev G μ nL k n pc L (.int y :: .int x :: S) σ := by
  intro H locs ls hH hS hl
  have hf := X.2.2.2.2.2.2.2.2.2.1
  have hlo := X.2.2.2.2.2.2.2.2.2.2.1
  exact va_mmax X.1 X.2.1 (by rw [X.2.2.1]; exact hl.1.symm) X.2.2.2.1 (X.hts hw) (X.hts w_st_J9_max_7cf53) (X.hts w_ini_J9) (X.hts w_code_J9_max_7cf53) (by omega) (by omega) (Nat.le_trans hk X.2.2.2.2.2.2.2.2.2.2.2.1) (Nat.le_trans hn X.2.2.2.2.2.2.2.2.2.2.2.2.1) hd (K H locs ls hH hS hl)
theorem e_min {idx : Nat} {x y : Int32} (X : xC G μ cc nL own ret d mc ms) (hw : Cond.methodLink own idx yJ9_min_7cf53 ∈ T0) (hd : decode cc pc = .ok (.invokestatic idx, 3)) (h1 : 1 ≤ d) (hk : k ≤ mc) (hn : n ≤ ms) (hst : (S.map fun v => v.category).sum ≤ 8) (K : Ev G μ nL k n (pc + 3) L (.int (if y < x then y else x) :: S) σ) : Ev G μ nL k n pc L (.int y :: .int x :: S) σ := by
  intro H locs ls hH hS hl
  have hf := X.2.2.2.2.2.2.2.2.2.1
  have hlo := X.2.2.2.2.2.2.2.2.2.2.1
  exact va_mmin X.1 X.2.1 (by rw [X.2.2.1]; exact hl.1.symm) X.2.2.2.1 (X.hts hw) (X.hts w_st_J9_min_7cf53) (X.hts w_ini_J9) (X.hts w_code_J9_min_7cf53) (by omega) (by omega) (Nat.le_trans hk X.2.2.2.2.2.2.2.2.2.2.2.1) (Nat.le_trans hn X.2.2.2.2.2.2.2.2.2.2.2.2.1) hd (K H locs ls hH hS hl)
end ROWS4
