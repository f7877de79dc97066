/-! orders as numbers -/
theorem od_lt {c nr : Nat} : ∀ k, (List.range k).foldl (fun a k => a ||| 2 ^ odg c nr k) 0 < 16
  | 0 => by show 0 < 16; decide
  | k + 1 => by
    rw [List.range_succ, List.foldl_append]
    have h1 := od_lt (c := c) (nr := nr) k
    have h2 : odg c nr k < 4 := Nat.mod_lt _ (by decide)
    have h3 : 2 ^ odg c nr k < 2 ^ 4 := Nat.pow_lt_pow_right (by decide) h2
    exact Nat.or_lt_two_pow (n := 4) h1 h3
theorem od_s {c nr k : Nat} : (List.range (k + 1)).foldl (fun a k => a ||| 2 ^ odg c nr k) 0 = ((List.range k).foldl (fun a k => a ||| 2 ^ odg c nr k) 0) ||| 2 ^ odg c nr k := by
  rw [List.range_succ, List.foldl_append]
  rfl
