theorem odL_get {c nr k : Nat} (h : k < nr) : (odL c nr).getD k 0 = odg c nr k := by
  rw [odL, List.getD_eq_getElem?_getD, List.getElem?_map, List.getElem?_range h]
  rfl
