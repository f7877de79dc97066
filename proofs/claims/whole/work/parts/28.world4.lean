theorem stI_congr {su su' : Nat → Int32} (h : ∀ i, i < 6 → su i = su' i) {i : xI} (hi : okI i = true) (s : List Bool) : stI su i s = stI su' i s := by
  rcases i with ⟨w, hh, v⟩ | k
  · have hw : w < 6 := by
      simp only [okI, Bool.and_eq_true, decide_eq_true_eq] at hi
      exact hi.1
    show tst (su w) hh v :: s = tst (su' w) hh v :: s
    rw [h w hw]
  · rcases k with _ | _ | k <;> rcases s with _ | ⟨a, _ | ⟨b, s⟩⟩ <;> rfl
theorem foldC {α β : Type} {f g : β → α → β} (l : List α) (h : ∀ i ∈ l, ∀ s, f s i = g s i) (s : β) : l.foldl f s = l.foldl g s := by
  induction l generalizing s with
  | nil => rfl
  | cons i l ih =>
    rw [List.foldl_cons, List.foldl_cons, h i List.mem_cons_self]
    exact ih (fun j hj => h j (List.mem_cons_of_mem _ hj)) _
theorem fold_congr {su su' : Nat → Int32} (h : ∀ i, i < 6 → su i = su' i) (l : List xI) (hl : l.all okI = true) (s : List Bool) : l.foldl (fun s i => stI su i s) s = l.foldl (fun s i => stI su' i s) s :=
  foldC l (fun i hi s => stI_congr h (List.all_eq_true.mp hl i hi) s) s
theorem evI_congr {su su' : Nat → Int32} (h : ∀ i, i < 6 → su i = su' i) {l : List xI} (hl : l.all okI = true) : evI su l = evI su' l := by
  rw [evI, evI, fold_congr h l hl]
theorem plT_congr {t : xT} {su su' : Nat → Int32} (ht : ∀ f ∈ t.2.2, okF f) (h : ∀ i, i < 6 → su i = su' i) : plT t su = plT t su' := by
  rw [plT, plT]
  exact foldC t.2.2 (fun f hf a => by rw [evI_congr h (ht f hf).1]) 0
theorem TW.ok {σ : xS} {tw : Nat} {t : xT} (h : TW σ tw t) : ∀ f ∈ t.2.2, okF f := by
  obtain ⟨F, T, A, -, h2⟩ := h
  exact h2.2.2.1
