/-! ===== contracts of those that are called, put together ===== -/
theorem dk_sel {j n : Nat} {y : MethodName} (h : lw_privs[j]? = some (y, n)) : Cond.selects y.cls y y ∈ lw_tbl := List.mem_append_left _ (List.mem_map.mpr ⟨(y, n), List.mem_of_getElem? h, rfl⟩)
theorem cCal_nil {T : cTb} {d : Nat} : cCal T d [] [] := fun i q al h => by simp at h
theorem cCal_cons {T : cTb} {d : Nat} {q : bY × Nat} {al : List (Nat × Nat × cCn)} {Γ : List (bY × Nat)} {Ga : List (List (Nat × Nat × cCn))} (h : ∀ a ∈ al, cOk T q.1 q.2 d a.1 a.2.1 a.2.2 ∧ cwCn a.2.2 = true) (hr : cCal T d Γ Ga) : cCal T d (q :: Γ) (al :: Ga) := by
  intro i p bl h1 h2
  cases i with
  | zero => cases h1; cases h2; exact h
  | succ i => exact hr i p bl h1 h2
theorem cAl_nil {T : cTb} {d : Nat} {q : bY × Nat} : ∀ a ∈ ([] : List (Nat × Nat × cCn)), cOk T q.1 q.2 d a.1 a.2.1 a.2.2 ∧ cwCn a.2.2 = true := fun a h => by simp at h
theorem cAl_cons {T : cTb} {d c1 c2 : Nat} {c : cCn} {q : bY × Nat} {al : List (Nat × Nat × cCn)} (h1 : cOk T q.1 q.2 d c1 c2 c) (h2 : cwCn c = true) (hr : ∀ a ∈ al, cOk T q.1 q.2 d a.1 a.2.1 a.2.2 ∧ cwCn a.2.2 = true) : ∀ a ∈ (c1, c2, c) :: al, cOk T q.1 q.2 d a.1 a.2.1 a.2.2 ∧ cwCn a.2.2 = true := by
  intro a ha
  rcases List.mem_cons.mp ha with rfl | ha
  · exact ⟨h1, h2⟩
  · exact hr a ha
