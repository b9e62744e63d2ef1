theorem ak_v_def (ty : FieldType) (n : Nat × Nat) (h : (n = (0, 0) ∧ (ty = .int ∨ ty = .boolean)) ∨ (n = (3, 0) ∧ ty = .long) ∨ (n = (5, 0) ∧ ((∃ t, ty = .object t) ∨ ∃ t, ty = .array t))) (ι : ak_I) (ads : List Nat) : ak_v ι ads n (defaultValue ty) := by
  rcases h with ⟨rfl, rfl | rfl⟩ | ⟨rfl, rfl⟩ | ⟨rfl, ⟨t, rfl⟩ | ⟨t, rfl⟩⟩
  · exact Or.inl ⟨rfl, rfl⟩
  · exact Or.inl ⟨rfl, rfl⟩
  · exact Or.inr (Or.inr (Or.inr (Or.inl ⟨rfl, rfl⟩)))
  · exact Or.inr (Or.inr (Or.inr (Or.inr (Or.inr (Or.inl ⟨rfl, rfl⟩)))))
  · exact Or.inr (Or.inr (Or.inr (Or.inr (Or.inr (Or.inl ⟨rfl, rfl⟩)))))
/-- by the first letter -/
def ak_dk (d : Option FieldType) (n : Nat × Nat) : Bool := match d with
  | some .int => decide (n = (0, 0))
  | some .boolean => decide (n = (0, 0))
  | some .long => decide (n = (3, 0))
  | some (.object _) => decide (n = (5, 0))
  | some (.array _) => decide (n = (5, 0))
  | _ => false
theorem ak_dk_ok {d : Option FieldType} {n : Nat × Nat} (h : ak_dk d n = true) : ∃ ty, d = some ty ∧ ∀ (ι : ak_I) (ads : List Nat), ak_v ι ads n (defaultValue ty) := by
  unfold ak_dk at h
  split at h
  · exact ⟨_, rfl, ak_v_def _ _ (Or.inl ⟨of_decide_eq_true h, Or.inl rfl⟩)⟩
  · exact ⟨_, rfl, ak_v_def _ _ (Or.inl ⟨of_decide_eq_true h, Or.inr rfl⟩)⟩
  · exact ⟨_, rfl, ak_v_def _ _ (Or.inr (Or.inl ⟨of_decide_eq_true h, rfl⟩))⟩
  · exact ⟨_, rfl, ak_v_def _ _ (Or.inr (Or.inr ⟨of_decide_eq_true h, Or.inl ⟨_, rfl⟩⟩))⟩
  · exact ⟨_, rfl, ak_v_def _ _ (Or.inr (Or.inr ⟨of_decide_eq_true h, Or.inr ⟨_, rfl⟩⟩))⟩
  · cases h
theorem ak_ini_ok : ∀ ci, ci < vwCl.length → ∀ j, j < ak_n ci → ak_dk (parseFieldDescriptor (ak_fd ci j).2.2.1) (ak_rd (0, ci, (5, 0), ai_ini ci) j) = true := by decide +kernel
theorem ak_glob_ok : ak_glob := by
  refine ⟨ak_W_of (by decide +kernel) rfl, ak_W_of (by decide +kernel) rfl, ak_W_of (by decide +kernel) rfl, ak_W_of (by decide +kernel) rfl, ak_W_of (by decide +kernel) rfl, by decide +kernel, ?_⟩
  intro ci q hq j hj
  have h1 : ci < vwCl.length := (List.getElem?_eq_some_iff.mp hq).1
  have e1 : ak_n ci = q.2.2 := by unfold ak_n; rw [hq]; rfl
  have e2 : ak_fd ci j = q.2.1 j := by unfold ak_fd; rw [hq]; rfl
  have h := ak_ini_ok ci h1 j (by rw [e1]; exact hj)
  rw [e2] at h
  exact ak_dk_ok h
theorem ak_all (n : Nat) : ak_X (ai_run n) := ak_run_ok ak_glob_ok ak_ordw_ok ak_tabok_ok n
theorem ak_cut {X : ai_X} {ts : List ai_T} {n r d mid pc : Nat} {M : ai_M} {z : ai_Z} {ps : List ai_O} (hX : ak_X X) (hT : ai_tab[mid]? = some M) (hts : ∀ t ∈ ts, ak_F r d mid t.1 t.2.1 t.2.2) (h : ai_go X ts n r d M pc z ps = true) : ak_F r d mid pc z ps := ai_go_ok ak_glob_ok ak_ordw_ok ak_tabok_ok hX hT hts h
noncomputable def ak_kone (k : Nat × Nat × Nat × Nat) (mid i : Nat) : Bool := match ai_tab[i]? with
  | some M => !(ai_key k M) || decide (i = mid)
  | none => true
/-- the numbers are one method's alone -/
theorem ak_uni {k : Nat × Nat × Nat × Nat} {mid : Nat} (h : ∀ i, i < 182 → ak_kone k mid i = true) (mid' : Nat) (M : ai_M) (hM : ai_tab[mid']? = some M) (hk : ai_key k M = true) : mid' = mid := by
  have h1 : mid' < 182 := by rw [← ak_len.2]; exact (List.getElem?_eq_some_iff.mp hM).1
  have h2 := h mid' h1
  unfold ak_kone at h2
  rw [hM] at h2
  simp only [hk, Bool.not_true, Bool.false_or, decide_eq_true_eq] at h2
  exact h2
theorem ak_us0 : ∀ u ∈ ([] : List ai_U), ak_U u := fun u h => by cases h
theorem ak_us1 {u : ai_U} {us : List ai_U} (h : ak_U u) (hs : ∀ u ∈ us, ak_U u) : ∀ v ∈ u :: us, ak_U v := by
  intro v hv
  rcases List.mem_cons.mp hv with rfl | hv
  · exact h
  · exact hs v hv
theorem ak_U_of {k : Nat × Nat × Nat × Nat} {d mid : Nat} {l : ai_L} {w : ai_W} {o : List ai_O} (h : ∀ i, i < 182 → ak_kone k mid i = true) (hF : ak_F w.1 d mid 0 (l, [], w) o) : ak_U (k, d, l, w, o) := ⟨mid, ak_uni h, hF⟩
theorem ak_cutG {G : ak_I → ak_Fr → Prop} {X : ai_X} {ts : List ai_T} {n r d mid pc : Nat} {M : ai_M} {z : ai_Z} {ps : List ai_O} (hX : ak_X X) (hT : ai_tab[mid]? = some M) (hts : ∀ t ∈ ts, ak_FG G r d mid t.1 t.2.1 t.2.2) (h : ai_go X ts n r d M pc z ps = true) : ak_FG G r d mid pc z ps := ai_go_okG ak_glob_ok ak_ordw_ok ak_tabok_ok hX hT hts h
