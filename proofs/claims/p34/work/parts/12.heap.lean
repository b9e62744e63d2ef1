/-! ===== rows: fields and arrays ===== -/
section BHEAP
variable {γ : bG} {y : bY} {d b1 b2 pc : Nat} {lo : List (Option Value)} {st : List Value} {τ : bt} {h : bh} {nc ns : Nat}
/-- one int of one cell is another one -/
def bsetI (h : bh) (a k : Nat) (z : Int) : bh := (fun b j => if b = a ∧ j = k then z else h.1 b j, h.2)
def bsetR (h : bh) (a k : Nat) (o : Option Nat) : bh := (h.1, fun b j => if b = a ∧ j = k then o else h.2 b j)
theorem bn_of {ci : Nat} {q : vw_C} (h : vwCl[ci]? = some q) : bn ci = q.2.2 := by unfold bn; rw [h]; rfl
theorem bfd_of {ci k : Nat} {q : vw_C} (h : vwCl[ci]? = some q) : bfd ci k = q.2.1 k := by unfold bfd; rw [h]; rfl
theorem bV_get {fs : List Value} {k : Nat} (h : k < fs.length) : fs[k]? = some (vp_V fs k) := by
  unfold vp_V
  rw [List.getD_eq_getElem?_getD, List.getElem?_eq_getElem h]
  rfl
theorem bV_set {fs : List Value} {k j : Nat} {v : Value} (h : k < fs.length) : vp_V (fs.set k v) j = if j = k then v else vp_V fs j := by
  unfold vp_V
  rw [List.getD_eq_getElem?_getD, List.getD_eq_getElem?_getD]
  by_cases e : j = k
  · subst e
    rw [List.getElem?_set_self h, if_pos rfl]
    rfl
  · rw [List.getElem?_set_ne (Ne.symm e), if_neg e]
/-- an object, by its kind -/
theorem bcell.obj {ι : bI} {ws : va_W} {a ci : Nat} (hc : bcell ι τ h ws a) (ht : τ.1 a = ci + 1) (hci : ci ≤ 19) : ∃ (k : Nat) (fs : List Value), ws[k]? = some (a, .inr (ci, fs)) ∧ fs.length = bn ci ∧ ∀ i, i < fs.length → bfv (bfk ci i) (vp_V fs i) (h.1 a i) (h.2 a i) := by
  rcases hc with ⟨-, k, fs, h1, h2, h3⟩ | ⟨⟨h1, -⟩, -⟩ | ⟨⟨h1, -⟩, -⟩ | ⟨⟨h1, -⟩, -⟩ | ⟨h1, -⟩ | ⟨h1, -⟩ | ⟨h1, -⟩
  · rw [ht, Nat.add_sub_cancel] at h1 h2 h3
    exact ⟨k, fs, h1, h2, h3⟩
  all_goals omega
/-- where another cell is changed, or another thing of the cells, a cell stays as it was -/
theorem bcell.other {ι : bI} {h' : bh} {ws ws' : va_W} {a : Nat} (hc : bcell ι τ h ws a) (hi : ∀ i, h'.1 a i = h.1 a i) (hr : ∀ i, h'.2 a i = h.2 a i) (hw : ∀ (k : Nat) (e : va_E), ws[k]? = some (a, e) → ws'[k]? = some (a, e)) : bcell ι τ h' ws' a := by
  rcases hc with ⟨h1, k, fs, h2, h3, h4⟩ | ⟨h1, k, f, h2, h3, h4, h5⟩ | ⟨h1, k, f, h2, h3⟩ | ⟨h1, k, f, h2, h3, h4⟩ | ⟨h1, i, h2, h3, h4⟩ | ⟨h1, j, l, h2, h3, h4, h5⟩ | ⟨h1, h2, h3⟩
  · exact Or.inl ⟨h1, k, fs, hw _ _ h2, h3, fun i hi2 => by rw [hi, hr]; exact h4 i hi2⟩
  · exact Or.inr (Or.inl ⟨h1, k, f, hw _ _ h2, h3, h4, fun i hi2 => by rw [hi]; exact h5 i hi2⟩)
  · exact Or.inr (Or.inr (Or.inl ⟨h1, k, f, hw _ _ h2, h3⟩))
  · exact Or.inr (Or.inr (Or.inr (Or.inl ⟨h1, k, f, hw _ _ h2, h3, fun i hi2 => by rw [hr]; exact h4 i hi2⟩)))
  · exact Or.inr (Or.inr (Or.inr (Or.inr (Or.inl ⟨h1, i, h2, h3, by rw [hi]; exact h4⟩))))
  · exact Or.inr (Or.inr (Or.inr (Or.inr (Or.inr (Or.inl ⟨h1, j, l, h2, h3, h4, fun i hi2 => by rw [hi]; exact h5 i hi2⟩)))))
  · exact Or.inr (Or.inr (Or.inr (Or.inr (Or.inr (Or.inr ⟨h1, h2, h3⟩)))))
/-- a state when the cell at place k of the world is another one -/
theorem bM.write {ι : bI} {s : State} {nL k a : Nat} {h' : bh} {ws : va_W} {ls : Array Slot} {H H1 : Heap} {locs locs1 : List Loc} {e0 e' : va_E} (hM : bM ι s nL lo τ h ws ls H locs) (hw : ws[k]? = some (a, e0)) (hP : va_P ι.2.1 vwCl (ws.set k (a, e')) H1) (hD : va_D (bA ι) (ws.set k (a, e'))) (hS : va_S (bA ι) s.heap H1 locs1) (hc : bcell ι τ h' (ws.set k (a, e')) a) (ho : ∀ b, b ≠ a → ∀ i, h'.1 b i = h.1 b i ∧ h'.2 b i = h.2 b i) : bM ι s nL lo τ h' (ws.set k (a, e')) ls H1 locs1 := by
  refine ⟨hP, hD, hS, fun b hb => ?_, hM.2.2.2.2⟩
  by_cases e : b = a
  · rw [e]; exact hc
  · refine (hM.2.2.2.1 b hb).other (fun i => (ho b e i).1) (fun i => (ho b e i).2) (fun k' e2 hk => ?_)
    by_cases e3 : k = k'
    · subst e3
      rw [hw] at hk
      cases hk
      exact absurd rfl e
    · rw [List.getElem?_set_ne e3]; exact hk
/-- a link to a field -/
def blink (y : bY) (idx : Nat) (q : vw_C) (k : Nat) : Prop := Cond.fieldLink y.1.cls idx (q.2.1 k).1 (q.2.1 k).2.1 (q.2.1 k).2.2.1 ∈ bW ∨ ∃ host, Cond.fieldLinkNest y.1.cls idx (q.2.1 k).1 (q.2.1 k).2.1 (q.2.1 k).2.2.1 host ∈ lw_tbl
theorem b_get {a k ci idx : Nat} {q : vw_C} (C : bC γ y d b1 b2) (hq : vwCl[ci]? = some q) (hk : k < q.2.2) (hci : ci ≤ 19) (hlink : blink y idx q k) (hd : decode y.2.1 pc = .ok (.getfield idx, 3)) (ht : τ.1 a = ci + 1) (kk : ∀ v, bfv (bfk ci k) v (h.1 a k) (h.2 a k) → bJ γ (pc + 3) lo (v :: st) τ h nc ns) : bJ γ pc lo (.ref a :: st) τ h nc ns := by
  intro ws ls H locs hM
  obtain ⟨pl, fs, hw, hl, hv⟩ := (hM.2.2.2.1 a (by omega)).obj ht hci
  rw [bn_of hq] at hl
  have hkf : k < fs.length := by rw [hl]; exact hk
  have kk := kk _ (hv k hkf) ws ls H locs hM
  obtain ⟨Cn, T, N⟩ := q
  have hcl := bcls _ (List.mem_of_getElem? hq)
  rcases hlink with hlk | ⟨host, hlk⟩
  · exact va_get C.1.1 C.1.2.1 C.2.1.2.1 hcl.1 C.2.1.1 C.2.2.1.1 hM.1 pl hw hq k hk (C.2.1.2.1 _ hlk) (fun _ h => h) (bV_get hkf) hd kk
  · exact va_getN C.1.1 C.1.2.1 C.2.1.2.1 hcl.1 C.2.1.1 C.2.2.1.1 hM.1 pl hw hq k hk (va_Nw.use rfl (C.2.2.1.2.2.2.1 _ _ _ _ _ _ hlk)) (fun _ h => h) (bV_get hkf) hd kk
theorem b_getI {a k ci idx : Nat} {q : vw_C} (C : bC γ y d b1 b2) (hq : vwCl[ci]? = some q) (hk : k < q.2.2) (hci : ci ≤ 19) (hlink : blink y idx q k) (hd : decode y.2.1 pc = .ok (.getfield idx, 3)) (hty : bfk ci k = 0 ∨ bfk ci k = 1) (ht : τ.1 a = ci + 1) (kk : brg (h.1 a k) → bJ γ (pc + 3) lo (.int (bz (h.1 a k)) :: st) τ h nc ns) : bJ γ pc lo (.ref a :: st) τ h nc ns := by
  refine b_get C hq hk hci hlink hd ht (fun v hv => ?_)
  rcases hv with ⟨-, rfl, hr⟩ | ⟨e, -⟩ | ⟨e, -⟩
  · exact kk hr
  all_goals omega
theorem b_getR {a k ci idx : Nat} {q : vw_C} (C : bC γ y d b1 b2) (hq : vwCl[ci]? = some q) (hk : k < q.2.2) (hci : ci ≤ 19) (hlink : blink y idx q k) (hd : decode y.2.1 pc = .ok (.getfield idx, 3)) (hty : bfk ci k = 2) (ht : τ.1 a = ci + 1) (kk : bJ γ (pc + 3) lo (va_rf (h.2 a k) :: st) τ h nc ns) : bJ γ pc lo (.ref a :: st) τ h nc ns := by
  refine b_get C hq hk hci hlink hd ht (fun v hv => ?_)
  rcases hv with ⟨e, -⟩ | ⟨-, rfl⟩ | ⟨e, -⟩
  · omega
  · exact kk
  · omega
theorem b_getL {a k ci idx : Nat} {q : vw_C} (C : bC γ y d b1 b2) (hq : vwCl[ci]? = some q) (hk : k < q.2.2) (hci : ci ≤ 19) (hlink : blink y idx q k) (hd : decode y.2.1 pc = .ok (.getfield idx, 3)) (hty : bfk ci k = 3) (ht : τ.1 a = ci + 1) (kk : ∀ v, bJ γ (pc + 3) lo (.long v :: st) τ h nc ns) : bJ γ pc lo (.ref a :: st) τ h nc ns := by
  refine b_get C hq hk hci hlink hd ht (fun v hv => ?_)
  rcases hv with ⟨e, -⟩ | ⟨e, -⟩ | ⟨-, w, rfl⟩
  · omega
  · omega
  · exact kk w
/-- a link to a field that is written -/
def blinkW (y : bY) (idx : Nat) (q : vw_C) (k : Nat) : Prop := (Cond.fieldLink y.1.cls idx (q.2.1 k).1 (q.2.1 k).2.1 (q.2.1 k).2.2.1 ∈ bW ∧ (q.2.1 k).2.2.2 = false) ∨ (∃ host, Cond.fieldLinkNest y.1.cls idx (q.2.1 k).1 (q.2.1 k).2.1 (q.2.1 k).2.2.1 host ∈ lw_tbl ∧ (q.2.1 k).2.2.2 = false) ∨ (Cond.fieldLink y.1.cls idx (q.2.1 k).1 (q.2.1 k).2.1 (q.2.1 k).2.2.1 ∈ bW ∧ (q.2.1 k).2.2.2 = true ∧ y.1.name = "<init>" ∧ (q.2.1 k).1 = y.1.cls)
/-- a field is written -/
theorem b_put {a k ci idx : Nat} {q : vw_C} {v : Value} {h' : bh} {ty : FieldType} (C : bC γ y d b1 b2) (hq : vwCl[ci]? = some q) (hk : k < q.2.2) (hci : ci ≤ 19) (hlink : blinkW y idx q k) (hd : decode y.2.1 pc = .ok (.putfield idx, 3)) (hpd : parseFieldDescriptor (q.2.1 k).2.2.1 = some ty) (hnf : narrow ty v = v ∧ fits ty v = true) (hv : bfv (bfk ci k) v (h'.1 a k) (h'.2 a k)) (ho : ∀ b i, ¬ (b = a ∧ i = k) → h'.1 b i = h.1 b i ∧ h'.2 b i = h.2 b i) (ht : τ.1 a = ci + 1) (kk : bJ γ (pc + 3) lo st τ h' nc ns) : bJ γ pc lo (v :: .ref a :: st) τ h nc ns := by
  intro ws ls H locs hM
  obtain ⟨pl, fs, hw, hl, hvv⟩ := (hM.2.2.2.1 a (by omega)).obj ht hci
  have hkf : k < fs.length := by rw [hl, bn_of hq]; exact hk
  have kk2 : ∀ (H1 : Heap) (locs1 : List Loc), va_P γ.1.2.1 vwCl (ws.set pl (a, .inr (ci, fs.set k v))) H1 → va_D (bA γ.1) (ws.set pl (a, .inr (ci, fs.set k v))) → va_S (bA γ.1) γ.2.1.2.2.2.2.1.heap H1 locs1 → bWW γ.2.1 H1 locs1 nc ns γ.2.2.2 (F0 γ.2.1.2.2.2.2.2.1 (pc + 3) ls st) := by
    intro H1 locs1 a1 a2 a3
    refine kk _ ls H1 locs1 (hM.write hw a1 a2 a3 (Or.inl ⟨by omega, pl, fs.set k v, ?_, ?_, fun i hi => ?_⟩) (fun b hb i => ho b i (fun z => hb z.1)))
    · rw [ht, Nat.add_sub_cancel]; exact List.getElem?_set_self ((List.getElem?_eq_some_iff.mp hw).1)
    · rw [ht, Nat.add_sub_cancel, List.length_set]; exact hl
    · rw [ht, Nat.add_sub_cancel, bV_set hkf]
      by_cases e : i = k
      · rw [if_pos e, e]; exact hv
      · rw [if_neg e, (ho a i (fun z => e z.2)).1, (ho a i (fun z => e z.2)).2]
        rw [List.length_set] at hi
        exact hvv i hi
  obtain ⟨nw, ft⟩ := hnf
  have hcl := bcls _ (List.mem_of_getElem? hq)
  obtain ⟨Cn, T, N⟩ := q
  obtain ⟨ty0, hty0⟩ := hcl.2.1
  rcases hlink with ⟨hlk, hfi⟩ | ⟨host, hlk, hfi⟩ | ⟨hlk, hfi, hnm, hdc⟩
  · exact va_put C.1.1 C.1.2.1 C.2.1.2.1 hcl.1 ty0 hty0 hcl.2.2.1 C.2.1.1 C.2.2.1.1 hM.1 hM.2.1 hM.2.2.1 pl hw hq k hk (C.2.1.2.1 _ hlk) (fun _ h => h) hfi hpd nw ft hkf hd kk2
  · exact va_putN C.1.1 C.1.2.1 C.2.1.2.1 hcl.1 ty0 hty0 hcl.2.2.1 C.2.1.1 C.2.2.1.1 hM.1 hM.2.1 hM.2.2.1 pl hw hq k hk (va_Nw.use rfl (C.2.2.1.2.2.2.1 _ _ _ _ _ _ hlk)) (fun _ h => h) hfi hpd nw ft hkf hd kk2
  · exact va_putF C.1.1 C.1.2.1 C.2.1.2.1 hcl.1 ty0 hty0 hcl.2.2.1 C.2.1.1 C.2.2.1.1 hM.1 hM.2.1 hM.2.2.1 pl hw hq k hk (C.2.1.2.1 _ hlk) (fun _ h => h) hfi (C.2.1.2.2.2.trans hnm) hdc hpd nw ft hkf hd kk2
/-- the type that a field has, by its number -/
theorem bfk_ty {ci k : Nat} {q : vw_C} {ty : FieldType} (hq : vwCl[ci]? = some q) (hpd : parseFieldDescriptor (q.2.1 k).2.2.1 = some ty) : (bfk ci k = 0 → ty = .int) ∧ (bfk ci k = 1 → ty = .boolean) ∧ (bfk ci k = 3 → ty = .long) := by
  unfold bfk
  rw [bfd_of hq, hpd]
  cases ty <;> simp
theorem b_putI {a k ci idx : Nat} {q : vw_C} {z : Int} {ty : FieldType} (C : bC γ y d b1 b2) (hq : vwCl[ci]? = some q) (hk : k < q.2.2) (hci : ci ≤ 19) (hlink : blinkW y idx q k) (hd : decode y.2.1 pc = .ok (.putfield idx, 3)) (hpd : parseFieldDescriptor (q.2.1 k).2.2.1 = some ty) (hty : bfk ci k = 0) (hz : brg z) (ht : τ.1 a = ci + 1) (kk : bJ γ (pc + 3) lo st τ (bsetI h a k z) nc ns) : bJ γ pc lo (.int (bz z) :: .ref a :: st) τ h nc ns := by
  obtain rfl := (bfk_ty hq hpd).1 hty
  refine b_put (h' := bsetI h a k z) C hq hk hci hlink hd hpd ⟨rfl, rfl⟩ (Or.inl ⟨Or.inl hty, ?_, ?_⟩) (fun b i hb => ⟨if_neg hb, rfl⟩) ht kk
  · show _ = Value.int (bz (if a = a ∧ k = k then z else _)); rw [if_pos ⟨rfl, rfl⟩]
  · show brg (if a = a ∧ k = k then z else _); rw [if_pos ⟨rfl, rfl⟩]; exact hz
theorem b_putZ {a k ci idx : Nat} {q : vw_C} {z : Int} {ty : FieldType} (C : bC γ y d b1 b2) (hq : vwCl[ci]? = some q) (hk : k < q.2.2) (hci : ci ≤ 19) (hlink : blinkW y idx q k) (hd : decode y.2.1 pc = .ok (.putfield idx, 3)) (hpd : parseFieldDescriptor (q.2.1 k).2.2.1 = some ty) (hty : bfk ci k = 1) (hz : z = 0 ∨ z = 1) (ht : τ.1 a = ci + 1) (kk : bJ γ (pc + 3) lo st τ (bsetI h a k z) nc ns) : bJ γ pc lo (.int (bz z) :: .ref a :: st) τ h nc ns := by
  obtain rfl := (bfk_ty hq hpd).2.1 hty
  refine b_put (h' := bsetI h a k z) C hq hk hci hlink hd hpd ?_ (Or.inl ⟨Or.inr hty, ?_, ?_⟩) (fun b i hb => ⟨if_neg hb, rfl⟩) ht kk
  · rcases hz with rfl | rfl <;> exact ⟨by decide +kernel, by decide +kernel⟩
  · show _ = Value.int (bz (if a = a ∧ k = k then z else _)); rw [if_pos ⟨rfl, rfl⟩]
  · show brg (if a = a ∧ k = k then z else _); rw [if_pos ⟨rfl, rfl⟩]; rcases hz with rfl | rfl <;> exact ⟨by omega, by omega⟩
theorem b_putR {a k ci idx : Nat} {q : vw_C} {o : Option Nat} {ty : FieldType} (C : bC γ y d b1 b2) (hq : vwCl[ci]? = some q) (hk : k < q.2.2) (hci : ci ≤ 19) (hlink : blinkW y idx q k) (hd : decode y.2.1 pc = .ok (.putfield idx, 3)) (hpd : parseFieldDescriptor (q.2.1 k).2.2.1 = some ty) (hty : bfk ci k = 2) (hty2 : (∃ C, ty = .object C) ∨ ∃ t, ty = .array t) (ht : τ.1 a = ci + 1) (kk : bJ γ (pc + 3) lo st τ (bsetR h a k o) nc ns) : bJ γ pc lo (va_rf o :: .ref a :: st) τ h nc ns := by
  refine b_put (h' := bsetR h a k o) C hq hk hci hlink hd hpd ?_ (Or.inr (Or.inl ⟨hty, ?_⟩)) (fun b i hb => ⟨rfl, if_neg hb⟩) ht kk
  · rcases hty2 with ⟨Cn, rfl⟩ | ⟨t, rfl⟩ <;> cases o <;> exact ⟨rfl, rfl⟩
  · show _ = va_rf (if a = a ∧ k = k then o else _); rw [if_pos ⟨rfl, rfl⟩]
theorem b_putL {a k ci idx : Nat} {q : vw_C} {v : Int64} {ty : FieldType} (C : bC γ y d b1 b2) (hq : vwCl[ci]? = some q) (hk : k < q.2.2) (hci : ci ≤ 19) (hlink : blinkW y idx q k) (hd : decode y.2.1 pc = .ok (.putfield idx, 3)) (hpd : parseFieldDescriptor (q.2.1 k).2.2.1 = some ty) (hty : bfk ci k = 3) (ht : τ.1 a = ci + 1) (kk : bJ γ (pc + 3) lo st τ h nc ns) : bJ γ pc lo (.long v :: .ref a :: st) τ h nc ns := by
  obtain rfl := (bfk_ty hq hpd).2.2 hty
  exact b_put (h' := h) C hq hk hci hlink hd hpd ⟨rfl, rfl⟩ (Or.inr (Or.inr ⟨hty, v, rfl⟩)) (fun b i hb => ⟨rfl, rfl⟩) ht kk
end BHEAP
