/-! ===== the tables are checked by program ===== -/
/-- a word by the number of its row and its place -/
def ak_tw (n : Nat) : Option Cond := match n / 1000 with
  | 1 => tables_1_1[n % 1000]?
  | 2 => tables_1_2[n % 1000]?
  | 3 => tables_1_3[n % 1000]?
  | 4 => tables_1_4[n % 1000]?
  | 5 => tables_1_5[n % 1000]?
  | 6 => tables_1_6[n % 1000]?
  | 7 => tables_1_7[n % 1000]?
  | 8 => tables_1_8[n % 1000]?
  | 9 => tables_1_9[n % 1000]?
  | _ => none
theorem ak_tw_mem {n : Nat} {w : Cond} (h : ak_tw n = some w) : w ∈ lw_tbl := by
  refine List.mem_append_right _ ?_
  unfold ak_tw at h
  show w ∈ tables_1_1 ++ (tables_1_2 ++ (tables_1_3 ++ (tables_1_4 ++ (tables_1_5 ++ (tables_1_6 ++ (tables_1_7 ++ (tables_1_8 ++ tables_1_9)))))))
  simp only [List.mem_append]
  split at h
  · exact Or.inl (List.mem_of_getElem? h)
  · exact Or.inr (Or.inl (List.mem_of_getElem? h))
  · exact Or.inr (Or.inr (Or.inl (List.mem_of_getElem? h)))
  · exact Or.inr (Or.inr (Or.inr (Or.inl (List.mem_of_getElem? h))))
  · exact Or.inr (Or.inr (Or.inr (Or.inr (Or.inl (List.mem_of_getElem? h)))))
  · exact Or.inr (Or.inr (Or.inr (Or.inr (Or.inr (Or.inl (List.mem_of_getElem? h))))))
  · exact Or.inr (Or.inr (Or.inr (Or.inr (Or.inr (Or.inr (Or.inl (List.mem_of_getElem? h)))))))
  · exact Or.inr (Or.inr (Or.inr (Or.inr (Or.inr (Or.inr (Or.inr (Or.inl (List.mem_of_getElem? h))))))))
  · exact Or.inr (Or.inr (Or.inr (Or.inr (Or.inr (Or.inr (Or.inr (Or.inr (List.mem_of_getElem? h))))))))
  · cases h
def ak_isn (n : Nat) (w : Cond) : Bool := decide (ak_tw n = some w)
def ak_isw (n : Nat) (w : Cond) : Bool := ak_isn n w && goodWord w
theorem ak_isn_mem {n : Nat} {w : Cond} (h : ak_isn n w = true) : w ∈ lw_tbl := ak_tw_mem (of_decide_eq_true h)
theorem ak_isw_mem {n : Nat} {w : Cond} (h : ak_isw n w = true) : w ∈ ak_W := by
  unfold ak_isw at h
  rw [Bool.and_eq_true] at h
  exact ak_W_of (ak_isn_mem h.1) h.2
/-- the number of a field's type -/
def ak_tyc (d : String) (tc : Nat) : Bool := match parseFieldDescriptor d with
  | some .int => tc == 0
  | some .boolean => tc == 1
  | some (.object _) => tc == 2
  | some (.array _) => tc == 2
  | some .long => tc == 3
  | _ => false
theorem ak_tyc_ok {d : String} {tc : Nat} (h : ak_tyc d tc = true) : ∃ ty, parseFieldDescriptor d = some ty ∧ ak_ty tc ty := by
  unfold ak_tyc at h
  split at h
  · rename_i h1; exact ⟨_, h1, Or.inl ⟨by simpa using h, rfl⟩⟩
  · rename_i h1; exact ⟨_, h1, Or.inr (Or.inl ⟨by simpa using h, rfl⟩)⟩
  · rename_i h1; exact ⟨_, h1, Or.inr (Or.inr (Or.inl ⟨by simpa using h, Or.inl ⟨_, rfl⟩⟩))⟩
  · rename_i h1; exact ⟨_, h1, Or.inr (Or.inr (Or.inl ⟨by simpa using h, Or.inr ⟨_, rfl⟩⟩))⟩
  · rename_i h1; exact ⟨_, h1, Or.inr (Or.inr (Or.inr ⟨by simpa using h, rfl⟩))⟩
  · cases h
/-- what the tables say of a method: kind 0 of an object, 1 a constructor, 2 of a class -/
def ak_mp (q : MethodName × ByteArray × Option FieldType × Nat) (M : ai_M) : Prop := ak_ym q.1 q.2.1 M.1 q.2.2.1 ∧ (q.2.2.2 = 0 → Cond.instanceMethod q.1 ∈ ak_W ∧ Cond.selects q.1.cls q.1 q.1 ∈ ak_W) ∧ (q.2.2.2 = 1 → Cond.instanceMethod q.1 ∈ ak_W ∧ q.1.name = "<init>") ∧ (q.2.2.2 = 2 → Cond.static q.1 ∈ ak_W)
def ak_ckc (own : String) (op idx mid k mode r4 ci : Nat) : Bool :=
  if mode = 7 then decide (op = 1) && ak_isw r4 (.methodLink own idx Lib.objectInit) else if mode = 8 then decide (op = 2) && ak_isw r4 (.methodLink own idx arraycopyName) else if mode = 9 then decide (op = 0) && ak_isw r4 (.methodLink own idx ⟨"SpanCopier$Word", "ordinal", "()I"⟩) else
  match ak_mt[mid]? with
  | none => false
  | some q => decide (mid < 179) && decide ((parseMethodDescriptor q.1.desc).map (fun d => d.parameters.length) = some (if mode ≤ 3 then k - 1 else k)) &&
    (if mode = 0 then decide (op = 0) && decide (q.2.2.2 = 0) && ak_isw r4 (.methodLink own idx q.1) && decide ((vwCl[ci]?).map (fun z => z.1) = some q.1.cls)
    else if mode = 1 then decide (op = 0) && decide (q.2.2.2 = 0) && ak_isn r4 (.methodLinkNest own idx q.1 "SpanCopier") && decide ((vwCl[ci]?).map (fun z => z.1) = some q.1.cls)
    else if mode = 2 then decide (op = 1) && decide (q.2.2.2 = 1) && ak_isw r4 (.methodLink own idx q.1)
    else if mode = 3 then decide (op = 1) && decide (q.2.2.2 = 1) && ak_isn r4 (.methodLinkNest own idx q.1 "SpanCopier")
    else if mode = 4 ∨ mode = 5 then decide (op = 2) && decide (q.2.2.2 = 2) && ak_isw r4 (.methodLink own idx q.1)
    else if mode = 6 then decide (op = 2) && decide (q.2.2.2 = 2) && ak_isn r4 (.methodLinkNest own idx q.1 "SpanCopier")
    else false)
def ak_ckl (y : MethodName) (rt : Option FieldType) (ins : Instr) (r1 r2 r3 r4 r5 : Nat) : Bool := match ins with
  | .ldc i => ak_isw r4 (.constant y.cls i (nI r1))
  | .ldc_w i => ak_isw r4 (.constant y.cls i (nI r1))
  | .getfield i => match vwCl[r2]? with
    | none => false
    | some q => decide (r1 < q.2.2) && (if r3 = 1 then ak_isn r4 (.fieldLinkNest y.cls i (q.2.1 r1).1 (q.2.1 r1).2.1 (q.2.1 r1).2.2.1 "SpanCopier") else ak_isw r4 (.fieldLink y.cls i (q.2.1 r1).1 (q.2.1 r1).2.1 (q.2.1 r1).2.2.1))
  | .putfield i => match vwCl[r2]? with
    | none => false
    | some q => decide (r1 < q.2.2) && ak_tyc (q.2.1 r1).2.2.1 r5 && (if r3 = 1 then ak_isn r4 (.fieldLinkNest y.cls i (q.2.1 r1).1 (q.2.1 r1).2.1 (q.2.1 r1).2.2.1 "SpanCopier") && !(q.2.1 r1).2.2.2 else ak_isw r4 (.fieldLink y.cls i (q.2.1 r1).1 (q.2.1 r1).2.1 (q.2.1 r1).2.2.1) && (if r3 = 0 then !(q.2.1 r1).2.2.2 else (q.2.1 r1).2.2.2 && decide (y.name = "<init>") && decide ((q.2.1 r1).1 = y.cls)))
  | .getstatic i => decide (r1 < 38 ∨ 40 ≤ r1 ∧ r1 ≤ 43) && (if r3 = 1 then ak_isn r4 (.fieldLinkNest y.cls i (ak_st r1).1 (ak_st r1).2.1 (ak_st r1).2.2 "SpanCopier") else ak_isw r4 (.fieldLink y.cls i (ak_st r1).1 (ak_st r1).2.1 (ak_st r1).2.2))
  | .new i => match vwCl[r1]? with
    | none => false
    | some q => decide (r2 = q.2.2) && ak_isw r4 (.classLink y.cls i q.1)
  | .newarray t => match t with
    | .int => decide (r1 = 1)
    | .byte => decide (r1 = 2)
    | .boolean => decide (r1 = 3)
    | .long => decide (r1 = 4)
    | _ => false
  | .anewarray i => if r1 = 5 then ak_isw r4 (.classLink y.cls i "SpanCopier$Word") else if r1 = 6 then ak_isw r4 (.classLink y.cls i "SpanCopier$World") else false
  | .invokevirtual i => ak_ckc y.cls 0 i r1 r2 r3 r4 r5
  | .invokespecial i => ak_ckc y.cls 1 i r1 r2 r3 r4 r5
  | .invokestatic i => ak_ckc y.cls 2 i r1 r2 r3 r4 r5
  | .ireturn => decide (rt = some (if r1 = 1 then .boolean else .int))
  | .areturn => match rt with
    | some (.object _) => true
    | some (.array _) => true
    | _ => false
  | .return_ => decide (rt = none)
  | _ => true
def ak_sw : Instr → Bool
  | .tableswitch _ _ _ _ => true
  | _ => false
def ak_ck (y : MethodName) (b : ByteArray) (rt : Option FieldType) (e : ai_N) : Bool := decide (decode b e.1 = .ok (e.2.1, e.2.2.1)) && (ak_sw e.2.1 || decide (e.2.2.1 = ak_ln e.2.1)) && ak_ckl y rt e.2.1 e.2.2.2.1 e.2.2.2.2.1 e.2.2.2.2.2.1 e.2.2.2.2.2.2.1 e.2.2.2.2.2.2.2
/-- the array classes -/
def ak_arrs : Prop := Cond.arrayClass .int ∈ ak_W ∧ Cond.arrayClass .byte ∈ ak_W ∧ Cond.arrayClass .boolean ∈ ak_W ∧ Cond.arrayClass .long ∈ ak_W
theorem ak_ckc_ok {y : MethodName} {op idx mid k mode r4 ci : Nat} (hm : ∀ (mid : Nat) (q : MethodName × ByteArray × Option FieldType × Nat) (M : ai_M), mid < 179 → ak_mt[mid]? = some q → ai_tab[mid]? = some M → ak_mp q M) (hT : ∀ (mid : Nat) (q : MethodName × ByteArray × Option FieldType × Nat), ak_mt[mid]? = some q → ∃ M, ai_tab[mid]? = some M) (h : ak_ckc y.cls op idx mid k mode r4 ci = true) : ak_cv y op idx mid k mode ci := by
  unfold ak_ckc at h
  split at h
  · rename_i h7
    rw [Bool.and_eq_true, decide_eq_true_eq] at h
    exact Or.inr (Or.inl ⟨h7, h.1, ak_isw_mem h.2⟩)
  · split at h
    · rename_i h8
      rw [Bool.and_eq_true, decide_eq_true_eq] at h
      exact Or.inr (Or.inr (Or.inl ⟨h8, h.1, ak_isw_mem h.2⟩))
    · split at h
      · rename_i h9
        rw [Bool.and_eq_true, decide_eq_true_eq] at h
        exact Or.inr (Or.inr (Or.inr ⟨h9, h.1, ak_isw_mem h.2⟩))
      · split at h
        · cases h
        · rename_i q hq
          obtain ⟨M', hM'⟩ := hT mid q hq
          rw [Bool.and_eq_true, Bool.and_eq_true, decide_eq_true_eq, decide_eq_true_eq] at h
          obtain ⟨⟨hlt, hk⟩, h⟩ := h
          obtain ⟨m1, m2, m3, m4⟩ := hm mid q M' hlt hq hM'
          have cls : ∀ z, decide ((vwCl[ci]?).map (fun z => z.1) = some z) = true → ∃ q, vwCl[ci]? = some q ∧ q.1 = z := by
            intro z hz
            have hz := of_decide_eq_true hz
            cases hv : vwCl[ci]? with
            | none => rw [hv] at hz; cases hz
            | some q => rw [hv] at hz; exact ⟨q, rfl, Option.some.inj hz⟩
          left
          split at h
          · rename_i h0
            simp only [Bool.and_eq_true, decide_eq_true_eq] at h
            obtain ⟨⟨⟨a1, a2⟩, a3⟩, a4⟩ := h
            refine ⟨by omega, ⟨q, M', hq, hM', m1, Or.inl ⟨h0, ak_isw_mem a3, (m2 a2).1, (m2 a2).2, cls _ (by rw [decide_eq_true_eq]; exact a4)⟩, hk⟩, Or.inl ⟨by omega, a1⟩⟩
          · split at h
            · rename_i h0
              simp only [Bool.and_eq_true, decide_eq_true_eq] at h
              obtain ⟨⟨⟨a1, a2⟩, a3⟩, a4⟩ := h
              refine ⟨by omega, ⟨q, M', hq, hM', m1, Or.inr (Or.inl ⟨h0, ⟨_, ak_isn_mem a3⟩, (m2 a2).1, (m2 a2).2, cls _ (by rw [decide_eq_true_eq]; exact a4)⟩), hk⟩, Or.inl ⟨by omega, a1⟩⟩
            · split at h
              · rename_i h0
                simp only [Bool.and_eq_true, decide_eq_true_eq] at h
                obtain ⟨⟨a1, a2⟩, a3⟩ := h
                refine ⟨by omega, ⟨q, M', hq, hM', m1, Or.inr (Or.inr (Or.inl ⟨h0, ak_isw_mem a3, (m3 a2).1, (m3 a2).2⟩)), hk⟩, Or.inr (Or.inl ⟨by omega, by omega, a1⟩)⟩
              · split at h
                · rename_i h0
                  simp only [Bool.and_eq_true, decide_eq_true_eq] at h
                  obtain ⟨⟨a1, a2⟩, a3⟩ := h
                  refine ⟨by omega, ⟨q, M', hq, hM', m1, Or.inr (Or.inr (Or.inr (Or.inl ⟨h0, ⟨_, ak_isn_mem a3⟩, (m3 a2).1, (m3 a2).2⟩))), hk⟩, Or.inr (Or.inl ⟨by omega, by omega, a1⟩)⟩
                · split at h
                  · rename_i h0
                    simp only [Bool.and_eq_true, decide_eq_true_eq] at h
                    obtain ⟨⟨a1, a2⟩, a3⟩ := h
                    refine ⟨by omega, ⟨q, M', hq, hM', m1, Or.inr (Or.inr (Or.inr (Or.inr (Or.inl ⟨h0, ak_isw_mem a3, m4 a2⟩)))), hk⟩, Or.inr (Or.inr ⟨by omega, a1⟩)⟩
                  · split at h
                    · rename_i h0
                      simp only [Bool.and_eq_true, decide_eq_true_eq] at h
                      obtain ⟨⟨a1, a2⟩, a3⟩ := h
                      refine ⟨by omega, ⟨q, M', hq, hM', m1, Or.inr (Or.inr (Or.inr (Or.inr (Or.inr ⟨h0, ⟨_, ak_isn_mem a3⟩, m4 a2⟩)))), hk⟩, Or.inr (Or.inr ⟨by omega, a1⟩)⟩
                    · cases h
theorem ak_ck_ok {y : MethodName} {b : ByteArray} {rt : Option FieldType} {e : ai_N} (ha : ak_arrs) (hm : ∀ (mid : Nat) (q : MethodName × ByteArray × Option FieldType × Nat) (M : ai_M), mid < 179 → ak_mt[mid]? = some q → ai_tab[mid]? = some M → ak_mp q M) (hT : ∀ (mid : Nat) (q : MethodName × ByteArray × Option FieldType × Nat), ak_mt[mid]? = some q → ∃ M, ai_tab[mid]? = some M) (h : ak_ck y b rt e = true) : ak_okE y b rt e := by
  obtain ⟨pc, ins, len, r1, r2, r3, r4, r5⟩ := e
  simp only [ak_ck, Bool.and_eq_true, Bool.or_eq_true, decide_eq_true_eq] at h
  obtain ⟨⟨h1, h2⟩, h3⟩ := h
  refine ⟨h1, fun hn => ?_, ?_⟩
  · rcases h2 with h2 | h2
    · dsimp only at h2 hn
      cases ins <;> first | exact absurd rfl (hn _ _ _ _) | cases h2
    · exact h2
  · clear h1 h2
    dsimp only
    unfold ak_ckl at h3
    unfold ak_lk
    split at h3
    · exact ak_isw_mem h3
    · exact ak_isw_mem h3
    · split at h3
      · cases h3
      · rename_i q hq
        rw [Bool.and_eq_true, decide_eq_true_eq] at h3
        refine ⟨q, hq, h3.1, ?_⟩
        split at h3
        · exact Or.inr ⟨_, ak_isn_mem h3.2⟩
        · exact Or.inl (ak_isw_mem h3.2)
    · split at h3
      · cases h3
      · rename_i q hq
        rw [Bool.and_eq_true, Bool.and_eq_true, decide_eq_true_eq] at h3
        obtain ⟨⟨a1, a2⟩, a3⟩ := h3
        obtain ⟨ty, t1, t2⟩ := ak_tyc_ok a2
        refine ⟨q, ty, hq, a1, t1, t2, ?_⟩
        split at a3
        · rw [Bool.and_eq_true, Bool.not_eq_true'] at a3
          exact Or.inr (Or.inl ⟨_, ak_isn_mem a3.1, a3.2⟩)
        · rw [Bool.and_eq_true] at a3
          obtain ⟨b1, b2⟩ := a3
          split at b2
          · rw [Bool.not_eq_true'] at b2
            exact Or.inl ⟨ak_isw_mem b1, b2⟩
          · rw [Bool.and_eq_true, Bool.and_eq_true, decide_eq_true_eq, decide_eq_true_eq] at b2
            exact Or.inr (Or.inr ⟨ak_isw_mem b1, b2.1.1, b2.1.2, b2.2⟩)
    · rw [Bool.and_eq_true, decide_eq_true_eq] at h3
      refine ⟨h3.1, ?_⟩
      obtain ⟨-, h3⟩ := h3
      split at h3
      · exact Or.inr ⟨_, ak_isn_mem h3⟩
      · exact Or.inl (ak_isw_mem h3)
    · split at h3
      · cases h3
      · rename_i q hq
        rw [Bool.and_eq_true, decide_eq_true_eq] at h3
        exact ⟨q, hq, h3.1, ak_isw_mem h3.2⟩
    · split at h3
      · exact ⟨Or.inl ⟨of_decide_eq_true h3, rfl⟩, ha.1⟩
      · exact ⟨Or.inr (Or.inl ⟨of_decide_eq_true h3, rfl⟩), ha.2.1⟩
      · exact ⟨Or.inr (Or.inr (Or.inl ⟨of_decide_eq_true h3, rfl⟩)), ha.2.2.1⟩
      · exact ⟨Or.inr (Or.inr (Or.inr ⟨of_decide_eq_true h3, rfl⟩)), ha.2.2.2⟩
      · cases h3
    · split at h3
      · rename_i h5; exact ⟨_, Or.inl ⟨h5, rfl⟩, ak_isw_mem h3⟩
      · split at h3
        · rename_i h6; exact ⟨_, Or.inr ⟨h6, rfl⟩, ak_isw_mem h3⟩
        · cases h3
    · exact ak_ckc_ok hm hT h3
    · exact ak_ckc_ok hm hT h3
    · exact ak_ckc_ok hm hT h3
    · refine ⟨_, of_decide_eq_true h3, ?_⟩
      by_cases h1 : r1 = 1
      · exact Or.inl ⟨h1, by rw [if_pos h1]⟩
      · exact Or.inr ⟨h1, by rw [if_neg h1]⟩
    · split at h3
      · exact ⟨_, rfl, Or.inl ⟨_, rfl⟩⟩
      · exact ⟨_, rfl, Or.inr ⟨_, rfl⟩⟩
      · cases h3
    · exact of_decide_eq_true h3
    · split <;> first | trivial | (exfalso; solve_by_elim)
theorem ak_sel {j n : Nat} {y : MethodName} (h : lw_privs[j]? = some (y, n)) : Cond.selects y.cls y y ∈ lw_tbl := List.mem_append_left _ (List.mem_map.mpr ⟨(y, n), List.mem_of_getElem? h, rfl⟩)
theorem ak_parts {α : Type} {P : α → Prop} {l : List α} (k : Nat) {n : Nat} (h1 : ∀ e ∈ (l.drop k).take n, P e) (h2 : ∀ e ∈ l.drop (k + n), P e) : ∀ e ∈ l.drop k, P e := by
  intro e he
  rw [← List.take_append_drop n (l.drop k), List.drop_drop] at he
  rcases List.mem_append.mp he with h | h
  · exact h1 e h
  · exact h2 e h
