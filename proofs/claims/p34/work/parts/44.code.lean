/-! ===== code as data; what the tables say of an instruction ===== -/
/-- place, instruction, length, five numbers -/
abbrev cN : Type := Nat × Instr × Nat × Nat × Nat × Nat × Nat × Nat
def dki (r : Nat) : Int := if r < 2147483648 then (r : Int) else (r : Int) - 4294967296
/-- a call by its mode -/
def dk_cv (y : bY) (Γ : List (bY × Nat)) (op idx mid k mode ci : Nat) : Prop :=
  (mode ≤ 6 ∧ ci ≤ 19 ∧ (∃ q, Γ[mid]? = some q ∧ bym q.1 q.2 ∧ bmd mode y.1.cls idx q.1.1 ci ∧ (parseMethodDescriptor q.1.1.desc).map (fun d => d.parameters.length) = some (if mode ≤ 3 then k - 1 else k)) ∧ ((mode ≤ 1 ∧ op = 0) ∨ (2 ≤ mode ∧ mode ≤ 3 ∧ op = 1) ∨ (4 ≤ mode ∧ op = 2))) ∨
  (mode = 7 ∧ op = 1 ∧ Cond.methodLink y.1.cls idx Lib.objectInit ∈ bW) ∨ (mode = 8 ∧ op = 2 ∧ Cond.methodLink y.1.cls idx arraycopyName ∈ bW) ∨ (mode = 9 ∧ op = 0 ∧ Cond.methodLink y.1.cls idx ⟨"SpanCopier$Word", "ordinal", "()I"⟩ ∈ bW)
def dk_lk (y : bY) (Γ : List (bY × Nat)) (ins : Instr) (r1 r2 r3 r5 : Nat) : Prop := match ins with
  | .iconst n => -1 ≤ n ∧ n ≤ 5
  | .bipush n => -128 ≤ n ∧ n ≤ 127
  | .sipush n => -32768 ≤ n ∧ n ≤ 32767
  | .ldc i => Cond.constant y.1.cls i (bz (dki r1)) ∈ bW ∧ brg (dki r1)
  | .ldc_w i => Cond.constant y.1.cls i (bz (dki r1)) ∈ bW ∧ brg (dki r1)
  | .ldc2_w i => ∃ v, Cond.constantLong y.1.cls i v ∈ bW
  | .getfield i => ∃ q, vwCl[r2]? = some q ∧ r1 < q.2.2 ∧ r2 ≤ 19 ∧ blink y i q r1 ∧ bfk r2 r1 = r5
  | .putfield i => ∃ q ty, vwCl[r2]? = some q ∧ r1 < q.2.2 ∧ r2 ≤ 19 ∧ blinkW y i q r1 ∧ parseFieldDescriptor (q.2.1 r1).2.2.1 = some ty ∧ bfk r2 r1 = r5 ∧ (r5 = 2 → (∃ C, ty = .object C) ∨ ∃ t, ty = .array t)
  | .getstatic i => (r1 < 38 ∨ 40 ≤ r1 ∧ r1 ≤ 43) ∧ (Cond.fieldLink y.1.cls i (bst r1).1 (bst r1).2.1 (bst r1).2.2 ∈ bW ∨ ∃ host, Cond.fieldLinkNest y.1.cls i (bst r1).1 (bst r1).2.1 (bst r1).2.2 host ∈ lw_tbl)
  | .new i => ∃ q, vwCl[r1]? = some q ∧ r1 ≤ 19 ∧ r2 = q.2.2 ∧ Cond.classLink y.1.cls i q.1 ∈ bW
  | .newarray t => ((r1 % 20 = 1 ∧ t = .int) ∨ (r1 % 20 = 2 ∧ t = .byte) ∨ (r1 % 20 = 3 ∧ t = .boolean) ∨ (r1 % 20 = 4 ∧ t = .long)) ∧ 21 ≤ r1 ∧ Cond.arrayClass (newarray.typeOf t) ∈ bW
  | .anewarray i => ∃ Cn, ((r1 = 25 ∧ Cn = "SpanCopier$Word") ∨ (r1 = 26 ∧ Cn = "SpanCopier$World")) ∧ Cond.classLink y.1.cls i Cn ∈ bW
  | .invokevirtual i => dk_cv y Γ 0 i r1 r2 r3 r5
  | .invokespecial i => dk_cv y Γ 1 i r1 r2 r3 r5
  | .invokestatic i => dk_cv y Γ 2 i r1 r2 r3 r5
  | .tableswitch _ l0 hi0 offs => (offs.size : Int) = hi0 - l0 + 1
  | .lookupswitch _ ps => (ps.toList.zip (ps.toList.drop 1)).all (fun (a, next) => a.1 < next.1) = true
  | .ireturn => (r1 = 1 ∧ y.2.2 = some .boolean) ∨ (r1 = 0 ∧ y.2.2 = some .int)
  | .areturn => ∃ ty, y.2.2 = some ty ∧ ((∃ n, ty = .object n) ∨ ∃ t, ty = .array t)
  | .lreturn => y.2.2 = some .long
  | .return_ => y.2.2 = none
  | _ => True
/-- an instruction's length -/
def dk_ln : Instr → Nat
  | .bipush _ => 2
  | .sipush _ => 3
  | .ldc _ => 2
  | .ldc_w _ => 3
  | .ldc2_w _ => 3
  | .iload _ => 2
  | .lload _ => 2
  | .aload _ => 2
  | .istore _ => 2
  | .lstore _ => 2
  | .astore _ => 2
  | .iinc _ _ => 3
  | .goto _ => 3
  | .if_icmp _ _ => 3
  | .ifCond _ _ => 3
  | .if_acmp _ _ => 3
  | .ifnull _ => 3
  | .ifnonnull _ => 3
  | .getfield _ => 3
  | .putfield _ => 3
  | .getstatic _ => 3
  | .new _ => 3
  | .newarray _ => 2
  | .anewarray _ => 3
  | .invokevirtual _ => 3
  | .invokespecial _ => 3
  | .invokestatic _ => 3
  | _ => 1
def dk_sw : Instr → Bool
  | .tableswitch _ _ _ _ => true
  | .lookupswitch _ _ => true
  | _ => false
/-- an instruction of a method -/
def dk_ok (y : bY) (Γ : List (bY × Nat)) (e : cN) : Prop := decode y.2.1 e.1 = .ok (e.2.1, e.2.2.1) ∧ (dk_sw e.2.1 = false → e.2.2.1 = dk_ln e.2.1) ∧ dk_lk y Γ e.2.1 e.2.2.2.1 e.2.2.2.2.1 e.2.2.2.2.2.1 e.2.2.2.2.2.2.2
/-! the same by program -/
/-- a word by the number of its row and its place -/
def dk_tw (n : Nat) : Option Cond := match n / 1000 with
  | 1 => tables_1_1[n % 1000]?
  | 2 => tables_1_2[n % 1000]?
  | 3 => tables_1_3[n % 1000]?
  | 4 => tables_1_4[n % 1000]?
  | 5 => tables_1_5[n % 1000]?
  | 6 => tables_1_6[n % 1000]?
  | 7 => tables_1_7[n % 1000]?
  | 8 => tables_1_8[n % 1000]?
  | 9 => tables_1_9[n % 1000]?
  | _ => none
theorem dk_tw_mem {n : Nat} {w : Cond} (h : dk_tw n = some w) : w ∈ lw_tbl := by
  refine List.mem_append_right _ ?_
  unfold dk_tw at h
  show w ∈ tables_1_1 ++ (tables_1_2 ++ (tables_1_3 ++ (tables_1_4 ++ (tables_1_5 ++ (tables_1_6 ++ (tables_1_7 ++ (tables_1_8 ++ tables_1_9)))))))
  simp only [List.mem_append]
  split at h
  · exact Or.inl (List.mem_of_getElem? h)
  · exact Or.inr (Or.inl (List.mem_of_getElem? h))
  · exact Or.inr (Or.inr (Or.inl (List.mem_of_getElem? h)))
  · exact Or.inr (Or.inr (Or.inr (Or.inl (List.mem_of_getElem? h))))
  · exact Or.inr (Or.inr (Or.inr (Or.inr (Or.inl (List.mem_of_getElem? h)))))
  · exact Or.inr (Or.inr (Or.inr (Or.inr (Or.inr (Or.inl (List.mem_of_getElem? h))))))
  · exact Or.inr (Or.inr (Or.inr (Or.inr (Or.inr (Or.inr (Or.inl (List.mem_of_getElem? h)))))))
  · exact Or.inr (Or.inr (Or.inr (Or.inr (Or.inr (Or.inr (Or.inr (Or.inl (List.mem_of_getElem? h))))))))
  · exact Or.inr (Or.inr (Or.inr (Or.inr (Or.inr (Or.inr (Or.inr (Or.inr (List.mem_of_getElem? h))))))))
  · cases h
def dk_isn (n : Nat) (w : Cond) : Bool := decide (dk_tw n = some w)
def dk_isw (n : Nat) (w : Cond) : Bool := dk_isn n w && goodWord w
theorem dk_isn_mem {n : Nat} {w : Cond} (h : dk_isn n w = true) : w ∈ lw_tbl := dk_tw_mem (of_decide_eq_true h)
theorem dk_isw_mem {n : Nat} {w : Cond} (h : dk_isw n w = true) : w ∈ bW := by
  unfold dk_isw at h
  rw [Bool.and_eq_true] at h
  exact bW_of (dk_isn_mem h.1) h.2
/-- what the tables say of a method that is called: kind 0 of an object, 1 a constructor, 2 of a class -/
def dk_mp (q : bY × Nat) (kd : Nat) : Prop := bym q.1 q.2 ∧ (kd = 0 → Cond.instanceMethod q.1.1 ∈ bW ∧ Cond.selects q.1.1.cls q.1.1 q.1.1 ∈ bW) ∧ (kd = 1 → Cond.instanceMethod q.1.1 ∈ bW ∧ q.1.1.name = "<init>") ∧ (kd = 2 → Cond.static q.1.1 ∈ bW)
/-- methods that are called, with their kinds -/
def dk_G (Γ : List (bY × Nat)) (ks : List Nat) : Prop := ∀ (i : Nat) (q : bY × Nat) (k : Nat), Γ[i]? = some q → ks[i]? = some k → dk_mp q k
theorem dk_G_nil : dk_G [] [] := by intro i q k h; simp at h
theorem dk_G_cons {q : bY × Nat} {k : Nat} {Γ : List (bY × Nat)} {ks : List Nat} (h : dk_mp q k) (hG : dk_G Γ ks) : dk_G (q :: Γ) (k :: ks) := by
  intro i p j h1 h2
  cases i with
  | zero => cases h1; cases h2; exact h
  | succ i => exact hG i p j h1 h2
def dk_cc (own : String) (Γ : List (bY × Nat)) (ks : List Nat) (op idx mid k mode r4 ci : Nat) : Bool :=
  if mode = 7 then decide (op = 1) && dk_isw r4 (.methodLink own idx Lib.objectInit) else if mode = 8 then decide (op = 2) && dk_isw r4 (.methodLink own idx arraycopyName) else if mode = 9 then decide (op = 0) && dk_isw r4 (.methodLink own idx ⟨"SpanCopier$Word", "ordinal", "()I"⟩) else
  match Γ[mid]?, ks[mid]? with
  | some q, some kd => decide (ci ≤ 19) && decide ((parseMethodDescriptor q.1.1.desc).map (fun d => d.parameters.length) = some (if mode ≤ 3 then k - 1 else k)) &&
    (if mode = 0 then decide (op = 0) && decide (kd = 0) && dk_isw r4 (.methodLink own idx q.1.1) && decide ((vwCl[ci]?).map (fun z => z.1) = some q.1.1.cls)
    else if mode = 1 then decide (op = 0) && decide (kd = 0) && dk_isn r4 (.methodLinkNest own idx q.1.1 "SpanCopier") && decide ((vwCl[ci]?).map (fun z => z.1) = some q.1.1.cls)
    else if mode = 2 then decide (op = 1) && decide (kd = 1) && dk_isw r4 (.methodLink own idx q.1.1)
    else if mode = 3 then decide (op = 1) && decide (kd = 1) && dk_isn r4 (.methodLinkNest own idx q.1.1 "SpanCopier")
    else if mode = 4 ∨ mode = 5 then decide (op = 2) && decide (kd = 2) && dk_isw r4 (.methodLink own idx q.1.1)
    else if mode = 6 then decide (op = 2) && decide (kd = 2) && dk_isn r4 (.methodLinkNest own idx q.1.1 "SpanCopier")
    else false)
  | _, _ => false
theorem dk_cc_ok {y : bY} {Γ : List (bY × Nat)} {ks : List Nat} {op idx mid k mode r4 ci : Nat} (hG : dk_G Γ ks) (h : dk_cc y.1.cls Γ ks op idx mid k mode r4 ci = true) : dk_cv y Γ op idx mid k mode ci := by
  unfold dk_cc at h
  split at h
  · rename_i h7
    rw [Bool.and_eq_true, decide_eq_true_eq] at h
    exact Or.inr (Or.inl ⟨h7, h.1, dk_isw_mem h.2⟩)
  · split at h
    · rename_i h8
      rw [Bool.and_eq_true, decide_eq_true_eq] at h
      exact Or.inr (Or.inr (Or.inl ⟨h8, h.1, dk_isw_mem h.2⟩))
    · split at h
      · rename_i h9
        rw [Bool.and_eq_true, decide_eq_true_eq] at h
        exact Or.inr (Or.inr (Or.inr ⟨h9, h.1, dk_isw_mem h.2⟩))
      · split at h
        · rename_i q kd hq hkd
          rw [Bool.and_eq_true, Bool.and_eq_true, decide_eq_true_eq, decide_eq_true_eq] at h
          obtain ⟨⟨hci, hk⟩, h⟩ := h
          obtain ⟨m1, m2, m3, m4⟩ := hG mid q kd hq hkd
          have cls : ∀ z, (vwCl[ci]?).map (fun z => z.1) = some z → ∃ q, vwCl[ci]? = some q ∧ q.1 = z := by
            intro z hz
            cases hv : vwCl[ci]? with
            | none => rw [hv] at hz; cases hz
            | some q => rw [hv] at hz; exact ⟨q, rfl, Option.some.inj hz⟩
          left
          split at h
          · rename_i h0
            simp only [Bool.and_eq_true, decide_eq_true_eq] at h
            obtain ⟨⟨⟨a1, a2⟩, a3⟩, a4⟩ := h
            exact ⟨by omega, hci, ⟨q, hq, m1, Or.inl ⟨h0, dk_isw_mem a3, (m2 a2).1, (m2 a2).2, cls _ a4⟩, hk⟩, Or.inl ⟨by omega, a1⟩⟩
          · split at h
            · rename_i h0
              simp only [Bool.and_eq_true, decide_eq_true_eq] at h
              obtain ⟨⟨⟨a1, a2⟩, a3⟩, a4⟩ := h
              exact ⟨by omega, hci, ⟨q, hq, m1, Or.inr (Or.inl ⟨h0, ⟨_, dk_isn_mem a3⟩, (m2 a2).1, (m2 a2).2, cls _ a4⟩), hk⟩, Or.inl ⟨by omega, a1⟩⟩
            · split at h
              · rename_i h0
                simp only [Bool.and_eq_true, decide_eq_true_eq] at h
                obtain ⟨⟨a1, a2⟩, a3⟩ := h
                exact ⟨by omega, hci, ⟨q, hq, m1, Or.inr (Or.inr (Or.inl ⟨h0, dk_isw_mem a3, (m3 a2).1, (m3 a2).2⟩)), hk⟩, Or.inr (Or.inl ⟨by omega, by omega, a1⟩)⟩
              · split at h
                · rename_i h0
                  simp only [Bool.and_eq_true, decide_eq_true_eq] at h
                  obtain ⟨⟨a1, a2⟩, a3⟩ := h
                  exact ⟨by omega, hci, ⟨q, hq, m1, Or.inr (Or.inr (Or.inr (Or.inl ⟨h0, ⟨_, dk_isn_mem a3⟩, (m3 a2).1, (m3 a2).2⟩))), hk⟩, Or.inr (Or.inl ⟨by omega, by omega, a1⟩)⟩
                · split at h
                  · rename_i h0
                    simp only [Bool.and_eq_true, decide_eq_true_eq] at h
                    obtain ⟨⟨a1, a2⟩, a3⟩ := h
                    exact ⟨by omega, hci, ⟨q, hq, m1, Or.inr (Or.inr (Or.inr (Or.inr (Or.inl ⟨h0, dk_isw_mem a3, m4 a2⟩)))), hk⟩, Or.inr (Or.inr ⟨by omega, a1⟩)⟩
                  · split at h
                    · rename_i h0
                      simp only [Bool.and_eq_true, decide_eq_true_eq] at h
                      obtain ⟨⟨a1, a2⟩, a3⟩ := h
                      exact ⟨by omega, hci, ⟨q, hq, m1, Or.inr (Or.inr (Or.inr (Or.inr (Or.inr ⟨h0, ⟨_, dk_isn_mem a3⟩, m4 a2⟩)))), hk⟩, Or.inr (Or.inr ⟨by omega, a1⟩)⟩
                    · cases h
        · cases h
/-- the class's name, the name, what it answers -/
def dk_cl (y : bY) (Γ : List (bY × Nat)) (ks : List Nat) (ins : Instr) (r1 r2 r3 r4 r5 : Nat) : Bool := match ins with
  | .iconst n => decide (-1 ≤ n) && decide (n ≤ 5)
  | .bipush n => decide (-128 ≤ n) && decide (n ≤ 127)
  | .sipush n => decide (-32768 ≤ n) && decide (n ≤ 32767)
  | .ldc i => dk_isw r4 (.constant y.1.cls i (bz (dki r1))) && decide (r1 < 4294967296)
  | .ldc_w i => dk_isw r4 (.constant y.1.cls i (bz (dki r1))) && decide (r1 < 4294967296)
  | .ldc2_w i => match dk_tw r4 with
    | some (.constantLong a b v) => decide (a = y.1.cls) && decide (b = i) && goodWord (.constantLong a b v)
    | _ => false
  | .getfield i => match vwCl[r2]? with
    | none => false
    | some q => decide (r1 < q.2.2) && decide (r2 ≤ 19) && decide (bfk r2 r1 = r5) && (if r3 = 1 then dk_isn r4 (.fieldLinkNest y.1.cls i (q.2.1 r1).1 (q.2.1 r1).2.1 (q.2.1 r1).2.2.1 "SpanCopier") else dk_isw r4 (.fieldLink y.1.cls i (q.2.1 r1).1 (q.2.1 r1).2.1 (q.2.1 r1).2.2.1))
  | .putfield i => match vwCl[r2]? with
    | none => false
    | some q => decide (r1 < q.2.2) && decide (r2 ≤ 19) && decide (bfk r2 r1 = r5) && (match parseFieldDescriptor (q.2.1 r1).2.2.1 with
      | some (.object _) => true
      | some (.array _) => true
      | some _ => decide (r5 ≠ 2)
      | none => false) && (if r3 = 1 then dk_isn r4 (.fieldLinkNest y.1.cls i (q.2.1 r1).1 (q.2.1 r1).2.1 (q.2.1 r1).2.2.1 "SpanCopier") && !(q.2.1 r1).2.2.2 else dk_isw r4 (.fieldLink y.1.cls i (q.2.1 r1).1 (q.2.1 r1).2.1 (q.2.1 r1).2.2.1) && (if r3 = 0 then !(q.2.1 r1).2.2.2 else (q.2.1 r1).2.2.2 && decide (y.1.name = "<init>") && decide ((q.2.1 r1).1 = y.1.cls)))
  | .getstatic i => decide (r1 < 38 ∨ 40 ≤ r1 ∧ r1 ≤ 43) && (if r3 = 1 then dk_isn r4 (.fieldLinkNest y.1.cls i (bst r1).1 (bst r1).2.1 (bst r1).2.2 "SpanCopier") else dk_isw r4 (.fieldLink y.1.cls i (bst r1).1 (bst r1).2.1 (bst r1).2.2))
  | .new i => match vwCl[r1]? with
    | none => false
    | some q => decide (r1 ≤ 19) && decide (r2 = q.2.2) && dk_isw r4 (.classLink y.1.cls i q.1)
  | .newarray t => decide (21 ≤ r1) && (match t with
    | .int => decide (r1 % 20 = 1)
    | .byte => decide (r1 % 20 = 2)
    | .boolean => decide (r1 % 20 = 3)
    | .long => decide (r1 % 20 = 4)
    | _ => false)
  | .anewarray i => if r1 = 25 then dk_isw r4 (.classLink y.1.cls i "SpanCopier$Word") else if r1 = 26 then dk_isw r4 (.classLink y.1.cls i "SpanCopier$World") else false
  | .invokevirtual i => dk_cc y.1.cls Γ ks 0 i r1 r2 r3 r4 r5
  | .invokespecial i => dk_cc y.1.cls Γ ks 1 i r1 r2 r3 r4 r5
  | .invokestatic i => dk_cc y.1.cls Γ ks 2 i r1 r2 r3 r4 r5
  | .tableswitch _ l0 hi0 offs => decide ((offs.size : Int) = hi0 - l0 + 1)
  | .lookupswitch _ ps => (ps.toList.zip (ps.toList.drop 1)).all (fun (a, next) => a.1 < next.1)
  | .ireturn => if r1 = 1 then decide (y.2.2 = some .boolean) else decide (r1 = 0) && decide (y.2.2 = some .int)
  | .areturn => match y.2.2 with
    | some (.object _) => true
    | some (.array _) => true
    | _ => false
  | .lreturn => decide (y.2.2 = some .long)
  | .return_ => decide (y.2.2 = none)
  | _ => true
def dk_ck (y : bY) (Γ : List (bY × Nat)) (ks : List Nat) (e : cN) : Bool := decide (decode y.2.1 e.1 = .ok (e.2.1, e.2.2.1)) && (dk_sw e.2.1 || decide (e.2.2.1 = dk_ln e.2.1)) && dk_cl y Γ ks e.2.1 e.2.2.2.1 e.2.2.2.2.1 e.2.2.2.2.2.1 e.2.2.2.2.2.2.1 e.2.2.2.2.2.2.2
theorem dk_arrs : Cond.arrayClass .int ∈ bW ∧ Cond.arrayClass .byte ∈ bW ∧ Cond.arrayClass .boolean ∈ bW ∧ Cond.arrayClass .long ∈ bW := by refine ⟨?_, ?_, ?_, ?_⟩ <;> exact bW_of (by decide +kernel) rfl
theorem dki_rg {r : Nat} (h : r < 4294967296) : brg (dki r) := by
  unfold dki brg
  split <;> omega
theorem dk_ck_ok {y : bY} {Γ : List (bY × Nat)} {ks : List Nat} {e : cN} (hG : dk_G Γ ks) (h : dk_ck y Γ ks e = true) : dk_ok y Γ e := by
  obtain ⟨pc, ins, len, r1, r2, r3, r4, r5⟩ := e
  simp only [dk_ck, Bool.and_eq_true, Bool.or_eq_true, decide_eq_true_eq] at h
  obtain ⟨⟨h1, h2⟩, h3⟩ := h
  refine ⟨h1, fun hn => ?_, ?_⟩
  · rcases h2 with h2 | h2
    · dsimp only at hn; rw [hn] at h2; cases h2
    · exact h2
  clear h1 h2
  dsimp only
  unfold dk_cl at h3
  unfold dk_lk
  split at h3
  · simpa [Bool.and_eq_true, decide_eq_true_eq] using h3
  · simpa [Bool.and_eq_true, decide_eq_true_eq] using h3
  · simpa [Bool.and_eq_true, decide_eq_true_eq] using h3
  · rw [Bool.and_eq_true, decide_eq_true_eq] at h3; exact ⟨dk_isw_mem h3.1, dki_rg h3.2⟩
  · rw [Bool.and_eq_true, decide_eq_true_eq] at h3; exact ⟨dk_isw_mem h3.1, dki_rg h3.2⟩
  · split at h3
    · rename_i a b v hw
      simp only [Bool.and_eq_true, decide_eq_true_eq] at h3
      obtain ⟨⟨rfl, rfl⟩, h5⟩ := h3
      exact ⟨v, bW_of (dk_tw_mem hw) h5⟩
    · cases h3
  · split at h3
    · cases h3
    · rename_i q hq
      simp only [Bool.and_eq_true, decide_eq_true_eq] at h3
      obtain ⟨⟨⟨a1, a2⟩, a3⟩, a4⟩ := h3
      refine ⟨q, hq, a1, a2, ?_, a3⟩
      split at a4
      · exact Or.inr ⟨_, dk_isn_mem a4⟩
      · exact Or.inl (dk_isw_mem a4)
  · split at h3
    · cases h3
    · rename_i q hq
      simp only [Bool.and_eq_true, decide_eq_true_eq] at h3
      obtain ⟨⟨⟨⟨a1, a2⟩, a3⟩, a4⟩, a5⟩ := h3
      obtain ⟨ty, t1, t2⟩ : ∃ ty, parseFieldDescriptor (q.2.1 r1).2.2.1 = some ty ∧ (r5 = 2 → (∃ C, ty = .object C) ∨ ∃ t, ty = .array t) := by
        split at a4
        · rename_i hp; exact ⟨_, hp, fun _ => Or.inl ⟨_, rfl⟩⟩
        · rename_i hp; exact ⟨_, hp, fun _ => Or.inr ⟨_, rfl⟩⟩
        · rename_i hp; exact ⟨_, hp, fun h => absurd h (of_decide_eq_true a4)⟩
        · cases a4
      refine ⟨q, ty, hq, a1, a2, ?_, t1, a3, t2⟩
      split at a5
      · rw [Bool.and_eq_true, Bool.not_eq_true'] at a5
        exact Or.inr (Or.inl ⟨_, dk_isn_mem a5.1, a5.2⟩)
      · rw [Bool.and_eq_true] at a5
        obtain ⟨b1, b2⟩ := a5
        split at b2
        · rw [Bool.not_eq_true'] at b2
          exact Or.inl ⟨dk_isw_mem b1, b2⟩
        · rw [Bool.and_eq_true, Bool.and_eq_true, decide_eq_true_eq, decide_eq_true_eq] at b2
          exact Or.inr (Or.inr ⟨dk_isw_mem b1, b2.1.1, b2.1.2, b2.2⟩)
  · rw [Bool.and_eq_true, decide_eq_true_eq] at h3
    refine ⟨h3.1, ?_⟩
    obtain ⟨-, h3⟩ := h3
    split at h3
    · exact Or.inr ⟨_, dk_isn_mem h3⟩
    · exact Or.inl (dk_isw_mem h3)
  · split at h3
    · cases h3
    · rename_i q hq
      simp only [Bool.and_eq_true, decide_eq_true_eq] at h3
      exact ⟨q, hq, h3.1.1, h3.1.2, dk_isw_mem h3.2⟩
  · rw [Bool.and_eq_true, decide_eq_true_eq] at h3
    obtain ⟨h0, h3⟩ := h3
    split at h3
    · exact ⟨Or.inl ⟨of_decide_eq_true h3, rfl⟩, h0, dk_arrs.1⟩
    · exact ⟨Or.inr (Or.inl ⟨of_decide_eq_true h3, rfl⟩), h0, dk_arrs.2.1⟩
    · exact ⟨Or.inr (Or.inr (Or.inl ⟨of_decide_eq_true h3, rfl⟩)), h0, dk_arrs.2.2.1⟩
    · exact ⟨Or.inr (Or.inr (Or.inr ⟨of_decide_eq_true h3, rfl⟩)), h0, dk_arrs.2.2.2⟩
    · cases h3
  · split at h3
    · rename_i h5; exact ⟨_, Or.inl ⟨h5, rfl⟩, dk_isw_mem h3⟩
    · split at h3
      · rename_i h6; exact ⟨_, Or.inr ⟨h6, rfl⟩, dk_isw_mem h3⟩
      · cases h3
  · exact dk_cc_ok hG h3
  · exact dk_cc_ok hG h3
  · exact dk_cc_ok hG h3
  · exact of_decide_eq_true h3
  · exact h3
  · split at h3
    · rename_i h1; exact Or.inl ⟨h1, of_decide_eq_true h3⟩
    · rw [Bool.and_eq_true, decide_eq_true_eq, decide_eq_true_eq] at h3; exact Or.inr h3
  · split at h3
    · rename_i hy; exact ⟨_, hy, Or.inl ⟨_, rfl⟩⟩
    · rename_i hy; exact ⟨_, hy, Or.inr ⟨_, rfl⟩⟩
    · cases h3
  · exact of_decide_eq_true h3
  · exact of_decide_eq_true h3
  · trivial
