/-! ===== instructions without cells ===== -/
section PLAIN
variable {ι : ak_I} {y : MethodName} {b : ByteArray} {rt : Option FieldType} {M : ai_M} {d : Nat} {p : Program} {l : Launch} {e : Env} {R : Room} {s : State} {m : MethodId} {args : Array Value} {below : List Frame} {meth : Method} {c : Code} {pc : Nat} {sq : ai_Q} {jm : Nat → ai_Q} {κ : ai_K}
/-- a number is pushed -/
theorem ah_push {len : Nat} {a : ai_V} {x : Value} (hv : ∀ ads, ak_v ι ads a x) (hrow : ∀ (H : Heap) (locs : List Loc) (nc ns : Nat) (Q : State → Prop) (ls : Array Slot) (st : List Value), W p l e R s m args below meth c H locs nc ns Q (F0 m (pc + len) ls (x :: st)) → W p l e R s m args below meth c H locs nc ns Q (F0 m pc ls st)) (hs : ak_Snd ι M (p, l, e, R, s, m, args, below, meth, c) (pc + len) sq) : ak_Snd ι M (p, l, e, R, s, m, args, below, meth, c) pc (ai_push a sq jm κ) := by
  intro loc stk w outs h Q hQ ws ls st H locs hM
  exact hrow _ _ _ _ _ _ _ (hs loc (a :: stk) w outs h Q hQ ws ls (x :: st) H locs (hM.push (hv _)))
theorem ah_iconst {n : Int} (C : ak_C ι y b rt M d p l e R s m args below meth c) (hd : decode b pc = .ok (.iconst n, 1)) (hs : ak_Snd ι M (p, l, e, R, s, m, args, below, meth, c) (pc + 1) sq) : ak_Snd ι M (p, l, e, R, s, m, args, below, meth, c) pc (ai_push (0, ai_ofI n) sq jm κ) :=
  ah_push (x := .int (nI (ai_ofI n))) (fun _ => Or.inl ⟨rfl, rfl⟩) (fun _ _ _ _ _ _ _ k => lv_iconst C.1.1 C.1.2.1 hd (ak_ofI n).symm k) hs
theorem ah_bipush {n : Int} (C : ak_C ι y b rt M d p l e R s m args below meth c) (hn : -128 ≤ n ∧ n ≤ 127) (hd : decode b pc = .ok (.bipush n, 2)) (hs : ak_Snd ι M (p, l, e, R, s, m, args, below, meth, c) (pc + 2) sq) : ak_Snd ι M (p, l, e, R, s, m, args, below, meth, c) pc (ai_push (0, ai_ofI n) sq jm κ) := by
  refine ah_push (x := .int (nI (ai_ofI n))) (fun _ => Or.inl ⟨rfl, rfl⟩) (fun _ _ _ _ _ _ _ k => lv_bipush C.1.1 C.1.2.1 hd ?_ k) hs
  rw [ak_ofI]
  apply Int32.toInt_inj.mp
  rw [Int8.toInt_toInt32, Int8.toInt_ofInt, Int32.toInt_ofInt, Int.bmod_def, Int.bmod_def, show ((Int8.size : Nat) : Int) = 256 from rfl, show ((Int32.size : Nat) : Int) = 4294967296 from rfl]
  split <;> split <;> omega
theorem ah_sipush {n : Int} (C : ak_C ι y b rt M d p l e R s m args below meth c) (hn : -32768 ≤ n ∧ n ≤ 32767) (hd : decode b pc = .ok (.sipush n, 3)) (hs : ak_Snd ι M (p, l, e, R, s, m, args, below, meth, c) (pc + 3) sq) : ak_Snd ι M (p, l, e, R, s, m, args, below, meth, c) pc (ai_push (0, ai_ofI n) sq jm κ) := by
  refine ah_push (x := .int (nI (ai_ofI n))) (fun _ => Or.inl ⟨rfl, rfl⟩) (fun _ _ _ _ _ _ _ k => lv_sipush C.1.1 C.1.2.1 hd ?_ k) hs
  rw [ak_ofI]
  apply Int32.toInt_inj.mp
  rw [Int16.toInt_toInt32, Int16.toInt_ofInt, Int32.toInt_ofInt, Int.bmod_def, Int.bmod_def, show ((Int16.size : Nat) : Int) = 65536 from rfl, show ((Int32.size : Nat) : Int) = 4294967296 from rfl]
  split <;> split <;> omega
theorem ah_ldc {i n : Nat} (C : ak_C ι y b rt M d p l e R s m args below meth c) (hw : Cond.constant y.cls i (nI n) ∈ ak_W) (hd : decode b pc = .ok (.ldc i, 2)) (hs : ak_Snd ι M (p, l, e, R, s, m, args, below, meth, c) (pc + 2) sq) : ak_Snd ι M (p, l, e, R, s, m, args, below, meth, c) pc (ai_push (0, n) sq jm κ) :=
  ah_push (x := .int (nI n)) (fun _ => Or.inl ⟨rfl, rfl⟩) (fun _ _ _ _ _ _ _ k => lv_ldc C.1.1 C.1.2.1 C.2.1.1 (C.2.1.2.1 _ hw) hd k) hs
theorem ah_ldcw {i n : Nat} (C : ak_C ι y b rt M d p l e R s m args below meth c) (hw : Cond.constant y.cls i (nI n) ∈ ak_W) (hd : decode b pc = .ok (.ldc_w i, 3)) (hs : ak_Snd ι M (p, l, e, R, s, m, args, below, meth, c) (pc + 3) sq) : ak_Snd ι M (p, l, e, R, s, m, args, below, meth, c) pc (ai_push (0, n) sq jm κ) :=
  ah_push (x := .int (nI n)) (fun _ => Or.inl ⟨rfl, rfl⟩) (fun _ _ _ _ _ _ _ k => lv_ldcw C.1.1 C.1.2.1 C.2.1.1 (C.2.1.2.1 _ hw) hd k) hs
theorem ah_lconst {n : Fin 2} (C : ak_C ι y b rt M d p l e R s m args below meth c) (hd : decode b pc = .ok (.lconst n, 1)) (hs : ak_Snd ι M (p, l, e, R, s, m, args, below, meth, c) (pc + 1) sq) : ak_Snd ι M (p, l, e, R, s, m, args, below, meth, c) pc (ai_push (3, n.val) sq jm κ) :=
  ah_push (x := .long (lN n.val)) (fun _ => Or.inr (Or.inr (Or.inr (Or.inl ⟨rfl, rfl⟩)))) (fun _ _ _ _ _ _ _ k => lv_lconst C.1.1 C.1.2.1 hd rfl k) hs
theorem ah_null (C : ak_C ι y b rt M d p l e R s m args below meth c) (hd : decode b pc = .ok (.aconst_null, 1)) (hs : ak_Snd ι M (p, l, e, R, s, m, args, below, meth, c) (pc + 1) sq) : ak_Snd ι M (p, l, e, R, s, m, args, below, meth, c) pc (ai_push (5, 0) sq jm κ) :=
  ah_push (x := .null) (fun _ => Or.inr (Or.inr (Or.inr (Or.inr (Or.inr (Or.inl ⟨rfl, rfl⟩)))))) (fun _ _ _ _ _ _ _ k => lv_null C.1.1 C.1.2.1 hd k) hs
/-- a local is pushed -/
theorem ah_ld {len i lo hi : Nat} (h7 : hi ≤ 7) (hrow : ∀ (H : Heap) (locs : List Loc) (nc ns : Nat) (Q : State → Prop) (ls : Array Slot) (st : List Value) (ads : List Nat) (a : ai_V) (x : Value), lo ≤ a.1 → a.1 ≤ hi → ak_v ι ads a x → ls[i]? = some (.val x) → W p l e R s m args below meth c H locs nc ns Q (F0 m (pc + len) ls (x :: st)) → W p l e R s m args below meth c H locs nc ns Q (F0 m pc ls st)) (hs : ak_Snd ι M (p, l, e, R, s, m, args, below, meth, c) (pc + len) sq) : ak_Snd ι M (p, l, e, R, s, m, args, below, meth, c) pc (ai_ld i lo hi sq jm κ) := by
  intro loc stk w outs h Q hQ ws ls st H locs hM
  simp only [ai_ld, ai_nth_eq, ak_if] at h
  cases ho : loc[i]? with
  | none => rw [ho] at h; exact absurd h (by simp)
  | some a =>
    rw [ho] at h
    simp only [Option.elim, ai_in_iff] at h
    split at h
    · rename_i hi2
      obtain ⟨-, lv, hl, hx⟩ := hM.2.2.2.2.1
      obtain ⟨x, h1, h2, -⟩ := hx i a ho (Nat.le_trans hi2.2 h7)
      exact hrow _ _ _ _ _ _ _ _ a x hi2.1 hi2.2 h2 (hl.2.2 _ h1) (hs loc (a :: stk) w outs h Q hQ ws ls (x :: st) H locs (hM.push h2))
    · exact absurd h (by simp)
theorem ah_iload {i : Nat} (C : ak_C ι y b rt M d p l e R s m args below meth c) (hd : decode b pc = .ok (.iload i, 2)) (hs : ak_Snd ι M (p, l, e, R, s, m, args, below, meth, c) (pc + 2) sq) : ak_Snd ι M (p, l, e, R, s, m, args, below, meth, c) pc (ai_ld i 0 2 sq jm κ) :=
  ah_ld (by omega) (fun _ _ _ _ _ _ _ _ _ _ _ h2 hv hl k => by obtain ⟨x, rfl, -⟩ := ak_v_int hv h2; exact lv_iload C.1.1 C.1.2.1 hd hl k) hs
theorem ah_iload_n {i : Fin 4} (C : ak_C ι y b rt M d p l e R s m args below meth c) (hd : decode b pc = .ok (.iload_n i, 1)) (hs : ak_Snd ι M (p, l, e, R, s, m, args, below, meth, c) (pc + 1) sq) : ak_Snd ι M (p, l, e, R, s, m, args, below, meth, c) pc (ai_ld i.val 0 2 sq jm κ) :=
  ah_ld (by omega) (fun _ _ _ _ _ _ _ _ _ _ _ h2 hv hl k => by obtain ⟨x, rfl, -⟩ := ak_v_int hv h2; exact lv_iload_n C.1.1 C.1.2.1 hd rfl hl k) hs
theorem ah_aload {i : Nat} (C : ak_C ι y b rt M d p l e R s m args below meth c) (hd : decode b pc = .ok (.aload i, 2)) (hs : ak_Snd ι M (p, l, e, R, s, m, args, below, meth, c) (pc + 2) sq) : ak_Snd ι M (p, l, e, R, s, m, args, below, meth, c) pc (ai_ld i 5 7 sq jm κ) :=
  ah_ld (by omega) (fun _ _ _ _ _ _ _ _ _ _ h5 _ hv hl k => by
    rcases ak_v_ref hv h5 with ⟨rfl, -⟩ | ⟨⟨q, rfl⟩, -⟩
    · exact lv_aloadN C.1.1 C.1.2.1 hd hl k
    · exact lv_aload C.1.1 C.1.2.1 hd hl k) hs
theorem ah_aload_n {i : Fin 4} (C : ak_C ι y b rt M d p l e R s m args below meth c) (hd : decode b pc = .ok (.aload_n i, 1)) (hs : ak_Snd ι M (p, l, e, R, s, m, args, below, meth, c) (pc + 1) sq) : ak_Snd ι M (p, l, e, R, s, m, args, below, meth, c) pc (ai_ld i.val 5 7 sq jm κ) :=
  ah_ld (by omega) (fun _ _ _ _ _ _ _ _ _ _ h5 _ hv hl k => by
    rcases ak_v_ref hv h5 with ⟨rfl, -⟩ | ⟨⟨q, rfl⟩, -⟩
    · exact lv_aload_nN C.1.1 C.1.2.1 hd rfl hl k
    · exact lv_aload_n C.1.1 C.1.2.1 hd rfl hl k) hs
/-- the locals behind a store -/
theorem ak_l_set {ads : List Nat} {loc : ai_L} {nL i : Nat} {ls : Array Slot} {a : ai_V} {x : Value} (hi : i < loc.length) (hv : ak_v ι ads a x) (hc : x.category = 1) {lv : List (Nat × Value)} (h1 : loc.length ≤ nL) (hx : ∀ (j : Nat) (a : ai_V), loc[j]? = some a → a.1 ≤ 7 → ∃ v : Value, (j, v) ∈ lv ∧ ak_v ι ads a v ∧ v.category = 1) (hl : lv_has ls nL ((i, x) :: lv.filter (fun q => !(q.1 == i) && !(q.1 + 1 == i && q.2.category == 2)))) : ak_l ι ads (loc.set i a) nL ls := by
  refine ⟨by rw [List.length_set]; exact h1, _, hl, fun j u hj hu => ?_⟩
  by_cases e : j = i
  · subst e
    rw [List.getElem?_set_self hi] at hj
    cases hj
    exact ⟨x, List.mem_cons_self, hv, hc⟩
  · rw [List.getElem?_set_ne (Ne.symm e)] at hj
    obtain ⟨v, m1, m2, m3⟩ := hx j u hj hu
    exact ⟨v, List.mem_cons_of_mem _ (List.mem_filter.mpr ⟨m1, by simp [e, m3]⟩), m2, m3⟩
/-- a store -/
theorem ah_sto {len i lo hi : Nat} (h7 : hi ≤ 7) (hrow : ∀ (H : Heap) (locs : List Loc) (nc ns : Nat) (Q : State → Prop) (ls : Array Slot) (st : List Value) (ads : List Nat) (a : ai_V) (x : Value) (nL : Nat) (lv : List (Nat × Value)), lo ≤ a.1 → a.1 ≤ hi → ak_v ι ads a x → i < nL → lv_has ls nL lv → (∀ ls' : Array Slot, lv_has ls' nL ((i, x) :: lv.filter (fun q => !(q.1 == i) && !(q.1 + 1 == i && q.2.category == 2))) → W p l e R s m args below meth c H locs nc ns Q (F0 m (pc + len) ls' st)) → W p l e R s m args below meth c H locs nc ns Q (F0 m pc ls (x :: st))) (hcat : ∀ (ads : List Nat) (a : ai_V) (x : Value), lo ≤ a.1 → a.1 ≤ hi → ak_v ι ads a x → x.category = 1) (hs : ak_Snd ι M (p, l, e, R, s, m, args, below, meth, c) (pc + len) sq) : ak_Snd ι M (p, l, e, R, s, m, args, below, meth, c) pc (ai_sto i lo hi sq jm κ) := by
  intro loc stk w outs h Q hQ ws ls st H locs hM
  cases stk with
  | nil => exact absurd h (by simp [ai_sto])
  | cons a stk =>
    simp only [ai_sto, ai_set_eq, ak_if, ai_in_iff] at h
    split at h
    · rename_i hi2
      split at h
      · rename_i hlt
        obtain ⟨x, st, rfl, hv, hst⟩ := ak_s_cons hM.2.2.2.2.2.1
        obtain ⟨h1, lv, hl, hx⟩ := hM.2.2.2.2.1
        refine hrow _ _ _ _ _ _ _ _ a x M.1 lv hi2.1 hi2.2 hv (Nat.lt_of_lt_of_le hlt h1) hl (fun ls' hl' => ?_)
        exact hs _ stk w outs h Q hQ ws ls' st H locs ((hM.restk hst).reloc (ak_l_set hlt hv (hcat _ a x hi2.1 hi2.2 hv) h1 hx hl'))
      · exact absurd h (by simp)
    · exact absurd h (by simp)
theorem ah_istore {i : Nat} (C : ak_C ι y b rt M d p l e R s m args below meth c) (hd : decode b pc = .ok (.istore i, 2)) (hs : ak_Snd ι M (p, l, e, R, s, m, args, below, meth, c) (pc + 2) sq) : ak_Snd ι M (p, l, e, R, s, m, args, below, meth, c) pc (ai_sto i 0 2 sq jm κ) :=
  ah_sto (by omega) (fun _ _ _ _ _ _ _ _ _ _ _ _ _ h2 hv hn hl k => by obtain ⟨x, rfl, -⟩ := ak_v_int hv h2; exact lv_istore C.1.1 C.1.2.1 hd hl hn rfl k) (fun _ _ _ _ h2 hv => by obtain ⟨x, rfl, -⟩ := ak_v_int hv h2; rfl) hs
theorem ah_istore_n {i : Fin 4} (C : ak_C ι y b rt M d p l e R s m args below meth c) (hd : decode b pc = .ok (.istore_n i, 1)) (hs : ak_Snd ι M (p, l, e, R, s, m, args, below, meth, c) (pc + 1) sq) : ak_Snd ι M (p, l, e, R, s, m, args, below, meth, c) pc (ai_sto i.val 0 2 sq jm κ) :=
  ah_sto (by omega) (fun _ _ _ _ _ _ _ _ _ _ _ _ _ h2 hv hn hl k => by obtain ⟨x, rfl, -⟩ := ak_v_int hv h2; exact lv_istore_n C.1.1 C.1.2.1 hd rfl hl hn rfl k) (fun _ _ _ _ h2 hv => by obtain ⟨x, rfl, -⟩ := ak_v_int hv h2; rfl) hs
theorem ah_astore {i : Nat} (C : ak_C ι y b rt M d p l e R s m args below meth c) (hd : decode b pc = .ok (.astore i, 2)) (hs : ak_Snd ι M (p, l, e, R, s, m, args, below, meth, c) (pc + 2) sq) : ak_Snd ι M (p, l, e, R, s, m, args, below, meth, c) pc (ai_sto i 5 7 sq jm κ) :=
  ah_sto (by omega) (fun _ _ _ _ _ _ _ _ _ _ _ _ h5 _ hv hn hl k => by
    rcases ak_v_ref hv h5 with ⟨rfl, -⟩ | ⟨⟨q, rfl⟩, -⟩
    · exact lv_astoreN C.1.1 C.1.2.1 hd hl hn rfl k
    · exact lv_astore C.1.1 C.1.2.1 hd hl hn rfl k) (fun _ _ _ h5 _ hv => by rcases ak_v_ref hv h5 with ⟨rfl, -⟩ | ⟨⟨q, rfl⟩, -⟩ <;> rfl) hs
theorem ah_astore_n {i : Fin 4} (C : ak_C ι y b rt M d p l e R s m args below meth c) (hd : decode b pc = .ok (.astore_n i, 1)) (hs : ak_Snd ι M (p, l, e, R, s, m, args, below, meth, c) (pc + 1) sq) : ak_Snd ι M (p, l, e, R, s, m, args, below, meth, c) pc (ai_sto i.val 5 7 sq jm κ) :=
  ah_sto (by omega) (fun _ _ _ _ _ _ _ _ _ _ _ _ h5 _ hv hn hl k => by
    rcases ak_v_ref hv h5 with ⟨rfl, -⟩ | ⟨⟨q, rfl⟩, -⟩
    · exact lv_astore_nN C.1.1 C.1.2.1 hd rfl hl hn rfl k
    · exact lv_astore_n C.1.1 C.1.2.1 hd rfl hl hn rfl k) (fun _ _ _ h5 _ hv => by rcases ak_v_ref hv h5 with ⟨rfl, -⟩ | ⟨⟨q, rfl⟩, -⟩ <;> rfl) hs
/-- two ints and what comes of them -/
theorem ai_op2_some {f : Nat → Nat → Nat} {x y : ai_V} {k : ai_V → ai_P} {outs : List ai_O} (h : ai_op2 f x y k = some outs) : x.1 ≤ 2 ∧ y.1 ≤ 2 ∧ ∃ v : ai_V, k v = some outs ∧ ((v = (0, f x.2 y.2) ∧ x.1 = 0 ∧ y.1 = 0) ∨ v = (2, 0)) := by
  obtain ⟨tx, nx⟩ := x
  obtain ⟨ty, ny⟩ := y
  simp only [ai_op2, ak_if, ai_nt_eq, Nat.ble_eq, Nat.beq_eq] at h
  split at h
  · rename_i h1
    split at h
    · rename_i h2
      split at h
      · rename_i h3
        have h3' : tx + ty = 0 := h3
        exact ⟨h1, h2, (0, f nx ny), h, Or.inl ⟨rfl, by show tx = 0; omega, by show ty = 0; omega⟩⟩
      · exact ⟨h1, h2, (2, 0), h, Or.inr rfl⟩
    · exact absurd h (by simp)
  · exact absurd h (by simp)
theorem ah_iinc {i : Nat} {n : Int} (C : ak_C ι y b rt M d p l e R s m args below meth c) (hd : decode b pc = .ok (.iinc i n, 3)) (hs : ak_Snd ι M (p, l, e, R, s, m, args, below, meth, c) (pc + 3) sq) : ak_Snd ι M (p, l, e, R, s, m, args, below, meth, c) pc (ai_iinc i (ai_ofI n) sq jm κ) := by
  intro loc stk w outs h Q hQ ws ls st H locs hM
  simp only [ai_iinc, ai_nth_eq] at h
  cases ho : loc[i]? with
  | none => rw [ho] at h; exact absurd h (by simp)
  | some a =>
    rw [ho] at h
    simp only [Option.elim] at h
    obtain ⟨u, hu, huv, hus, -⟩ := ai_res_eq ι w.2.2.1 hM.2.2.2.2.2.2 a (fun x => ai_op2 ai_add x (0, ai_ofI n) (fun v => ai_set v none loc i (fun l => sq l stk w)))
    rw [hu] at h
    obtain ⟨h2, -, v, hk, hv⟩ := ai_op2_some h
    rw [ai_set_eq] at hk
    split at hk
    · rename_i hlt
      obtain ⟨h1, lv, hl, hx⟩ := hM.2.2.2.2.1
      have h27 : a.1 ≤ 7 := by
        rcases Nat.lt_or_ge 1 a.1 with hc | hc
        · rw [hus hc] at h2
          omega
        · omega
      obtain ⟨x, m1, m2, m3⟩ := hx i a ho h27
      obtain ⟨j, hj⟩ := List.getElem?_of_mem m1
      obtain ⟨z, rfl, hz0, -⟩ := ak_v_int (huv _ _ m2) h2
      refine lv_iinc (lv := lv) (k := j) (v := z + Int32.ofInt n) C.1.1 C.1.2.1 hd hl hj rfl (Nat.lt_of_lt_of_le hlt h1) rfl (fun ls' hl' => ?_)
      refine hs _ stk w outs hk Q hQ ws ls' st H locs (hM.reloc (ak_l_set hlt ?_ rfl h1 hx hl'))
      rcases hv with ⟨rfl, hz, -⟩ | rfl
      · exact Or.inl ⟨rfl, by rw [hz0 hz]; show _ = Value.int (nI (ai_add u.2 (ai_ofI n))); rw [ak_add, ak_ofI]⟩
      · exact Or.inr (Or.inr (Or.inl ⟨rfl, _, rfl⟩))
    · exact absurd hk (by simp)
end PLAIN
