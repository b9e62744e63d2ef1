/-! ===== an instruction of the tables ===== -/
/-- an instruction's length -/
def ak_ln : Instr → Nat
  | .bipush _ => 2
  | .sipush _ => 3
  | .ldc _ => 2
  | .ldc_w _ => 3
  | .iload _ => 2
  | .aload _ => 2
  | .istore _ => 2
  | .astore _ => 2
  | .iinc _ _ => 3
  | .goto _ => 3
  | .if_icmp _ _ => 3
  | .ifCond _ _ => 3
  | .if_acmp _ _ => 3
  | .ifnull _ => 3
  | .ifnonnull _ => 3
  | .getfield _ => 3
  | .putfield _ => 3
  | .getstatic _ => 3
  | .new _ => 3
  | .newarray _ => 2
  | .anewarray _ => 3
  | .invokevirtual _ => 3
  | .invokespecial _ => 3
  | .invokestatic _ => 3
  | _ => 1
/-- a call by its mode -/
def ak_cv (y : MethodName) (op idx mid k mode ci : Nat) : Prop :=
  (mode ≤ 6 ∧ (∃ q M', ak_mt[mid]? = some q ∧ ai_tab[mid]? = some M' ∧ ak_ym q.1 q.2.1 M'.1 q.2.2.1 ∧ ak_md mode y.cls idx q.1 ci ∧ (parseMethodDescriptor q.1.desc).map (fun d => d.parameters.length) = some (if mode ≤ 3 then k - 1 else k)) ∧ ((mode ≤ 1 ∧ op = 0) ∨ (2 ≤ mode ∧ mode ≤ 3 ∧ op = 1) ∨ (4 ≤ mode ∧ op = 2))) ∨
  (mode = 7 ∧ op = 1 ∧ Cond.methodLink y.cls idx Lib.objectInit ∈ ak_W) ∨ (mode = 8 ∧ op = 2 ∧ Cond.methodLink y.cls idx arraycopyName ∈ ak_W) ∨ (mode = 9 ∧ op = 0 ∧ Cond.methodLink y.cls idx ⟨"SpanCopier$Word", "ordinal", "()I"⟩ ∈ ak_W)
def ak_lk (y : MethodName) (rt : Option FieldType) (ins : Instr) (r1 r2 r3 r5 : Nat) : Prop := match ins with
  | .ldc i => Cond.constant y.cls i (nI r1) ∈ ak_W
  | .ldc_w i => Cond.constant y.cls i (nI r1) ∈ ak_W
  | .getfield i => ∃ q, vwCl[r2]? = some q ∧ r1 < q.2.2 ∧ (Cond.fieldLink y.cls i (q.2.1 r1).1 (q.2.1 r1).2.1 (q.2.1 r1).2.2.1 ∈ ak_W ∨ ∃ host, Cond.fieldLinkNest y.cls i (q.2.1 r1).1 (q.2.1 r1).2.1 (q.2.1 r1).2.2.1 host ∈ lw_tbl)
  | .putfield i => ∃ q ty, vwCl[r2]? = some q ∧ r1 < q.2.2 ∧ parseFieldDescriptor (q.2.1 r1).2.2.1 = some ty ∧ ak_ty r5 ty ∧ ((Cond.fieldLink y.cls i (q.2.1 r1).1 (q.2.1 r1).2.1 (q.2.1 r1).2.2.1 ∈ ak_W ∧ (q.2.1 r1).2.2.2 = false) ∨ (∃ host, Cond.fieldLinkNest y.cls i (q.2.1 r1).1 (q.2.1 r1).2.1 (q.2.1 r1).2.2.1 host ∈ lw_tbl ∧ (q.2.1 r1).2.2.2 = false) ∨ (Cond.fieldLink y.cls i (q.2.1 r1).1 (q.2.1 r1).2.1 (q.2.1 r1).2.2.1 ∈ ak_W ∧ (q.2.1 r1).2.2.2 = true ∧ y.name = "<init>" ∧ (q.2.1 r1).1 = y.cls))
  | .getstatic i => (r1 < 38 ∨ 40 ≤ r1 ∧ r1 ≤ 43) ∧ (Cond.fieldLink y.cls i (ak_st r1).1 (ak_st r1).2.1 (ak_st r1).2.2 ∈ ak_W ∨ ∃ host, Cond.fieldLinkNest y.cls i (ak_st r1).1 (ak_st r1).2.1 (ak_st r1).2.2 host ∈ lw_tbl)
  | .new i => ∃ q, vwCl[r1]? = some q ∧ r2 = q.2.2 ∧ Cond.classLink y.cls i q.1 ∈ ak_W
  | .newarray t => ak_kd r1 t ∧ Cond.arrayClass (newarray.typeOf t) ∈ ak_W
  | .anewarray i => ∃ Cn, ((r1 = 5 ∧ Cn = "SpanCopier$Word") ∨ (r1 = 6 ∧ Cn = "SpanCopier$World")) ∧ Cond.classLink y.cls i Cn ∈ ak_W
  | .invokevirtual i => ak_cv y 0 i r1 r2 r3 r5
  | .invokespecial i => ak_cv y 1 i r1 r2 r3 r5
  | .invokestatic i => ak_cv y 2 i r1 r2 r3 r5
  | .ireturn => ∃ ty, rt = some ty ∧ ((r1 = 1 ∧ ty = .boolean) ∨ (¬ r1 = 1 ∧ ty = .int))
  | .areturn => ∃ ty, rt = some ty ∧ ((∃ n, ty = .object n) ∨ ∃ t, ty = .array t)
  | .return_ => rt = none
  | _ => True
/-- an instruction of a method -/
def ak_okE (y : MethodName) (b : ByteArray) (rt : Option FieldType) (e : ai_N) : Prop := decode b e.1 = .ok (e.2.1, e.2.2.1) ∧ ((∀ a b c d, e.2.1 ≠ .tableswitch a b c d) → e.2.2.1 = ak_ln e.2.1) ∧ ak_lk y rt e.2.1 e.2.2.2.1 e.2.2.2.2.1 e.2.2.2.2.2.1 e.2.2.2.2.2.2.2
/-- words that stand for all -/
def ak_glob : Prop := Cond.native arraycopyName ∈ ak_W ∧ Cond.static arraycopyName ∈ ak_W ∧ Cond.initialized "java/lang/System" ∈ ak_W ∧ Cond.instanceMethod Lib.objectInit ∈ ak_W ∧ Cond.code Lib.objectInit ⟨#[0xb1]⟩ 1 none ∈ ak_W ∧ nativeFrameWords "java/lang/System" "arraycopy" 5 ≤ 40 ∧ (∀ ci q, vwCl[ci]? = some q → ∀ j, j < q.2.2 → ∃ ty, parseFieldDescriptor (q.2.1 j).2.2.1 = some ty ∧ ∀ (ι : ak_I) (ads : List Nat), ak_v ι ads (ak_rd (0, ci, (5, 0), ai_ini ci) j) (defaultValue ty))
theorem ai_to_some {pc : Nat} {off : Int} {f : Nat → ai_D} {hd : ai_D} (h : ai_to pc off f = some hd) : ∃ t : Nat, (pc : Int) + off = (t : Int) ∧ hd = f t := by
  simp only [ai_to, ak_op] at h
  cases ht : ai_tgt pc off with
  | none => rw [ht] at h; cases h
  | some t => rw [ht] at h; cases h; exact ⟨t, ai_tgt_some ht, rfl⟩
section STEP
variable {ι : ak_I} {y : MethodName} {b : ByteArray} {rt : Option FieldType} {M : ai_M} {d : Nat} {p : Program} {l : Launch} {e : Env} {R : Room} {s : State} {m : MethodId} {args : Array Value} {below : List Frame} {meth : Method} {c : Code} {pc : Nat} {sq : ai_Q} {jm : Nat → ai_Q} {κ : ai_K}
/-! the ends -/
theorem ai_ret2_some {v : Option ai_V} {n nc ns : Nat} {hp : ai_H} {env : ai_E} {outs : List ai_O} (hκ : κ.2.2.1 = M) (h : ai_ret2 v κ (n, hp, env, nc, ns) = some outs) : nc ≤ M.2.2.1 ∧ ns ≤ M.2.2.2 ∧ outs = [(v, n, hp, env)] := by
  simp only [ai_ret2, ak_if, ak_and, Nat.ble_eq, hκ] at h
  split at h
  · rename_i hh
    exact ⟨hh.1, hh.2, (Option.some.inj h).symm⟩
  · cases h
theorem ah_retv (C : ak_C ι y b rt M d p l e R s m args below meth c) (hκ : κ.2.2.1 = M) (hrt : rt = none) (hd : decode b pc = .ok (.return_, 1)) : ak_Snd ι M (p, l, e, R, s, m, args, below, meth, c) pc (ai_retv sq jm κ) := by
  intro loc stk w outs h Q hQ ws ls st H locs hM
  obtain ⟨n, hp, env, nc, ns⟩ := w
  cases stk with
  | cons v stk => exact absurd h (by simp [ai_retv])
  | nil =>
    simp only [ai_retv] at h
    obtain ⟨r1, r2, rfl⟩ := ai_ret2_some hκ h
    obtain rfl := ak_s_nil hM.2.2.2.2.2.1
    exact hQ _ List.mem_cons_self ws ls H locs pc nc ns none r1 r2 hM.1 hM.2.1.1 hM.2.1.2 hM.2.2.1 hM.2.2.2.1 hM.2.2.2.2.2.2 (Or.inl ⟨rfl, rfl, C.1.2.2.1.trans hrt, by show decode c.code pc = _; rw [C.1.2.1]; exact hd⟩)
theorem ah_reti (C : ak_C ι y b rt M d p l e R s m args below meth c) (hκ : κ.2.2.1 = M) (hrt : rt = some .int) (hd : decode b pc = .ok (.ireturn, 1)) : ak_Snd ι M (p, l, e, R, s, m, args, below, meth, c) pc (ai_ret 0 2 sq jm κ) := by
  intro loc stk w outs h Q hQ ws ls st H locs hM
  obtain ⟨n, hp, env, nc, ns⟩ := w
  cases stk with
  | nil => exact absurd h (by simp [ai_ret])
  | cons v stk =>
    cases stk with
    | cons v2 stk => exact absurd h (by simp [ai_ret])
    | nil =>
      simp only [ai_ret, ak_if, ai_in_iff] at h
      split at h
      · rename_i h2
        obtain ⟨u, hu, huv, -, -⟩ := ai_res_eq ι env hM.2.2.2.2.2.2 v (fun v => ai_ret2 (some v) κ (n, hp, env, nc, ns))
        have h := hu.symm.trans h
        obtain ⟨r1, r2, rfl⟩ := ai_ret2_some hκ h
        obtain ⟨X, st, rfl, hx, hst⟩ := ak_s_cons hM.2.2.2.2.2.1
        obtain rfl := ak_s_nil hst
        obtain ⟨X, rfl, -, -⟩ := ak_v_int hx h2.2
        exact hQ _ List.mem_cons_self ws ls H locs pc nc ns (some (.int X)) r1 r2 hM.1 hM.2.1.1 hM.2.1.2 hM.2.2.1 hM.2.2.2.1 hM.2.2.2.2.2.2 (Or.inr (Or.inl ⟨u, X, rfl, rfl, huv _ _ hx, ⟨.int, C.1.2.2.1.trans hrt, rfl⟩, by show decode c.code pc = _; rw [C.1.2.1]; exact hd⟩))
      · cases h
theorem ah_retz (C : ak_C ι y b rt M d p l e R s m args below meth c) (hκ : κ.2.2.1 = M) (hrt : rt = some .boolean) (hd : decode b pc = .ok (.ireturn, 1)) : ak_Snd ι M (p, l, e, R, s, m, args, below, meth, c) pc (ai_retz sq jm κ) := by
  intro loc stk w outs h Q hQ ws ls st H locs hM
  obtain ⟨n, hp, env, nc, ns⟩ := w
  cases stk with
  | nil => exact absurd h (by simp [ai_retz])
  | cons v stk =>
    cases stk with
    | cons v2 stk => exact absurd h (by simp [ai_retz])
    | nil =>
      simp only [ai_retz] at h
      obtain ⟨u, hu, huv, -, -⟩ := ai_res_eq ι env hM.2.2.2.2.2.2 v (fun v => @Bool.rec (fun _ => ai_P) none (ai_ret2 (some v) κ (n, hp, env, nc, ns)) (@Bool.rec (fun _ => Bool) false (Nat.ble v.2 1) (Nat.beq v.1 0)))
      have h := hu.symm.trans h
      simp only [ak_if, ak_and, Nat.beq_eq, Nat.ble_eq] at h
      split at h
      · rename_i h01
        obtain ⟨r1, r2, rfl⟩ := ai_ret2_some hκ h
        obtain ⟨X, st, rfl, hx, hst⟩ := ak_s_cons hM.2.2.2.2.2.1
        obtain rfl := ak_s_nil hst
        obtain ⟨X, rfl, hX, -⟩ := ak_v_int (huv _ _ hx) (by omega)
        have hX := hX h01.1
        have hnar : narrow .boolean (.int X) = .int X := by
          rw [hX]
          rcases (show u.2 = 0 ∨ u.2 = 1 by omega) with e | e <;> rw [e] <;> decide +kernel
        exact hQ _ List.mem_cons_self ws ls H locs pc nc ns (some (.int X)) r1 r2 hM.1 hM.2.1.1 hM.2.1.2 hM.2.2.1 hM.2.2.2.1 hM.2.2.2.2.2.2 (Or.inr (Or.inl ⟨u, X, rfl, rfl, huv _ _ hx, ⟨.boolean, C.1.2.2.1.trans hrt, hnar⟩, by show decode c.code pc = _; rw [C.1.2.1]; exact hd⟩))
      · cases h
theorem ah_reta {ty : FieldType} (C : ak_C ι y b rt M d p l e R s m args below meth c) (hκ : κ.2.2.1 = M) (hrt : rt = some ty) (hty : (∃ n, ty = .object n) ∨ ∃ t, ty = .array t) (hd : decode b pc = .ok (.areturn, 1)) : ak_Snd ι M (p, l, e, R, s, m, args, below, meth, c) pc (ai_ret 5 7 sq jm κ) := by
  intro loc stk w outs h Q hQ ws ls st H locs hM
  obtain ⟨n, hp, env, nc, ns⟩ := w
  cases stk with
  | nil => exact absurd h (by simp [ai_ret])
  | cons v stk =>
    cases stk with
    | cons v2 stk => exact absurd h (by simp [ai_ret])
    | nil =>
      simp only [ai_ret, ak_if, ai_in_iff] at h
      split at h
      · rename_i h2
        obtain ⟨u, hu, huv, -, -⟩ := ai_res_eq ι env hM.2.2.2.2.2.2 v (fun v => ai_ret2 (some v) κ (n, hp, env, nc, ns))
        have h := hu.symm.trans h
        obtain ⟨r1, r2, rfl⟩ := ai_ret2_some hκ h
        obtain ⟨X, st, rfl, hx, hst⟩ := ak_s_cons hM.2.2.2.2.2.1
        obtain rfl := ak_s_nil hst
        have hX : X = .null ∨ ∃ q, X = .ref q := by
          rcases ak_v_ref hx h2.1 with ⟨rfl, -⟩ | ⟨h, -⟩
          · exact Or.inl rfl
          · exact Or.inr h
        exact hQ _ List.mem_cons_self ws ls H locs pc nc ns (some X) r1 r2 hM.1 hM.2.1.1 hM.2.1.2 hM.2.2.1 hM.2.2.2.1 hM.2.2.2.2.2.2 (Or.inr (Or.inr (Or.inl ⟨u, X, rfl, rfl, hX, huv _ _ hx, ⟨ty, C.1.2.2.1.trans hrt, hty⟩, by show decode c.code pc = _; rw [C.1.2.1]; exact hd⟩)))
      · cases h
end STEP
