/-! ===== instructions without cells, the rest ===== -/
section PLAIN2
variable {ι : ak_I} {y : MethodName} {b : ByteArray} {rt : Option FieldType} {M : ai_M} {d : Nat} {p : Program} {l : Launch} {e : Env} {R : Room} {s : State} {m : MethodId} {args : Array Value} {below : List Frame} {meth : Method} {c : Code} {pc : Nat} {sq : ai_Q} {jm : Nat → ai_Q} {κ : ai_K}
theorem ah_goto {off : Int} {t : Nat} (C : ak_C ι y b rt M d p l e R s m args below meth c) (ht : (pc : Int) + off = (t : Int)) (hd : decode b pc = .ok (.goto off, 3)) (hj : ∀ t, ak_Snd ι M (p, l, e, R, s, m, args, below, meth, c) t (jm t)) : ak_Snd ι M (p, l, e, R, s, m, args, below, meth, c) pc (ai_goto t sq jm κ) := by
  intro loc stk w outs h Q hQ ws ls st H locs hM
  exact lv_goto C.1.1 C.1.2.1 hd ht (hj t loc stk w outs h Q hQ ws ls st H locs hM)
/-- a step of two ints; g: what comes of them -/
theorem ah_bin {g : ai_V → ai_V → (ai_V → ai_P) → ai_P} {f : Int32 → Int32 → Int32} {ok : Int32 → Prop} (hκ : κ.2.2.2 = pc) (hg : ∀ (x y : ai_V) (k : ai_V → ai_P) (outs : List ai_O), g x y k = some outs → x.1 ≤ 2 ∧ y.1 ≤ 2 ∧ ∃ v : ai_V, k v = some outs ∧ ∀ (ads : List Nat) (X Y : Int32), ak_v ι ads x (.int X) → ak_v ι ads y (.int Y) → ok Y ∧ ak_v ι ads v (.int (f X Y)))
    (hrow : ∀ (H : Heap) (locs : List Loc) (nc ns : Nat) (Q : State → Prop) (ls : Array Slot) (st : List Value) (X Y : Int32), ok Y → W p l e R s m args below meth c H locs nc ns Q (F0 m (pc + 1) ls (.int (f X Y) :: st)) → W p l e R s m args below meth c H locs nc ns Q (F0 m pc ls (.int Y :: .int X :: st))) (hs : ak_Snd ι M (p, l, e, R, s, m, args, below, meth, c) (pc + 1) sq) (hj : ∀ t, ak_Snd ι M (p, l, e, R, s, m, args, below, meth, c) t (jm t)) : ak_Snd ι M (p, l, e, R, s, m, args, below, meth, c) pc (ai_bin g sq jm κ) := by
  intro loc stk w outs h Q hQ ws ls st H locs hM
  obtain ⟨n, hp, env, cs⟩ := w
  have he : ak_e ι env := hM.2.2.2.2.2.2
  cases stk with
  | nil => exact absurd h (by simp [ai_bin])
  | cons y' stk =>
    cases stk with
    | nil => exact absurd h (by simp [ai_bin])
    | cons x' stk =>
      simp only [ai_bin] at h
      rw [hκ] at h
      have again : (∃ (env' : ai_E) (outs' : List ai_O), jm pc loc (y' :: x' :: stk) (n, hp, env', cs) = some outs' ∧ (∀ o ∈ outs', o ∈ outs) ∧ ak_e ι env') → W p l e R s m args below meth c H locs cs.1 cs.2 Q (F0 m pc ls st) := by
        rintro ⟨env', outs', h1, h2, h3⟩
        exact hj pc loc (y' :: x' :: stk) (n, hp, env', cs) outs' h1 Q (fun o ho => hQ o (h2 o ho)) ws ls st H locs (hM.reenv h3)
      rcases ai_split_some he h with h | h
      · rcases ai_split_some he h with h | h
        · obtain ⟨u, hu, huv, -, -⟩ := ai_res_eq ι env he x' (fun x => ai_res env y' (fun y => g x y (fun v => sq loc (v :: stk) (n, hp, env, cs))))
          have h := hu.symm.trans h
          obtain ⟨u2, hu2, huv2, -, -⟩ := ai_res_eq ι env he y' (fun y => g u y (fun v => sq loc (v :: stk) (n, hp, env, cs)))
          have h := hu2.symm.trans h
          obtain ⟨b1, b2, v, hk, hv⟩ := hg _ _ _ _ h
          obtain ⟨Y, st, rfl, hy, hst⟩ := ak_s_cons hM.2.2.2.2.2.1
          obtain ⟨X, st, rfl, hx, hst2⟩ := ak_s_cons hst
          have hx2 := huv _ _ hx
          have hy2 := huv2 _ _ hy
          obtain ⟨X, rfl, -, -⟩ := ak_v_int hx2 b1
          obtain ⟨Y, rfl, -, -⟩ := ak_v_int hy2 b2
          obtain ⟨hok, hv⟩ := hv _ X Y hx2 hy2
          exact hrow _ _ _ _ _ _ _ X Y hok (hs loc (v :: stk) _ outs hk Q hQ ws ls _ H locs (hM.restk ⟨hv, hst2⟩))
        · exact again h
      · exact again h
theorem ah_op2 {F : Nat → Nat → Nat} {f : Int32 → Int32 → Int32} (hF : ∀ a b, nI (F a b) = f (nI a) (nI b)) (x y : ai_V) (k : ai_V → ai_P) (outs : List ai_O) (h : ai_op2 F x y k = some outs) : x.1 ≤ 2 ∧ y.1 ≤ 2 ∧ ∃ v : ai_V, k v = some outs ∧ ∀ (ads : List Nat) (X Y : Int32), ak_v ι ads x (.int X) → ak_v ι ads y (.int Y) → True ∧ ak_v ι ads v (.int (f X Y)) := by
  obtain ⟨h1, h2, v, hk, hv⟩ := ai_op2_some h
  refine ⟨h1, h2, v, hk, fun ads X Y hx hy => ⟨trivial, ?_⟩⟩
  rcases hv with ⟨rfl, z1, z2⟩ | rfl
  · obtain ⟨_, e1, q1, -⟩ := ak_v_int hx h1
    obtain ⟨_, e2, q2, -⟩ := ak_v_int hy h2
    cases e1
    cases e2
    exact Or.inl ⟨rfl, by rw [q1 z1, q2 z2, ← hF]⟩
  · exact Or.inr (Or.inr (Or.inl ⟨rfl, _, rfl⟩))
theorem ah_any2 {f : Int32 → Int32 → Int32} (x y : ai_V) (k : ai_V → ai_P) (outs : List ai_O) (h : ai_any2 x y k = some outs) : x.1 ≤ 2 ∧ y.1 ≤ 2 ∧ ∃ v : ai_V, k v = some outs ∧ ∀ (ads : List Nat) (X Y : Int32), ak_v ι ads x (.int X) → ak_v ι ads y (.int Y) → True ∧ ak_v ι ads v (.int (f X Y)) := by
  simp only [ai_any2, ak_if, ak_and, Nat.ble_eq] at h
  split at h
  · rename_i hh
    exact ⟨hh.1, hh.2, (2, 0), h, fun _ _ _ _ _ => ⟨trivial, Or.inr (Or.inr (Or.inl ⟨rfl, _, rfl⟩))⟩⟩
  · exact absurd h (by simp)
theorem ah_iadd (C : ak_C ι y b rt M d p l e R s m args below meth c) (hκ : κ.2.2.2 = pc) (hd : decode b pc = .ok (.iadd, 1)) (hs : ak_Snd ι M (p, l, e, R, s, m, args, below, meth, c) (pc + 1) sq) (hj : ∀ t, ak_Snd ι M (p, l, e, R, s, m, args, below, meth, c) t (jm t)) : ak_Snd ι M (p, l, e, R, s, m, args, below, meth, c) pc (ai_bin (ai_op2 ai_add) sq jm κ) :=
  ah_bin (f := fun X Y => X + Y) hκ (ah_op2 ak_add) (fun _ _ _ _ _ _ _ _ _ _ k => lv_iadd C.1.1 C.1.2.1 hd k) hs hj
theorem ah_isub (C : ak_C ι y b rt M d p l e R s m args below meth c) (hκ : κ.2.2.2 = pc) (hd : decode b pc = .ok (.isub, 1)) (hs : ak_Snd ι M (p, l, e, R, s, m, args, below, meth, c) (pc + 1) sq) (hj : ∀ t, ak_Snd ι M (p, l, e, R, s, m, args, below, meth, c) t (jm t)) : ak_Snd ι M (p, l, e, R, s, m, args, below, meth, c) pc (ai_bin (ai_op2 ai_sub) sq jm κ) :=
  ah_bin (f := fun X Y => X - Y) hκ (ah_op2 ak_sub) (fun _ _ _ _ _ _ _ _ _ _ k => lv_isub C.1.1 C.1.2.1 hd k) hs hj
theorem ah_imul (C : ak_C ι y b rt M d p l e R s m args below meth c) (hκ : κ.2.2.2 = pc) (hd : decode b pc = .ok (.imul, 1)) (hs : ak_Snd ι M (p, l, e, R, s, m, args, below, meth, c) (pc + 1) sq) (hj : ∀ t, ak_Snd ι M (p, l, e, R, s, m, args, below, meth, c) t (jm t)) : ak_Snd ι M (p, l, e, R, s, m, args, below, meth, c) pc (ai_bin (ai_op2 ai_mul) sq jm κ) :=
  ah_bin (f := fun X Y => X * Y) hκ (ah_op2 ak_mul) (fun _ _ _ _ _ _ _ _ _ _ k => lv_imul C.1.1 C.1.2.1 hd k) hs hj
theorem ah_ishr (C : ak_C ι y b rt M d p l e R s m args below meth c) (hκ : κ.2.2.2 = pc) (hd : decode b pc = .ok (.ishr, 1)) (hs : ak_Snd ι M (p, l, e, R, s, m, args, below, meth, c) (pc + 1) sq) (hj : ∀ t, ak_Snd ι M (p, l, e, R, s, m, args, below, meth, c) t (jm t)) : ak_Snd ι M (p, l, e, R, s, m, args, below, meth, c) pc (ai_bin ai_any2 sq jm κ) :=
  ah_bin (f := fun X Y => X >>> (Y &&& 31)) hκ ah_any2 (fun _ _ _ _ _ _ _ _ _ _ k => lv_ishr C.1.1 C.1.2.1 hd k) hs hj
theorem ah_iushr (C : ak_C ι y b rt M d p l e R s m args below meth c) (hκ : κ.2.2.2 = pc) (hd : decode b pc = .ok (.iushr, 1)) (hs : ak_Snd ι M (p, l, e, R, s, m, args, below, meth, c) (pc + 1) sq) (hj : ∀ t, ak_Snd ι M (p, l, e, R, s, m, args, below, meth, c) t (jm t)) : ak_Snd ι M (p, l, e, R, s, m, args, below, meth, c) pc (ai_bin ai_any2 sq jm κ) :=
  ah_bin (f := fun X Y => (X.toUInt32 >>> (Y.toUInt32 &&& Int32.toUInt32 31)).toInt32) hκ ah_any2 (fun _ _ _ _ _ _ _ _ _ _ k => lv_iushr C.1.1 C.1.2.1 hd rfl k) hs hj
theorem ah_iand (C : ak_C ι y b rt M d p l e R s m args below meth c) (hκ : κ.2.2.2 = pc) (hd : decode b pc = .ok (.iand, 1)) (hs : ak_Snd ι M (p, l, e, R, s, m, args, below, meth, c) (pc + 1) sq) (hj : ∀ t, ak_Snd ι M (p, l, e, R, s, m, args, below, meth, c) t (jm t)) : ak_Snd ι M (p, l, e, R, s, m, args, below, meth, c) pc (ai_bin ai_iand sq jm κ) := by
  refine ah_bin (f := fun X Y => X &&& Y) (ok := fun _ => True) hκ (fun x y k outs h => ?_) (fun _ _ _ _ _ _ _ _ _ _ k => lv_iand C.1.1 C.1.2.1 hd k) hs hj
  simp only [ai_iand, ak_if, ak_and, ai_eqV_iff] at h
  split at h
  · rename_i hh
    obtain ⟨rfl, rfl⟩ := hh
    refine ⟨by simp, by simp, (1, 6), h, fun ads X Y hx hy => ⟨trivial, Or.inr (Or.inl ⟨rfl, ?_⟩)⟩⟩
    obtain ⟨_, e1, -, q1⟩ := ak_v_int hx (by simp)
    obtain ⟨_, e2, q2, -⟩ := ak_v_int hy (by simp)
    cases e1
    cases e2
    obtain ⟨-, -, -, L, xs, -, -, -, -, -, -, h6⟩ := C.2.2.1.2.1
    have q1 := q1 rfl
    have q2 := q2 rfl
    dsimp only at q1 q2 ⊢
    rw [h6, q1, q2]
    rfl
  · exact ah_op2 ak_land x y k outs h
theorem ah_irem (C : ak_C ι y b rt M d p l e R s m args below meth c) (hκ : κ.2.2.2 = pc) (hd : decode b pc = .ok (.irem, 1)) (hs : ak_Snd ι M (p, l, e, R, s, m, args, below, meth, c) (pc + 1) sq) (hj : ∀ t, ak_Snd ι M (p, l, e, R, s, m, args, below, meth, c) t (jm t)) : ak_Snd ι M (p, l, e, R, s, m, args, below, meth, c) pc (ai_bin ai_irem sq jm κ) := by
  refine ah_bin (f := fun X Y => X - X / Y * Y) (ok := fun Y => ¬ Y = 0) hκ (fun x y k outs h => ?_) (fun _ _ _ _ _ _ _ _ _ hn k => lv_irem C.1.1 C.1.2.1 hd hn k) hs hj
  simp only [ai_irem, ak_if, ak_and, Nat.ble_eq, Nat.beq_eq, ai_nt_eq] at h
  split at h
  · rename_i hh
    obtain ⟨h1, h2, h3, h4⟩ := hh
    have h31 : y.2 < 2 ^ 31 := by omega
    refine ⟨h1, by omega, ?_⟩
    have fin : ∀ v : ai_V, k v = some outs → (v = (2, 0) ∨ (v = (0, x.2 % y.2) ∧ x.1 = 0 ∧ x.2 ≤ 2147483647)) → ∃ v : ai_V, k v = some outs ∧ ∀ (ads : List Nat) (X Y : Int32), ak_v ι ads x (.int X) → ak_v ι ads y (.int Y) → (¬ Y = 0) ∧ ak_v ι ads v (.int (X - X / Y * Y)) := by
      intro v hk hv
      refine ⟨v, hk, fun ads X Y hx hy => ?_⟩
      obtain ⟨_, e2, q2, -⟩ := ak_v_int hy (by omega)
      cases e2
      have q2 := q2 h2
      refine ⟨by rw [q2]; exact nI_ne0 (by omega) h31, ?_⟩
      rcases hv with rfl | ⟨rfl, z1, z2⟩
      · exact Or.inr (Or.inr (Or.inl ⟨rfl, _, rfl⟩))
      · obtain ⟨_, e1, q1, -⟩ := ak_v_int hx h1
        cases e1
        exact Or.inl ⟨rfl, by rw [q1 z1, q2, pk_rem (by omega) (by omega) h31]⟩
    split at h
    · rename_i hz
      exact fin _ h (Or.inr ⟨rfl, hz.1, hz.2⟩)
    · exact fin _ h (Or.inl rfl)
  · exact absurd h (by simp)
/-- one value off the stack -/
theorem ah_i2b (C : ak_C ι y b rt M d p l e R s m args below meth c) (hd : decode b pc = .ok (.i2b, 1)) (hs : ak_Snd ι M (p, l, e, R, s, m, args, below, meth, c) (pc + 1) sq) : ak_Snd ι M (p, l, e, R, s, m, args, below, meth, c) pc (ai_i2b sq jm κ) := by
  intro loc stk w outs h Q hQ ws ls st H locs hM
  cases stk with
  | nil => exact absurd h (by simp [ai_i2b])
  | cons x stk =>
    simp only [ai_i2b, ak_if, Nat.ble_eq] at h
    split at h
    · rename_i hx2
      obtain ⟨X, st, rfl, hx, hst⟩ := ak_s_cons hM.2.2.2.2.2.1
      obtain ⟨X, rfl, -, -⟩ := ak_v_int hx hx2
      exact lv_i2b C.1.1 C.1.2.1 hd rfl (hs _ _ _ _ h Q hQ ws ls _ H locs (hM.restk ⟨Or.inr (Or.inr (Or.inl ⟨rfl, _, rfl⟩)), hst⟩))
    · exact absurd h (by simp)
theorem ah_i2l (C : ak_C ι y b rt M d p l e R s m args below meth c) (hd : decode b pc = .ok (.i2l, 1)) (hs : ak_Snd ι M (p, l, e, R, s, m, args, below, meth, c) (pc + 1) sq) : ak_Snd ι M (p, l, e, R, s, m, args, below, meth, c) pc (ai_i2l sq jm κ) := by
  intro loc stk w outs h Q hQ ws ls st H locs hM
  cases stk with
  | nil => exact absurd h (by simp [ai_i2l])
  | cons x stk =>
    obtain ⟨t, n⟩ := x
    simp only [ai_i2l, ak_if, ak_and, Nat.ble_eq, Nat.beq_eq] at h
    split at h
    · rename_i hx2
      obtain ⟨X, st, rfl, hx, hst⟩ := ak_s_cons hM.2.2.2.2.2.1
      obtain ⟨X, rfl, h0, -⟩ := ak_v_int hx (by show t ≤ 2; omega)
      exact lv_i2l C.1.1 C.1.2.1 hd rfl (hs _ _ _ _ h Q hQ ws ls _ H locs (hM.restk ⟨Or.inr (Or.inr (Or.inr (Or.inl ⟨rfl, by rw [h0 hx2.1]; exact congrArg Value.long (nI_l (by omega))⟩))), hst⟩))
    · exact absurd h (by simp)
theorem ah_lcmp (C : ak_C ι y b rt M d p l e R s m args below meth c) (hd : decode b pc = .ok (.lcmp, 1)) (hs : ak_Snd ι M (p, l, e, R, s, m, args, below, meth, c) (pc + 1) sq) : ak_Snd ι M (p, l, e, R, s, m, args, below, meth, c) pc (ai_lcmp sq jm κ) := by
  intro loc stk w outs h Q hQ ws ls st H locs hM
  cases stk with
  | nil => exact absurd h (by simp [ai_lcmp])
  | cons y' stk =>
    cases stk with
    | nil => exact absurd h (by simp [ai_lcmp])
    | cons x stk =>
      simp only [ai_lcmp, ak_if, ak_and, Nat.beq_eq, ai_eqV_iff] at h
      split at h
      · rename_i hh
        obtain ⟨h3, rfl⟩ := hh
        obtain ⟨Y, st, rfl, hy, hst⟩ := ak_s_cons hM.2.2.2.2.2.1
        obtain ⟨X, st, rfl, hx, hst2⟩ := ak_s_cons hst
        obtain ⟨X, rfl, hX⟩ := ak_v_long hx (by omega) (by omega)
        obtain ⟨Y, rfl, hY⟩ := ak_v_long hy (by omega) (by omega)
        have e1 : X = Y := by rw [hX h3, hY h3]
        subst e1
        refine W.lcmp C.1.1 C.1.2.1 hd ?_
        refine hs _ _ _ _ h Q hQ ws ls _ H locs (hM.restk ⟨Or.inl ⟨rfl, ?_⟩, hst2⟩)
        simp [lg_cmp, nI]
      · exact absurd h (by simp)
theorem ah_dup (C : ak_C ι y b rt M d p l e R s m args below meth c) (hd : decode b pc = .ok (.dup, 1)) (hs : ak_Snd ι M (p, l, e, R, s, m, args, below, meth, c) (pc + 1) sq) : ak_Snd ι M (p, l, e, R, s, m, args, below, meth, c) pc (ai_dup sq jm κ) := by
  intro loc stk w outs h Q hQ ws ls st H locs hM
  cases stk with
  | nil => exact absurd h (by simp [ai_dup])
  | cons x stk =>
    simp only [ai_dup, ak_if, Nat.beq_eq] at h
    split at h
    · rename_i hx1
      obtain ⟨X, st, rfl, hx, hst⟩ := ak_s_cons hM.2.2.2.2.2.1
      exact lv_dup C.1.1 C.1.2.1 hd (by rw [ak_v_cat hx]; exact hx1) (hs _ _ _ _ h Q hQ ws ls _ H locs (hM.restk ⟨hx, hx, hst⟩))
    · exact absurd h (by simp)
theorem ah_dup2 (C : ak_C ι y b rt M d p l e R s m args below meth c) (hd : decode b pc = .ok (.dup2, 1)) (hs : ak_Snd ι M (p, l, e, R, s, m, args, below, meth, c) (pc + 1) sq) : ak_Snd ι M (p, l, e, R, s, m, args, below, meth, c) pc (ai_dup2 sq jm κ) := by
  intro loc stk w outs h Q hQ ws ls st H locs hM
  cases stk with
  | nil => exact absurd h (by simp [ai_dup2])
  | cons x stk =>
    cases stk with
    | nil => exact absurd h (by simp [ai_dup2])
    | cons z stk =>
      simp only [ai_dup2, ak_if, ak_and, Nat.beq_eq] at h
      split at h
      · rename_i hx1
        obtain ⟨X, st, rfl, hx, hst⟩ := ak_s_cons hM.2.2.2.2.2.1
        obtain ⟨Z, st, rfl, hz, hst⟩ := ak_s_cons hst
        exact lv_dup2_11 C.1.1 C.1.2.1 hd (by rw [ak_v_cat hx]; exact hx1.1) (by rw [ak_v_cat hz]; exact hx1.2) (hs _ _ _ _ h Q hQ ws ls _ H locs (hM.restk ⟨hx, hz, hx, hz, hst⟩))
      · exact absurd h (by simp)
theorem ah_pop (C : ak_C ι y b rt M d p l e R s m args below meth c) (hd : decode b pc = .ok (.pop, 1)) (hs : ak_Snd ι M (p, l, e, R, s, m, args, below, meth, c) (pc + 1) sq) : ak_Snd ι M (p, l, e, R, s, m, args, below, meth, c) pc (ai_pop sq jm κ) := by
  intro loc stk w outs h Q hQ ws ls st H locs hM
  cases stk with
  | nil => exact absurd h (by simp [ai_pop])
  | cons x stk =>
    simp only [ai_pop, ak_if, Nat.beq_eq] at h
    split at h
    · rename_i hx1
      obtain ⟨X, st, rfl, hx, hst⟩ := ak_s_cons hM.2.2.2.2.2.1
      exact lv_pop C.1.1 C.1.2.1 hd (by rw [ak_v_cat hx]; exact hx1) (hs _ _ _ _ h Q hQ ws ls _ H locs (hM.restk hst))
    · exact absurd h (by simp)
end PLAIN2
