/-! ===== instructions over cells ===== -/
section CELLS
variable {ι : ak_I} {y : MethodName} {b : ByteArray} {rt : Option FieldType} {M : ai_M} {d : Nat} {p : Program} {l : Launch} {e : Env} {R : Room} {s : State} {m : MethodId} {args : Array Value} {below : List Frame} {meth : Method} {c : Code} {pc : Nat} {sq : ai_Q} {jm : Nat → ai_Q} {κ : ai_K}
theorem ak_n_of {ci : Nat} {q : vw_C} (h : vwCl[ci]? = some q) : ak_n ci = q.2.2 := by unfold ak_n; rw [h]; rfl
theorem vp_V_get {fs : List Value} {k : Nat} (h : k < fs.length) : fs[k]? = some (vp_V fs k) := by
  unfold vp_V
  rw [List.getD_eq_getElem?_getD, List.getElem?_eq_getElem h]
  rfl
theorem vp_V_set {fs : List Value} {k j : Nat} {v : Value} (h : k < fs.length) : vp_V (fs.set k v) j = if j = k then v else vp_V fs j := by
  unfold vp_V
  rw [List.getD_eq_getElem?_getD, List.getD_eq_getElem?_getD]
  by_cases e : j = k
  · subst e
    rw [List.getElem?_set_self h, if_pos rfl]
    rfl
  · rw [List.getElem?_set_ne (Ne.symm e), if_neg e]
theorem ah_get {k ci idx : Nat} {q : vw_C} (C : ak_C ι y b rt M d p l e R s m args below meth c) (hq : vwCl[ci]? = some q) (hk : k < q.2.2) (hlink : Cond.fieldLink y.cls idx (q.2.1 k).1 (q.2.1 k).2.1 (q.2.1 k).2.2.1 ∈ ak_W ∨ ∃ host, Cond.fieldLinkNest y.cls idx (q.2.1 k).1 (q.2.1 k).2.1 (q.2.1 k).2.2.1 host ∈ lw_tbl) (hd : decode b pc = .ok (.getfield idx, 3)) (hs : ak_Snd ι M (p, l, e, R, s, m, args, below, meth, c) (pc + 3) sq) : ak_Snd ι M (p, l, e, R, s, m, args, below, meth, c) pc (ai_get k ci sq jm κ) := by
  intro loc stk w outs h Q hQ ws ls st H locs hM
  cases stk with
  | nil => exact absurd h (by simp [ai_get])
  | cons o stk =>
    simp only [ai_get] at h
    obtain ⟨h6, hlt, cl, a, el, hf, hc, hw, hcc, href⟩ := ai_cel_some hM.2.2.2.1 h
    simp only [ak_if, ak_and, Nat.beq_eq, ai_rd_eq] at hf
    split at hf
    · rename_i h0
      obtain ⟨X, st, rfl, hx, hst⟩ := ak_s_cons hM.2.2.2.2.2.1
      obtain rfl := href _ hx
      obtain ⟨fs, rfl, hl, hv⟩ := ak_c_obj hcc h0.1
      rw [h0.2] at hw hl hv
      rw [ak_n_of hq] at hl hv
      have kk := hs _ _ _ _ hf Q hQ ws ls (vp_V fs k :: st) H locs (hM.restk ⟨hv k hk, hst⟩)
      obtain ⟨Cn, T, N⟩ := q
      have hcl := ak_cls _ (List.mem_of_getElem? hq)
      rcases hlink with hlk | ⟨host, hlk⟩
      · exact va_get C.1.1 C.1.2.1 C.2.1.2.1 hcl.1 C.2.1.1 C.2.2.1.1 hM.1 o.2 hw hq k hk (C.2.1.2.1 _ hlk) (fun _ h => h) (vp_V_get (by rw [hl]; exact hk)) hd kk
      · exact va_getN C.1.1 C.1.2.1 C.2.1.2.1 hcl.1 C.2.1.1 C.2.2.1.1 hM.1 o.2 hw hq k hk (va_Nw.use rfl (C.2.2.1.2.2.2.1 _ _ _ _ _ _ hlk)) (fun _ h => h) (vp_V_get (by rw [hl]; exact hk)) hd kk
    · exact absurd hf (by simp)
/-- a field's type by its number -/
def ak_ty (tc : Nat) (ty : FieldType) : Prop := (tc = 0 ∧ ty = .int) ∨ (tc = 1 ∧ ty = .boolean) ∨ (tc = 2 ∧ ((∃ C, ty = .object C) ∨ ∃ t, ty = .array t)) ∨ (tc = 3 ∧ ty = .long)
theorem ak_fit_ok {tc : Nat} {ty : FieldType} (h : ak_ty tc ty) {ads : List Nat} {v : ai_V} {x : Value} (hf : ai_fit tc v = true) (hv : ak_v ι ads v x) : narrow ty x = x ∧ fits ty x = true := by
  rcases h with ⟨rfl, rfl⟩ | ⟨rfl, rfl⟩ | ⟨rfl, ht⟩ | ⟨rfl, rfl⟩
  · have hf : ai_in 0 2 v = true := hf
    rw [ai_in_iff] at hf
    obtain ⟨z, rfl, -, -⟩ := ak_v_int hv hf.2
    exact ⟨rfl, rfl⟩
  · have e1 : ai_fit 1 v = @Bool.rec (fun _ => Bool) false (Nat.ble v.2 1) (Nat.beq v.1 0) := rfl
    rw [e1, ak_if, ak_and, Nat.beq_eq, Nat.ble_eq] at hf
    obtain ⟨z, rfl, hz, -⟩ := ak_v_int hv (by omega)
    rw [hz hf.1]
    rcases (show v.2 = 0 ∨ v.2 = 1 by omega) with e | e <;> rw [e] <;> decide +kernel
  · have hf : ai_in 5 7 v = true := hf
    rw [ai_in_iff] at hf
    rcases ak_v_ref hv hf.1 with ⟨rfl, -⟩ | ⟨⟨q, rfl⟩, -⟩ <;> rcases ht with ⟨C, rfl⟩ | ⟨t, rfl⟩ <;> exact ⟨rfl, rfl⟩
  · have hf : ai_in 3 4 v = true := hf
    rw [ai_in_iff] at hf
    obtain ⟨z, rfl, -⟩ := ak_v_long hv hf.1 hf.2
    exact ⟨rfl, rfl⟩
theorem ah_putf {k ci idx tc : Nat} {q : vw_C} {ty : FieldType} (C : ak_C ι y b rt M d p l e R s m args below meth c) (hq : vwCl[ci]? = some q) (hk : k < q.2.2) (hpd : parseFieldDescriptor (q.2.1 k).2.2.1 = some ty) (hty : ak_ty tc ty) (hlink : (Cond.fieldLink y.cls idx (q.2.1 k).1 (q.2.1 k).2.1 (q.2.1 k).2.2.1 ∈ ak_W ∧ (q.2.1 k).2.2.2 = false) ∨ (∃ host, Cond.fieldLinkNest y.cls idx (q.2.1 k).1 (q.2.1 k).2.1 (q.2.1 k).2.2.1 host ∈ lw_tbl ∧ (q.2.1 k).2.2.2 = false) ∨ (Cond.fieldLink y.cls idx (q.2.1 k).1 (q.2.1 k).2.1 (q.2.1 k).2.2.1 ∈ ak_W ∧ (q.2.1 k).2.2.2 = true ∧ y.name = "<init>" ∧ (q.2.1 k).1 = y.cls)) (hd : decode b pc = .ok (.putfield idx, 3)) (hs : ak_Snd ι M (p, l, e, R, s, m, args, below, meth, c) (pc + 3) sq) : ak_Snd ι M (p, l, e, R, s, m, args, below, meth, c) pc (ai_putf k ci tc sq jm κ) := by
  intro loc stk w outs h Q hQ ws ls st H locs hM
  obtain ⟨n, hp, w2⟩ := w
  cases stk with
  | nil => exact absurd h (by simp [ai_putf])
  | cons v stk =>
    cases stk with
    | nil => exact absurd h (by simp [ai_putf])
    | cons o stk =>
      simp only [ai_putf, ak_if] at h
      split at h
      · rename_i hfit
        obtain ⟨h6, hlt, cl, a, el, hf, hc, hw, hcc, href⟩ := ai_cel_some (w := (n, hp, w2)) hM.2.2.2.1 h
        simp only [ak_and, Nat.beq_eq] at hf
        split at hf
        · rename_i h0
          obtain ⟨V, st, rfl, hvv, hst⟩ := ak_s_cons hM.2.2.2.2.2.1
          obtain ⟨X, st, rfl, hx, hst2⟩ := ak_s_cons hst
          obtain rfl := href _ hx
          obtain ⟨fs, rfl, hl, hv⟩ := ak_c_obj hcc h0.1
          obtain ⟨hp', c', hg, e1, e2, hrd, hh'⟩ := ai_wrh_some (g := sq loc stk) hM.2.2.2.1 rfl hlt hc hw hf
          have hcl := ak_cls _ (List.mem_of_getElem? hq)
          have hn : ak_n cl.2.1 = q.2.2 := by rw [h0.2]; exact ak_n_of hq
          have hkl : k < fs.length := by rw [hl, hn]; exact hk
          have hcc' : ak_c ι (ws.map Prod.fst) c' (.inr (cl.2.1, fs.set k V)) := by
            rw [← e2]
            refine ak_obj_c (e1.trans h0.1) (by rw [List.length_set, hl, e2]) (fun j hj => ?_)
            rw [hrd, vp_V_set hkl]
            by_cases ej : j = k
            · rw [if_pos ej, if_pos ej]; exact hvv
            · rw [if_neg ej, if_neg ej]; exact hv j (by rw [← e2]; exact hj)
          have kk : ∀ (H1 : Heap) (locs1 : List Loc), va_P ι.2.1 vwCl (ws.set o.2 (a, .inr (cl.2.1, fs.set k V))) H1 → va_D (ak_A ι) (ws.set o.2 (a, .inr (cl.2.1, fs.set k V))) → va_S (ak_A ι) s.heap H1 locs1 → W p l e R s m args below meth c H1 locs1 w2.2.1 w2.2.2 Q (F0 m (pc + 3) ls st) :=
            fun H1 locs1 a1 a2 a3 => hs _ _ _ _ hg Q hQ _ ls _ H1 locs1 (hM.write hw a1 a2 a3 (hh' _ hcc') hst2)
          obtain ⟨nw, ft⟩ := ak_fit_ok hty hfit hvv
          rw [h0.2] at hw kk
          obtain ⟨Cn, T, N⟩ := q
          obtain ⟨ty0, hty0⟩ := hcl.2.1
          rcases hlink with ⟨hlk, hfi⟩ | ⟨host, hlk, hfi⟩ | ⟨hlk, hfi, hnm, hdc⟩
          · exact va_put C.1.1 C.1.2.1 C.2.1.2.1 hcl.1 ty0 hty0 hcl.2.2.1 C.2.1.1 C.2.2.1.1 hM.1 hM.2.1.1 hM.2.2.1 o.2 hw hq k hk (C.2.1.2.1 _ hlk) (fun _ h => h) hfi hpd nw ft hkl hd kk
          · exact va_putN C.1.1 C.1.2.1 C.2.1.2.1 hcl.1 ty0 hty0 hcl.2.2.1 C.2.1.1 C.2.2.1.1 hM.1 hM.2.1.1 hM.2.2.1 o.2 hw hq k hk (va_Nw.use rfl (C.2.2.1.2.2.2.1 _ _ _ _ _ _ hlk)) (fun _ h => h) hfi hpd nw ft hkl hd kk
          · exact va_putF C.1.1 C.1.2.1 C.2.1.2.1 hcl.1 ty0 hty0 hcl.2.2.1 C.2.1.1 C.2.2.1.1 hM.1 hM.2.1.1 hM.2.2.1 o.2 hw hq k hk (C.2.1.2.1 _ hlk) (fun _ h => h) hfi (C.2.1.2.2.2.trans hnm) hdc hpd nw ft hkl hd kk
        · exact absurd hf (by simp)
      · exact absurd h (by simp)
/-- a cell is made -/
theorem ai_alloc_some {sz n nc ns : Nat} {cl : ai_C} {loc : ai_L} {st : List ai_V} {hp : ai_H} {env : ai_E} {outs : List ai_O} (hκ : κ.2.2.1 = M) (h : ai_alloc sz cl sq jm κ loc st (n, hp, env, nc, ns) = some outs) : nc + 1 ≤ M.2.2.1 ∧ ns + sz ≤ M.2.2.2 ∧ sq loc ((6, n) :: st) (n + 1, cl :: hp, env, nc + 1, ns + sz) = some outs := by
  simp only [ai_alloc, ai_nt_eq, ak_if, ak_and, Nat.ble_eq, hκ] at h
  split at h
  · rename_i hh
    exact ⟨hh.1, hh.2, h⟩
  · exact absurd h (by simp)
theorem ah_new {ci idx N : Nat} {q : vw_C} (C : ak_C ι y b rt M d p l e R s m args below meth c) (hκ : κ.2.2.1 = M) (hq : vwCl[ci]? = some q) (hN : N = q.2.2) (hini : ∀ j, j < q.2.2 → ∃ ty, parseFieldDescriptor (q.2.1 j).2.2.1 = some ty ∧ ∀ ads, ak_v ι ads (ak_rd (0, ci, (5, 0), ai_ini ci) j) (defaultValue ty)) (hcl : Cond.classLink y.cls idx q.1 ∈ ak_W) (hd : decode b pc = .ok (.new idx, 3)) (hs : ak_Snd ι M (p, l, e, R, s, m, args, below, meth, c) (pc + 3) sq) : ak_Snd ι M (p, l, e, R, s, m, args, below, meth, c) pc (ai_alloc N (0, ci, (5, 0), ai_ini ci) sq jm κ) := by
  subst hN
  intro loc stk w outs h Q hQ ws ls st H locs hM
  obtain ⟨n, hp, env, nc, ns⟩ := w
  obtain ⟨r1, r2, hk⟩ := ai_alloc_some hκ h
  have hc := ak_cls _ (List.mem_of_getElem? hq)
  have hn : ak_n ci = q.2.2 := ak_n_of hq
  obtain ⟨ty0, hty0⟩ := hc.2.1
  have hA : ∀ z, s.heap.size ≤ z → ak_A ι z := fun z hz => Nat.le_trans C.2.2.1.2.2.1 hz
  have hfs : ∀ j, j < q.2.2 → defaultValue (ty0 j) = vp_V ((List.range q.2.2).map (fun j => defaultValue (ty0 j))) j := by
    intro j hj
    unfold vp_V
    rw [List.getD_eq_getElem?_getD, List.getElem?_map, List.getElem?_range hj]
    rfl
  obtain ⟨Cn, T, N⟩ := q
  refine va_new (fs := (List.range N).map (fun j => defaultValue (ty0 j))) C.1.1 C.1.2.1 C.2.1.2.1 hc.1 ty0 hty0 C.2.1.1 (C.2.1.2.1 _ hcl) (C.2.1.2.1 _ hc.2.2.2.1) (C.2.1.2.1 _ hc.2.2.2.2) C.2.2.1.1 hM.1 hM.2.1.1 hM.2.2.1 hA hq hfs (by rw [C.2.2.2.2.2.1]; exact r1) (by rw [C.2.2.2.2.2.2]; exact r2) hd (fun a H1 a1 a2 a3 => ?_)
  refine hs _ _ _ _ hk Q hQ _ ls _ H1 locs (hM.more a1 a2 a3 ?_ hM.2.2.2.2.2.1)
  refine ak_obj_c (c := (0, ci, (5, 0), ai_ini ci)) rfl (by rw [List.length_map, List.length_range]; exact hn.symm) (fun j hj => ?_)
  have hj : j < N := Nat.lt_of_lt_of_eq hj hn
  obtain ⟨ty, t1, t2⟩ := hini j hj
  rw [← hfs j hj]
  have : ty0 j = ty := Option.some.inj ((hty0 j hj).symm.trans t1)
  rw [this]
  exact t2 _
/-- a length -/
theorem ai_newa_some {kd n nc ns : Nat} {loc : ai_L} {stk : List ai_V} {hp : ai_H} {env : ai_E} {outs : List ai_O} (he : ak_e ι env) (hκ : κ.2.2.1 = M) (h : ai_newa kd sq jm κ loc stk (n, hp, env, nc, ns) = some outs) : ∃ (a : ai_V) (stk' : List ai_V) (N : Nat), stk = a :: stk' ∧ N ≤ 30000 ∧ (∀ ads x, ak_v ι ads a x → x = .int (nI N)) ∧ nc + 1 ≤ M.2.2.1 ∧ ns + N ≤ M.2.2.2 ∧ sq loc ((6, n) :: stk') (n + 1, (kd, N, ai_adf kd, []) :: hp, env, nc + 1, ns + N) = some outs := by
  cases stk with
  | nil => exact absurd h (by simp [ai_newa])
  | cons a stk =>
    simp only [ai_newa] at h
    obtain ⟨u, hu, huv, -, -⟩ := ai_res_eq ι env he a (fun x => @Prod.rec _ _ (fun _ => ai_P) (fun t m => @Bool.rec (fun _ => ai_P) none (ai_alloc m (kd, m, ai_adf kd, []) sq jm κ loc stk (n, hp, env, nc, ns)) (@Bool.rec (fun _ => Bool) false (Nat.ble m 30000) (Nat.beq t 0))) x)
    have h := hu.symm.trans h
    obtain ⟨t, N⟩ := u
    simp only [ak_if, ak_and, Nat.beq_eq, Nat.ble_eq] at h
    split at h
    · rename_i hh
      obtain ⟨r1, r2, hk⟩ := ai_alloc_some hκ h
      refine ⟨a, stk, N, rfl, hh.2, fun ads x hx => ?_, r1, r2, hk⟩
      obtain ⟨z, rfl, hz, -⟩ := ak_v_int (huv _ _ hx) (by show t ≤ 2; omega)
      rw [hz hh.1]
    · exact absurd h (by simp)
/-- the kinds of arrays of numbers -/
def ak_kd (kd : Nat) (at_ : ArrayType) : Prop := (kd = 1 ∧ at_ = .int) ∨ (kd = 2 ∧ at_ = .byte) ∨ (kd = 3 ∧ at_ = .boolean) ∨ (kd = 4 ∧ at_ = .long)
theorem ah_newa {kd : Nat} {at_ : ArrayType} (C : ak_C ι y b rt M d p l e R s m args below meth c) (hκ : κ.2.2.1 = M) (hkd : ak_kd kd at_) (harr : Cond.arrayClass (newarray.typeOf at_) ∈ ak_W) (hd : decode b pc = .ok (.newarray at_, 2)) (hs : ak_Snd ι M (p, l, e, R, s, m, args, below, meth, c) (pc + 2) sq) : ak_Snd ι M (p, l, e, R, s, m, args, below, meth, c) pc (ai_newa kd sq jm κ) := by
  intro loc stk w outs h Q hQ ws ls st H locs hM
  obtain ⟨n, hp, env, nc, ns⟩ := w
  obtain ⟨a, stk, N, rfl, hN, hx, r1, r2, hk⟩ := ai_newa_some hM.2.2.2.2.2.2 hκ h
  obtain ⟨X, st, rfl, hX, hst⟩ := ak_s_cons hM.2.2.2.2.2.1
  obtain rfl := hx _ _ hX
  have hA : ∀ z, s.heap.size ≤ z → ak_A ι z := fun z hz => Nat.le_trans C.2.2.1.2.2.1 hz
  have hn : ¬ nI N < 0 := nI_pos (by omega)
  have hcl : (nI N).toNatClampNeg = N := nI_clamp (by omega)
  have hcc : nc + 1 ≤ R.cells := by rw [C.2.2.2.2.2.1]; exact r1
  have hss : ns + N ≤ R.slots := by rw [C.2.2.2.2.2.2]; exact r2
  have same : ∀ (t0 : Nat) (ty : FieldType) (z : ClassId) (k : ClassId), (ak_T ι)[t0]? = some (z, ty) → va_K ι.2.1 vwCl (ak_T ι ++ [(k, ty)]) s → (∀ c0, ty ≠ .object c0) → k = z := by
    intro t0 ty z k h0 hK hno
    have q1 := (C.2.2.1.1.2 t0 _ h0).2
    have q2 := (hK.2 6 (k, ty) rfl).2
    cases ty <;> first | exact Option.some.inj (q2.symm.trans q1) | exact absurd rfl (hno _)
  rcases hkd with ⟨rfl, rfl⟩ | ⟨rfl, rfl⟩ | ⟨rfl, rfl⟩ | ⟨rfl, rfl⟩
  · refine va_newa (a0 := (N, .inl (fun _ => 0))) (ty := .int) C.1.1 C.1.2.1 (C.2.1.2.1 _ harr) rfl C.2.2.1.1 hM.1 hM.2.1.1 hM.2.2.1 hA (fun _ => rfl) hn hcl (by show N * 4 ≤ _; omega) hcc hss hd (fun a k H1 a0 a1 a2 a3 => ?_)
    obtain rfl := same 0 .int (ι.2.2.1 1) k rfl a0 (fun _ h => by cases h)
    exact hs _ _ _ _ hk Q hQ _ ls _ H1 locs (hM.more a1 a2 a3 (ak_ints_c (c := (1, N, ai_adf 1, [])) ⟨by simp, by simp⟩ (fun h => by simp at h) (fun j _ => Or.inl ⟨rfl, rfl⟩)) hst)
  · refine va_newa (a0 := (N, .inl (fun _ => 0))) (ty := .byte) C.1.1 C.1.2.1 (C.2.1.2.1 _ harr) rfl C.2.2.1.1 hM.1 hM.2.1.1 hM.2.2.1 hA (fun _ => rfl) hn hcl (by show N * 1 ≤ _; omega) hcc hss hd (fun a k H1 a0 a1 a2 a3 => ?_)
    obtain rfl := same 1 .byte (ι.2.2.1 2) k rfl a0 (fun _ h => by cases h)
    exact hs _ _ _ _ hk Q hQ _ ls _ H1 locs (hM.more a1 a2 a3 (ak_ints_c (c := (2, N, ai_adf 2, [])) ⟨by simp, by simp⟩ (fun _ _ _ => by decide +kernel) (fun j _ => Or.inl ⟨rfl, rfl⟩)) hst)
  · refine va_newa (a0 := (N, .inl (fun _ => 0))) (ty := .boolean) C.1.1 C.1.2.1 (C.2.1.2.1 _ harr) rfl C.2.2.1.1 hM.1 hM.2.1.1 hM.2.2.1 hA (fun _ => rfl) hn hcl (by show N * 1 ≤ _; omega) hcc hss hd (fun a k H1 a0 a1 a2 a3 => ?_)
    obtain rfl := same 2 .boolean (ι.2.2.1 3) k rfl a0 (fun _ h => by cases h)
    exact hs _ _ _ _ hk Q hQ _ ls _ H1 locs (hM.more a1 a2 a3 (ak_ints_c (c := (3, N, ai_adf 3, [])) ⟨by simp, by simp⟩ (fun h => by simp at h) (fun j _ => Or.inl ⟨rfl, rfl⟩)) hst)
  · refine va_newa (a0 := (N, .inr (.inl (fun _ => 0)))) (ty := .long) C.1.1 C.1.2.1 (C.2.1.2.1 _ harr) rfl C.2.2.1.1 hM.1 hM.2.1.1 hM.2.2.1 hA (fun _ => rfl) hn hcl (by show N * 8 ≤ _; omega) hcc hss hd (fun a k H1 a0 a1 a2 a3 => ?_)
    obtain rfl := same 3 .long (ι.2.2.1 4) k rfl a0 (fun _ h => by cases h)
    exact hs _ _ _ _ hk Q hQ _ ls _ H1 locs (hM.more a1 a2 a3 (ak_longs_c (c := (4, N, ai_adf 4, [])) rfl (fun j _ => Or.inr (Or.inr (Or.inr (Or.inl ⟨rfl, rfl⟩))))) hst)
theorem ah_anewa {kd idx : Nat} {Cn : String} (C : ak_C ι y b rt M d p l e R s m args below meth c) (hκ : κ.2.2.1 = M) (hkd : (kd = 5 ∧ Cn = "SpanCopier$Word") ∨ (kd = 6 ∧ Cn = "SpanCopier$World")) (hcl : Cond.classLink y.cls idx Cn ∈ ak_W) (hd : decode b pc = .ok (.anewarray idx, 3)) (hs : ak_Snd ι M (p, l, e, R, s, m, args, below, meth, c) (pc + 3) sq) : ak_Snd ι M (p, l, e, R, s, m, args, below, meth, c) pc (ai_newa kd sq jm κ) := by
  intro loc stk w outs h Q hQ ws ls st H locs hM
  obtain ⟨n, hp, env, nc, ns⟩ := w
  obtain ⟨a, stk, N, rfl, hN, hx, r1, r2, hk⟩ := ai_newa_some hM.2.2.2.2.2.2 hκ h
  obtain ⟨X, st, rfl, hX, hst⟩ := ak_s_cons hM.2.2.2.2.2.1
  obtain rfl := hx _ _ hX
  have hA : ∀ z, s.heap.size ≤ z → ak_A ι z := fun z hz => Nat.le_trans C.2.2.1.2.2.1 hz
  have hn : ¬ nI N < 0 := nI_pos (by omega)
  have hcl2 : (nI N).toNatClampNeg = N := nI_clamp (by omega)
  have hcc : nc + 1 ≤ R.cells := by rw [C.2.2.2.2.2.1]; exact r1
  have hss : ns + N ≤ R.slots := by rw [C.2.2.2.2.2.2]; exact r2
  have hao : va_AO Cn s := by
    rcases hkd with ⟨-, e⟩ | ⟨-, e⟩
    · rw [e]; exact C.2.2.1.2.2.2.2.2.1
    · rw [e]; exact C.2.2.1.2.2.2.2.2.2
  refine va_newq C.1.1 C.1.2.1 C.2.1.1 (C.2.1.2.1 _ hcl) hao C.2.2.1.1 hM.1 hM.2.1.1 hM.2.2.1 hA hn hcl2 (by omega) hcc hss hd (fun a k H1 a0 a1 a2 a3 => ?_)
  obtain ⟨-, -, -, -, -, q2⟩ := (a0.2 6 (k, .object Cn) rfl).2
  rcases hkd with ⟨rfl, rfl⟩ | ⟨rfl, rfl⟩
  · obtain ⟨-, -, -, -, -, q1⟩ := (C.2.2.1.1.2 4 (ι.2.2.1 5, .object "SpanCopier$Word") rfl).2
    obtain rfl : k = ι.2.2.1 5 := Option.some.inj (q2.symm.trans q1)
    exact hs _ _ _ _ hk Q hQ _ ls _ H1 locs (hM.more a1 a2 a3 (ak_refs_c (c := (5, N, ai_adf 5, [])) (Or.inl rfl) (fun j _ => Or.inr (Or.inr (Or.inr (Or.inr (Or.inr (Or.inl ⟨rfl, rfl⟩))))))) hst)
  · obtain ⟨-, -, -, -, -, q1⟩ := (C.2.2.1.1.2 5 (ι.2.2.1 6, .object "SpanCopier$World") rfl).2
    obtain rfl : k = ι.2.2.1 6 := Option.some.inj (q2.symm.trans q1)
    exact hs _ _ _ _ hk Q hQ _ ls _ H1 locs (hM.more a1 a2 a3 (ak_refs_c (c := (6, N, ai_adf 6, [])) (Or.inr rfl) (fun j _ => Or.inr (Or.inr (Or.inr (Or.inr (Or.inr (Or.inl ⟨rfl, rfl⟩))))))) hst)
end CELLS
