/-! ===== stretches of arrays ===== -/
def ak_mov (sp dp n : Nat) : List (Nat × ai_V) → List (Nat × ai_V)
  | [] => []
  | q :: l => if sp ≤ q.1 ∧ q.1 < sp + n then (q.1 - sp + dp, q.2) :: ak_mov sp dp n l else ak_mov sp dp n l
def ak_out (dp n : Nat) : List (Nat × ai_V) → List (Nat × ai_V)
  | [] => []
  | q :: l => if dp ≤ q.1 ∧ q.1 < dp + n then ak_out dp n l else q :: ak_out dp n l
theorem ai_mov_eq {α : Type} (sp dp n : Nat) (l : List (Nat × ai_V)) (f : List (Nat × ai_V) → α) : ai_mov sp dp n l f = f (ak_mov sp dp n l) := by
  induction l generalizing f with
  | nil => rfl
  | cons q l ih =>
    obtain ⟨k, v⟩ := q
    have h : ai_mov sp dp n ((k, v) :: l) f = (@Bool.rec (fun _ => α) (ai_mov sp dp n l f) (ai_nt (Nat.add (Nat.sub k sp) dp) (fun j => ai_mov sp dp n l (fun r => f ((j, v) :: r)))) (@Bool.rec (fun _ => Bool) false (Nat.ble (Nat.succ k) (Nat.add sp n)) (Nat.ble sp k))) := rfl
    rw [h]
    simp only [ak_if, ak_and, Nat.ble_eq, ai_nt_eq, ih, ak_mov]
    by_cases h1 : sp ≤ k ∧ k < sp + n
    · rw [if_pos (show sp ≤ k ∧ k.succ ≤ sp.add n from h1), if_pos h1]; rfl
    · rw [if_neg (show ¬ (sp ≤ k ∧ k.succ ≤ sp.add n) from h1), if_neg h1]
theorem ai_out_eq {α : Type} (dp n : Nat) (l : List (Nat × ai_V)) (f : List (Nat × ai_V) → α) : ai_out dp n l f = f (ak_out dp n l) := by
  induction l generalizing f with
  | nil => rfl
  | cons q l ih =>
    obtain ⟨k, v⟩ := q
    have h : ai_out dp n ((k, v) :: l) f = (@Bool.rec (fun _ => α) (ai_out dp n l (fun r => f ((k, v) :: r))) (ai_out dp n l f) (@Bool.rec (fun _ => Bool) false (Nat.ble (Nat.succ k) (Nat.add dp n)) (Nat.ble dp k))) := rfl
    rw [h]
    simp only [ak_if, ak_and, Nat.ble_eq, ih, ak_out]
    by_cases h1 : dp ≤ k ∧ k < dp + n
    · rw [if_pos (show dp ≤ k ∧ k.succ ≤ dp.add n from h1), if_pos h1]
    · rw [if_neg (show ¬ (dp ≤ k ∧ k.succ ≤ dp.add n) from h1), if_neg h1]
theorem ai_cat2_eq {α : Type} (k l : List (Nat × ai_V)) (f : List (Nat × ai_V) → α) : ai_cat2 k l f = f (l ++ k) := by
  induction l generalizing f with
  | nil => rfl
  | cons q l ih =>
    have h : ai_cat2 k (q :: l) f = ai_cat2 k l (fun r => f (q :: r)) := rfl
    rw [h, ih]
    rfl
theorem ak_look_app (i : Nat) (a b : List (Nat × ai_V)) : ak_look i (a ++ b) = (ak_look i a).elim (ak_look i b) some := by
  induction a with
  | nil => rfl
  | cons q a ih =>
    simp only [List.cons_append, ak_look]
    by_cases h : q.1 = i
    · rw [if_pos h, if_pos h]; rfl
    · rw [if_neg h, if_neg h]; exact ih
theorem ak_look_out (i dp n : Nat) (l : List (Nat × ai_V)) : ak_look i (ak_out dp n l) = if dp ≤ i ∧ i < dp + n then none else ak_look i l := by
  induction l with
  | nil => simp [ak_out, ak_look]
  | cons q l ih =>
    simp only [ak_out]
    by_cases h1 : dp ≤ q.1 ∧ q.1 < dp + n
    · rw [if_pos h1, ih]
      by_cases h2 : dp ≤ i ∧ i < dp + n
      · rw [if_pos h2, if_pos h2]
      · rw [if_neg h2, if_neg h2, ak_look, if_neg (fun e : q.1 = i => h2 (e ▸ h1))]
    · rw [if_neg h1]
      simp only [ak_look]
      by_cases h3 : q.1 = i
      · rw [if_pos h3, if_pos h3, if_neg (fun e : dp ≤ i ∧ i < dp + n => h1 (h3 ▸ e))]
      · rw [if_neg h3, if_neg h3]; exact ih
theorem ak_look_mov (i sp dp n : Nat) (l : List (Nat × ai_V)) : ak_look i (ak_mov sp dp n l) = if dp ≤ i ∧ i < dp + n then ak_look (sp + (i - dp)) l else none := by
  induction l with
  | nil => simp [ak_mov, ak_look]
  | cons q l ih =>
    simp only [ak_mov]
    by_cases h1 : sp ≤ q.1 ∧ q.1 < sp + n
    · rw [if_pos h1]
      simp only [ak_look]
      by_cases h2 : q.1 - sp + dp = i
      · rw [if_pos h2, if_pos (by omega), if_pos (by omega)]
      · rw [if_neg h2, ih]
        by_cases h3 : dp ≤ i ∧ i < dp + n
        · rw [if_pos h3, if_pos h3, if_neg (by omega)]
        · rw [if_neg h3, if_neg h3]
    · rw [if_neg h1, ih]
      by_cases h3 : dp ≤ i ∧ i < dp + n
      · rw [if_pos h3, if_pos h3, ak_look, if_neg (by omega)]
      · rw [if_neg h3, if_neg h3]
theorem ai_cpy_eq {α : Type} (s d : ai_C) (sp dp n : Nat) (f : ai_C → α) (hdf : s.2.2.1 = d.2.2.1) : ∃ c' : ai_C, ai_cpy s d sp dp n f = f c' ∧ c'.1 = d.1 ∧ c'.2.1 = d.2.1 ∧ ∀ i, ak_rd c' i = if dp ≤ i ∧ i < dp + n then ak_rd s (sp + (i - dp)) else ak_rd d i := by
  obtain ⟨kd, m, df, ov⟩ := d
  refine ⟨(kd, m, df, ak_out dp n ov ++ ak_mov sp dp n s.2.2.2), ?_, rfl, rfl, fun i => ?_⟩
  · have h : ai_cpy s (kd, m, df, ov) sp dp n f = ai_out dp n ov (fun a => ai_mov sp dp n s.2.2.2 (fun b => ai_cat2 b a (fun r => f (kd, m, df, r)))) := rfl
    rw [h, ai_out_eq, ai_mov_eq, ai_cat2_eq]
  · simp only [ak_rd, ak_look_app, ak_look_out, ak_look_mov]
    by_cases h : dp ≤ i ∧ i < dp + n
    · rw [if_pos h, if_pos h, if_pos h, hdf]; rfl
    · rw [if_neg h, if_neg h, if_neg h]
      cases ak_look i ov <;> rfl
theorem ak_num_look (l : List Nat) : ∀ (k i : Nat), ak_look (k + i) (ai_num l k) = (l[i]?).map (fun x => (0, x)) := by
  induction l with
  | nil => intro k i; rfl
  | cons x l ih =>
    intro k i
    have h : ai_num (x :: l) k = (k, (0, x)) :: ai_num l (Nat.succ k) := rfl
    rw [h]
    simp only [ak_look]
    cases i with
    | zero => rw [if_pos (Nat.add_zero k).symm]; rfl
    | succ i =>
      rw [if_neg (by omega), show k + (i + 1) = Nat.succ k + i by show k + (i + 1) = k + 1 + i; omega, ih]
      rfl
/-- the depth of a stack -/
theorem ak_s_sum {ι : ak_I} {ads : List Nat} : ∀ {stk : List ai_V} {st : List Value}, ak_s ι ads stk st → (st.map fun v => v.category).sum = ai_sum stk
  | [], [], _ => rfl
  | a :: stk, v :: st, h => by
    have e : ai_sum (a :: stk) = ai_cat a + ai_sum stk := rfl
    rw [List.map_cons, List.sum_cons, e, ak_v_cat h.1, ak_s_sum h.2]
  | [], _ :: _, h => h.elim
  | _ :: _, [], h => h.elim
section COPY
variable {ι : ak_I} {y : MethodName} {b : ByteArray} {rt : Option FieldType} {M : ai_M} {d : Nat} {p : Program} {l : Launch} {e : Env} {R : Room} {s : State} {m : MethodId} {args : Array Value} {below : List Frame} {meth : Method} {c : Code} {pc : Nat} {sq : ai_Q} {jm : Nat → ai_Q} {κ : ai_K}
/-- out of a constant array of ints -/
theorem ak_copyT {H : Heap} {locs : List Loc} {cells slots : Nat} {Q : State → Prop} {ls : Array Slot} {rest : List Value} {ws : va_W} {idx t N q1 a n1 : Nat} {f g : Nat → Int32} {k1 : ClassId} (C : ak_C ι y b rt M d p l e R s m args below meth c) (hlen : ls.size = M.1) (hlink : Cond.methodLink y.cls idx arraycopyName ∈ ak_W) (hnat : Cond.native arraycopyName ∈ ak_W) (hstat : Cond.static arraycopyName ∈ ak_W) (hini : Cond.initialized "java/lang/System" ∈ ak_W) (hP : va_P ι.2.1 vwCl ws H) (hD : va_D (ak_A ι) ws) (hS : va_S (ak_A ι) s.heap H locs) (hT : va_T .int t N (fun i => .int (f i)) (ak_A ι) s s.heap) (ha : ws[q1]? = some (a, .inl (k1, n1, .inl g))) (ht1 : (ak_T ι)[0]? = some (k1, .int)) {sp dp n : Nat} (hsp : sp < 2 ^ 31) (hdp : dp < 2 ^ 31) (hn : n < 2 ^ 31) (h4 : sp + n ≤ N) (h5 : dp + n ≤ n1) (hr : (rest.map fun v => v.category).sum + (nativeFrameWords "java/lang/System" "arraycopy" 5 + 11) ≤ R.locals) (hd : decode b pc = .ok (.invokestatic idx, 3))
    (kk : ∀ (H1 : Heap) (locs1 : List Loc), va_P ι.2.1 vwCl (ws.set q1 (a, .inl (k1, n1, .inl (va_cpy f g sp dp n)))) H1 → va_D (ak_A ι) (ws.set q1 (a, .inl (k1, n1, .inl (va_cpy f g sp dp n)))) → va_S (ak_A ι) s.heap H1 locs1 → W p l e R s m args below meth c H1 locs1 cells slots Q (F0 m (pc + 3) ls rest)) : W p l e R s m args below meth c H locs cells slots Q (F0 m pc ls (.int (nI n) :: .int (nI dp) :: .ref a :: .int (nI sp) :: .ref t :: rest)) := by
  intro T hTT X
  obtain ⟨scr, s1, ⟨s2, k0, hk0, cm0, hkk0⟩, s3, s4, -, s5, s6⟩ := hT
  have c0 : H[t]? = some scr := (hS.2.1 t (Array.getElem?_eq_some_iff.mp s1).1 s6).trans s1
  have c1 : H[a]? = some (vp_cell k1 (n1, .inl g)) := hP q1 _ ha
  obtain ⟨-, kc, hkc, cm1, hkk1⟩ := (C.2.2.1.1.2 0 _ ht1).1 n1 (fun j => .int (g j))
  have ti : ∀ z : Nat, z < 2 ^ 31 → (nI z).toInt = (z : Int) := fun z hz => nI_toInt hz
  have tc : ∀ z : Nat, z < 2 ^ 31 → (nI z).toNatClampNeg = z := fun z hz => nI_clamp hz
  obtain ⟨vm', X', step⟩ := X.arraycopy C.1.1 C.2.1.1 (C.2.1.2.1 _ hlink) (C.2.1.2.1 _ hnat) (C.2.1.2.1 _ hstat) (C.2.1.2.1 _ hini) (src := t) (dst := a) (cs := scr) (cd := vp_cell k1 (n1, .inl g)) (srcPos := nI sp) (destPos := nI dp) (n := nI n) (hTT ▸ c0) (hTT ▸ c1) s2 (fun _ h => by cases h) s3 (fun h => by cases h) hk0 hkc hkk0 hkk1 (by simp [refKind]) (nI_pos hsp) (nI_pos hdp) (nI_pos hn)
    (by rw [ti sp hsp, ti n hn]; omega)
    (by rw [ti dp hdp, ti n hn]; show ¬ _ > ((arrV k1 n1 (fun j => .int (g j))).slots.size : Int); rw [arrV_size]; omega)
    (fun _ _ i hi => by
      rw [tc n hn] at hi
      have : scr.slots.getD ((nI sp).toNatClampNeg + i) .null = .int (f (sp + i)) := by rw [tc sp hsp, Array.getD_eq_getD_getElem?, s5 _ (by omega)]; rfl
      rw [this]
      exact ⟨rfl, trivial⟩)
    (g := F0 m pc ls (.int (nI n) :: .int (nI dp) :: .ref a :: .int (nI sp) :: .ref t :: rest)) rfl (hlen.trans C.1.2.2.2.symm) (rest := rest) rfl (by rw [C.1.2.1]; exact hd) (by have := C.2.2.2.1; omega) (by show 2 * 0 + _ + _ ≤ _; omega)
  have ec : copied scr (vp_cell k1 (n1, .inl g)) (nI sp) (nI dp) (nI n) = vp_cell k1 (n1, .inl (va_cpy f g sp dp n)) := by
    have := va_copiedX (fun z => .int z) scr k1 (n1 := n1) (dp := dp) f g s5 h4
    show Cell.storeRun _ (nI dp).toNatClampNeg (scr.stretch (nI sp).toNatClampNeg (nI n).toNatClampNeg) = _
    rw [tc sp hsp, tc dp hdp, tc n hn]
    exact this
  rw [ec] at X' step
  have al : a < H.size := (Array.getElem?_eq_some_iff.mp c1).1
  have hA : ι.1 ≤ a := hD.2 q1 _ ha
  have hh : ((T.setVm vm').setCell a (vp_cell k1 (n1, .inl (va_cpy f g sp dp n)))).heap = H.setIfInBounds a (vp_cell k1 (n1, .inl (va_cpy f g sp dp n))) := by rw [← hTT]; rfl
  have hne : ∀ q : Nat, q ≠ a → (H.setIfInBounds a (vp_cell k1 (n1, .inl (va_cpy f g sp dp n))))[q]? = H[q]? := fun q hq => Array.getElem?_setIfInBounds_ne (Ne.symm hq)
  have hat : (H.setIfInBounds a (vp_cell k1 (n1, .inl (va_cpy f g sp dp n))))[a]? = some (vp_cell k1 (n1, .inl (va_cpy f g sp dp n))) := by simp [al]
  obtain ⟨t2, a1, b1⟩ := kk _ _ (hP.set hD ha (e := .inl (k1, n1, .inl (va_cpy f g sp dp n))) hat hne) (hD.set ha) ⟨by rw [Array.size_setIfInBounds]; exact hS.1, fun q hq hn => by rw [hne q (fun e => hn (e ▸ hA))]; exact hS.2.1 q hq hn, fun q hq => by
    rcases List.mem_append.mp hq with hq | hq
    · exact hS.2.2 q hq
    · obtain ⟨z, -, rfl⟩ := List.mem_map.mp hq
      exact hA⟩ _ hh X'
  exact ⟨t2, step t2 a1, b1⟩
theorem ak_va_cpy {α : Type} (f g : Nat → α) (sp dp n i : Nat) : va_cpy f g sp dp n i = if dp ≤ i ∧ i < dp + n then f (sp + (i - dp)) else g i := rfl
/-- a stretch is copied -/
theorem ah_copy {idx : Nat} (C : ak_C ι y b rt M d p l e R s m args below meth c) (hlink : Cond.methodLink y.cls idx arraycopyName ∈ ak_W) (hnat : Cond.native arraycopyName ∈ ak_W) (hstat : Cond.static arraycopyName ∈ ak_W) (hini : Cond.initialized "java/lang/System" ∈ ak_W) (hnf : nativeFrameWords "java/lang/System" "arraycopy" 5 ≤ 40) (hd : decode b pc = .ok (.invokestatic idx, 3)) (hs : ak_Snd ι M (p, l, e, R, s, m, args, below, meth, c) (pc + 3) sq) : ak_Snd ι M (p, l, e, R, s, m, args, below, meth, c) pc (ai_cp sq jm κ) := by
  intro loc stk w outs h Q hQ ws ls st H locs hM
  obtain ⟨n, hp, env, cs⟩ := w
  have he : ak_e ι env := hM.2.2.2.2.2.2
  simp only [ai_cp, ak_if, Nat.ble_eq] at h
  split at h
  · rename_i hsum
    have hss := ak_s_sum hM.2.2.2.2.2.1
    match stk, h, hsum, hM, hss with
    | [], h, _, _, _ => exact absurd h (by simp [ai_copy])
    | [_], h, _, _, _ => exact absurd h (by simp [ai_copy])
    | [_, _], h, _, _, _ => exact absurd h (by simp [ai_copy])
    | [_, _, _], h, _, _, _ => exact absurd h (by simp [ai_copy])
    | [_, _, _, _], h, _, _, _ => exact absurd h (by simp [ai_copy])
    | vn :: vdp :: vd :: vsp :: vs :: stk, h, hsum, hM, hss =>
      simp only [ai_copy] at h
      obtain ⟨u1, e1, q1, -, -⟩ := ai_res_eq ι env he vn (fun n' => ai_res env vdp (fun dp => ai_res env vsp (fun sp => @Bool.rec (fun _ => ai_P) none (ai_src (n, hp, env, cs) vs (fun ks => ai_cel (n, hp, env, cs) vd (fun kd => @Bool.rec (fun _ => ai_P) none (ai_cpy ks kd sp.2 dp.2 n'.2 (fun c => ai_chg vd c (n, hp, env, cs) (sq loc stk))) (@Bool.rec (fun _ => Bool) false (@Bool.rec (fun _ => Bool) false (@Bool.rec (fun _ => Bool) false (@Bool.rec (fun _ => Bool) false (Nat.ble kd.2.1 30000) (Nat.ble ks.2.1 30000)) (@Bool.rec (fun _ => Bool) false (Nat.ble (Nat.add dp.2 n'.2) kd.2.1) (Nat.ble (Nat.add sp.2 n'.2) ks.2.1))) (ai_eqV ks.2.2.1 kd.2.2.1)) (@Bool.rec (fun _ => Bool) false (@Bool.rec (fun _ => Bool) false (Nat.ble ks.1 2) (Nat.ble 1 ks.1)) (Nat.beq ks.1 kd.1)))))) (@Bool.rec (fun _ => Bool) false (@Bool.rec (fun _ => Bool) false (Nat.beq sp.1 0) (Nat.beq dp.1 0)) (Nat.beq n'.1 0)))))
      have h := e1.symm.trans h
      obtain ⟨u2, e2, q2, -, -⟩ := ai_res_eq ι env he vdp (fun dp => ai_res env vsp (fun sp => @Bool.rec (fun _ => ai_P) none (ai_src (n, hp, env, cs) vs (fun ks => ai_cel (n, hp, env, cs) vd (fun kd => @Bool.rec (fun _ => ai_P) none (ai_cpy ks kd sp.2 dp.2 u1.2 (fun c => ai_chg vd c (n, hp, env, cs) (sq loc stk))) (@Bool.rec (fun _ => Bool) false (@Bool.rec (fun _ => Bool) false (@Bool.rec (fun _ => Bool) false (@Bool.rec (fun _ => Bool) false (Nat.ble kd.2.1 30000) (Nat.ble ks.2.1 30000)) (@Bool.rec (fun _ => Bool) false (Nat.ble (Nat.add dp.2 u1.2) kd.2.1) (Nat.ble (Nat.add sp.2 u1.2) ks.2.1))) (ai_eqV ks.2.2.1 kd.2.2.1)) (@Bool.rec (fun _ => Bool) false (@Bool.rec (fun _ => Bool) false (Nat.ble ks.1 2) (Nat.ble 1 ks.1)) (Nat.beq ks.1 kd.1)))))) (@Bool.rec (fun _ => Bool) false (@Bool.rec (fun _ => Bool) false (Nat.beq sp.1 0) (Nat.beq dp.1 0)) (Nat.beq u1.1 0))))
      have h := e2.symm.trans h
      obtain ⟨u3, e3, q3, -, -⟩ := ai_res_eq ι env he vsp (fun sp => @Bool.rec (fun _ => ai_P) none (ai_src (n, hp, env, cs) vs (fun ks => ai_cel (n, hp, env, cs) vd (fun kd => @Bool.rec (fun _ => ai_P) none (ai_cpy ks kd sp.2 u2.2 u1.2 (fun c => ai_chg vd c (n, hp, env, cs) (sq loc stk))) (@Bool.rec (fun _ => Bool) false (@Bool.rec (fun _ => Bool) false (@Bool.rec (fun _ => Bool) false (@Bool.rec (fun _ => Bool) false (Nat.ble kd.2.1 30000) (Nat.ble ks.2.1 30000)) (@Bool.rec (fun _ => Bool) false (Nat.ble (Nat.add u2.2 u1.2) kd.2.1) (Nat.ble (Nat.add sp.2 u1.2) ks.2.1))) (ai_eqV ks.2.2.1 kd.2.2.1)) (@Bool.rec (fun _ => Bool) false (@Bool.rec (fun _ => Bool) false (Nat.ble ks.1 2) (Nat.ble 1 ks.1)) (Nat.beq ks.1 kd.1)))))) (@Bool.rec (fun _ => Bool) false (@Bool.rec (fun _ => Bool) false (Nat.beq sp.1 0) (Nat.beq u2.1 0)) (Nat.beq u1.1 0)))
      have h := e3.symm.trans h
      simp only [ak_if, ak_and, Nat.beq_eq, Nat.ble_eq, ai_eqV_iff] at h
      split at h
      · rename_i h000
        obtain ⟨Xn, st, rfl, hxn, hst⟩ := ak_s_cons hM.2.2.2.2.2.1
        obtain ⟨Xdp, st, rfl, hxdp, hst1⟩ := ak_s_cons hst
        obtain ⟨Xd, st, rfl, hxd, hst2⟩ := ak_s_cons hst1
        obtain ⟨Xsp, st, rfl, hxsp, hst3⟩ := ak_s_cons hst2
        obtain ⟨Xs, st, rfl, hxs, hst4⟩ := ak_s_cons hst3
        obtain ⟨_, rfl, z1, -⟩ := ak_v_int (q1 _ _ hxn) (by omega)
        obtain ⟨_, rfl, z2, -⟩ := ak_v_int (q2 _ _ hxdp) (by omega)
        obtain ⟨_, rfl, z3, -⟩ := ak_v_int (q3 _ _ hxsp) (by omega)
        obtain rfl := z1 h000.1
        obtain rfl := z2 h000.2.1
        obtain rfl := z3 h000.2.2
        have hrest : (st.map fun v => v.category).sum + (nativeFrameWords "java/lang/System" "arraycopy" 5 + 11) ≤ R.locals := by
          have r1 := ak_s_sum hst4
          have r2 : ai_sum (vn :: vdp :: vd :: vsp :: vs :: stk) = ai_cat vn + (ai_cat vdp + (ai_cat vd + (ai_cat vsp + (ai_cat vs + ai_sum stk)))) := rfl
          have r3 := C.2.2.2.2.1
          rw [r2] at hsum
          rw [r1]
          omega
        have hlsz : ls.size = M.1 := by obtain ⟨-, lv, hl, -⟩ := hM.2.2.2.2.1; exact hl.1
        have hfr : 1 ≤ R.frames := by have := C.2.2.2.1; omega
        /- behind the copy -/
        have fin : ∀ (ks kd : ai_C) (a : Nat) (f g : Nat → Int32), ks.2.2.1 = kd.2.2.1 → ks.1 = kd.1 → (1 ≤ kd.1 ∧ kd.1 ≤ 2) → u3.2 + u1.2 ≤ ks.2.1 → u2.2 + u1.2 ≤ kd.2.1 → vd.2 < n → hp[n - (vd.2 + 1)]? = some kd → ws[vd.2]? = some (a, .inl (ι.2.2.1 kd.1, kd.2.1, .inl g)) → (∀ j, j < ks.2.1 → ak_v ι (ws.map Prod.fst) (ak_rd ks j) (.int (f j))) → (∀ j, j < kd.2.1 → ak_v ι (ws.map Prod.fst) (ak_rd kd j) (.int (g j))) → (kd.1 = 2 → ∀ j, j < ks.2.1 → fits .byte (.int (f j)) = true) → (kd.1 = 2 → ∀ j, j < kd.2.1 → fits .byte (.int (g j)) = true) → ai_cpy ks kd u3.2 u2.2 u1.2 (fun c => ai_chg vd c (n, hp, env, cs) (sq loc stk)) = some outs → ∀ (H1 : Heap) (locs1 : List Loc), va_P ι.2.1 vwCl (ws.set vd.2 (a, .inl (ι.2.2.1 kd.1, kd.2.1, .inl (va_cpy f g u3.2 u2.2 u1.2)))) H1 → va_D (ak_A ι) (ws.set vd.2 (a, .inl (ι.2.2.1 kd.1, kd.2.1, .inl (va_cpy f g u3.2 u2.2 u1.2)))) → va_S (ak_A ι) s.heap H1 locs1 → W p l e R s m args below meth c H1 locs1 cs.1 cs.2 Q (F0 m (pc + 3) ls st) := by
          intro ks kd a f g d1 d2 d3 d4 d5 d6 d7 d8 d9 d10 d11 d12 d13 H1 locs1 a1 a2 a3
          obtain ⟨c', w1, w2, w3, w4⟩ := ai_cpy_eq ks kd u3.2 u2.2 u1.2 (fun c => ai_chg vd c (n, hp, env, cs) (sq loc stk)) d1
          rw [w1] at d13
          have hlt : n - (vd.2 + 1) < hp.length := (List.getElem?_eq_some_iff.mp d7).1
          have hg : ai_chg vd c' (n, hp, env, cs) (sq loc stk) = ai_set c' none hp (n - (vd.2 + 1)) (fun h => sq loc stk (n, h, env, cs)) := rfl
          rw [hg, ai_set_eq, if_pos hlt] at d13
          refine hs _ _ _ _ d13 Q hQ _ ls _ H1 locs1 (hM.write d8 a1 a2 a3 (ak_h_upd hM.2.2.2.1 d6 d8 (by rw [List.length_set]; exact hM.2.2.2.1.1) (List.getElem?_set_self hlt) (fun i hi => List.getElem?_set_ne (Ne.symm hi)) ?_) hst4)
          rw [← w2, ← w3]
          refine ak_ints_c (by rw [w2]; omega) (fun h2 j hj => ?_) (fun j hj => ?_)
          · rw [ak_va_cpy]
            rw [w3] at hj
            rw [w2] at h2
            by_cases hc : u2.2 ≤ j ∧ j < u2.2 + u1.2
            · rw [if_pos hc]; exact d11 h2 _ (by omega)
            · rw [if_neg hc]; exact d12 h2 j hj
          · rw [w4, ak_va_cpy]
            rw [w3] at hj
            by_cases hc : u2.2 ≤ j ∧ j < u2.2 + u1.2
            · rw [if_pos hc, if_pos hc]; exact d9 _ (by omega)
            · rw [if_neg hc, if_neg hc]; exact d10 j hj
        simp only [ai_src, ak_if, Nat.beq_eq, ak_op] at h
        split at h
        · rename_i h7
          obtain rfl := ak_v_const hxs h7
          cases hsar : ai_sar vs.2 with
          | none => rw [hsar] at h; exact absurd h (by simp)
          | some ll =>
            rw [hsar] at h
            simp only [Option.elim, ai_len_eq] at h
            obtain ⟨h6, hlt, kd, a, el, hf, hc, hw, hcc, href⟩ := ai_cel_some (w := (n, hp, env, cs)) hM.2.2.2.1 h
            obtain rfl := href _ hxd
            split at hf
            · rename_i hh
              obtain ⟨⟨g1, g2⟩, g3, ⟨g4, g5⟩, g6⟩ := hh
              have gk : kd.1 = 1 := g1.symm
              obtain ⟨g, rfl, hfit, hv⟩ := ak_c_ints hcc (by omega)
              have g4 : u3.2 + u1.2 ≤ ll.length := g4
              have g5 : u2.2 + u1.2 ≤ kd.2.1 := g5
              have fin2 := fin (1, ll.length, (0, 0), ai_num ll 0) kd a (fun i => nI (ll.getD i 0)) g g3 g1 (by omega) g4 g5 hlt hc hw (fun j hj => by
                have hj : j < ll.length := hj
                have e1 : ak_rd (1, ll.length, (0, 0), ai_num ll 0) j = (0, ll.getD j 0) := by
                  have := ak_num_look ll 0 j
                  rw [Nat.zero_add] at this
                  show (ak_look j (ai_num ll 0)).getD (0, 0) = _
                  rw [this, List.getD_eq_getElem?_getD, List.getElem?_eq_getElem hj]
                  rfl
                rw [e1]
                exact Or.inl ⟨rfl, rfl⟩) hv (fun h2 => by omega) (fun h2 => by omega) hf
              rw [gk] at hw fin2
              exact ak_copyT (f := fun i => nI (ll.getD i 0)) C hlsz hlink hnat hstat hini hM.1 hM.2.1.1 hM.2.2.1 (C.2.2.1.2.1.2.1 _ _ hsar).2 hw rfl (by omega) (by omega) (by omega) g4 g5 hrest hd fin2
            · exact absurd hf (by simp)
        · obtain ⟨k6, klt, ks, ka, kel, kf, kc, kw, kcc, kref⟩ := ai_cel_some (w := (n, hp, env, cs)) hM.2.2.2.1 h
          obtain rfl := kref _ hxs
          obtain ⟨h6, hlt, kd, a, el, hf, hc, hw, hcc, href⟩ := ai_cel_some (w := (n, hp, env, cs)) hM.2.2.2.1 kf
          obtain rfl := href _ hxd
          split at hf
          · rename_i hh
            obtain ⟨⟨g1, g2⟩, g3, ⟨g4, g5⟩, g6⟩ := hh
            obtain ⟨g, rfl, hfit, hv⟩ := ak_c_ints hcc (by omega)
            obtain ⟨f, rfl, kfit, kv⟩ := ak_c_ints kcc (by omega)
            have g4 : u3.2 + u1.2 ≤ ks.2.1 := g4
            have g5 : u2.2 + u1.2 ≤ kd.2.1 := g5
            have fin2 := fin ks kd a f g g3 g1 (by omega) g4 g5 hlt hc hw kv hv (fun h2 => kfit (by omega)) hfit hf
            have c1 := nI_clamp (show u1.2 < 2 ^ 31 by omega)
            have c2 := nI_clamp (show u2.2 < 2 ^ 31 by omega)
            have c3 := nI_clamp (show u3.2 < 2 ^ 31 by omega)
            rw [← c1, ← c2, ← c3] at fin2
            refine va_copyi (ty := ak_kt kd.1) C.1.1 C.1.2.1 (C.1.2.2.2.trans hlsz.symm) C.2.1.1 (C.2.1.2.1 _ hlink) (C.2.1.2.1 _ hnat) (C.2.1.2.1 _ hstat) (C.2.1.2.1 _ hini) C.2.2.1.1 hM.1 hM.2.1.1 hM.2.2.1 vs.2 vd.2 (ks.1 - 1) (kd.1 - 1) kw hw (by rw [g1]; exact ak_T_at (by omega)) (ak_T_at (by omega)) ?_ (nI_pos (by omega)) (nI_pos (by omega)) (nI_pos (by omega)) (by rw [c3, c1]; exact g4) (by rw [c2, c1]; exact g5) ?_ hfr hrest hd fin2
            · rcases (show kd.1 = 1 ∨ kd.1 = 2 by omega) with e | e <;> rw [e] <;> rfl
            · intro i hi
              rw [c1] at hi
              rw [c3]
              rcases (show kd.1 = 1 ∨ kd.1 = 2 by omega) with e | e
              · rw [e]; rfl
              · rw [e]; exact kfit (by omega) _ (by omega)
          · exact absurd hf (by simp)
      · exact absurd h (by simp)
  · exact absurd h (by simp)
/-- the constructor of the topmost class -/
theorem ah_obj {idx : Nat} (C : ak_C ι y b rt M d p l e R s m args below meth c) (hlink : Cond.methodLink y.cls idx Lib.objectInit ∈ ak_W) (hin : Cond.instanceMethod Lib.objectInit ∈ ak_W) (hcode : Cond.code Lib.objectInit ⟨#[0xb1]⟩ 1 none ∈ ak_W) (hd : decode b pc = .ok (.invokespecial idx, 3)) (hs : ak_Snd ι M (p, l, e, R, s, m, args, below, meth, c) (pc + 3) sq) : ak_Snd ι M (p, l, e, R, s, m, args, below, meth, c) pc (ai_obj sq jm κ) := by
  intro loc stk w outs h Q hQ ws ls st H locs hM
  cases stk with
  | nil => exact absurd h (by simp [ai_obj])
  | cons v stk =>
    simp only [ai_obj, ak_if, ak_and, Nat.beq_eq, Nat.ble_eq] at h
    split at h
    · rename_i hh
      obtain ⟨X, st, rfl, hx, hst⟩ := ak_s_cons hM.2.2.2.2.2.1
      obtain ⟨q, -, rfl⟩ := ak_v_cell hx hh.1
      obtain ⟨-, lv, hl, -⟩ := hM.2.2.2.2.1
      have hfr : 1 ≤ R.frames := by have := C.2.2.2.1; omega
      have hlo : 2 * 0 + (st.map fun v => v.category).sum + 12 ≤ R.locals := by
        have r1 := ak_s_sum hst
        have r3 := C.2.2.2.2.1
        omega
      exact W.objInit C.1.1 C.1.2.1 C.2.1.1 (C.2.1.2.1 _ hlink) (C.2.1.2.1 _ hin) (C.2.1.2.1 _ hcode) rfl (hl.1.trans C.1.2.2.2.symm) rfl hd hfr hlo (hs _ _ _ _ h Q hQ ws ls _ H locs (hM.restk hst))
    · exact absurd h (by simp)
end COPY
