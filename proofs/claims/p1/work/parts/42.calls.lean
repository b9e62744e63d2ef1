/-! ===== calls ===== -/
theorem ai_args_some {k : Nat} {f : List ai_V → List ai_V → ai_P} {outs : List ai_O} : ∀ {acc stk : List ai_V}, ai_args k acc stk f = some outs → ∃ as st : List ai_V, stk = as ++ st ∧ as.length = k ∧ f (as.reverse ++ acc) st = some outs := by
  induction k with
  | zero => intro acc stk h; exact ⟨[], stk, rfl, rfl, h⟩
  | succ k ih =>
    intro acc stk h
    cases stk with
    | nil => cases h
    | cons v stk =>
      have h1 : ai_args (k + 1) acc (v :: stk) f = ai_args k (v :: acc) stk f := rfl
      rw [h1] at h
      obtain ⟨as, st, rfl, hl, hf⟩ := ih h
      exact ⟨v :: as, st, rfl, by simp [hl], by simpa using hf⟩
theorem ai_ent_some {f : ai_L → ai_P} {outs : List ai_O} : ∀ {nL : Nat} {a : List ai_V}, ai_ent nL a f = some outs → ∃ loc : ai_L, f loc = some outs ∧ loc.length = nL ∧ a.length ≤ nL ∧ (∀ v ∈ a, ai_in 3 4 v = false) ∧ ∀ (i : Nat) (v : ai_V), loc[i]? = some v → v.1 ≤ 7 → a[i]? = some v := by
  intro nL
  induction nL generalizing f with
  | zero =>
    intro a h
    cases a with
    | nil => exact ⟨[], h, rfl, Nat.le_refl _, fun v hv => absurd hv List.not_mem_nil, fun i v hi => by simp at hi⟩
    | cons v a => cases h
  | succ nL ih =>
    intro a h
    cases a with
    | nil =>
      have h1 : ai_ent (nL + 1) [] f = ai_ent nL [] (fun r => f ((9, 0) :: r)) := rfl
      rw [h1] at h
      obtain ⟨loc, e1, e2, e3, e4, e5⟩ := ih h
      refine ⟨(9, 0) :: loc, e1, by simp [e2], Nat.zero_le _, fun v hv => absurd hv List.not_mem_nil, fun i v hi h7 => ?_⟩
      cases i with
      | zero => cases hi; simp at h7
      | succ i => have := e5 i v hi h7; simp at this
    | cons v a =>
      have h1 : ai_ent (nL + 1) (v :: a) f = @Bool.rec (fun _ => ai_P) (ai_ent nL a (fun r => f (v :: r))) none (ai_in 3 4 v) := rfl
      rw [h1, ak_if] at h
      split at h
      · cases h
      · rename_i h34
        obtain ⟨loc, e1, e2, e3, e4, e5⟩ := ih h
        refine ⟨v :: loc, e1, by simp [e2], by simp [e3], fun u hu => ?_, fun i u hi h7 => ?_⟩
        · rcases List.mem_cons.mp hu with rfl | hu
          · exact Bool.eq_false_iff.mpr h34
          · exact e4 u hu
        · cases i with
          | zero => exact hi
          | succ i => exact e5 i u hi h7
theorem ai_eqO_eq {u v : ai_O} (h : ai_eqO u v = true) : u = v := by
  obtain ⟨a, n, hp, env⟩ := u
  obtain ⟨a', n', hp', env'⟩ := v
  simp only [ai_eqO, ak_if, ak_and, Nat.beq_eq, decide_eq_true_eq] at h
  obtain ⟨rfl, rfl, rfl, rfl⟩ := h
  rfl
theorem ai_has_mem {u : ai_O} : ∀ {l : List ai_O}, ai_has u l = true → u ∈ l := by
  intro l
  induction l with
  | nil => intro h; cases h
  | cons v l ih =>
    intro h
    have h1 : ai_has u (v :: l) = @Bool.rec (fun _ => Bool) (ai_has u l) true (ai_eqO u v) := rfl
    rw [h1, ak_if] at h
    split at h
    · rename_i he
      rw [ai_eqO_eq he]
      exact List.mem_cons_self
    · exact List.mem_cons_of_mem _ (ih h)
theorem ai_uni_mem : ∀ {l : List ai_O} {o : ai_O}, o ∈ l → o ∈ ai_uni l := by
  intro l
  induction l with
  | nil => intro o h; exact h
  | cons u l ih =>
    intro o h
    cases l with
    | nil => exact h
    | cons v l =>
      have h1 : ai_uni (u :: v :: l) = @Bool.rec (fun _ => List ai_O) (u :: ai_uni (v :: l)) (ai_uni (v :: l)) (ai_has u (v :: l)) := rfl
      rw [h1, ak_if]
      split
      · rename_i hh
        rcases List.mem_cons.mp h with rfl | h
        · exact ih (ai_has_mem hh)
        · exact ih h
      · rcases List.mem_cons.mp h with rfl | h
        · exact List.mem_cons_self
        · exact List.mem_cons_of_mem _ (ih h)
/-! what a callee is told and tells -/
def ak_o (ι : ak_I) (ads : List Nat) (o : Option ai_V) (v : Option Value) : Prop := (o = none ∧ v = none) ∨ ∃ (a : ai_V) (x : Value), o = some a ∧ v = some x ∧ ak_v ι ads a x
def ak_Q (ι : ak_I) (ws : va_W) (outs : List ai_O) : Array Value → State → Outcome → State → Prop := fun _ st oc t =>
  (∃ o ∈ outs, ∃ (v : Option Value) (u : va_W), oc = .returned v ∧ ak_o ι (u.map Prod.fst) o.1 v ∧ ak_h ι o.2.1 o.2.2.1 u ∧ ak_e ι o.2.2.2 ∧ ws.map Prod.fst <+: u.map Prod.fst ∧ va_P ι.2.1 vwCl u t.heap ∧ va_D (ak_A ι) u) ∧ va_F (ak_A ι) st t
def ak_Pc (ι : ak_I) (ws : va_W) (avs : List Value) : Array Value → State → Prop := va_Pc avs (fun U => ι.1 ≤ U.heap.size ∧ va_P ι.2.1 vwCl ws U.heap ∧ va_D (ak_A ι) ws ∧ va_K ι.2.1 vwCl (ak_T ι) U ∧ ak_S ι U U.heap ∧ ak_Nw U)
theorem ak_S.moved {ι : ak_I} {u U : State} {H : Heap} (hvm : u.vm.Alike U.vm) (h : ak_S ι u H) : ak_S ι U H := by
  obtain ⟨h1, h2, h3, L, xs, h4, h5⟩ := h
  exact ⟨h1.moved hvm, fun j l hl => ⟨(h2 j l hl).1.moved hvm, (h2 j l hl).2.moved hvm⟩, ⟨h3.1.moved hvm, h3.2.moved hvm⟩, L, xs, h4.moved hvm, h5⟩
theorem ak_S.kept {ι : ak_I} {U : State} {H H1 : Heap} (h : ak_S ι U H) (hsz : H.size ≤ H1.size) (hq : ∀ q : Nat, q < H.size → ¬ ak_A ι q → H1[q]? = H[q]?) : ak_S ι U H1 := by
  obtain ⟨h1, h2, h3, L, xs, h4, h5, h6, h7⟩ := h
  exact ⟨h1.kept hq, fun j l hl => ⟨(h2 j l hl).1.kept hq, (h2 j l hl).2.kept hq⟩, ⟨h3.1.kept hq, h3.2.kept hq⟩, L, xs, h4.kept (hq _ h6 (by show ¬ _ ≤ _; omega)), h5, by omega, h7⟩
theorem ak_Nw.moved {s U : State} (hW : s.WarmedH U.vm) (h : ak_Nw s) : ak_Nw U :=
  ⟨fun a i b n d k hm => va_Nw.warmF hW (h.1 a i b n d k hm), fun a i x k hm => va_Nw.warmM hW (h.2.1 a i x k hm), va_AO.moved hW.alike h.2.2.1, va_AO.moved hW.alike h.2.2.2⟩
theorem ak_blind (ι : ak_I) (ws : va_W) (avs : List Value) : FrameBlind (ak_Pc ι ws avs) := by
  intro a U g mk ⟨h1, h2, h3, h4, h5, h6, h7⟩
  have al : U.vm.Alike (U.calling g mk a).vm := Vm.Alike.refl U.vm
  exact ⟨h1, h2, h3, h4, va_K.moved al h5, ak_S.moved al h6, fun a i b n d k hm => va_Nw.same rfl rfl (h7.1 a i b n d k hm), fun a i x k hm => va_Nw.same rfl rfl (h7.2.1 a i x k hm), va_AO.moved al h7.2.2.1, va_AO.moved al h7.2.2.2⟩
/-- at a call the callee's start holds -/
theorem ak_pre {ι : ak_I} {s : State} {ws : va_W} {H : Heap} {locs : List Loc} (hK : va_K ι.2.1 vwCl (ak_T ι) s) (hE : ak_S ι s s.heap) (hb : ι.1 ≤ s.heap.size) (hN : ak_Nw s) (hP : va_P ι.2.1 vwCl ws H) (hD : va_D (ak_A ι) ws) (hS : va_S (ak_A ι) s.heap H locs) (avs : List Value) (U : State) (hU : U.heap = H) (hW : s.WarmedH U.vm) : ak_Pc ι ws avs avs.toArray U := by
  refine ⟨rfl, ?_, ?_, hD, va_K.moved hW.alike hK, ?_, hN.moved hW⟩
  · rw [hU]; exact Nat.le_trans hb hS.1
  · rw [hU]; exact hP
  · rw [hU]; exact (hE.moved hW.alike).kept hS.1 hS.2.1
section CALLS
variable {ι : ak_I} {y : MethodName} {b : ByteArray} {rt : Option FieldType} {M : ai_M} {d : Nat} {p : Program} {l : Launch} {e : Env} {R : Room} {s : State} {m : MethodId} {args : Array Value} {below : List Frame} {meth : Method} {c : Code} {pc : Nat} {sq : ai_Q} {jm : Nat → ai_Q} {κ : ai_K}
/-- behind a call -/
theorem ak_go {H : Heap} {locs : List Loc} {cells slots mc ms : Nat} {Q : State → Prop} {ls : Array Slot} {st0 rest : List Value} {ws : va_W} {outs : List ai_O} {a : Array Value} (hr : va_Run p l e R s m args below meth c H locs cells slots mc ms (F0 m pc ls st0) rest (ak_Q ι ws outs a) (ak_A ι)) (hS : va_S (ak_A ι) s.heap H locs)
    (kk : ∀ (o : ai_O) (v : Option Value) (u : va_W) (H1 : Heap) (locs1 : List Loc), o ∈ outs → ak_o ι (u.map Prod.fst) o.1 v → ak_h ι o.2.1 o.2.2.1 u → ak_e ι o.2.2.2 → ws.map Prod.fst <+: u.map Prod.fst → va_P ι.2.1 vwCl u H1 → va_D (ak_A ι) u → va_S (ak_A ι) s.heap H1 locs1 → W p l e R s m args below meth c H1 locs1 (cells + mc) (slots + ms) Q (F0 m (pc + 3) ls (v.toList ++ rest))) : W p l e R s m args below meth c H locs cells slots Q (F0 m pc ls st0) := by
  intro T hT X
  obtain ⟨v, st₀, t, T', L, h0, X', hL, e1, -, ⟨⟨o, ho, v', u, hv, q1, q2, q3, q4, q5, q6⟩, hz, hk⟩, st⟩ := hr T hT X
  cases hv
  rw [h0] at hz hk
  obtain ⟨t2, a1, b1⟩ := kk o v u T'.heap (locs ++ L) ho q1 q2 q3 q4 (by rw [e1]; exact q5) q6
    ⟨by rw [e1]; exact Nat.le_trans hS.1 hz, fun q z1 z2 => by rw [e1, hk q (Nat.lt_of_lt_of_le z1 hS.1) z2]; exact hS.2.1 q z1 z2, fun q hq => by
      rcases List.mem_append.mp hq with hq | hq
      · exact hS.2.2 q hq
      · exact hL q hq⟩ T' rfl X'
  exact ⟨t2, st t2 a1, b1⟩
/-- the words of a method, and its room -/
def ak_Wd (y : MethodName) (b : ByteArray) (nL : Nat) (rt : Option FieldType) : List Cond := .code y b nL rt :: ak_W
def ak_rm (d b1 b2 : Nat) : Room := { frames := d + 1, cells := b1, slots := b2, locals := 64 * (d + 1) }
theorem ak_good {y : MethodName} {b : ByteArray} {nL : Nat} {rt : Option FieldType} (h : Cond.code y b nL rt ∈ ak_W) : GoodIn ak_W (ak_Wd y b nL rt) := by
  have g : ∀ w ∈ ak_W, w ∈ ak_W ∧ ((w.onTables && w.keeps) = true ∨ ∃ ty, w = .arrayClass ty) := fun w hw => ⟨hw, good_of_word (List.mem_filter.mp hw).2⟩
  intro w hw
  rcases List.mem_cons.mp hw with rfl | hw
  · exact g _ h
  · exact g w hw
/-- how a method is called: mode 0 to 6 -/
def ak_md (mode : Nat) (own : String) (idx : Nat) (y : MethodName) (ci : Nat) : Prop :=
  (mode = 0 ∧ Cond.methodLink own idx y ∈ ak_W ∧ Cond.instanceMethod y ∈ ak_W ∧ Cond.selects y.cls y y ∈ ak_W ∧ ∃ q, vwCl[ci]? = some q ∧ q.1 = y.cls) ∨
  (mode = 1 ∧ (∃ host, Cond.methodLinkNest own idx y host ∈ lw_tbl) ∧ Cond.instanceMethod y ∈ ak_W ∧ Cond.selects y.cls y y ∈ ak_W ∧ ∃ q, vwCl[ci]? = some q ∧ q.1 = y.cls) ∨
  (mode = 2 ∧ Cond.methodLink own idx y ∈ ak_W ∧ Cond.instanceMethod y ∈ ak_W ∧ y.name = "<init>") ∨
  (mode = 3 ∧ (∃ host, Cond.methodLinkNest own idx y host ∈ lw_tbl) ∧ Cond.instanceMethod y ∈ ak_W ∧ y.name = "<init>") ∨
  ((mode = 4 ∨ mode = 5) ∧ Cond.methodLink own idx y ∈ ak_W ∧ Cond.static y ∈ ak_W) ∨
  (mode = 6 ∧ (∃ host, Cond.methodLinkNest own idx y host ∈ lw_tbl) ∧ Cond.static y ∈ ak_W)
/-- what the tables say of a method that is called -/
def ak_ym (y : MethodName) (b : ByteArray) (nL : Nat) (rt : Option FieldType) : Prop := Cond.code y b nL rt ∈ ak_W ∧ Cond.initialized y.cls ∈ ak_W ∧ y.cls ≠ "java/lang/invoke/MethodHandle" ∧ y.cls ≠ "java/lang/invoke/VarHandle" ∧ nL ≤ 45 ∧ plainFor y = true ∧ (y.name = "<init>" → rt = none)
theorem ah_run {mode idx ci k d' : Nat} {y' : MethodName} {b' : ByteArray} {rt' : Option FieldType} {M' : ai_M} {ws : va_W} {n : Nat} {hp : ai_H} {as : List ai_V} {avs rest : List Value} {H : Heap} {locs : List Loc} {cells slots : Nat} {ls : Array Slot} {outs : List ai_O} {w2 : ai_E × Nat × Nat} (C : ak_C ι y b rt M (d' + 1) p l e R s m args below meth c) (hy : ak_ym y' b' M'.1 rt') (hmd : ak_md mode y.cls idx y' ci) (hk : (parseMethodDescriptor y'.desc).map (fun d => d.parameters.length) = some (if mode ≤ 3 then k - 1 else k)) (hdec : (mode ≤ 1 ∧ decode b pc = .ok (.invokevirtual idx, 3)) ∨ (2 ≤ mode ∧ mode ≤ 3 ∧ decode b pc = .ok (.invokespecial idx, 3)) ∨ (4 ≤ mode ∧ decode b pc = .ok (.invokestatic idx, 3))) (hP : va_P ι.2.1 vwCl ws H) (hD : va_D (ak_A ι) ws) (hS : va_S (ak_A ι) s.heap H locs) (hh : ak_h ι n hp ws) (hlen : as.length = k) (hs : ak_s ι (ws.map Prod.fst) as.reverse avs) (hrcv : ai_rcv mode ci (n, hp, w2) as.reverse (some outs) = some outs) (hls : ls.size = M.1) (hsum : (rest.map fun v => v.category).sum ≤ 8) (hc : cells + M'.2.2.1 ≤ M.2.2.1) (hsl : slots + M'.2.2.2 ≤ M.2.2.2) (hM : Met l y' (ak_Wd y' b' M'.1 rt') (ak_rm d' M'.2.2.1 M'.2.2.2) (ak_Pc ι ws avs) (ak_Q ι ws outs) M'.2.2.1 M'.2.2.2 (ak_A ι)) : va_Run p l e R s m args below meth c H locs cells slots M'.2.2.1 M'.2.2.2 (F0 m pc ls (avs.reverse ++ rest)) rest (ak_Q ι ws outs avs.toArray) (ak_A ι) := by
  have pre := ak_pre C.2.2.1.1 C.2.2.1.2.1 C.2.2.1.2.2.1 C.2.2.1.2.2.2 hP hD hS avs
  have alen : avs.length = k := by
    have : ∀ {l : List ai_V} {k : List Value}, ak_s ι (ws.map Prod.fst) l k → k.length = l.length := by
      intro l
      induction l with
      | nil => intro k h; rw [ak_s_nil h]; rfl
      | cons a l ih => intro k h; obtain ⟨x, k, rfl, -, h⟩ := ak_s_cons h; simp [ih h]
    rw [this hs, List.length_reverse, hlen]
  have hR : (ak_rm d' M'.2.2.1 M'.2.2.2).frames + 1 ≤ R.frames ∧ 8 + (M'.1 + 11) + (ak_rm d' M'.2.2.1 M'.2.2.2).locals ≤ R.locals := by
    have r1 := C.2.2.2.1
    have r2 := C.2.2.2.2.1
    have r3 := hy.2.2.2.2.1
    exact ⟨r1, by show 8 + (M'.1 + 11) + 64 * (d' + 1) ≤ R.locals; omega⟩
  have hfix : CallFix p m c b M.1 s args ak_W y.cls := ⟨C.1.1, C.1.2.1, C.1.2.2.2, C.2.1.1, C.2.1.2.1⟩
  have hf : cells + M'.2.2.1 ≤ R.cells ∧ slots + M'.2.2.2 ≤ R.slots := ⟨by rw [C.2.2.2.2.2.1]; exact hc, by rw [C.2.2.2.2.2.2]; exact hsl⟩
  have hW : 2 * (F0 m pc ls (avs.reverse ++ rest)).monitorRoom + (rest.map fun v => v.category).sum ≤ 8 := lv_room hsum
  have hn1 : ∀ j : Nat, (parseMethodDescriptor y'.desc).map (fun d => d.parameters.length) = some j → (y'.cls ≠ "java/lang/invoke/MethodHandle" ∧ y'.cls ≠ "java/lang/invoke/VarHandle" ∧ (parseMethodDescriptor y'.desc).map (fun d => d.parameters.length) = some j) := fun j h => ⟨hy.2.2.1, hy.2.2.2.1, h⟩
  have hini := C.2.1.2.1 _ hy.2.1
  /- a receiver -/
  have recv : mode ≤ 3 → ∃ (v : ai_V) (q : Nat) (As : List Value), avs = .ref q :: As ∧ As.length = k - 1 ∧ (mode ≤ 1 → ∃ (v2 : Nat) (fs : List Value), ws[v2]? = some (q, .inr (ci, fs))) := by
    intro hm
    cases ha : as.reverse with
    | nil =>
      rw [ha] at hrcv
      simp only [ai_rcv, ak_if, Nat.ble_eq] at hrcv
      split at hrcv
      · cases hrcv
      · try rw [if_pos hm] at hrcv
        cases hrcv
    | cons v a' =>
      rw [ha] at hrcv hs
      obtain ⟨X, As, rfl, hx, -⟩ := ak_s_cons hs
      simp only [ai_rcv, ak_if, Nat.ble_eq, Nat.beq_eq, ak_and] at hrcv
      split at hrcv
      · rename_i hm1
        obtain ⟨h6, hlt, cl, a, el, hf, -, hw, hcc, href⟩ := ai_cel_some (w := (n, hp, w2)) hh hrcv
        split at hf
        · rename_i h0
          obtain rfl := href _ hx
          obtain ⟨fs, rfl, -, -⟩ := ak_c_obj hcc h0.1
          rw [h0.2] at hw
          exact ⟨v, a, As, rfl, by simp at alen; omega, fun _ => ⟨v.2, fs, hw⟩⟩
        · cases hf
      · rename_i hm1
        try rw [if_pos hm] at hrcv
        split at hrcv
        · rename_i h6
          obtain ⟨q, -, rfl⟩ := ak_v_cell hx h6
          exact ⟨v, q, As, rfl, by simp at alen; omega, fun h => absurd h hm1⟩
        · cases hrcv
  rcases hmd with ⟨rfl, a1, a2, a3, q, a4, a5⟩ | ⟨rfl, ⟨host, a1⟩, a2, a3, q, a4, a5⟩ | ⟨rfl, a1, a2, a3⟩ | ⟨rfl, ⟨host, a1⟩, a2, a3⟩ | ⟨hm, a1, a2⟩ | ⟨rfl, ⟨host, a1⟩, a2⟩
  · obtain ⟨v, qa, As, rfl, hAs, hob⟩ := recv (by omega)
    obtain ⟨v2, fs, hw⟩ := hob (by omega)
    have hdg : decode b pc = .ok (.invokevirtual idx, 3) := by rcases hdec with ⟨-, h⟩ | ⟨h, -⟩ | ⟨h, -⟩ <;> first | exact h | omega
    exact va_runV (As := As) (n := k - 1) (C := y'.cls) (index := idx) hfix hM ⟨callB_of (k - 1) C.2.1.2.1 (ak_good hy.1) rfl rfl rfl hini (C.2.1.2.1 _ a1) (hn1 _ (by simpa using hk)) hR, C.2.1.2.1 _ a2, C.2.1.2.1 _ a3⟩ ⟨ak_blind ι ws _, by rw [← a5]; exact va_recv C.2.2.1.1 hP a4 hw, pre⟩ rfl hAs hls (by simp) hW hdg hf
  · obtain ⟨v, qa, As, rfl, hAs, hob⟩ := recv (by omega)
    obtain ⟨v2, fs, hw⟩ := hob (by omega)
    have hdg : decode b pc = .ok (.invokevirtual idx, 3) := by rcases hdec with ⟨-, h⟩ | ⟨h, -⟩ | ⟨h, -⟩ <;> first | exact h | omega
    exact va_runVN (As := As) (n := k - 1) (C := y'.cls) (index := idx) (host := host) hfix hM ⟨va_cnB (k - 1) C.2.1.2.1 (ak_good hy.1) rfl rfl rfl (C.2.2.1.2.2.2.2.1 _ _ _ _ a1) hini (hn1 _ (by simpa using hk)) hR, C.2.1.2.1 _ a2, C.2.1.2.1 _ a3⟩ ⟨ak_blind ι ws _, by rw [← a5]; exact va_recv C.2.2.1.1 hP a4 hw, pre⟩ rfl hAs hls (by simp) hW hdg hf
  · obtain ⟨v, qa, As, rfl, hAs, -⟩ := recv (by omega)
    obtain rfl := hy.2.2.2.2.2.2 a3
    have hdg : decode b pc = .ok (.invokespecial idx, 3) := by rcases hdec with ⟨h, -⟩ | ⟨-, -, h⟩ | ⟨h, -⟩ <;> first | exact h | omega
    exact va_runI (As := As) (n := k - 1) (index := idx) hfix hM ⟨callB_of (k - 1) C.2.1.2.1 (ak_good hy.1) rfl rfl rfl hini (C.2.1.2.1 _ a1) (hn1 _ (by simpa using hk)) hR, a3, C.2.1.2.1 _ a2⟩ ⟨ak_blind ι ws _, pre⟩ rfl hAs hls (by simp) hW hdg hf
  · obtain ⟨v, qa, As, rfl, hAs, -⟩ := recv (by omega)
    obtain rfl := hy.2.2.2.2.2.2 a3
    have hdg : decode b pc = .ok (.invokespecial idx, 3) := by rcases hdec with ⟨h, -⟩ | ⟨-, -, h⟩ | ⟨h, -⟩ <;> first | exact h | omega
    exact va_runIN (As := As) (n := k - 1) (index := idx) (host := host) hfix hM ⟨va_cnB (k - 1) C.2.1.2.1 (ak_good hy.1) rfl rfl rfl (C.2.2.1.2.2.2.2.1 _ _ _ _ a1) hini (hn1 _ (by simpa using hk)) hR, a3, C.2.1.2.1 _ a2⟩ ⟨ak_blind ι ws _, pre⟩ rfl hAs hls (by simp) hW hdg hf
  · have hdg : decode b pc = .ok (.invokestatic idx, 3) := by rcases hdec with ⟨h, -⟩ | ⟨-, h, -⟩ | ⟨-, h⟩ <;> first | exact h | omega
    exact va_runS (As := avs) (n := k) (index := idx) hfix hM ⟨callB_of k C.2.1.2.1 (ak_good hy.1) rfl rfl rfl hini (C.2.1.2.1 _ a1) (hn1 _ (by rw [hk, if_neg (by omega)])) hR, C.2.1.2.1 _ a2⟩ ⟨ak_blind ι ws _, pre⟩ rfl alen hls rfl hW hdg hf
  · have hdg : decode b pc = .ok (.invokestatic idx, 3) := by rcases hdec with ⟨h, -⟩ | ⟨-, h, -⟩ | ⟨-, h⟩ <;> first | exact h | omega
    exact va_runSN (As := avs) (n := k) (index := idx) (host := host) hfix hM ⟨va_cnB k C.2.1.2.1 (ak_good hy.1) rfl rfl rfl (C.2.2.1.2.2.2.2.1 _ _ _ _ a1) hini (hn1 _ (by rw [hk, if_neg (by omega)])) hR, C.2.1.2.1 _ a2, trivial⟩ ⟨ak_blind ι ws _, pre⟩ rfl alen hls rfl hW hdg hf
end CALLS
