/-! ===== what the small machine's words stand for ===== -/
/-- from where on cells may be written, classes and slots, array classes by kind, constant things' cells, symbols' values, the cells that were there when the method began -/
abbrev ak_I : Type := Nat × va_G × (Nat → ClassId) × (Nat → Nat) × (Nat → Int32) × List Nat
abbrev ak_A (ι : ak_I) : Nat → Prop := fun q => ι.1 ≤ q
def ak_v (ι : ak_I) (ads : List Nat) (a : ai_V) (v : Value) : Prop :=
  (a.1 = 0 ∧ v = .int (nI a.2)) ∨ (a.1 = 1 ∧ v = .int (ι.2.2.2.2.1 a.2)) ∨ (a.1 = 2 ∧ ∃ x : Int32, v = .int x) ∨ (a.1 = 3 ∧ v = .long (lN a.2)) ∨ (a.1 = 4 ∧ ∃ x : Int64, v = .long x) ∨ (a.1 = 5 ∧ v = .null) ∨ (a.1 = 6 ∧ ∃ q : Nat, ads[a.2]? = some q ∧ v = .ref q) ∨ (a.1 = 7 ∧ v = .ref (ι.2.2.2.1 a.2))
def ak_e (ι : ak_I) (env : ai_E) : Prop := ∀ (k : Nat) (q : Nat × Nat), env[k]? = some q → q.1 ≤ ak_b (ι.2.2.2.2.1 k) ∧ ak_b (ι.2.2.2.2.1 k) ≤ q.2
def ak_n (ci : Nat) : Nat := (vwCl[ci]?).elim 0 (fun q => q.2.2)
def ak_fd (ci k : Nat) : String × String × String × Bool := (vwCl[ci]?).elim ("", "", "", false) (fun q => q.2.1 k)
def ak_el (e : va_E) (j : Nat) : Value := match e with
  | .inl (_, _, .inl f) => .int (f j)
  | .inl (_, _, .inr (.inl f)) => .long (f j)
  | .inl (_, _, .inr (.inr (.inl f))) => .float (f j)
  | .inl (_, _, .inr (.inr (.inr (.inl f)))) => .double (f j)
  | .inl (_, _, .inr (.inr (.inr (.inr f)))) => va_rf (f j)
  | .inr (_, fs) => vp_V fs j
def ak_sh (ι : ak_I) (c : ai_C) (e : va_E) : Prop :=
  (c.1 = 0 ∧ ∃ fs : List Value, e = .inr (c.2.1, fs) ∧ fs.length = ak_n c.2.1) ∨ (c.1 = 1 ∧ ∃ f : Nat → Int32, e = .inl (ι.2.2.1 1, c.2.1, .inl f)) ∨ (c.1 = 2 ∧ ∃ f : Nat → Int32, e = .inl (ι.2.2.1 2, c.2.1, .inl f) ∧ ∀ j, j < c.2.1 → fits .byte (.int (f j)) = true) ∨ (c.1 = 3 ∧ ∃ f : Nat → Int32, e = .inl (ι.2.2.1 3, c.2.1, .inl f)) ∨ (c.1 = 4 ∧ ∃ f : Nat → Int64, e = .inl (ι.2.2.1 4, c.2.1, .inr (.inl f))) ∨ (c.1 = 5 ∧ ∃ f : Nat → Option Nat, e = .inl (ι.2.2.1 5, c.2.1, .inr (.inr (.inr (.inr f))))) ∨ (c.1 = 6 ∧ ∃ f : Nat → Option Nat, e = .inl (ι.2.2.1 6, c.2.1, .inr (.inr (.inr (.inr f)))))
def ak_sz (c : ai_C) : Nat := if c.1 = 0 then ak_n c.2.1 else c.2.1
/-- a cell; of kind 9 nothing is said -/
def ak_c (ι : ak_I) (ads : List Nat) (c : ai_C) (e : va_E) : Prop := c.1 = 9 ∨ (ak_sh ι c e ∧ ∀ j, j < ak_sz c → ak_v ι ads (ak_rd c j) (ak_el e j))
def ak_h (ι : ak_I) (n : Nat) (h : ai_H) (ws : va_W) : Prop := h.length = n ∧ ws.length = n ∧ ∀ (k : Nat) (c : ai_C), k < n → h[n - (k + 1)]? = some c → ∃ q : Nat × va_E, ws[k]? = some q ∧ ak_c ι (ws.map Prod.fst) c q.2
def ak_l (ι : ak_I) (ads : List Nat) (loc : ai_L) (nL : Nat) (ls : Array Slot) : Prop := loc.length ≤ nL ∧ ∃ lv : List (Nat × Value), lv_has ls nL lv ∧ ∀ (i : Nat) (a : ai_V), loc[i]? = some a → a.1 ≤ 7 → ∃ v : Value, (i, v) ∈ lv ∧ ak_v ι ads a v ∧ v.category = 1
def ak_s (ι : ak_I) (ads : List Nat) : List ai_V → List Value → Prop
  | [], [] => True
  | a :: l, v :: k => ak_v ι ads a v ∧ ak_s ι ads l k
  | _, _ => False
/-- the array classes -/
def ak_T (ι : ak_I) : List (ClassId × FieldType) := [(ι.2.2.1 1, .int), (ι.2.2.1 2, .byte), (ι.2.2.1 3, .boolean), (ι.2.2.1 4, .long), (ι.2.2.1 5, .object "SpanCopier$Word"), (ι.2.2.1 6, .object "SpanCopier$World")]
def ak_ors : List (String × String × String × List Int32) := [("java/lang/Enum", "ordinal", "I", (List.range 38).map nI)]
def ak_st (j : Nat) : String × String × String := ak_sts.getD j ("", "", "")
/-- constant things, and the script -/
def ak_S (ι : ak_I) (U : State) (H : Heap) : Prop :=
  va_En "SpanCopier$Word" "LSpanCopier$Word;" ak_nm ak_ors ι.2.2.2.1 (ak_A ι) U H ∧ (∀ (j : Nat) (l : List Nat), ai_sar j = some l → va_Z (ak_st j).1 (ak_st j).2.1 (ak_st j).2.2 (.ref (ι.2.2.2.1 j)) (ak_A ι) U H ∧ va_T .int (ι.2.2.2.1 j) l.length (fun i => .int (nI (l.getD i 0))) (ak_A ι) U H) ∧ (va_Z (ak_st 42).1 (ak_st 42).2.1 (ak_st 42).2.2 (.ref (ι.2.2.2.1 42)) (ak_A ι) U H ∧ va_T .byte (ι.2.2.2.1 42) 0 (fun _ => .int 0) (ak_A ι) U H) ∧
  ∃ (L : Nat) (xs : Nat → Int32), va_X (ι.2.2.2.1 45) L xs U H ∧ ι.2.2.2.1 45 < ι.1 ∧ ι.2.2.2.1 45 < H.size ∧ L ≤ 6 ∧ ι.2.2.2.2.1 7 = Int32.ofNat L ∧ (∀ k, k < L → ι.2.2.2.2.1 k = xs k) ∧ ι.2.2.2.2.1 6 = ι.2.2.2.2.1 0 &&& 63
/-- words that calls don't hand on by themselves -/
def ak_Nw (U : State) : Prop := (∀ (a : String) (i : Nat) (b n d h : String), Cond.fieldLinkNest a i b n d h ∈ lw_tbl → va_Nw (.fieldLinkNest a i b n d h) U) ∧ (∀ (a : String) (i : Nat) (x : MethodName) (h : String), Cond.methodLinkNest a i x h ∈ lw_tbl → va_Nw (.methodLinkNest a i x h) U) ∧ va_AO "SpanCopier$Word" U ∧ va_AO "SpanCopier$World" U
abbrev ak_Fr : Type := Program × Launch × Env × Room × State × MethodId × Array Value × List Frame × Method × Code
abbrev ak_WW (φ : ak_Fr) (H : Heap) (locs : List Loc) (nc ns : Nat) (Q : State → Prop) (g : JFrame) : Prop := W φ.1 φ.2.1 φ.2.2.1 φ.2.2.2.1 φ.2.2.2.2.1 φ.2.2.2.2.2.1 φ.2.2.2.2.2.2.1 φ.2.2.2.2.2.2.2.1 φ.2.2.2.2.2.2.2.2.1 φ.2.2.2.2.2.2.2.2.2 H locs nc ns Q g
/-- a state of the small machine and one of the machine -/
def ak_M (ι : ak_I) (s : State) (nL : Nat) (loc : ai_L) (stk : List ai_V) (w : ai_W) (ws : va_W) (ls : Array Slot) (st : List Value) (H : Heap) (locs : List Loc) : Prop :=
  va_P ι.2.1 vwCl ws H ∧ (va_D (ak_A ι) ws ∧ ι.2.2.2.2.2 <+: ws.map Prod.fst) ∧ va_S (ak_A ι) s.heap H locs ∧ ak_h ι w.1 w.2.1 ws ∧ ak_l ι (ws.map Prod.fst) loc nL ls ∧ ak_s ι (ws.map Prod.fst) stk st ∧ ak_e ι w.2.2.1
/-- the frame of a method: its name, its bytes, what it answers -/
def ak_C (ι : ak_I) (y : MethodName) (b : ByteArray) (rt : Option FieldType) (M : ai_M) (d : Nat) (p : Program) (l : Launch) (e : Env) (R : Room) (s : State) (m : MethodId) (args : Array Value) (below : List Frame) (meth : Method) (c : Code) : Prop :=
  (p.tables.exec = Jvm.exec ∧ c.code = b ∧ meth.sig.returnType = rt ∧ c.maxLocals = M.1) ∧ (s.vm.findClass y.cls = some m.cls ∧ (∀ w ∈ ak_W, w.before args s = true) ∧ meth.locks = false ∧ meth.name = y.name) ∧ (va_K ι.2.1 vwCl (ak_T ι) s ∧ ak_S ι s s.heap ∧ ι.1 ≤ s.heap.size ∧ ak_Nw s) ∧ (d + 1 ≤ R.frames ∧ 64 * (d + 1) ≤ R.locals ∧ R.cells = M.2.2.1 ∧ R.slots = M.2.2.2)
/-- what an end owes -/
def ak_End (ι : ak_I) (M : ai_M) (φ : ak_Fr) (Q : State → Prop) (o : ai_O) : Prop :=
  ∀ (ws : va_W) (ls : Array Slot) (H : Heap) (locs : List Loc) (pc nc ns : Nat) (v : Option Value), nc ≤ M.2.2.1 → ns ≤ M.2.2.2 → va_P ι.2.1 vwCl ws H → va_D (ak_A ι) ws → ι.2.2.2.2.2 <+: ws.map Prod.fst → va_S (ak_A ι) φ.2.2.2.2.1.heap H locs → ak_h ι o.2.1 o.2.2.1 ws → ak_e ι o.2.2.2 →
    ((o.1 = none ∧ v = none ∧ φ.2.2.2.2.2.2.2.2.1.sig.returnType = none ∧ decode φ.2.2.2.2.2.2.2.2.2.code pc = .ok (.return_, 1)) ∨ (∃ (a : ai_V) (x : Int32), o.1 = some a ∧ v = some (.int x) ∧ ak_v ι (ws.map Prod.fst) a (.int x) ∧ (∃ ty, φ.2.2.2.2.2.2.2.2.1.sig.returnType = some ty ∧ narrow ty (.int x) = .int x) ∧ decode φ.2.2.2.2.2.2.2.2.2.code pc = .ok (.ireturn, 1)) ∨ (∃ (a : ai_V) (x : Value), o.1 = some a ∧ v = some x ∧ (x = .null ∨ ∃ q, x = .ref q) ∧ ak_v ι (ws.map Prod.fst) a x ∧ (∃ ty, φ.2.2.2.2.2.2.2.2.1.sig.returnType = some ty ∧ ((∃ n, ty = .object n) ∨ ∃ t, ty = .array t)) ∧ decode φ.2.2.2.2.2.2.2.2.2.code pc = .ok (.areturn, 1)) ∨ (∃ k : Nat, o.1 = some (8, k) ∧ v = none ∧ pc = k ∧ ls.size = M.1 ∧ nc = 0 ∧ ns = 0)) →
    ak_WW φ H locs nc ns Q (F0 φ.2.2.2.2.2.1 pc ls v.toList)
/-- to go on at pc as f does is sound -/
def ak_Snd (ι : ak_I) (M : ai_M) (φ : ak_Fr) (pc : Nat) (f : ai_Q) : Prop :=
  ∀ (loc : ai_L) (stk : List ai_V) (w : ai_W) (outs : List ai_O), f loc stk w = some outs → ∀ Q : State → Prop, (∀ o ∈ outs, ak_End ι M φ Q o) → ∀ (ws : va_W) (ls : Array Slot) (st : List Value) (H : Heap) (locs : List Loc), ak_M ι φ.2.2.2.2.1 M.1 loc stk w ws ls st H locs → ak_WW φ H locs w.2.2.2.1 w.2.2.2.2 Q (F0 φ.2.2.2.2.2.1 pc ls st)
/-! ===== values ===== -/
theorem ak_v_int {ι : ak_I} {ads : List Nat} {a : ai_V} {v : Value} (h : ak_v ι ads a v) (ha : a.1 ≤ 2) : ∃ x : Int32, v = .int x ∧ (a.1 = 0 → x = nI a.2) ∧ (a.1 = 1 → x = ι.2.2.2.2.1 a.2) := by
  rcases h with ⟨h, e⟩ | ⟨h, e⟩ | ⟨h, x, e⟩ | ⟨h, e⟩ | ⟨h, x, e⟩ | ⟨h, e⟩ | ⟨h, x, e⟩ | ⟨h, e⟩ <;> first | omega | exact ⟨_, e, fun h0 => by first | rfl | omega, fun h1 => by first | rfl | omega⟩
theorem ak_v_ref {ι : ak_I} {ads : List Nat} {a : ai_V} {v : Value} (h : ak_v ι ads a v) (h5 : 5 ≤ a.1) : v = .null ∧ a.1 = 5 ∨ (∃ q : Nat, v = .ref q) ∧ (a.1 = 6 ∨ a.1 = 7) := by
  rcases h with ⟨h, e⟩ | ⟨h, e⟩ | ⟨h, x, e⟩ | ⟨h, e⟩ | ⟨h, x, e⟩ | ⟨h, e⟩ | ⟨h, x, -, e⟩ | ⟨h, e⟩ <;> first | omega | exact Or.inl ⟨e, h⟩ | exact Or.inr ⟨⟨_, e⟩, Or.inl h⟩ | exact Or.inr ⟨⟨_, e⟩, Or.inr h⟩
theorem ak_v_cell {ι : ak_I} {ads : List Nat} {a : ai_V} {v : Value} (h : ak_v ι ads a v) (ha : a.1 = 6) : ∃ q : Nat, ads[a.2]? = some q ∧ v = .ref q := by
  rcases h with ⟨h, e⟩ | ⟨h, e⟩ | ⟨h, x, e⟩ | ⟨h, e⟩ | ⟨h, x, e⟩ | ⟨h, e⟩ | ⟨h, x, e⟩ | ⟨h, e⟩ <;> first | omega | exact ⟨x, e⟩
theorem ak_v_const {ι : ak_I} {ads : List Nat} {a : ai_V} {v : Value} (h : ak_v ι ads a v) (ha : a.1 = 7) : v = .ref (ι.2.2.2.1 a.2) := by
  rcases h with ⟨h, e⟩ | ⟨h, e⟩ | ⟨h, x, e⟩ | ⟨h, e⟩ | ⟨h, x, e⟩ | ⟨h, e⟩ | ⟨h, x, e⟩ | ⟨h, e⟩ <;> first | omega | exact e
theorem ak_v_long {ι : ak_I} {ads : List Nat} {a : ai_V} {v : Value} (h : ak_v ι ads a v) (h3 : 3 ≤ a.1) (h4 : a.1 ≤ 4) : ∃ x : Int64, v = .long x ∧ (a.1 = 3 → x = lN a.2) := by
  rcases h with ⟨h, e⟩ | ⟨h, e⟩ | ⟨h, x, e⟩ | ⟨h, e⟩ | ⟨h, x, e⟩ | ⟨h, e⟩ | ⟨h, x, e⟩ | ⟨h, e⟩ <;> first | omega | exact ⟨_, e, fun _ => by first | rfl | omega⟩
theorem ak_v_cat {ι : ak_I} {ads : List Nat} {a : ai_V} {v : Value} (h : ak_v ι ads a v) : v.category = ai_cat a := by
  have hc : ai_cat a = if ai_in 3 4 a = true then 2 else 1 := ak_if _ _ _
  have hi : (ai_in 3 4 a = true) = (3 ≤ a.1 ∧ a.1 ≤ 4) := by
    have : ai_in 3 4 a = if Nat.ble 3 a.1 = true then Nat.ble a.1 4 else false := ak_if _ _ _
    rw [this, ak_and, Nat.ble_eq, Nat.ble_eq]
  rw [hc]
  simp only [hi]
  rcases h with ⟨h, e⟩ | ⟨h, e⟩ | ⟨h, x, e⟩ | ⟨h, e⟩ | ⟨h, x, e⟩ | ⟨h, e⟩ | ⟨h, x, -, e⟩ | ⟨h, e⟩ <;> rw [e, h] <;> simp [Value.category]
theorem ai_in_iff (lo hi : Nat) (v : ai_V) : (ai_in lo hi v = true) = (lo ≤ v.1 ∧ v.1 ≤ hi) := by
  have : ai_in lo hi v = if Nat.ble lo v.1 = true then Nat.ble v.1 hi else false := ak_if _ _ _
  rw [this, ak_and, Nat.ble_eq, Nat.ble_eq]
theorem ak_v_mono {ι : ak_I} {ads ads' : List Nat} (hp : ads <+: ads') {a : ai_V} {v : Value} (h : ak_v ι ads a v) : ak_v ι ads' a v := by
  rcases h with h | h | h | h | h | h | ⟨h, q, e1, e2⟩ | h
  · exact Or.inl h
  · exact Or.inr (Or.inl h)
  · exact Or.inr (Or.inr (Or.inl h))
  · exact Or.inr (Or.inr (Or.inr (Or.inl h)))
  · exact Or.inr (Or.inr (Or.inr (Or.inr (Or.inl h))))
  · exact Or.inr (Or.inr (Or.inr (Or.inr (Or.inr (Or.inl h)))))
  · refine Or.inr (Or.inr (Or.inr (Or.inr (Or.inr (Or.inr (Or.inl ⟨h, q, ?_, e2⟩))))))
    obtain ⟨t, rfl⟩ := hp
    rw [List.getElem?_append_left ((List.getElem?_eq_some_iff.mp e1).1)]
    exact e1
  · exact Or.inr (Or.inr (Or.inr (Or.inr (Or.inr (Or.inr (Or.inr h))))))
theorem ak_s_mono {ι : ak_I} {ads ads' : List Nat} (hp : ads <+: ads') : ∀ {l : List ai_V} {k : List Value}, ak_s ι ads l k → ak_s ι ads' l k
  | [], [], _ => trivial
  | _ :: _, _ :: _, h => ⟨ak_v_mono hp h.1, ak_s_mono hp h.2⟩
  | [], _ :: _, h => h
  | _ :: _, [], h => h
theorem ak_l_mono {ι : ak_I} {ads ads' : List Nat} (hp : ads <+: ads') {loc : ai_L} {nL : Nat} {ls : Array Slot} (h : ak_l ι ads loc nL ls) : ak_l ι ads' loc nL ls := by
  obtain ⟨h1, lv, h2, h3⟩ := h
  refine ⟨h1, lv, h2, fun i a hi ha => ?_⟩
  obtain ⟨v, m1, m2, m3⟩ := h3 i a hi ha
  exact ⟨v, m1, ak_v_mono hp m2, m3⟩
theorem ak_c_mono {ι : ak_I} {ads ads' : List Nat} (hp : ads <+: ads') {c : ai_C} {e : va_E} (h : ak_c ι ads c e) : ak_c ι ads' c e := by
  rcases h with h | ⟨h1, h2⟩
  · exact Or.inl h
  · exact Or.inr ⟨h1, fun j hj => ak_v_mono hp (h2 j hj)⟩
/-- a symbol of one value -/
theorem ai_res_eq {α : Type} (ι : ak_I) (env : ai_E) (he : ak_e ι env) (v : ai_V) (f : ai_V → α) : ∃ u : ai_V, ai_res env v f = f u ∧ (∀ ads x, ak_v ι ads v x → ak_v ι ads u x) ∧ (1 < v.1 → u = v) ∧ (v.1 ≤ 2 → u.1 ≤ 2) := by
  obtain ⟨t, k⟩ := v
  have h : ai_res env (t, k) f = (@Bool.rec (fun _ => α) (f (t, k)) (ai_nth env (f (t, k)) (fun q => @Prod.rec _ _ (fun _ => α) (fun lo hi => @Bool.rec (fun _ => α) (f (t, k)) (ai_nt (ai_b lo) (fun n => f (0, n))) (Nat.beq lo hi)) q) k) (Nat.beq t 1)) := rfl
  rw [h, ak_if, ai_nth_eq]
  by_cases ht : t = 1
  · subst ht
    simp only [Nat.beq_eq, if_true]
    cases hk : env[k]? with
    | none => exact ⟨(1, k), rfl, fun _ _ h => h, fun _ => rfl, fun h => h⟩
    | some q =>
      obtain ⟨lo, hi⟩ := q
      simp only [Option.elim, ak_if, Nat.beq_eq, ai_nt_eq]
      by_cases e : lo = hi
      · subst e
        refine ⟨(0, ai_b lo), by simp, fun ads x hx => ?_, fun h => absurd h (by simp), fun _ => by simp⟩
        obtain ⟨b1, b2⟩ := he k (lo, lo) hk
        have eb : ak_b (ι.2.2.2.2.1 k) = lo := Nat.le_antisymm b2 b1
        obtain ⟨z, rfl, -, h1⟩ := ak_v_int hx (by simp)
        refine Or.inl ⟨rfl, ?_⟩
        have hz := h1 rfl
        dsimp only at hz ⊢
        rw [hz, ← eb, ← ak_of_b]
      · exact ⟨(1, k), by simp [e], fun _ _ h => h, fun _ => rfl, fun h => h⟩
  · have : ¬ (Nat.beq t 1 = true) := by rw [Nat.beq_eq]; exact ht
    exact ⟨(t, k), by simp [this], fun _ _ h => h, fun _ => rfl, fun h => h⟩
/-! ===== states ===== -/
theorem ak_M.restk {ι : ak_I} {s : State} {nL : Nat} {loc : ai_L} {stk stk' : List ai_V} {w : ai_W} {ws : va_W} {ls : Array Slot} {st st' : List Value} {H : Heap} {locs : List Loc} (h : ak_M ι s nL loc stk w ws ls st H locs) (hs : ak_s ι (ws.map Prod.fst) stk' st') : ak_M ι s nL loc stk' w ws ls st' H locs :=
  ⟨h.1, h.2.1, h.2.2.1, h.2.2.2.1, h.2.2.2.2.1, hs, h.2.2.2.2.2.2⟩
theorem ak_M.push {ι : ak_I} {s : State} {nL : Nat} {loc : ai_L} {stk : List ai_V} {w : ai_W} {ws : va_W} {ls : Array Slot} {st : List Value} {H : Heap} {locs : List Loc} {a : ai_V} {x : Value} (h : ak_M ι s nL loc stk w ws ls st H locs) (hv : ak_v ι (ws.map Prod.fst) a x) : ak_M ι s nL loc (a :: stk) w ws ls (x :: st) H locs := h.restk ⟨hv, h.2.2.2.2.2.1⟩
theorem ak_M.reloc {ι : ak_I} {s : State} {nL : Nat} {loc loc' : ai_L} {stk : List ai_V} {w : ai_W} {ws : va_W} {ls ls' : Array Slot} {st : List Value} {H : Heap} {locs : List Loc} (h : ak_M ι s nL loc stk w ws ls st H locs) (hl : ak_l ι (ws.map Prod.fst) loc' nL ls') : ak_M ι s nL loc' stk w ws ls' st H locs :=
  ⟨h.1, h.2.1, h.2.2.1, h.2.2.2.1, hl, h.2.2.2.2.2.1, h.2.2.2.2.2.2⟩
theorem ak_M.reenv {ι : ak_I} {s : State} {nL : Nat} {loc : ai_L} {stk : List ai_V} {n : Nat} {hp : ai_H} {env env' : ai_E} {cs : Nat × Nat} {ws : va_W} {ls : Array Slot} {st : List Value} {H : Heap} {locs : List Loc} (h : ak_M ι s nL loc stk (n, hp, env, cs) ws ls st H locs) (he : ak_e ι env') : ak_M ι s nL loc stk (n, hp, env', cs) ws ls st H locs :=
  ⟨h.1, h.2.1, h.2.2.1, h.2.2.2.1, h.2.2.2.2.1, h.2.2.2.2.2.1, he⟩
/-- a stack that is not empty -/
theorem ak_s_cons {ι : ak_I} {ads : List Nat} {a : ai_V} {l : List ai_V} {st : List Value} (h : ak_s ι ads (a :: l) st) : ∃ (x : Value) (k : List Value), st = x :: k ∧ ak_v ι ads a x ∧ ak_s ι ads l k := by
  cases st with
  | nil => exact h.elim
  | cons x k => exact ⟨x, k, rfl, h.1, h.2⟩
theorem ak_s_nil {ι : ak_I} {ads : List Nat} {st : List Value} (h : ak_s ι ads [] st) : st = [] := by
  cases st with
  | nil => rfl
  | cons x k => exact h.elim
