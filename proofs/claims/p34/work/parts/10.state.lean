/-! ===== states with meaning: cells by their places, kinds, what they hold ===== -/
/-- ints and references by cell and place -/
abbrev bh : Type := (Nat → Nat → Int) × (Nat → Nat → Option Nat)
/-- a cell's kind (0: none of ours), its length.
kinds: 1 + the number of its class in vwCl; arrays, of the class's 21 int, 22 byte, 23 boolean, 24 long, 25 Word, 26 World, of the reference's and the law's 41 int, 43 boolean, 44 long; 30 a Word, 31 a constant int[], 33 Word.ALL -/
abbrev bt : Type := (Nat → Nat) × (Nat → Nat)
/-- from where on cells may be written, classes and slots, array classes by kind, constant things' cells -/
abbrev bI : Type := Nat × va_G × (Nat → ClassId) × (Nat → Nat)
abbrev bA (ι : bI) : Nat → Prop := fun q => ι.1 ≤ q
def bz (z : Int) : Int32 := Int32.ofInt z
def brg (z : Int) : Prop := -2147483648 ≤ z ∧ z ≤ 2147483647
theorem bz_toInt {z : Int} (h : brg z) : (bz z).toInt = z := by
  unfold bz
  rw [Int32.toInt_ofInt]
  obtain ⟨h1, h2⟩ := h
  rw [Int.bmod_def, show ((Int32.size : Nat) : Int) = 4294967296 from rfl]
  split <;> omega
theorem bz_of (x : Int32) : x = bz x.toInt := (Int32.ofInt_toInt x).symm
theorem brg_of (x : Int32) : brg x.toInt := ⟨Int32.le_toInt x, by have := Int32.toInt_lt x; omega⟩
theorem bz_add (x y : Int) : bz x + bz y = bz (x + y) := (Int32.ofInt_add x y).symm
theorem bz_sub (x y : Int) : bz x - bz y = bz (x - y) := (Int32.ofInt_sub x y).symm
theorem bz_mul (x y : Int) : bz x * bz y = bz (x * y) := (Int32.ofInt_mul x y).symm
theorem bz_lt {x y : Int} (hx : brg x) (hy : brg y) : bz x < bz y ↔ x < y := by rw [Int32.lt_iff_toInt_lt, bz_toInt hx, bz_toInt hy]
theorem bz_eq {x y : Int} (hx : brg x) (hy : brg y) : bz x = bz y ↔ x = y := by
  constructor
  · intro h
    have := congrArg Int32.toInt h
    rwa [bz_toInt hx, bz_toInt hy] at this
  · intro h; rw [h]
/-- one and the same number, brought into its bounds -/
theorem bz_norm (z : Int) : ∃ u : Int, brg u ∧ bz z = bz u ∧ ∃ t : Int, u = z - 4294967296 * t := by
  refine ⟨(bz z).toInt, brg_of _, bz_of _, ?_⟩
  unfold bz
  rw [Int32.toInt_ofInt]
  rw [Int.bmod_def, show ((Int32.size : Nat) : Int) = 4294967296 from rfl]
  split
  · exact ⟨z / 4294967296, by omega⟩
  · exact ⟨z / 4294967296 + 1, by omega⟩
def bn (ci : Nat) : Nat := (vwCl[ci]?).elim 0 (fun q => q.2.2)
def bfd (ci k : Nat) : String × String × String × Bool := (vwCl[ci]?).elim ("", "", "", false) (fun q => q.2.1 k)
/-- a field's type: 0 int, 1 boolean, 2 a reference, 3 long -/
def bfk (ci k : Nat) : Nat := match parseFieldDescriptor (bfd ci k).2.2.1 with
  | some .int => 0
  | some .boolean => 1
  | some .long => 3
  | _ => 2
def bfv (tc : Nat) (v : Value) (z : Int) (o : Option Nat) : Prop := ((tc = 0 ∨ tc = 1) ∧ v = .int (bz z) ∧ brg z) ∨ (tc = 2 ∧ v = va_rf o) ∨ (tc = 3 ∧ ∃ y : Int64, v = .long y)
/-- constant arrays of ints -/
def bsar (j : Nat) : Option (List Nat) := if j = 40 then some [8, 1, 2, 12, 3, 1] else if j = 41 then some [32, 2, 9, 60, 9, 60] else if j = 43 then some b_sw else none
def bcell (ι : bI) (τ : bt) (h : bh) (ws : va_W) (a : Nat) : Prop :=
  (τ.1 a ≤ 20 ∧ ∃ (k : Nat) (fs : List Value), ws[k]? = some (a, .inr (τ.1 a - 1, fs)) ∧ fs.length = bn (τ.1 a - 1) ∧ ∀ i, i < fs.length → bfv (bfk (τ.1 a - 1) i) (vp_V fs i) (h.1 a i) (h.2 a i)) ∨
  ((21 ≤ τ.1 a ∧ 1 ≤ τ.1 a % 20 ∧ τ.1 a % 20 ≤ 3) ∧ ∃ (k : Nat) (f : Nat → Int32), ws[k]? = some (a, .inl (ι.2.2.1 (τ.1 a % 20), τ.2 a, .inl f)) ∧ τ.2 a ≤ 30000 ∧ (τ.1 a % 20 = 2 → ∀ i, i < τ.2 a → fits .byte (.int (f i)) = true) ∧ ∀ i, i < τ.2 a → (f i).toInt = h.1 a i) ∨
  ((21 ≤ τ.1 a ∧ τ.1 a % 20 = 4) ∧ ∃ (k : Nat) (f : Nat → Int64), ws[k]? = some (a, .inl (ι.2.2.1 4, τ.2 a, .inr (.inl f))) ∧ τ.2 a ≤ 30000) ∨
  ((21 ≤ τ.1 a ∧ (τ.1 a % 20 = 5 ∨ τ.1 a % 20 = 6)) ∧ ∃ (k : Nat) (f : Nat → Option Nat), ws[k]? = some (a, .inl (ι.2.2.1 (τ.1 a % 20), τ.2 a, .inr (.inr (.inr (.inr f))))) ∧ τ.2 a ≤ 30000 ∧ ∀ i, i < τ.2 a → f i = h.2 a i) ∨
  (τ.1 a = 30 ∧ ∃ i : Nat, i < 38 ∧ a = ι.2.2.2 i ∧ h.1 a 0 = i) ∨
  (τ.1 a = 31 ∧ ∃ (j : Nat) (l : List Nat), bsar j = some l ∧ a = ι.2.2.2 j ∧ τ.2 a = l.length ∧ ∀ i, i < l.length → h.1 a i = l.getD i 0) ∨
  (τ.1 a = 22 ∧ a = ι.2.2.2 42 ∧ τ.2 a = 0)
/-- the array classes -/
def bT (ι : bI) : List (ClassId × FieldType) := [(ι.2.2.1 1, .int), (ι.2.2.1 2, .byte), (ι.2.2.1 3, .boolean), (ι.2.2.1 4, .long), (ι.2.2.1 5, .object "SpanCopier$Word"), (ι.2.2.1 6, .object "SpanCopier$World")]
def b_ors : List (String × String × String × List Int32) := [("java/lang/Enum", "ordinal", "I", (List.range 38).map (fun i : Nat => bz (i : Int)))]
def bst (j : Nat) : String × String × String := b_sts.getD j ("", "", "")
/-- constant things -/
def bS (ι : bI) (U : State) (H : Heap) : Prop :=
  va_En "SpanCopier$Word" "LSpanCopier$Word;" b_nm b_ors ι.2.2.2 (bA ι) U H ∧ (∀ (j : Nat) (l : List Nat), bsar j = some l → va_Z (bst j).1 (bst j).2.1 (bst j).2.2 (.ref (ι.2.2.2 j)) (bA ι) U H ∧ va_T .int (ι.2.2.2 j) l.length (fun i => .int (bz ((l.getD i 0 : Nat) : Int))) (bA ι) U H) ∧ (va_Z (bst 42).1 (bst 42).2.1 (bst 42).2.2 (.ref (ι.2.2.2 42)) (bA ι) U H ∧ va_T .byte (ι.2.2.2 42) 0 (fun _ => .int 0) (bA ι) U H)
/-- words that calls don't hand on by themselves -/
def bNw (U : State) : Prop := (∀ (a : String) (i : Nat) (b n d h : String), Cond.fieldLinkNest a i b n d h ∈ lw_tbl → va_Nw (.fieldLinkNest a i b n d h) U) ∧ (∀ (a : String) (i : Nat) (x : MethodName) (h : String), Cond.methodLinkNest a i x h ∈ lw_tbl → va_Nw (.methodLinkNest a i x h) U) ∧ va_AO "SpanCopier$Word" U ∧ va_AO "SpanCopier$World" U
abbrev bFr : Type := Program × Launch × Env × Room × State × MethodId × Array Value × List Frame × Method × Code
abbrev bWW (φ : bFr) (H : Heap) (locs : List Loc) (nc ns : Nat) (Q : State → Prop) (g : JFrame) : Prop := W φ.1 φ.2.1 φ.2.2.1 φ.2.2.2.1 φ.2.2.2.2.1 φ.2.2.2.2.2.1 φ.2.2.2.2.2.2.1 φ.2.2.2.2.2.2.2.1 φ.2.2.2.2.2.2.2.2.1 φ.2.2.2.2.2.2.2.2.2 H locs nc ns Q g
/-- locals: what is known of them -/
def blo (lo : List (Option Value)) (nL : Nat) (ls : Array Slot) : Prop := lo.length ≤ nL ∧ ∃ lv : List (Nat × Value), lv_has ls nL lv ∧ ∀ (i : Nat) (v : Value), lo[i]? = some (some v) → (i, v) ∈ lv
/-- the machine's state beside one with meaning -/
def bM (ι : bI) (s : State) (nL : Nat) (lo : List (Option Value)) (τ : bt) (h : bh) (ws : va_W) (ls : Array Slot) (H : Heap) (locs : List Loc) : Prop :=
  va_P ι.2.1 vwCl ws H ∧ va_D (bA ι) ws ∧ va_S (bA ι) s.heap H locs ∧ (∀ a, τ.1 a ≠ 0 → bcell ι τ h ws a) ∧ blo lo nL ls
/-- a frame and what is asked at its end: places, frame, locals, end -/
abbrev bG : Type := bI × bFr × Nat × (State → Prop)
def bJ (γ : bG) (pc : Nat) (lo : List (Option Value)) (st : List Value) (τ : bt) (h : bh) (nc ns : Nat) : Prop :=
  ∀ (ws : va_W) (ls : Array Slot) (H : Heap) (locs : List Loc), bM γ.1 γ.2.1.2.2.2.2.1 γ.2.2.1 lo τ h ws ls H locs → bWW γ.2.1 H locs nc ns γ.2.2.2 (F0 γ.2.1.2.2.2.2.2.1 pc ls st)
/-- a method's name, bytes, what it answers -/
abbrev bY : Type := MethodName × ByteArray × Option FieldType
/-- the frame of a method; d: how deep calls may go; b1, b2: cells and slots that it may make -/
def bC (γ : bG) (y : bY) (d b1 b2 : Nat) : Prop :=
  (γ.2.1.1.tables.exec = Jvm.exec ∧ γ.2.1.2.2.2.2.2.2.2.2.2.code = y.2.1 ∧ γ.2.1.2.2.2.2.2.2.2.2.1.sig.returnType = y.2.2 ∧ γ.2.1.2.2.2.2.2.2.2.2.2.maxLocals = γ.2.2.1) ∧
  (γ.2.1.2.2.2.2.1.vm.findClass y.1.cls = some γ.2.1.2.2.2.2.2.1.cls ∧ (∀ w ∈ bW, w.before γ.2.1.2.2.2.2.2.2.1 γ.2.1.2.2.2.2.1 = true) ∧ γ.2.1.2.2.2.2.2.2.2.2.1.locks = false ∧ γ.2.1.2.2.2.2.2.2.2.2.1.name = y.1.name) ∧
  (va_K γ.1.2.1 vwCl (bT γ.1) γ.2.1.2.2.2.2.1 ∧ bS γ.1 γ.2.1.2.2.2.2.1 γ.2.1.2.2.2.2.1.heap ∧ γ.1.1 ≤ γ.2.1.2.2.2.2.1.heap.size ∧ bNw γ.2.1.2.2.2.2.1) ∧
  (d + 1 ≤ γ.2.1.2.2.2.1.frames ∧ 64 * (d + 1) ≤ γ.2.1.2.2.2.1.locals ∧ γ.2.1.2.2.2.1.cells = b1 ∧ γ.2.1.2.2.2.1.slots = b2)
