/-! ===== rows: instructions without cells ===== -/
section BROWS
variable {γ : bG} {y : bY} {d b1 b2 pc : Nat} {lo lo' : List (Option Value)} {st : List Value} {τ : bt} {h : bh} {nc ns : Nat}
/-- a local that is known -/
theorem blo_at {nL i : Nat} {ls : Array Slot} {v : Value} (hl : blo lo nL ls) (hi : lo[i]? = some (some v)) : ls[i]? = some (.val v) := by
  obtain ⟨-, lv, h1, h2⟩ := hl
  exact h1.2.2 _ (h2 i v hi)
theorem b_iconst {n : Int} (C : bC γ y d b1 b2) (hd : decode y.2.1 pc = .ok (.iconst n, 1)) (k : bJ γ (pc + 1) lo (.int (bz n) :: st) τ h nc ns) : bJ γ pc lo st τ h nc ns := fun ws ls H locs hM => lv_iconst C.1.1 C.1.2.1 hd rfl (k ws ls H locs hM)
theorem b_bipush {n : Int} (C : bC γ y d b1 b2) (hd : decode y.2.1 pc = .ok (.bipush n, 2)) (hn : -128 ≤ n ∧ n ≤ 127) (k : bJ γ (pc + 2) lo (.int (bz n) :: st) τ h nc ns) : bJ γ pc lo st τ h nc ns := by
  intro ws ls H locs hM
  refine lv_bipush C.1.1 C.1.2.1 hd ?_ (k ws ls H locs hM)
  unfold bz
  apply Int32.toInt_inj.mp
  rw [Int8.toInt_toInt32, Int8.toInt_ofInt, Int32.toInt_ofInt, Int.bmod_def, Int.bmod_def, show ((Int8.size : Nat) : Int) = 256 from rfl, show ((Int32.size : Nat) : Int) = 4294967296 from rfl]
  split <;> split <;> omega
theorem b_sipush {n : Int} (C : bC γ y d b1 b2) (hd : decode y.2.1 pc = .ok (.sipush n, 3)) (hn : -32768 ≤ n ∧ n ≤ 32767) (k : bJ γ (pc + 3) lo (.int (bz n) :: st) τ h nc ns) : bJ γ pc lo st τ h nc ns := by
  intro ws ls H locs hM
  refine lv_sipush C.1.1 C.1.2.1 hd ?_ (k ws ls H locs hM)
  unfold bz
  apply Int32.toInt_inj.mp
  rw [Int16.toInt_toInt32, Int16.toInt_ofInt, Int32.toInt_ofInt, Int.bmod_def, Int.bmod_def, show ((Int16.size : Nat) : Int) = 65536 from rfl, show ((Int32.size : Nat) : Int) = 4294967296 from rfl]
  split <;> split <;> omega
theorem b_ldc {i : Nat} {n : Int} (C : bC γ y d b1 b2) (hw : Cond.constant y.1.cls i (bz n) ∈ bW) (hd : decode y.2.1 pc = .ok (.ldc i, 2)) (k : bJ γ (pc + 2) lo (.int (bz n) :: st) τ h nc ns) : bJ γ pc lo st τ h nc ns := fun ws ls H locs hM => lv_ldc C.1.1 C.1.2.1 C.2.1.1 (C.2.1.2.1 _ hw) hd (k ws ls H locs hM)
theorem b_ldcw {i : Nat} {n : Int} (C : bC γ y d b1 b2) (hw : Cond.constant y.1.cls i (bz n) ∈ bW) (hd : decode y.2.1 pc = .ok (.ldc_w i, 3)) (k : bJ γ (pc + 3) lo (.int (bz n) :: st) τ h nc ns) : bJ γ pc lo st τ h nc ns := fun ws ls H locs hM => lv_ldcw C.1.1 C.1.2.1 C.2.1.1 (C.2.1.2.1 _ hw) hd (k ws ls H locs hM)
theorem b_ldc2 {i : Nat} {v : Int64} (C : bC γ y d b1 b2) (hw : Cond.constantLong y.1.cls i v ∈ bW) (hd : decode y.2.1 pc = .ok (.ldc2_w i, 3)) (k : ∀ v, bJ γ (pc + 3) lo (.long v :: st) τ h nc ns) : bJ γ pc lo st τ h nc ns := fun ws ls H locs hM => lv_ldc2 C.1.1 C.1.2.1 C.2.1.1 (C.2.1.2.1 _ hw) hd (k _ ws ls H locs hM)
theorem b_lconst {n : Fin 2} (C : bC γ y d b1 b2) (hd : decode y.2.1 pc = .ok (.lconst n, 1)) (k : ∀ v, bJ γ (pc + 1) lo (.long v :: st) τ h nc ns) : bJ γ pc lo st τ h nc ns := fun ws ls H locs hM => lv_lconst C.1.1 C.1.2.1 hd rfl (k _ ws ls H locs hM)
theorem b_null (C : bC γ y d b1 b2) (hd : decode y.2.1 pc = .ok (.aconst_null, 1)) (k : bJ γ (pc + 1) lo (va_rf none :: st) τ h nc ns) : bJ γ pc lo st τ h nc ns := fun ws ls H locs hM => lv_null C.1.1 C.1.2.1 hd (k ws ls H locs hM)
theorem b_iload {i : Nat} {x : Int32} (C : bC γ y d b1 b2) (hd : decode y.2.1 pc = .ok (.iload i, 2)) (hl : lo[i]? = some (some (.int x))) (k : bJ γ (pc + 2) lo (.int x :: st) τ h nc ns) : bJ γ pc lo st τ h nc ns := fun ws ls H locs hM => lv_iload C.1.1 C.1.2.1 hd (blo_at hM.2.2.2.2 hl) (k ws ls H locs hM)
theorem b_iload_n {i : Fin 4} {x : Int32} (C : bC γ y d b1 b2) (hd : decode y.2.1 pc = .ok (.iload_n i, 1)) (hl : lo[i.val]? = some (some (.int x))) (k : bJ γ (pc + 1) lo (.int x :: st) τ h nc ns) : bJ γ pc lo st τ h nc ns := fun ws ls H locs hM => lv_iload_n C.1.1 C.1.2.1 hd rfl (blo_at hM.2.2.2.2 hl) (k ws ls H locs hM)
theorem b_lload {i : Nat} {x : Int64} (C : bC γ y d b1 b2) (hd : decode y.2.1 pc = .ok (.lload i, 2)) (hl : lo[i]? = some (some (.long x))) (k : bJ γ (pc + 2) lo (.long x :: st) τ h nc ns) : bJ γ pc lo st τ h nc ns := fun ws ls H locs hM => lv_lload C.1.1 C.1.2.1 hd (blo_at hM.2.2.2.2 hl) (k ws ls H locs hM)
theorem b_lload_n {i : Fin 4} {x : Int64} (C : bC γ y d b1 b2) (hd : decode y.2.1 pc = .ok (.lload_n i, 1)) (hl : lo[i.val]? = some (some (.long x))) (k : bJ γ (pc + 1) lo (.long x :: st) τ h nc ns) : bJ γ pc lo st τ h nc ns := fun ws ls H locs hM => lv_lload_n C.1.1 C.1.2.1 hd rfl (blo_at hM.2.2.2.2 hl) (k ws ls H locs hM)
theorem b_aload {i : Nat} {o : Option Nat} (C : bC γ y d b1 b2) (hd : decode y.2.1 pc = .ok (.aload i, 2)) (hl : lo[i]? = some (some (va_rf o))) (k : bJ γ (pc + 2) lo (va_rf o :: st) τ h nc ns) : bJ γ pc lo st τ h nc ns := fun ws ls H locs hM => by
  cases o with
  | none => exact lv_aloadN C.1.1 C.1.2.1 hd (blo_at hM.2.2.2.2 hl) (k ws ls H locs hM)
  | some a => exact lv_aload C.1.1 C.1.2.1 hd (blo_at hM.2.2.2.2 hl) (k ws ls H locs hM)
theorem b_aload_n {i : Fin 4} {o : Option Nat} (C : bC γ y d b1 b2) (hd : decode y.2.1 pc = .ok (.aload_n i, 1)) (hl : lo[i.val]? = some (some (va_rf o))) (k : bJ γ (pc + 1) lo (va_rf o :: st) τ h nc ns) : bJ γ pc lo st τ h nc ns := fun ws ls H locs hM => by
  cases o with
  | none => exact lv_aload_nN C.1.1 C.1.2.1 hd rfl (blo_at hM.2.2.2.2 hl) (k ws ls H locs hM)
  | some a => exact lv_aload_n C.1.1 C.1.2.1 hd rfl (blo_at hM.2.2.2.2 hl) (k ws ls H locs hM)
/-- the locals behind a store of one place -/
theorem blo_set {nL i : Nat} {ls : Array Slot} {v : Value} {lv : List (Nat × Value)} (h1 : lo.length ≤ nL) (hx : ∀ (j : Nat) (w : Value), lo[j]? = some (some w) → (j, w) ∈ lv) (hc2 : ∀ (j : Nat) (w : Value), lo[j]? = some (some w) → w.category = 2 → j + 1 ≠ i) (hl : lv_has ls nL ((i, v) :: lv.filter (fun q => !(q.1 == i) && !(q.1 + 1 == i && q.2.category == 2)))) : blo (lo.set i (some v)) nL ls := by
  refine ⟨by rw [List.length_set]; exact h1, _, hl, fun j w hj => ?_⟩
  by_cases e : i = j
  · subst e
    rw [List.getElem?_set] at hj
    simp only [if_true] at hj
    split at hj
    · cases hj; exact List.mem_cons_self
    · cases hj
  · rw [List.getElem?_set_ne e] at hj
    refine List.mem_cons_of_mem _ (List.mem_filter.mpr ⟨hx j w hj, ?_⟩)
    have h2 := hc2 j w hj
    have e' : ¬ j = i := fun z => e z.symm
    by_cases hc : w.category = 2
    · have := h2 hc
      simp [e', this]
    · simp [e', hc]
def bno2 (lo : List (Option Value)) (i : Nat) : Prop := ∀ (j : Nat) (w : Value), lo[j]? = some (some w) → w.category = 2 → j + 1 ≠ i
theorem b_istore {i : Nat} {x : Int32} (C : bC γ y d b1 b2) (hd : decode y.2.1 pc = .ok (.istore i, 2)) (hi : i < γ.2.2.1) (h2 : bno2 lo i) (k : bJ γ (pc + 2) (lo.set i (some (.int x))) st τ h nc ns) : bJ γ pc lo (.int x :: st) τ h nc ns := by
  intro ws ls H locs hM
  obtain ⟨m1, m2, m3, m4, m5, lv, m6, m7⟩ := hM
  exact lv_istore C.1.1 C.1.2.1 hd m6 hi rfl (fun ls' hl => k ws ls' H locs ⟨m1, m2, m3, m4, blo_set m5 m7 h2 hl⟩)
theorem b_istore_n {i : Fin 4} {x : Int32} (C : bC γ y d b1 b2) (hd : decode y.2.1 pc = .ok (.istore_n i, 1)) (hi : i.val < γ.2.2.1) (h2 : bno2 lo i.val) (k : bJ γ (pc + 1) (lo.set i.val (some (.int x))) st τ h nc ns) : bJ γ pc lo (.int x :: st) τ h nc ns := by
  intro ws ls H locs hM
  obtain ⟨m1, m2, m3, m4, m5, lv, m6, m7⟩ := hM
  exact lv_istore_n C.1.1 C.1.2.1 hd rfl m6 hi rfl (fun ls' hl => k ws ls' H locs ⟨m1, m2, m3, m4, blo_set m5 m7 h2 hl⟩)
theorem b_astore {i : Nat} {o : Option Nat} (C : bC γ y d b1 b2) (hd : decode y.2.1 pc = .ok (.astore i, 2)) (hi : i < γ.2.2.1) (h2 : bno2 lo i) (k : bJ γ (pc + 2) (lo.set i (some (va_rf o))) st τ h nc ns) : bJ γ pc lo (va_rf o :: st) τ h nc ns := by
  intro ws ls H locs hM
  obtain ⟨m1, m2, m3, m4, m5, lv, m6, m7⟩ := hM
  cases o with
  | none => exact lv_astoreN C.1.1 C.1.2.1 hd m6 hi rfl (fun ls' hl => k ws ls' H locs ⟨m1, m2, m3, m4, blo_set m5 m7 h2 hl⟩)
  | some a => exact lv_astore C.1.1 C.1.2.1 hd m6 hi rfl (fun ls' hl => k ws ls' H locs ⟨m1, m2, m3, m4, blo_set m5 m7 h2 hl⟩)
theorem b_astore_n {i : Fin 4} {o : Option Nat} (C : bC γ y d b1 b2) (hd : decode y.2.1 pc = .ok (.astore_n i, 1)) (hi : i.val < γ.2.2.1) (h2 : bno2 lo i.val) (k : bJ γ (pc + 1) (lo.set i.val (some (va_rf o))) st τ h nc ns) : bJ γ pc lo (va_rf o :: st) τ h nc ns := by
  intro ws ls H locs hM
  obtain ⟨m1, m2, m3, m4, m5, lv, m6, m7⟩ := hM
  cases o with
  | none => exact lv_astore_nN C.1.1 C.1.2.1 hd rfl m6 hi rfl (fun ls' hl => k ws ls' H locs ⟨m1, m2, m3, m4, blo_set m5 m7 h2 hl⟩)
  | some a => exact lv_astore_n C.1.1 C.1.2.1 hd rfl m6 hi rfl (fun ls' hl => k ws ls' H locs ⟨m1, m2, m3, m4, blo_set m5 m7 h2 hl⟩)
/-- a long takes two places -/
theorem b_lstore {i : Nat} {x : Int64} (C : bC γ y d b1 b2) (hd : decode y.2.1 pc = .ok (.lstore i, 2)) (hi : i + 1 < γ.2.2.1) (h2 : bno2 lo i) (k : bJ γ (pc + 2) ((lo.set i (some (.long x))).set (i + 1) none) st τ h nc ns) : bJ γ pc lo (.long x :: st) τ h nc ns := by
  intro ws ls H locs hM
  obtain ⟨m1, m2, m3, m4, m5, lv, m6, m7⟩ := hM
  refine lv_lstore C.1.1 C.1.2.1 hd m6 hi rfl (fun ls' hl => k ws ls' H locs ⟨m1, m2, m3, m4, by rw [List.length_set, List.length_set]; exact m5, _, hl, fun j w hj => ?_⟩)
  by_cases e : i + 1 = j
  · subst e
    rw [List.getElem?_set] at hj
    simp only [if_true] at hj
    split at hj <;> cases hj
  · rw [List.getElem?_set_ne e] at hj
    by_cases e2 : i = j
    · subst e2
      rw [List.getElem?_set] at hj
      simp only [if_true] at hj
      split at hj
      · cases hj; exact List.mem_cons_self
      · cases hj
    · rw [List.getElem?_set_ne e2] at hj
      refine List.mem_cons_of_mem _ (List.mem_filter.mpr ⟨m7 j w hj, ?_⟩)
      have e3 : ¬ j = i := fun z => e2 z.symm
      have e4 : ¬ j = i + 1 := fun z => e z.symm
      by_cases hc : w.category = 2
      · have := h2 j w hj hc
        simp [e3, e4, this]
      · simp [e3, e4, hc]
theorem b_iadd {a b : Int} (C : bC γ y d b1 b2) (hd : decode y.2.1 pc = .ok (.iadd, 1)) (k : bJ γ (pc + 1) lo (.int (bz (a + b)) :: st) τ h nc ns) : bJ γ pc lo (.int (bz b) :: .int (bz a) :: st) τ h nc ns := fun ws ls H locs hM => lv_iadd C.1.1 C.1.2.1 hd (by rw [bz_add]; exact k ws ls H locs hM)
theorem b_isub {a b : Int} (C : bC γ y d b1 b2) (hd : decode y.2.1 pc = .ok (.isub, 1)) (k : bJ γ (pc + 1) lo (.int (bz (a - b)) :: st) τ h nc ns) : bJ γ pc lo (.int (bz b) :: .int (bz a) :: st) τ h nc ns := fun ws ls H locs hM => lv_isub C.1.1 C.1.2.1 hd (by rw [bz_sub]; exact k ws ls H locs hM)
theorem b_imul {a b : Int} (C : bC γ y d b1 b2) (hd : decode y.2.1 pc = .ok (.imul, 1)) (k : bJ γ (pc + 1) lo (.int (bz (a * b)) :: st) τ h nc ns) : bJ γ pc lo (.int (bz b) :: .int (bz a) :: st) τ h nc ns := fun ws ls H locs hM => lv_imul C.1.1 C.1.2.1 hd (by rw [bz_mul]; exact k ws ls H locs hM)
/-- some int, brought into its bounds -/
theorem b_any {x : Int32} (k : ∀ u : Int, brg u → bJ γ pc lo (.int (bz u) :: st) τ h nc ns) : bJ γ pc lo (.int x :: st) τ h nc ns := by
  rw [bz_of x]
  exact k _ (brg_of x)
theorem b_norm {z : Int} (k : ∀ u t : Int, brg u → u = z - 4294967296 * t → bJ γ pc lo (.int (bz u) :: st) τ h nc ns) : bJ γ pc lo (.int (bz z) :: st) τ h nc ns := by
  obtain ⟨u, h1, h2, t, h3⟩ := bz_norm z
  rw [h2]
  exact k u t h1 h3
theorem b_iand {x w : Int32} (C : bC γ y d b1 b2) (hd : decode y.2.1 pc = .ok (.iand, 1)) (k : bJ γ (pc + 1) lo (.int (x &&& w) :: st) τ h nc ns) : bJ γ pc lo (.int w :: .int x :: st) τ h nc ns := fun ws ls H locs hM => lv_iand C.1.1 C.1.2.1 hd (k ws ls H locs hM)
theorem b_ior {x w : Int32} (C : bC γ y d b1 b2) (hd : decode y.2.1 pc = .ok (.ior, 1)) (k : bJ γ (pc + 1) lo (.int (x ||| w) :: st) τ h nc ns) : bJ γ pc lo (.int w :: .int x :: st) τ h nc ns := fun ws ls H locs hM => lv_ior C.1.1 C.1.2.1 hd (k ws ls H locs hM)
theorem b_ixor {x w : Int32} (C : bC γ y d b1 b2) (hd : decode y.2.1 pc = .ok (.ixor, 1)) (k : bJ γ (pc + 1) lo (.int (x ^^^ w) :: st) τ h nc ns) : bJ γ pc lo (.int w :: .int x :: st) τ h nc ns := fun ws ls H locs hM => lv_ixor C.1.1 C.1.2.1 hd (k ws ls H locs hM)
theorem b_ishl {x w : Int32} (C : bC γ y d b1 b2) (hd : decode y.2.1 pc = .ok (.ishl, 1)) (k : ∀ u : Int, brg u → bJ γ (pc + 1) lo (.int (bz u) :: st) τ h nc ns) : bJ γ pc lo (.int w :: .int x :: st) τ h nc ns := fun ws ls H locs hM => lv_ishl C.1.1 C.1.2.1 hd (b_any k ws ls H locs hM)
theorem b_ishr {x w : Int32} (C : bC γ y d b1 b2) (hd : decode y.2.1 pc = .ok (.ishr, 1)) (k : ∀ u : Int, brg u → bJ γ (pc + 1) lo (.int (bz u) :: st) τ h nc ns) : bJ γ pc lo (.int w :: .int x :: st) τ h nc ns := fun ws ls H locs hM => lv_ishr C.1.1 C.1.2.1 hd (b_any k ws ls H locs hM)
theorem b_iushr {x w : Int32} (C : bC γ y d b1 b2) (hd : decode y.2.1 pc = .ok (.iushr, 1)) (k : bJ γ (pc + 1) lo (.int (x.toUInt32 >>> (w.toUInt32 &&& Int32.toUInt32 31)).toInt32 :: st) τ h nc ns) : bJ γ pc lo (.int w :: .int x :: st) τ h nc ns := fun ws ls H locs hM => lv_iushr C.1.1 C.1.2.1 hd rfl (k ws ls H locs hM)
theorem bz_div {a b : Int} (ha : brg a) (hb : brg b) (h0 : 0 < b) : bz a / bz b = bz (a.tdiv b) := by
  rw [bz_of (bz a / bz b), Int32.toInt_div_of_ne_right, bz_toInt ha, bz_toInt hb]
  intro h
  have := congrArg Int32.toInt h
  rw [bz_toInt hb, show (-1 : Int32).toInt = -1 from rfl] at this
  omega
/-- what is left of a division, and how often it goes -/
theorem b_tdiv {a b : Int} (h0 : 0 < b) : ∃ q r : Int, a.tdiv b = q ∧ a - q * b = r ∧ -b < r ∧ r < b ∧ (0 ≤ a → q = a / b ∧ r = a % b) := by
  by_cases h : 0 ≤ a
  · have e1 : a.tdiv b = a / b := Int.tdiv_eq_ediv_of_nonneg h
    have e2 := Int.emod_add_mul_ediv a b
    have e3 := Int.emod_nonneg a (show b ≠ 0 by omega)
    have e4 := Int.emod_lt_of_pos a h0
    have e5 : a - a / b * b = a % b := by rw [Int.mul_comm]; omega
    exact ⟨a / b, a % b, e1, e5, by omega, e4, fun _ => ⟨rfl, rfl⟩⟩
  · have e1 : a.tdiv b = -((-a) / b) := by
      have : a.tdiv b = -((-a).tdiv b) := by rw [Int.neg_tdiv, Int.neg_neg]
      rw [this, Int.tdiv_eq_ediv_of_nonneg (by omega)]
    have e2 := Int.emod_add_mul_ediv (-a) b
    have e3 := Int.emod_nonneg (-a) (show b ≠ 0 by omega)
    have e4 := Int.emod_lt_of_pos (-a) h0
    have e5 : a - -((-a) / b) * b = -((-a) % b) := by
      have : -((-a) / b) * b = -(b * ((-a) / b)) := by rw [Int.neg_mul, Int.mul_comm]
      omega
    exact ⟨_, _, e1, e5, by omega, by omega, fun h2 => absurd h2 h⟩
theorem b_irem {a b : Int} (C : bC γ y d b1 b2) (hd : decode y.2.1 pc = .ok (.irem, 1)) (ha : brg a) (hb : brg b) (h0 : 0 < b) (k : ∀ r : Int, -b < r → r < b → (0 ≤ a → r = a % b) → bJ γ (pc + 1) lo (.int (bz r) :: st) τ h nc ns) : bJ γ pc lo (.int (bz b) :: .int (bz a) :: st) τ h nc ns := by
  intro ws ls H locs hM
  obtain ⟨q, r, e1, e2, e3, e4, e5⟩ := b_tdiv (a := a) h0
  refine lv_irem C.1.1 C.1.2.1 hd ?_ ?_
  · intro z
    have := congrArg Int32.toInt z
    rw [bz_toInt hb, show (0 : Int32).toInt = 0 from rfl] at this
    omega
  · rw [bz_div ha hb h0, bz_mul, bz_sub, e1, e2]
    exact k r e3 e4 (fun h => (e5 h).2) ws ls H locs hM
theorem b_idiv {a b : Int} (C : bC γ y d b1 b2) (hd : decode y.2.1 pc = .ok (.idiv, 1)) (ha : brg a) (hb : brg b) (h0 : 0 < b) (k : ∀ q : Int, (0 ≤ a → q = a / b) → bJ γ (pc + 1) lo (.int (bz q) :: st) τ h nc ns) : bJ γ pc lo (.int (bz b) :: .int (bz a) :: st) τ h nc ns := by
  intro ws ls H locs hM
  obtain ⟨q, r, e1, e2, e3, e4, e5⟩ := b_tdiv (a := a) h0
  refine lv_idiv C.1.1 C.1.2.1 hd ?_ ?_
  · intro z
    have := congrArg Int32.toInt z
    rw [bz_toInt hb, show (0 : Int32).toInt = 0 from rfl] at this
    omega
  · rw [bz_div ha hb h0, e1]
    exact k q (fun h => (e5 h).1) ws ls H locs hM
theorem b_i2b {x : Int32} (C : bC γ y d b1 b2) (hd : decode y.2.1 pc = .ok (.i2b, 1)) (k : bJ γ (pc + 1) lo (.int x.toInt8.toInt32 :: st) τ h nc ns) : bJ γ pc lo (.int x :: st) τ h nc ns := fun ws ls H locs hM => lv_i2b C.1.1 C.1.2.1 hd rfl (k ws ls H locs hM)
theorem b_i2l {x : Int32} (C : bC γ y d b1 b2) (hd : decode y.2.1 pc = .ok (.i2l, 1)) (k : ∀ v, bJ γ (pc + 1) lo (.long v :: st) τ h nc ns) : bJ γ pc lo (.int x :: st) τ h nc ns := fun ws ls H locs hM => lv_i2l C.1.1 C.1.2.1 hd rfl (k _ ws ls H locs hM)
theorem b_ladd {x w : Int64} (C : bC γ y d b1 b2) (hd : decode y.2.1 pc = .ok (.ladd, 1)) (k : ∀ v, bJ γ (pc + 1) lo (.long v :: st) τ h nc ns) : bJ γ pc lo (.long w :: .long x :: st) τ h nc ns := fun ws ls H locs hM => lv_ladd C.1.1 C.1.2.1 hd (k _ ws ls H locs hM)
theorem b_lsub {x w : Int64} (C : bC γ y d b1 b2) (hd : decode y.2.1 pc = .ok (.lsub, 1)) (k : ∀ v, bJ γ (pc + 1) lo (.long v :: st) τ h nc ns) : bJ γ pc lo (.long w :: .long x :: st) τ h nc ns := fun ws ls H locs hM => lv_lsub C.1.1 C.1.2.1 hd (k _ ws ls H locs hM)
theorem b_lmul {x w : Int64} (C : bC γ y d b1 b2) (hd : decode y.2.1 pc = .ok (.lmul, 1)) (k : ∀ v, bJ γ (pc + 1) lo (.long v :: st) τ h nc ns) : bJ γ pc lo (.long w :: .long x :: st) τ h nc ns := fun ws ls H locs hM => lv_lmul C.1.1 C.1.2.1 hd (k _ ws ls H locs hM)
theorem b_lor {x w : Int64} (C : bC γ y d b1 b2) (hd : decode y.2.1 pc = .ok (.lor, 1)) (k : ∀ v, bJ γ (pc + 1) lo (.long v :: st) τ h nc ns) : bJ γ pc lo (.long w :: .long x :: st) τ h nc ns := fun ws ls H locs hM => lv_lor C.1.1 C.1.2.1 hd (k _ ws ls H locs hM)
theorem b_lshl {x : Int64} {w : Int32} (C : bC γ y d b1 b2) (hd : decode y.2.1 pc = .ok (.lshl, 1)) (k : ∀ v, bJ γ (pc + 1) lo (.long v :: st) τ h nc ns) : bJ γ pc lo (.int w :: .long x :: st) τ h nc ns := fun ws ls H locs hM => lv_lshl C.1.1 C.1.2.1 hd rfl (k _ ws ls H locs hM)
theorem b_lcmp {x w : Int64} (C : bC γ y d b1 b2) (hd : decode y.2.1 pc = .ok (.lcmp, 1)) (k : ∀ u : Int, brg u → bJ γ (pc + 1) lo (.int (bz u) :: st) τ h nc ns) : bJ γ pc lo (.long w :: .long x :: st) τ h nc ns := fun ws ls H locs hM => W.lcmp C.1.1 C.1.2.1 hd (b_any k ws ls H locs hM)
theorem b_dup {v : Value} (C : bC γ y d b1 b2) (hd : decode y.2.1 pc = .ok (.dup, 1)) (hv : v.category = 1) (k : bJ γ (pc + 1) lo (v :: v :: st) τ h nc ns) : bJ γ pc lo (v :: st) τ h nc ns := fun ws ls H locs hM => lv_dup C.1.1 C.1.2.1 hd hv (k ws ls H locs hM)
theorem b_dup2 {v w : Value} (C : bC γ y d b1 b2) (hd : decode y.2.1 pc = .ok (.dup2, 1)) (hv : v.category = 1) (hw : w.category = 1) (k : bJ γ (pc + 1) lo (v :: w :: v :: w :: st) τ h nc ns) : bJ γ pc lo (v :: w :: st) τ h nc ns := fun ws ls H locs hM => lv_dup2_11 C.1.1 C.1.2.1 hd hv hw (k ws ls H locs hM)
theorem b_pop {v : Value} (C : bC γ y d b1 b2) (hd : decode y.2.1 pc = .ok (.pop, 1)) (hv : v.category = 1) (k : bJ γ (pc + 1) lo st τ h nc ns) : bJ γ pc lo (v :: st) τ h nc ns := fun ws ls H locs hM => lv_pop C.1.1 C.1.2.1 hd hv (k ws ls H locs hM)
theorem b_goto {off : Int} {t : Nat} (C : bC γ y d b1 b2) (hd : decode y.2.1 pc = .ok (.goto off, 3)) (ht : (pc : Int) + off = (t : Int)) (k : bJ γ t lo st τ h nc ns) : bJ γ pc lo st τ h nc ns := fun ws ls H locs hM => lv_goto C.1.1 C.1.2.1 hd ht (k ws ls H locs hM)
theorem b_iinc {i : Nat} {n a : Int} (C : bC γ y d b1 b2) (hd : decode y.2.1 pc = .ok (.iinc i n, 3)) (hi : i < γ.2.2.1) (hl : lo[i]? = some (some (.int (bz a)))) (h2 : bno2 lo i) (k : bJ γ (pc + 3) (lo.set i (some (.int (bz (a + n))))) st τ h nc ns) : bJ γ pc lo st τ h nc ns := by
  intro ws ls H locs hM
  obtain ⟨m1, m2, m3, m4, m5, lv, m6, m7⟩ := hM
  obtain ⟨q, hq⟩ := List.getElem?_of_mem (m7 i _ hl)
  exact lv_iinc C.1.1 C.1.2.1 hd m6 hq (by rw [← bz_add]; rfl) hi rfl (fun ls' hl => k ws ls' H locs ⟨m1, m2, m3, m4, blo_set m5 m7 h2 hl⟩)
/-! branches -/
theorem b_icmp_eq {off a b : Int} {t : Nat} (C : bC γ y d b1 b2) (hd : decode y.2.1 pc = .ok (.if_icmp .eq off, 3)) (ht : (pc : Int) + off = (t : Int)) (ha : brg a) (hb : brg b) (kt : a = b → bJ γ t lo st τ h nc ns) (kf : ¬ a = b → bJ γ (pc + 3) lo st τ h nc ns) : bJ γ pc lo (.int (bz b) :: .int (bz a) :: st) τ h nc ns := fun ws ls H locs hM => lv_icmp_eq C.1.1 C.1.2.1 hd ht (fun z => kt ((bz_eq ha hb).mp z) ws ls H locs hM) (fun z => kf (fun q => z ((bz_eq ha hb).mpr q)) ws ls H locs hM)
theorem b_icmp_ne {off a b : Int} {t : Nat} (C : bC γ y d b1 b2) (hd : decode y.2.1 pc = .ok (.if_icmp .ne off, 3)) (ht : (pc : Int) + off = (t : Int)) (ha : brg a) (hb : brg b) (kt : ¬ a = b → bJ γ t lo st τ h nc ns) (kf : a = b → bJ γ (pc + 3) lo st τ h nc ns) : bJ γ pc lo (.int (bz b) :: .int (bz a) :: st) τ h nc ns := fun ws ls H locs hM => lv_icmp_ne C.1.1 C.1.2.1 hd ht (fun z => kt (fun q => z ((bz_eq ha hb).mpr q)) ws ls H locs hM) (fun z => kf ((bz_eq ha hb).mp (by first | exact z | exact Classical.byContradiction z)) ws ls H locs hM)
theorem b_icmp_lt {off a b : Int} {t : Nat} (C : bC γ y d b1 b2) (hd : decode y.2.1 pc = .ok (.if_icmp .lt off, 3)) (ht : (pc : Int) + off = (t : Int)) (ha : brg a) (hb : brg b) (kt : a < b → bJ γ t lo st τ h nc ns) (kf : ¬ a < b → bJ γ (pc + 3) lo st τ h nc ns) : bJ γ pc lo (.int (bz b) :: .int (bz a) :: st) τ h nc ns := fun ws ls H locs hM => lv_icmp_lt C.1.1 C.1.2.1 hd ht (fun z => kt ((bz_lt ha hb).mp z) ws ls H locs hM) (fun z => kf (fun q => z ((bz_lt ha hb).mpr q)) ws ls H locs hM)
theorem b_icmp_gt {off a b : Int} {t : Nat} (C : bC γ y d b1 b2) (hd : decode y.2.1 pc = .ok (.if_icmp .gt off, 3)) (ht : (pc : Int) + off = (t : Int)) (ha : brg a) (hb : brg b) (kt : b < a → bJ γ t lo st τ h nc ns) (kf : ¬ b < a → bJ γ (pc + 3) lo st τ h nc ns) : bJ γ pc lo (.int (bz b) :: .int (bz a) :: st) τ h nc ns := fun ws ls H locs hM => lv_icmp_gt C.1.1 C.1.2.1 hd ht (fun z => kt ((bz_lt hb ha).mp z) ws ls H locs hM) (fun z => kf (fun q => z ((bz_lt hb ha).mpr q)) ws ls H locs hM)
theorem bz_le {x y : Int} (hx : brg x) (hy : brg y) : bz x ≤ bz y ↔ x ≤ y := by rw [Int32.le_iff_toInt_le, bz_toInt hx, bz_toInt hy]
theorem brg0 : brg 0 := ⟨by omega, by omega⟩
theorem bz0 : bz 0 = 0 := rfl
theorem b_icmp_ge {off a b : Int} {t : Nat} (C : bC γ y d b1 b2) (hd : decode y.2.1 pc = .ok (.if_icmp .ge off, 3)) (ht : (pc : Int) + off = (t : Int)) (ha : brg a) (hb : brg b) (kt : b ≤ a → bJ γ t lo st τ h nc ns) (kf : ¬ b ≤ a → bJ γ (pc + 3) lo st τ h nc ns) : bJ γ pc lo (.int (bz b) :: .int (bz a) :: st) τ h nc ns := fun ws ls H locs hM => lv_icmp_ge C.1.1 C.1.2.1 hd ht (fun z => kt ((bz_le hb ha).mp z) ws ls H locs hM) (fun z => kf (fun q => z ((bz_le hb ha).mpr q)) ws ls H locs hM)
theorem b_icmp_le {off a b : Int} {t : Nat} (C : bC γ y d b1 b2) (hd : decode y.2.1 pc = .ok (.if_icmp .le off, 3)) (ht : (pc : Int) + off = (t : Int)) (ha : brg a) (hb : brg b) (kt : a ≤ b → bJ γ t lo st τ h nc ns) (kf : ¬ a ≤ b → bJ γ (pc + 3) lo st τ h nc ns) : bJ γ pc lo (.int (bz b) :: .int (bz a) :: st) τ h nc ns := fun ws ls H locs hM => lv_icmp_le C.1.1 C.1.2.1 hd ht (fun z => kt ((bz_le ha hb).mp z) ws ls H locs hM) (fun z => kf (fun q => z ((bz_le ha hb).mpr q)) ws ls H locs hM)
theorem b_if_eq {off a : Int} {t : Nat} (C : bC γ y d b1 b2) (hd : decode y.2.1 pc = .ok (.ifCond .eq off, 3)) (ht : (pc : Int) + off = (t : Int)) (ha : brg a) (kt : a = 0 → bJ γ t lo st τ h nc ns) (kf : ¬ a = 0 → bJ γ (pc + 3) lo st τ h nc ns) : bJ γ pc lo (.int (bz a) :: st) τ h nc ns := fun ws ls H locs hM => lv_if_eq C.1.1 C.1.2.1 hd ht (fun z => kt ((bz_eq ha brg0).mp z) ws ls H locs hM) (fun z => kf (fun q => z ((bz_eq ha brg0).mpr q)) ws ls H locs hM)
theorem b_if_ne {off a : Int} {t : Nat} (C : bC γ y d b1 b2) (hd : decode y.2.1 pc = .ok (.ifCond .ne off, 3)) (ht : (pc : Int) + off = (t : Int)) (ha : brg a) (kt : ¬ a = 0 → bJ γ t lo st τ h nc ns) (kf : a = 0 → bJ γ (pc + 3) lo st τ h nc ns) : bJ γ pc lo (.int (bz a) :: st) τ h nc ns := fun ws ls H locs hM => lv_if_ne C.1.1 C.1.2.1 hd ht (fun z => kt (fun q => z ((bz_eq ha brg0).mpr q)) ws ls H locs hM) (fun z => kf ((bz_eq ha brg0).mp z) ws ls H locs hM)
theorem b_if_lt {off a : Int} {t : Nat} (C : bC γ y d b1 b2) (hd : decode y.2.1 pc = .ok (.ifCond .lt off, 3)) (ht : (pc : Int) + off = (t : Int)) (ha : brg a) (kt : a < 0 → bJ γ t lo st τ h nc ns) (kf : ¬ a < 0 → bJ γ (pc + 3) lo st τ h nc ns) : bJ γ pc lo (.int (bz a) :: st) τ h nc ns := fun ws ls H locs hM => lv_if_lt C.1.1 C.1.2.1 hd ht (fun z => kt ((bz_lt ha brg0).mp z) ws ls H locs hM) (fun z => kf (fun q => z ((bz_lt ha brg0).mpr q)) ws ls H locs hM)
theorem b_if_ge {off a : Int} {t : Nat} (C : bC γ y d b1 b2) (hd : decode y.2.1 pc = .ok (.ifCond .ge off, 3)) (ht : (pc : Int) + off = (t : Int)) (ha : brg a) (kt : 0 ≤ a → bJ γ t lo st τ h nc ns) (kf : ¬ 0 ≤ a → bJ γ (pc + 3) lo st τ h nc ns) : bJ γ pc lo (.int (bz a) :: st) τ h nc ns := fun ws ls H locs hM => lv_if_ge C.1.1 C.1.2.1 hd ht (fun z => kt ((bz_le brg0 ha).mp z) ws ls H locs hM) (fun z => kf (fun q => z ((bz_le brg0 ha).mpr q)) ws ls H locs hM)
theorem b_if_gt {off a : Int} {t : Nat} (C : bC γ y d b1 b2) (hd : decode y.2.1 pc = .ok (.ifCond .gt off, 3)) (ht : (pc : Int) + off = (t : Int)) (ha : brg a) (kt : 0 < a → bJ γ t lo st τ h nc ns) (kf : ¬ 0 < a → bJ γ (pc + 3) lo st τ h nc ns) : bJ γ pc lo (.int (bz a) :: st) τ h nc ns := fun ws ls H locs hM => lv_if_gt C.1.1 C.1.2.1 hd ht (fun z => kt ((bz_lt brg0 ha).mp z) ws ls H locs hM) (fun z => kf (fun q => z ((bz_lt brg0 ha).mpr q)) ws ls H locs hM)
theorem b_if_le {off a : Int} {t : Nat} (C : bC γ y d b1 b2) (hd : decode y.2.1 pc = .ok (.ifCond .le off, 3)) (ht : (pc : Int) + off = (t : Int)) (ha : brg a) (kt : a ≤ 0 → bJ γ t lo st τ h nc ns) (kf : ¬ a ≤ 0 → bJ γ (pc + 3) lo st τ h nc ns) : bJ γ pc lo (.int (bz a) :: st) τ h nc ns := fun ws ls H locs hM => lv_if_le C.1.1 C.1.2.1 hd ht (fun z => kt ((bz_le ha brg0).mp z) ws ls H locs hM) (fun z => kf (fun q => z ((bz_le ha brg0).mpr q)) ws ls H locs hM)
theorem b_acmp_eq {off : Int} {t : Nat} {o q : Option Nat} (C : bC γ y d b1 b2) (hd : decode y.2.1 pc = .ok (.if_acmp .eq off, 3)) (ht : (pc : Int) + off = (t : Int)) (kt : o = q → bJ γ t lo st τ h nc ns) (kf : ¬ o = q → bJ γ (pc + 3) lo st τ h nc ns) : bJ γ pc lo (va_rf q :: va_rf o :: st) τ h nc ns := fun ws ls H locs hM => lv_acmp_eq C.1.1 C.1.2.1 hd ht (fun z => kt z ws ls H locs hM) (fun z => kf z ws ls H locs hM)
theorem b_acmp_ne {off : Int} {t : Nat} {o q : Option Nat} (C : bC γ y d b1 b2) (hd : decode y.2.1 pc = .ok (.if_acmp .ne off, 3)) (ht : (pc : Int) + off = (t : Int)) (kt : ¬ o = q → bJ γ t lo st τ h nc ns) (kf : o = q → bJ γ (pc + 3) lo st τ h nc ns) : bJ γ pc lo (va_rf q :: va_rf o :: st) τ h nc ns := fun ws ls H locs hM => lv_acmp_ne C.1.1 C.1.2.1 hd ht (fun z => kt z ws ls H locs hM) (fun z => kf z ws ls H locs hM)
theorem b_ifnull {off : Int} {t : Nat} {o : Option Nat} (C : bC γ y d b1 b2) (hd : decode y.2.1 pc = .ok (.ifnull off, 3)) (ht : (pc : Int) + off = (t : Int)) (kt : o = none → bJ γ t lo st τ h nc ns) (kf : ∀ a, o = some a → bJ γ (pc + 3) lo st τ h nc ns) : bJ γ pc lo (va_rf o :: st) τ h nc ns := fun ws ls H locs hM => by
  cases o with
  | none => exact lv_ifnullN C.1.1 C.1.2.1 hd ht (kt rfl ws ls H locs hM)
  | some a => exact lv_ifnull C.1.1 C.1.2.1 hd (kf a rfl ws ls H locs hM)
theorem b_ifnonnull {off : Int} {t : Nat} {o : Option Nat} (C : bC γ y d b1 b2) (hd : decode y.2.1 pc = .ok (.ifnonnull off, 3)) (ht : (pc : Int) + off = (t : Int)) (kt : ∀ a, o = some a → bJ γ t lo st τ h nc ns) (kf : o = none → bJ γ (pc + 3) lo st τ h nc ns) : bJ γ pc lo (va_rf o :: st) τ h nc ns := fun ws ls H locs hM => by
  cases o with
  | none => exact lv_ifnonnullN C.1.1 C.1.2.1 hd (kf rfl ws ls H locs hM)
  | some a => exact lv_ifnonnull C.1.1 C.1.2.1 hd ht (kt a rfl ws ls H locs hM)
theorem b_tableIn {df l0 hi0 off a : Int} {offs : Array Int} {len t : Nat} (C : bC γ y d b1 b2) (hd : decode y.2.1 pc = .ok (.tableswitch df l0 hi0 offs, len)) (ha : brg a) (h1 : l0 ≤ a ∧ a ≤ hi0) (ho : offs[(a - l0).toNat]? = some off) (ht : (pc : Int) + off = (t : Int)) (k : bJ γ t lo st τ h nc ns) : bJ γ pc lo (.int (bz a) :: st) τ h nc ns := fun ws ls H locs hM => lv_tableIn C.1.1 C.1.2.1 hd (by rw [bz_toInt ha]; omega) (by rw [bz_toInt ha]; omega) (by rw [bz_toInt ha]; exact ho) ht (k ws ls H locs hM)
theorem b_tableOut {df l0 hi0 a : Int} {offs : Array Int} {len t : Nat} (C : bC γ y d b1 b2) (hd : decode y.2.1 pc = .ok (.tableswitch df l0 hi0 offs, len)) (ha : brg a) (h1 : a < l0 ∨ hi0 < a) (ht : (pc : Int) + df = (t : Int)) (k : bJ γ t lo st τ h nc ns) : bJ γ pc lo (.int (bz a) :: st) τ h nc ns := fun ws ls H locs hM => lv_tableOut C.1.1 C.1.2.1 hd (by rw [bz_toInt ha]; exact h1) ht (k ws ls H locs hM)
theorem b_lookup {df off a : Int} {ps : Array (Int × Int)} {len t : Nat} (C : bC γ y d b1 b2) (hd : decode y.2.1 pc = .ok (.lookupswitch df ps, len)) (hp : (ps.toList.zip (ps.toList.drop 1)).all (fun (a, next) => a.1 < next.1) = true) (ha : brg a) (ho : Op.lookupswitch.offset ps.toList df a = off) (ht : (pc : Int) + off = (t : Int)) (k : bJ γ t lo st τ h nc ns) : bJ γ pc lo (.int (bz a) :: st) τ h nc ns := fun ws ls H locs hM => lv_lookup C.1.1 C.1.2.1 hd hp (by rw [bz_toInt ha]; exact ho) ht (k ws ls H locs hM)
end BROWS
