/-! ===== the things that are there at the law's start ===== -/
theorem aw_e1 : ∀ i, i < ak_nm.length → Cond.laysStatic "SpanCopier$Word" (ak_nm.getD i "") "LSpanCopier$Word;" ∈ lw_tbl := by decide +kernel
theorem aw_e2 : Cond.initialized "SpanCopier$Word" ∈ lw_tbl := by decide +kernel
theorem aw_e3 : ∀ i, i < ak_nm.length → Cond.exactly (.static "SpanCopier$Word" (ak_nm.getD i "") "LSpanCopier$Word;") "SpanCopier$Word" ∈ flatC (Jvm.Cond.and given_1 narrow_1) := by decide +kernel
theorem aw_e4 : ∀ i, i < ak_nm.length → Cond.eq (.field (.static "SpanCopier$Word" (ak_nm.getD i "") "LSpanCopier$Word;") "java/lang/Enum" "ordinal" "I") (.int (((List.range 38).map nI).getD i 0)) ∈ flatC (Jvm.Cond.and given_1 narrow_1) := by decide +kernel
theorem aw_e5 : ∀ i, i < ak_nm.length → ∀ j, j < ak_nm.length → i ≠ j → ((List.range 38).map nI).getD i 0 ≠ ((List.range 38).map nI).getD j 0 := by decide +kernel
theorem aw_ne {args : Array Value} {s : State} {t u : Term} {a b : Nat} {x y : Int32} (ht : t.eval args s none [] s = some (.ref a)) (hu : u.eval args s none [] s = some (.ref b)) (h1 : (Term.field t "java/lang/Enum" "ordinal" "I").eval args s none [] s = some (.int x)) (h2 : (Term.field u "java/lang/Enum" "ordinal" "I").eval args s none [] s = some (.int y)) (hxy : x ≠ y) : (Cond.not (.eq t u)).before args s = true := by
  have hab : a ≠ b := by
    intro e
    subst e
    rw [va_fe ht] at h1
    rw [va_fe hu, h1] at h2
    cases h2
    exact hxy rfl
  simp [Cond.before, Cond.holds, Cond.value, ht, hu, hab]
theorem aw_enum {args : Array Value} {s : State} {A : Nat → Prop} (hts : ∀ w ∈ lw_tbl, w.before args s = true) (hgv : ∀ w ∈ flatC (Jvm.Cond.and given_1 narrow_1), w.before args s = true) (hA : ∀ a : Nat, a < s.heap.size → ¬ A a) : ∃ ad : Nat → Nat, va_En "SpanCopier$Word" "LSpanCopier$Word;" ak_nm ak_ors ad A s s.heap := by
  refine va_Enof (fun i hi => hts _ (aw_e1 i hi)) (hts _ aw_e2) (fun i hi => hgv _ (aw_e3 i hi)) (fun q hq i hi => ?_) (fun i j hi hj hij => Or.inl ?_) hA
  · rw [show q = ("java/lang/Enum", "ordinal", "I", (List.range 38).map nI) from by simpa [ak_ors] using hq]
    exact hgv _ (aw_e4 i hi)
  · obtain ⟨a, c1, cell1, k1, q1, -⟩ := Cond.exactly_spec (hgv _ (aw_e3 i hi))
    obtain ⟨b, c2, cell2, k2, r1, -⟩ := Cond.exactly_spec (hgv _ (aw_e3 j hj))
    exact aw_ne q1 r1 (va_eqv (hgv _ (aw_e4 i hi)) rfl) (va_eqv (hgv _ (aw_e4 j hj)) rfl) (aw_e5 i hi j hj hij)
/-- a static array of ints -/
theorem aw_arr {args : Array Value} {s : State} {A : Nat → Prop} {C n d : String} {l : List Nat} (hts : ∀ w ∈ lw_tbl, w.before args s = true) (hgv : ∀ w ∈ flatC (Jvm.Cond.and given_1 narrow_1), w.before args s = true) (hA : ∀ a : Nat, a < s.heap.size → ¬ A a) (h31 : l.length < 2 ^ 31) (h1 : Cond.laysStatic C n d ∈ lw_tbl) (h2 : Cond.initialized C ∈ lw_tbl) (h3 : Cond.arrayOf (.static C n d) .int ∈ flatC (Jvm.Cond.and given_1 narrow_1)) (h4 : Cond.eq (.length (.static C n d)) (.int (Int32.ofNat l.length)) ∈ flatC (Jvm.Cond.and given_1 narrow_1)) (h5 : ∀ j, j < l.length → Cond.eq (.elem (.static C n d) (.int (Int32.ofNat j))) (.int (nI (l.getD j 0))) ∈ flatC (Jvm.Cond.and given_1 narrow_1)) : ∃ t : Nat, va_Z C n d (.ref t) A s s.heap ∧ va_T .int t l.length (fun i => .int (nI (l.getD i 0))) A s s.heap := by
  obtain ⟨t, e1, e2⟩ := va_Tof (f := fun i => .int (nI (l.getD i 0))) h31 (hgv _ h3) (va_eqv (hgv _ h4) rfl) (fun j hj => va_eqv (hgv _ (h5 j hj)) rfl) hA
  exact ⟨t, va_Zref (hts _ h1) (hts _ h2) e1 hA, e2⟩
theorem aw_n1 : Cond.laysStatic "SpanCopier$Order" "WITHOUT" "[I" ∈ lw_tbl ∧ Cond.laysStatic "SpanCopier$Order" "HIGHEST" "[I" ∈ lw_tbl ∧ Cond.laysStatic "SpanCopier$1" "$SwitchMap$SpanCopier$Word" "[I" ∈ lw_tbl ∧ Cond.laysStatic "SpanCopier$World" "NO_FILE" "[B" ∈ lw_tbl := by decide +kernel
theorem aw_n2 : Cond.initialized "SpanCopier$Order" ∈ lw_tbl ∧ Cond.initialized "SpanCopier$1" ∈ lw_tbl ∧ Cond.initialized "SpanCopier$World" ∈ lw_tbl := by decide +kernel
theorem aw_n3 : Cond.arrayOf (.static "SpanCopier$Order" "WITHOUT" "[I") .int ∈ flatC (Jvm.Cond.and given_1 narrow_1) ∧ Cond.arrayOf (.static "SpanCopier$Order" "HIGHEST" "[I") .int ∈ flatC (Jvm.Cond.and given_1 narrow_1) ∧ Cond.arrayOf (.static "SpanCopier$1" "$SwitchMap$SpanCopier$Word" "[I") .int ∈ flatC (Jvm.Cond.and given_1 narrow_1) ∧ Cond.arrayOf (.static "SpanCopier$World" "NO_FILE" "[B") .byte ∈ flatC (Jvm.Cond.and given_1 narrow_1) := by decide +kernel
theorem aw_n4 : Cond.eq (.length (.static "SpanCopier$Order" "WITHOUT" "[I")) (.int (Int32.ofNat 6)) ∈ flatC (Jvm.Cond.and given_1 narrow_1) ∧ Cond.eq (.length (.static "SpanCopier$Order" "HIGHEST" "[I")) (.int (Int32.ofNat 6)) ∈ flatC (Jvm.Cond.and given_1 narrow_1) ∧ Cond.eq (.length (.static "SpanCopier$1" "$SwitchMap$SpanCopier$Word" "[I")) (.int (Int32.ofNat 38)) ∈ flatC (Jvm.Cond.and given_1 narrow_1) ∧ Cond.eq (.length (.static "SpanCopier$World" "NO_FILE" "[B")) (.int (Int32.ofNat 0)) ∈ flatC (Jvm.Cond.and given_1 narrow_1) := by decide +kernel
theorem aw_n5 : ∀ j, j < 6 → Cond.eq (.elem (.static "SpanCopier$Order" "WITHOUT" "[I") (.int (Int32.ofNat j))) (.int (nI (([8, 1, 2, 12, 3, 1] : List Nat).getD j 0))) ∈ flatC (Jvm.Cond.and given_1 narrow_1) := by decide +kernel
theorem aw_n6 : ∀ j, j < 6 → Cond.eq (.elem (.static "SpanCopier$Order" "HIGHEST" "[I") (.int (Int32.ofNat j))) (.int (nI (([32, 2, 9, 60, 9, 60] : List Nat).getD j 0))) ∈ flatC (Jvm.Cond.and given_1 narrow_1) := by decide +kernel
theorem aw_n7 : ∀ j, j < 38 → Cond.eq (.elem (.static "SpanCopier$1" "$SwitchMap$SpanCopier$Word" "[I") (.int (Int32.ofNat j))) (.int (nI (ai_sw.getD j 0))) ∈ flatC (Jvm.Cond.and given_1 narrow_1) := by decide +kernel
theorem aw_n8 : Cond.arrayClass .int ∈ lw_tbl ∧ Cond.arrayClass .byte ∈ lw_tbl ∧ Cond.arrayClass .boolean ∈ lw_tbl ∧ Cond.arrayClass .long ∈ lw_tbl ∧ Cond.arrayOver (.object "SpanCopier$Word") ∈ lw_tbl ∧ Cond.arrayOver (.object "SpanCopier$World") ∈ lw_tbl := by decide +kernel
theorem aw_n9 : Cond.laysStatic "java/lang/Throwable" "UNASSIGNED_STACK" "[Ljava/lang/StackTraceElement;" ∈ lw_tbl ∧ Cond.laysStatic "java/lang/Throwable" "SUPPRESSED_SENTINEL" "Ljava/util/List;" ∈ lw_tbl ∧ Cond.initialized "java/lang/Throwable" ∈ lw_tbl ∧ Cond.isRef (.static "java/lang/Throwable" "UNASSIGNED_STACK" "[Ljava/lang/StackTraceElement;") ∈ flatC (Jvm.Cond.and given_1 narrow_1) ∧ Cond.isRef (.static "java/lang/Throwable" "SUPPRESSED_SENTINEL" "Ljava/util/List;") ∈ flatC (Jvm.Cond.and given_1 narrow_1) := by decide +kernel
theorem aw_n10 : Cond.castable "java/util/NoSuchElementException" "java/util/NoSuchElementException" ∈ lw_tbl ∧ Cond.declares ⟨"java/lang/RuntimeException", "<init>", "()V"⟩ ∈ lw_tbl ∧ Cond.declares ⟨"java/lang/Exception", "<init>", "()V"⟩ ∈ lw_tbl ∧ Cond.declares ⟨"java/lang/Throwable", "<init>", "()V"⟩ ∈ lw_tbl := by decide +kernel
theorem aw_prim {args : Array Value} {s : State} {ty : FieldType} (h : (Cond.arrayClass ty).before args s = true) (hty : ∀ C, ty ≠ .object C) : ∃ cA : ClassId, ArrOfT s cA ty ∧ va_RA s cA ty := by
  obtain ⟨cA, kA, comp, h1, h2, h3⟩ := Cond.arrayClass_spec h
  refine ⟨cA, fun N z => ⟨(fun k h => by cases h), kA, h2, comp, h3⟩, ?_⟩
  cases ty with
  | object C => exact absurd rfl (hty C)
  | _ => exact h1
theorem aw_refA {args : Array Value} {s : State} {C : String} (h : (Cond.arrayOver (.object C)).before args s = true) : ∃ cA : ClassId, ArrOfT s cA (.object C) ∧ va_RA s cA (.object C) := by
  obtain ⟨comp, cA, kA, h1, h2, h3, h4, h5⟩ := Cond.arrayOver_spec h
  exact ⟨cA, fun N z => ⟨(fun k h => by cases h), kA, h3, comp, h4⟩, kA, comp, h3, h4, h1, h5⟩
theorem aw_classes {args : Array Value} {s : State} (hW : ∀ w ∈ ak_W, w.before args s = true) : ∃ D : va_G, ∀ (k : Nat) (q : vw_C), vwCl[k]? = some q → u_Kn s q.1 q.2.1 q.2.2 (D.1 k) (D.2 k) := by
  have h : ∀ k : Nat, ∃ r : ClassId × (Nat → Nat), ∀ q : vw_C, vwCl[k]? = some q → u_Kn s q.1 q.2.1 q.2.2 r.1 r.2 := by
    intro k
    cases hk : vwCl[k]? with
    | none => exact ⟨(0, fun _ => 0), fun q hq => by cases hq⟩
    | some q =>
      have hc := ak_cls q (List.mem_of_getElem? hk)
      obtain ⟨cC, iS, hKn⟩ := u_known (C := q.1) (T := q.2.1) (N := q.2.2) (n := q.2.2) hW hc.1 (hW _ hc.2.2.2.1)
      exact ⟨(cC, iS), fun q' hq => by cases hq; exact hKn⟩
  obtain ⟨f, hf⟩ := Classical.axiomOfChoice h
  exact ⟨(fun k => (f k).1, fun k => (f k).2), hf⟩
/-- the constants' places: the enum's, the arrays', the script's -/
def aw_ad (ad : Nat → Nat) (t0 t1 t2 t3 b : Nat) : Nat → Nat := fun j => if j < 38 then ad j else if j = 40 then t0 else if j = 41 then t1 else if j = 42 then t2 else if j = 43 then t3 else b
def aw_sy (L : Nat) (xs : Nat → Int32) : Nat → Int32 := fun k => if k = 6 then xs 0 &&& 63 else if k = 7 then Int32.ofNat L else xs k
def aw_cA (c1 c2 c3 c4 c5 c6 : ClassId) : Nat → ClassId := fun k => match k with
  | 1 => c1
  | 2 => c2
  | 3 => c3
  | 4 => c4
  | 5 => c5
  | _ => c6
theorem aw_63 (x : Int32) : 2147483648 ≤ ak_b (x &&& 63) ∧ ak_b (x &&& 63) ≤ 2147483711 := by
  have h := ak_b_int (x &&& 63)
  have h1 : 0 ≤ (x &&& 63).toInt ∧ (x &&& 63).toInt ≤ 63 := by
    rw [← Int32.toInt_toBitVec, Int32.toBitVec_and]
    have h2 : (x.toBitVec &&& (63 : Int32).toBitVec).toNat ≤ 63 := by
      rw [BitVec.toNat_and]
      exact Nat.and_le_right
    rw [BitVec.toInt_eq_toNat_of_lt (by omega)]
    omega
  omega
theorem aw_Lb {L : Nat} (h : L ≤ 6) : 2147483648 ≤ ak_b (Int32.ofNat L) ∧ ak_b (Int32.ofNat L) ≤ 2147483654 := by
  have h1 := ak_b_int (Int32.ofNat L)
  have h2 : (Int32.ofNat L).toInt = L := Int32.toInt_ofNat_of_lt (by omega)
  omega
theorem aw_env {ι : ak_I} {L : Nat} {xs : Nat → Int32} (h : ι.2.2.2.2.1 = aw_sy L xs) (hL : L ≤ 6) : ak_e ι az_z0.2.2.2.2.1 := by
  have full : ∀ k, 0 ≤ ak_b (ι.2.2.2.2.1 k) ∧ ak_b (ι.2.2.2.2.1 k) ≤ 4294967295 := fun k => ⟨Nat.zero_le _, by have := ak_b_lt (ι.2.2.2.2.1 k); omega⟩
  intro k q hq
  match k, hq with
  | 0, hq => cases hq; exact full 0
  | 1, hq => cases hq; exact full 1
  | 2, hq => cases hq; exact full 2
  | 3, hq => cases hq; exact full 3
  | 4, hq => cases hq; exact full 4
  | 5, hq => cases hq; exact full 5
  | 6, hq => cases hq; rw [h]; exact aw_63 (xs 0)
  | 7, hq => cases hq; rw [h]; exact aw_Lb hL
  | k + 8, hq => simp [az_z0] at hq
theorem aw_flags {l : Launch} (h : l.flags = flags0) : l.stackTraces = false := by
  unfold Launch.stackTraces
  rw [h]
  decide +kernel
set_option maxHeartbeats 4000000 in
/-- from the entry, for every script of at most 6 ints, the law comes to its end with true -/
theorem whole_start {p : Program} {e : Env} {s : State} {m : MethodId} {below : List Frame} {meth : Method} {c : Code} (l : Launch) (hl : l.stackTraces = false) {b L : Nat} {xs : Nat → Int32} (hL : L ≤ 6) (hnm : meth.name = "law") (C0 : lw_At p s m meth c b L xs) : W p l e room_1 s m #[Value.ref b] below meth c s.heap [] 0 0 (lw_Z below #[Value.ref b] s) (entryFrame m ([Value.ref b] : List Value).toArray 7) := by
  obtain ⟨hx, hb, hr, hml, hown, hts, hX, hbl, hlk, hgv0⟩ := C0
  have hgv := flat_of_before _ hgv0
  have hA : ∀ a : Nat, a < s.heap.size → ¬ (fun q : Nat => s.heap.size ≤ q) a := fun a h => Nat.not_le.mpr h
  have hW : ∀ w ∈ ak_W, w.before #[Value.ref b] s = true := fun w hw => hts w (List.mem_filter.mp hw).1
  obtain ⟨ad, hEn⟩ := aw_enum hts hgv hA
  obtain ⟨t0, z0, a0⟩ := aw_arr (C := "SpanCopier$Order") (n := "WITHOUT") (d := "[I") (l := [8, 1, 2, 12, 3, 1]) hts hgv hA (by decide) aw_n1.1 aw_n2.1 aw_n3.1 aw_n4.1 aw_n5
  obtain ⟨t1, z1, a1⟩ := aw_arr (C := "SpanCopier$Order") (n := "HIGHEST") (d := "[I") (l := [32, 2, 9, 60, 9, 60]) hts hgv hA (by decide) aw_n1.2.1 aw_n2.1 aw_n3.2.1 aw_n4.2.1 aw_n6
  obtain ⟨t3, z3, a3⟩ := aw_arr (C := "SpanCopier$1") (n := "$SwitchMap$SpanCopier$Word") (d := "[I") (l := ai_sw) hts hgv hA (by decide) aw_n1.2.2.1 aw_n2.2.1 aw_n3.2.2.1 aw_n4.2.2.1 aw_n7
  obtain ⟨t2, e2, a2⟩ := va_Tof (f := fun _ => .int 0) (N := 0) (by decide) (hgv _ aw_n3.2.2.2) (va_eqv (hgv _ aw_n4.2.2.2) rfl) (fun j hj => absurd hj (Nat.not_lt_zero _)) hA
  have z2 := va_Zref (hts _ aw_n1.2.2.2) (hts _ aw_n2.2.2) e2 hA
  obtain ⟨D, hD⟩ := aw_classes hW
  obtain ⟨c1, k1⟩ := aw_prim (hts _ aw_n8.1) (fun C h => by cases h)
  obtain ⟨c2, k2⟩ := aw_prim (hts _ aw_n8.2.1) (fun C h => by cases h)
  obtain ⟨c3, k3⟩ := aw_prim (hts _ aw_n8.2.2.1) (fun C h => by cases h)
  obtain ⟨c4, k4⟩ := aw_prim (hts _ aw_n8.2.2.2.1) (fun C h => by cases h)
  obtain ⟨c5, k5⟩ := aw_refA (hts _ aw_n8.2.2.2.2.1)
  obtain ⟨c6, k6⟩ := aw_refA (hts _ aw_n8.2.2.2.2.2)
  obtain ⟨ι, hι⟩ : ∃ ι : ak_I, ι = (s.heap.size, D, aw_cA c1 c2 c3 c4 c5 c6, aw_ad ad t0 t1 t2 t3 b, aw_sy L xs, []) := ⟨_, rfl⟩
  have hK : va_K ι.2.1 vwCl (ak_T ι) s := by
    subst hι
    refine ⟨hD, fun k q hq => ?_⟩
    match k, hq with
    | 0, hq => cases hq; exact k1
    | 1, hq => cases hq; exact k2
    | 2, hq => cases hq; exact k3
    | 3, hq => cases hq; exact k4
    | 4, hq => cases hq; exact k5
    | 5, hq => cases hq; exact k6
    | k + 6, hq => simp [ak_T] at hq
  have hS : ak_S ι s s.heap := by
    subst hι
    refine ⟨⟨fun i hi => ?_, fun i j hi hj he => ?_⟩, fun j l hjl => ?_, ⟨z2, a2⟩, L, xs, hX, hbl, hbl, hL, rfl, fun k hk => ?_, rfl⟩
    · have e : aw_ad ad t0 t1 t2 t3 b i = ad i := if_pos hi
      show va_Z _ _ _ (.ref (aw_ad ad t0 t1 t2 t3 b i)) _ s s.heap ∧ va_O _ (aw_ad ad t0 t1 t2 t3 b i) _ s s.heap ∧ ∀ q ∈ ak_ors, va_OF q.1 q.2.1 q.2.2.1 (.int (q.2.2.2.getD i 0)) (aw_ad ad t0 t1 t2 t3 b i) _ s s.heap
      rw [e]
      exact hEn.1 i hi
    · have e1 : aw_ad ad t0 t1 t2 t3 b i = ad i := if_pos hi
      have e2 : aw_ad ad t0 t1 t2 t3 b j = ad j := if_pos hj
      have he : aw_ad ad t0 t1 t2 t3 b i = aw_ad ad t0 t1 t2 t3 b j := he
      rw [e1, e2] at he
      exact hEn.2 i j hi hj he
    · have hj : ai_sar j = if Nat.beq j 40 = true then some [8, 1, 2, 12, 3, 1] else if Nat.beq j 41 = true then some [32, 2, 9, 60, 9, 60] else if Nat.beq j 43 = true then some ai_sw else none := by
        rw [← ak_if, ← ak_if, ← ak_if]; rfl
      rw [hj] at hjl
      simp only [Nat.beq_eq] at hjl
      split at hjl
      · rename_i h0; subst h0; cases hjl; exact ⟨z0, a0⟩
      · split at hjl
        · rename_i h0; subst h0; cases hjl; exact ⟨z1, a1⟩
        · split at hjl
          · rename_i h0; subst h0; cases hjl; exact ⟨z3, a3⟩
          · cases hjl
    · show aw_sy L xs k = xs k
      unfold aw_sy
      rw [if_neg (by omega), if_neg (by omega)]
  have hN : ak_Nw s := ⟨fun a i b' n d h hm => va_Nw.of rfl (hts _ hm), fun a i x h hm => va_Nw.of rfl (hts _ hm), va_AO.of (hts _ aw_n8.2.2.2.2.1), va_AO.of (hts _ aw_n8.2.2.2.2.2)⟩
  have hTh : aw_Th ι s s.heap := by
    subst hι
    exact ⟨vx_Zqof (hts _ aw_n9.1) (hts _ aw_n9.2.2.1) (hgv _ aw_n9.2.2.2.1) hA, vx_Zqof (hts _ aw_n9.2.1) (hts _ aw_n9.2.2.1) (hgv _ aw_n9.2.2.2.2) hA, va_Nw.of rfl (hts _ aw_n10.1), va_Nw.of rfl (hts _ aw_n10.2.1), va_Nw.of rfl (hts _ aw_n10.2.2.1), va_Nw.of rfl (hts _ aw_n10.2.2.2)⟩
  have hi1 : ι.1 = s.heap.size := by rw [hι]
  have C : ak_C ι ⟨"SpanCopierLaw", "law", "([I)Z"⟩ code ret ai_M179 8 p l e room_1 s m #[Value.ref b] below meth c :=
    ⟨⟨hx, hb, hr, hml⟩, ⟨hown, hW, hlk, hnm⟩, ⟨hK, hS, Nat.le_of_eq hi1, hN⟩, by decide, by decide, rfl, rfl⟩
  have hlv := lv_entry ([.ref b]) (n := 7) (Nat.le_of_ble_eq_true rfl)
  rw [lg_entry_eq]
  generalize (lg_sl ([.ref b]) ++ List.replicate (7 - (lg_sl ([.ref b])).length) Slot.unset).toArray = ls at hlv ⊢
  have hlv : lv_has ls 7 [(0, .ref b)] := hlv
  refine aF_z0 ai_M179 _ ak_t179 ak_q179 ι p l e room_1 s m #[Value.ref b] below meth c ⟨hl, hTh⟩ (by rw [hι]; exact Nat.le_refl 0) C (lw_Z below #[Value.ref b] s) ?_ [] ls [] s.heap [] ⟨(fun k q h => by cases h), ⟨⟨(fun i j p q h => by cases h), (fun k q h => by cases h)⟩, (by rw [hι]; exact List.nil_prefix)⟩, va_S.rf, ⟨rfl, rfl, fun k c h => absurd h (Nat.not_lt_zero _)⟩, ⟨Nat.le_refl _, [(0, .ref b)], hlv, fun i a ha h7 => ?_⟩, trivial, aw_env (by rw [hι]) hL⟩
  · intro o ho
    have ho : o = (some (0, 1), 76, az_dd 76, az_z0.2.2.2.2.1) := List.mem_singleton.mp ho
    subst ho
    intro ws ls' H locs pc nc ns v r1 r2 hP hD' hpre hS' hh he hcase
    rcases hcase with ⟨h1, -⟩ | ⟨u, x, h1, rfl, h3, -, h6⟩ | ⟨u, x, h1, rfl, h2, h3, -⟩ | ⟨k, h1, -⟩
    · cases h1
    · cases h1
      have hx1 : x = 1 := by
        obtain ⟨y, hy, h0, -⟩ := ak_v_int h3 (by simp)
        cases hy
        rw [h0 rfl]
        rfl
      subst hx1
      refine va_forget (fun q hq => by have := hS'.2.2 q hq; rw [← hi1]; exact this) ?_
      refine W.widen r1 r2 ?_
      exact lw_ret hx hb hr hlk (by rw [← hb]; exact h6)
    · cases h1
      obtain ⟨y, hy, -, -⟩ := ak_v_int h3 (by simp)
      rcases h2 with rfl | ⟨q, rfl⟩ <;> cases hy
    · cases h1
  · match i, ha with
    | 0, ha => cases ha; exact ⟨.ref b, List.mem_singleton.mpr rfl, Or.inr (Or.inr (Or.inr (Or.inr (Or.inr (Or.inr (Or.inr ⟨rfl, by rw [hι]; rfl⟩)))))), rfl⟩
    | 1, ha => cases ha; simp at h7
    | 2, ha => cases ha; simp at h7
    | 3, ha => cases ha; simp at h7
    | 4, ha => cases ha; simp at h7
    | 5, ha => cases ha; simp at h7
    | 6, ha => cases ha; simp at h7
    | i + 7, ha => simp [az_z0] at ha
