/-! ===== the things that are there at the law's start ===== -/
theorem sw_e1 : ∀ i, i < b_nm.length → Cond.laysStatic "SpanCopier$Word" (b_nm.getD i "") "LSpanCopier$Word;" ∈ lw_tbl := by decide +kernel
theorem sw_e2 : Cond.initialized "SpanCopier$Word" ∈ lw_tbl := by decide +kernel
theorem sw_e3 : ∀ i, i < b_nm.length → Cond.exactly (.static "SpanCopier$Word" (b_nm.getD i "") "LSpanCopier$Word;") "SpanCopier$Word" ∈ flatC (Jvm.Cond.and given_1 narrow_1) := by decide +kernel
theorem sw_e4 : ∀ i, i < b_nm.length → Cond.eq (.field (.static "SpanCopier$Word" (b_nm.getD i "") "LSpanCopier$Word;") "java/lang/Enum" "ordinal" "I") (.int (((List.range 38).map (fun i : Nat => bz (i : Int))).getD i 0)) ∈ flatC (Jvm.Cond.and given_1 narrow_1) := by decide +kernel
theorem sw_e5 : ∀ i, i < b_nm.length → ∀ j, j < b_nm.length → i ≠ j → ((List.range 38).map (fun i : Nat => bz (i : Int))).getD i 0 ≠ ((List.range 38).map (fun i : Nat => bz (i : Int))).getD j 0 := by decide +kernel
theorem sw_ne {args : Array Value} {s : State} {t u : Term} {a b : Nat} {x y : Int32} (ht : t.eval args s none [] s = some (.ref a)) (hu : u.eval args s none [] s = some (.ref b)) (h1 : (Term.field t "java/lang/Enum" "ordinal" "I").eval args s none [] s = some (.int x)) (h2 : (Term.field u "java/lang/Enum" "ordinal" "I").eval args s none [] s = some (.int y)) (hxy : x ≠ y) : (Cond.not (.eq t u)).before args s = true := by
  have hab : a ≠ b := by
    intro e
    subst e
    rw [va_fe ht] at h1
    rw [va_fe hu, h1] at h2
    cases h2
    exact hxy rfl
  simp [Cond.before, Cond.holds, Cond.value, ht, hu, hab]
theorem sw_enum {args : Array Value} {s : State} {A : Nat → Prop} (hts : ∀ w ∈ lw_tbl, w.before args s = true) (hgv : ∀ w ∈ flatC (Jvm.Cond.and given_1 narrow_1), w.before args s = true) (hA : ∀ a : Nat, a < s.heap.size → ¬ A a) : ∃ ad : Nat → Nat, va_En "SpanCopier$Word" "LSpanCopier$Word;" b_nm b_ors ad A s s.heap := by
  refine va_Enof (fun i hi => hts _ (sw_e1 i hi)) (hts _ sw_e2) (fun i hi => hgv _ (sw_e3 i hi)) (fun q hq i hi => ?_) (fun i j hi hj hij => Or.inl ?_) hA
  · rw [show q = ("java/lang/Enum", "ordinal", "I", (List.range 38).map (fun i : Nat => bz (i : Int))) from by simpa [b_ors] using hq]
    exact hgv _ (sw_e4 i hi)
  · obtain ⟨a, c1, cell1, k1, q1, -⟩ := Cond.exactly_spec (hgv _ (sw_e3 i hi))
    obtain ⟨b, c2, cell2, k2, r1, -⟩ := Cond.exactly_spec (hgv _ (sw_e3 j hj))
    exact sw_ne q1 r1 (va_eqv (hgv _ (sw_e4 i hi)) rfl) (va_eqv (hgv _ (sw_e4 j hj)) rfl) (sw_e5 i hi j hj hij)
theorem sw_arr {args : Array Value} {s : State} {A : Nat → Prop} {C n d : String} {l : List Nat} (hts : ∀ w ∈ lw_tbl, w.before args s = true) (hgv : ∀ w ∈ flatC (Jvm.Cond.and given_1 narrow_1), w.before args s = true) (hA : ∀ a : Nat, a < s.heap.size → ¬ A a) (h31 : l.length < 2 ^ 31) (h1 : Cond.laysStatic C n d ∈ lw_tbl) (h2 : Cond.initialized C ∈ lw_tbl) (h3 : Cond.arrayOf (.static C n d) .int ∈ flatC (Jvm.Cond.and given_1 narrow_1)) (h4 : Cond.eq (.length (.static C n d)) (.int (Int32.ofNat l.length)) ∈ flatC (Jvm.Cond.and given_1 narrow_1)) (h5 : ∀ j, j < l.length → Cond.eq (.elem (.static C n d) (.int (Int32.ofNat j))) (.int (bz ((l.getD j 0 : Nat) : Int))) ∈ flatC (Jvm.Cond.and given_1 narrow_1)) : ∃ t : Nat, va_Z C n d (.ref t) A s s.heap ∧ va_T .int t l.length (fun i => .int (bz ((l.getD i 0 : Nat) : Int))) A s s.heap := by
  obtain ⟨t, e1, e2⟩ := va_Tof (f := fun i => .int (bz ((l.getD i 0 : Nat) : Int))) h31 (hgv _ h3) (va_eqv (hgv _ h4) rfl) (fun j hj => va_eqv (hgv _ (h5 j hj)) rfl) hA
  exact ⟨t, va_Zref (hts _ h1) (hts _ h2) e1 hA, e2⟩
theorem sw_n1 : Cond.laysStatic "SpanCopier$Order" "WITHOUT" "[I" ∈ lw_tbl ∧ Cond.laysStatic "SpanCopier$Order" "HIGHEST" "[I" ∈ lw_tbl ∧ Cond.laysStatic "SpanCopier$1" "$SwitchMap$SpanCopier$Word" "[I" ∈ lw_tbl ∧ Cond.laysStatic "SpanCopier$World" "NO_FILE" "[B" ∈ lw_tbl ∧ Cond.laysStatic "SpanCopier$Word" "ALL" "[LSpanCopier$Word;" ∈ lw_tbl := by decide +kernel
theorem sw_n2 : Cond.initialized "SpanCopier$Order" ∈ lw_tbl ∧ Cond.initialized "SpanCopier$1" ∈ lw_tbl ∧ Cond.initialized "SpanCopier$World" ∈ lw_tbl := by decide +kernel
theorem sw_n3 : Cond.arrayOf (.static "SpanCopier$Order" "WITHOUT" "[I") .int ∈ flatC (Jvm.Cond.and given_1 narrow_1) ∧ Cond.arrayOf (.static "SpanCopier$Order" "HIGHEST" "[I") .int ∈ flatC (Jvm.Cond.and given_1 narrow_1) ∧ Cond.arrayOf (.static "SpanCopier$1" "$SwitchMap$SpanCopier$Word" "[I") .int ∈ flatC (Jvm.Cond.and given_1 narrow_1) ∧ Cond.arrayOf (.static "SpanCopier$World" "NO_FILE" "[B") .byte ∈ flatC (Jvm.Cond.and given_1 narrow_1) ∧ Cond.arrayOf (.static "SpanCopier$Word" "ALL" "[LSpanCopier$Word;") (.object "SpanCopier$Word") ∈ flatC (Jvm.Cond.and given_1 narrow_1) := by decide +kernel
theorem sw_n4 : Cond.eq (.length (.static "SpanCopier$Order" "WITHOUT" "[I")) (.int (Int32.ofNat 6)) ∈ flatC (Jvm.Cond.and given_1 narrow_1) ∧ Cond.eq (.length (.static "SpanCopier$Order" "HIGHEST" "[I")) (.int (Int32.ofNat 6)) ∈ flatC (Jvm.Cond.and given_1 narrow_1) ∧ Cond.eq (.length (.static "SpanCopier$1" "$SwitchMap$SpanCopier$Word" "[I")) (.int (Int32.ofNat 38)) ∈ flatC (Jvm.Cond.and given_1 narrow_1) ∧ Cond.eq (.length (.static "SpanCopier$World" "NO_FILE" "[B")) (.int (Int32.ofNat 0)) ∈ flatC (Jvm.Cond.and given_1 narrow_1) ∧ Cond.eq (.length (.static "SpanCopier$Word" "ALL" "[LSpanCopier$Word;")) (.int (Int32.ofNat 38)) ∈ flatC (Jvm.Cond.and given_1 narrow_1) := by decide +kernel
theorem sw_n5 : ∀ j, j < 6 → Cond.eq (.elem (.static "SpanCopier$Order" "WITHOUT" "[I") (.int (Int32.ofNat j))) (.int (bz ((([8, 1, 2, 12, 3, 1] : List Nat).getD j 0 : Nat) : Int))) ∈ flatC (Jvm.Cond.and given_1 narrow_1) := by decide +kernel
theorem sw_n6 : ∀ j, j < 6 → Cond.eq (.elem (.static "SpanCopier$Order" "HIGHEST" "[I") (.int (Int32.ofNat j))) (.int (bz ((([32, 2, 9, 60, 9, 60] : List Nat).getD j 0 : Nat) : Int))) ∈ flatC (Jvm.Cond.and given_1 narrow_1) := by decide +kernel
theorem sw_n7 : ∀ j, j < 38 → Cond.eq (.elem (.static "SpanCopier$1" "$SwitchMap$SpanCopier$Word" "[I") (.int (Int32.ofNat j))) (.int (bz ((b_sw.getD j 0 : Nat) : Int))) ∈ flatC (Jvm.Cond.and given_1 narrow_1) := by decide +kernel
theorem sw_nA : ∀ j, j < 38 → Cond.eq (.elem (.static "SpanCopier$Word" "ALL" "[LSpanCopier$Word;") (.int (Int32.ofNat j))) (.static "SpanCopier$Word" (b_nm.getD j "") "LSpanCopier$Word;") ∈ flatC (Jvm.Cond.and given_1 narrow_1) := by decide +kernel
def sw_codes : List Int64 := [0, 3429835, 553002105, 14839, 5572, 1682596, 4370489, 754996, 21570739, 624325, 655, 8243, 1140, 427365, 150000, 442053, 114201, 409189, 21734501, 394885, 20462892, 556250644, 3737192, 664683, 498, 1476, 14836, 132737, 5606, 14379, 1131, 6446, 16052, 654812564, 215533, 427481, 21269875, 492210354]
theorem sw_nC : ∀ j, j < 38 → Cond.eq (.field (.static "SpanCopier$Word" (b_nm.getD j "") "LSpanCopier$Word;") "SpanCopier$Word" "code" "J") (.long (sw_codes.getD j 0)) ∈ flatC (Jvm.Cond.and given_1 narrow_1) := by decide +kernel
theorem sw_n8 : Cond.arrayClass .int ∈ lw_tbl ∧ Cond.arrayClass .byte ∈ lw_tbl ∧ Cond.arrayClass .boolean ∈ lw_tbl ∧ Cond.arrayClass .long ∈ lw_tbl ∧ Cond.arrayOver (.object "SpanCopier$Word") ∈ lw_tbl ∧ Cond.arrayOver (.object "SpanCopier$World") ∈ lw_tbl := by decide +kernel
theorem sw_n9 : Cond.laysStatic "java/lang/Throwable" "UNASSIGNED_STACK" "[Ljava/lang/StackTraceElement;" ∈ lw_tbl ∧ Cond.laysStatic "java/lang/Throwable" "SUPPRESSED_SENTINEL" "Ljava/util/List;" ∈ lw_tbl ∧ Cond.initialized "java/lang/Throwable" ∈ lw_tbl ∧ Cond.isRef (.static "java/lang/Throwable" "UNASSIGNED_STACK" "[Ljava/lang/StackTraceElement;") ∈ flatC (Jvm.Cond.and given_1 narrow_1) ∧ Cond.isRef (.static "java/lang/Throwable" "SUPPRESSED_SENTINEL" "Ljava/util/List;") ∈ flatC (Jvm.Cond.and given_1 narrow_1) := by decide +kernel
theorem sw_n10 : Cond.castable "java/util/NoSuchElementException" "java/util/NoSuchElementException" ∈ lw_tbl ∧ Cond.declares ⟨"java/lang/RuntimeException", "<init>", "()V"⟩ ∈ lw_tbl ∧ Cond.declares ⟨"java/lang/Exception", "<init>", "()V"⟩ ∈ lw_tbl ∧ Cond.declares ⟨"java/lang/Throwable", "<init>", "()V"⟩ ∈ lw_tbl := by decide +kernel
theorem sw_prim {args : Array Value} {s : State} {ty : FieldType} (h : (Cond.arrayClass ty).before args s = true) (hty : ∀ C, ty ≠ .object C) : ∃ cA : ClassId, ArrOfT s cA ty ∧ va_RA s cA ty := by
  obtain ⟨cA, kA, comp, h1, h2, h3⟩ := Cond.arrayClass_spec h
  refine ⟨cA, fun N z => ⟨(fun k h => by cases h), kA, h2, comp, h3⟩, ?_⟩
  cases ty with
  | object C => exact absurd rfl (hty C)
  | _ => exact h1
theorem sw_refA {args : Array Value} {s : State} {C : String} (h : (Cond.arrayOver (.object C)).before args s = true) : ∃ cA : ClassId, ArrOfT s cA (.object C) ∧ va_RA s cA (.object C) := by
  obtain ⟨comp, cA, kA, h1, h2, h3, h4, h5⟩ := Cond.arrayOver_spec h
  exact ⟨cA, fun N z => ⟨(fun k h => by cases h), kA, h3, comp, h4⟩, kA, comp, h3, h4, h1, h5⟩
theorem sw_classes {args : Array Value} {s : State} (hW : ∀ w ∈ bW, w.before args s = true) : ∃ D : va_G, ∀ (k : Nat) (q : vw_C), vwCl[k]? = some q → u_Kn s q.1 q.2.1 q.2.2 (D.1 k) (D.2 k) := by
  have h : ∀ k : Nat, ∃ r : ClassId × (Nat → Nat), ∀ q : vw_C, vwCl[k]? = some q → u_Kn s q.1 q.2.1 q.2.2 r.1 r.2 := by
    intro k
    cases hk : vwCl[k]? with
    | none => exact ⟨(0, fun _ => 0), fun q hq => by cases hq⟩
    | some q =>
      have hc := bcls q (List.mem_of_getElem? hk)
      obtain ⟨cC, iS, hKn⟩ := u_known (C := q.1) (T := q.2.1) (N := q.2.2) (n := q.2.2) hW hc.1 (hW _ hc.2.2.2.1)
      exact ⟨(cC, iS), fun q' hq => by cases hq; exact hKn⟩
  obtain ⟨f, hf⟩ := Classical.axiomOfChoice h
  exact ⟨(fun k => (f k).1, fun k => (f k).2), hf⟩
theorem sw_flags {l : Launch} (h : l.flags = flags0) : l.stackTraces = false := by
  unfold Launch.stackTraces
  rw [h]
  decide +kernel
def sw_ad (ad : Nat → Nat) (t0 t1 t2 t3 t4 : Nat) : Nat → Nat := fun j => if j < 38 then ad j else if j = 40 then t0 else if j = 41 then t1 else if j = 42 then t2 else if j = 43 then t3 else t4
def sw_cA (c1 c2 c3 c4 c5 c6 : ClassId) : Nat → ClassId := fun k => match k with
  | 1 => c1
  | 2 => c2
  | 3 => c3
  | 4 => c4
  | 5 => c5
  | _ => c6
/-- an object with a long in it isn't a row of ints or bytes -/
theorem sw_obj {s : State} {A : Nat → Prop} {o n d : String} {w : Int64} {t t' N : Nat} {f : Nat → Value} {ty : FieldType} (hh : heapFits s = true) (hE : va_OF o n d (.long w) t A s s.heap) (hT : va_T ty t' N f A s s.heap) (hty : ty = .int ∨ ty = .byte) : t ≠ t' := by
  rintro rfl
  obtain ⟨cf, k, fi, f9, cell, -, -, h3, -, h5, -⟩ := hE
  obtain ⟨cell', c1, ⟨c2, k9, c3, comp, c4⟩, -⟩ := hT
  rw [h3] at c1
  cases c1
  obtain ⟨hlt, hc⟩ := Array.getElem?_eq_some_iff.mp h3
  have hf := Array.all_eq_true.mp hh t hlt
  rw [hc] at hf
  obtain ⟨hs, -⟩ := Array.getElem?_eq_some_iff.mp h5
  have hq := List.all_eq_true.mp hf f9.slot (List.mem_range.mpr hs)
  rw [h5] at hq
  have hst : s.slotType? cell.cls cell.vm f9.slot = some ty := by
    unfold State.slotType?
    rw [c3]
    cases e : cell.vm with
    | statics k => exact absurd e (c2 k)
    | _ => simp [c4]
  have hq : s.fitsSlot cell.cls cell.vm f9.slot (.long w) = true := hq
  unfold State.fitsSlot at hq
  rw [hst] at hq
  rcases hty with rfl | rfl <;> cases hq
theorem sw_size {s : State} {A : Nat → Prop} {t t' N N' : Nat} {f f' : Nat → Value} {ty ty' : FieldType} (hT : va_T ty t N f A s s.heap) (hT' : va_T ty' t' N' f' A s s.heap) (hne : Int32.ofNat N ≠ Int32.ofNat N') : t ≠ t' := by
  rintro rfl
  obtain ⟨c, c1, -, -, -, c5, -⟩ := hT
  obtain ⟨c', d1, -, -, -, d5, -⟩ := hT'
  rw [c1] at d1
  cases d1
  exact hne (c5.symm.trans d5)
theorem sw_elem {s : State} {A : Nat → Prop} {t t' N N' : Nat} {f f' : Nat → Value} {ty ty' : FieldType} (hT : va_T ty t N f A s s.heap) (hT' : va_T ty' t' N' f' A s s.heap) (h0 : 0 < N) (h0' : 0 < N') (hne : f 0 ≠ f' 0) : t ≠ t' := by
  rintro rfl
  obtain ⟨c, c1, -, -, -, -, c6, -⟩ := hT
  obtain ⟨c', d1, -, -, -, -, d6, -⟩ := hT'
  rw [c1] at d1
  cases d1
  exact hne (Option.some.inj ((c6 0 h0).symm.trans (d6 0 h0')))
/-- the constants are apart -/
def swD (ad : Nat → Nat) : Prop := (∀ i, i < 38 → ∀ j, j < 38 → ad i = ad j → i = j) ∧ (∀ i, i < 38 → ad i ≠ ad 40 ∧ ad i ≠ ad 41 ∧ ad i ≠ ad 42 ∧ ad i ≠ ad 43) ∧ ad 40 ≠ ad 41 ∧ ad 40 ≠ ad 42 ∧ ad 40 ≠ ad 43 ∧ ad 41 ≠ ad 42 ∧ ad 41 ≠ ad 43 ∧ ad 42 ≠ ad 43
noncomputable def swg (ad : Nat → Nat) (a : Nat) : Nat := @ite Nat (∃ j, j < 38 ∧ a = ad j) (Classical.propDecidable _) 30 (if a = ad 40 then 31 else if a = ad 41 then 32 else if a = ad 43 then 33 else if a = ad 42 then 34 else 0)
noncomputable def swt (ad : Nat → Nat) : bt := (fun a => @ite Nat (∃ j, j < 38 ∧ a = ad j) (Classical.propDecidable _) 30 (if a = ad 40 ∨ a = ad 41 ∨ a = ad 43 then 31 else if a = ad 42 then 22 else 0), fun a => @ite Nat (∃ j, j < 38 ∧ a = ad j) (Classical.propDecidable _) 0 (if a = ad 40 ∨ a = ad 41 then 6 else if a = ad 43 then 38 else 0))
noncomputable def swh (ad : Nat → Nat) : bh := (fun a i => @dite Int (∃ j, j < 38 ∧ a = ad j) (Classical.propDecidable _) (fun h => ((Classical.choose h : Nat) : Int)) (fun _ => if a = ad 40 then ((([8, 1, 2, 12, 3, 1] : List Nat).getD i 0 : Nat) : Int) else if a = ad 41 then ((([32, 2, 9, 60, 9, 60] : List Nat).getD i 0 : Nat) : Int) else if a = ad 43 then ((b_sw.getD i 0 : Nat) : Int) else 0), fun _ _ => none)
theorem sw_role : cfR cT0 30 = some (30, 0, 0, []) ∧ cfR cT0 31 = some (31, 6, 6, []) ∧ cfR cT0 32 = some (31, 6, 6, []) ∧ cfR cT0 33 = some (31, 38, 38, []) ∧ cfR cT0 34 = some (22, 0, 240, []) := ⟨by rfl, by rfl, by rfl, by rfl, by rfl⟩
theorem sw_wt1 {g : Nat → Nat} {τ : bt} {h : bh} {a r kd : Nat} {n1 n2 : Int} (hg : g a = r) (hr : cfR cT0 r = some (kd, n1, n2, [])) (h12 : r ≠ 12) (hk : kd ≠ 0) (ht : τ.1 a = kd) (h1 : n1 ≤ τ.2 a) (h2 : (τ.2 a : Int) ≤ n2) : ∃ R, cfR cT0 (g a) = some R ∧ τ.1 a = R.1 ∧ R.1 ≠ 0 ∧ (R.2.1 ≤ τ.2 a ∧ (τ.2 a : Int) ≤ R.2.2.1) ∧ (∀ i, cok g h a i (cseg R.2.2.2 i)) ∧ cRg R (h.1 a) ∧ cKe g h a ∧ (g a = 12 → (cseg R.2.2.2 23).1 = 1 ∧ (cseg R.2.2.2 23).2.2.2.1 = 68 ∧ (cseg R.2.2.2 16).1 = 1 ∧ (cseg R.2.2.2 16).2.2.2.1 = 63) := by
  refine ⟨_, by rw [hg]; exact hr, ht, hk, ⟨h1, h2⟩, fun i => ⟨fun z => ?_, fun z => ?_⟩, fun _ q hq _ => absurd hq List.not_mem_nil, fun e => absurd (hg.symm.trans e) h12, fun e => absurd (hg.symm.trans e) h12⟩
  · exact absurd (show (2 : Nat) = 0 from z) (by decide)
  · exact absurd (show (2 : Nat) = 1 from z) (by decide)
theorem sw_52 (ad : Nat → Nat) (a : Nat) : swg ad a ≠ 52 := by
  unfold swg
  by_cases c : ∃ j, j < 38 ∧ a = ad j
  · rw [if_pos c]
    decide
  · rw [if_neg c]
    by_cases c0 : a = ad 40
    · rw [if_pos c0]
      decide
    · rw [if_neg c0]
      by_cases c1 : a = ad 41
      · rw [if_pos c1]
        decide
      · rw [if_neg c1]
        by_cases c3 : a = ad 43
        · rw [if_pos c3]
          decide
        · rw [if_neg c3]
          by_cases c2 : a = ad 42
          · rw [if_pos c2]
            decide
          · rw [if_neg c2]
            decide
theorem sw_wt (ad : Nat → Nat) : cWT cT0 (swg ad) (swt ad) (swh ad) := by
  intro a ha
  obtain ⟨r30, r31, r32, r33, r34⟩ := sw_role
  by_cases c : ∃ j, j < 38 ∧ a = ad j
  · exact sw_wt1 (r := 30) (by simp [swg, c]) r30 (by decide) (by decide) (by simp [swt, c]) (by simp [swt, c]) (by simp [swt, c])
  · by_cases c0 : a = ad 40
    · exact sw_wt1 (r := 31) (by simp only [swg, if_neg c, if_pos c0]) r31 (by decide) (by decide) (by simp only [swt, if_neg c, if_pos (Or.inl c0)]) (by simp only [swt, if_neg c, if_pos (Or.inl c0)]; decide) (by simp only [swt, if_neg c, if_pos (Or.inl c0)]; decide)
    · by_cases c1 : a = ad 41
      · exact sw_wt1 (r := 32) (by simp only [swg, if_neg c, if_neg c0, if_pos c1]) r32 (by decide) (by decide) (by simp only [swt, if_neg c, if_pos (Or.inr (Or.inl c1))]) (by simp only [swt, if_neg c, if_pos (Or.inr c1)]; decide) (by simp only [swt, if_neg c, if_pos (Or.inr c1)]; decide)
      · have n01 : ¬ (a = ad 40 ∨ a = ad 41) := fun e => e.elim c0 c1
        by_cases c3 : a = ad 43
        · exact sw_wt1 (r := 33) (by simp only [swg, if_neg c, if_neg c0, if_neg c1, if_pos c3]) r33 (by decide) (by decide) (by simp only [swt, if_neg c, if_pos (Or.inr (Or.inr c3))]) (by simp only [swt, if_neg c, if_neg n01, if_pos c3]; decide) (by simp only [swt, if_neg c, if_neg n01, if_pos c3]; decide)
        · have n3 : ¬ (a = ad 40 ∨ a = ad 41 ∨ a = ad 43) := fun e => e.elim c0 (fun e => e.elim c1 c3)
          by_cases c2 : a = ad 42
          · exact sw_wt1 (r := 34) (by simp only [swg, if_neg c, if_neg c0, if_neg c1, if_neg c3, if_pos c2]) r34 (by decide) (by decide) (by simp only [swt, if_neg c, if_neg n3, if_pos c2]) (by simp only [swt, if_neg c, if_neg n01, if_neg c3]; decide) (by simp only [swt, if_neg c, if_neg n01, if_neg c3]; decide)
          · exact absurd (by simp only [swg, if_neg c, if_neg c0, if_neg c1, if_neg c3, if_neg c2]) ha
theorem sw_kt {ι : bI} (hD : swD ι.2.2.2) : cKt ι (swg ι.2.2.2) := by
  obtain ⟨d1, d2, d3, d4, d5, d6, d7, d8⟩ := hD
  have no : ∀ k, (k = 40 ∨ k = 41 ∨ k = 42 ∨ k = 43) → ¬ ∃ j, j < 38 ∧ ι.2.2.2 k = ι.2.2.2 j := by
    rintro k hk ⟨j, hj, e⟩
    obtain ⟨x0, x1, x2, x3⟩ := d2 j hj
    rcases hk with rfl | rfl | rfl | rfl
    · exact x0 e.symm
    · exact x1 e.symm
    · exact x2 e.symm
    · exact x3 e.symm
  refine ⟨fun j hj => ?_, fun a ha => ?_, fun a ha => ?_, fun a ha => ?_⟩
  · by_cases c : j < 38
    · have e : ∃ i, i < 38 ∧ ι.2.2.2 j = ι.2.2.2 i := ⟨j, c, rfl⟩
      simp only [swg, if_pos e, crk, if_pos c]
    · have hj4 : j = 40 ∨ j = 41 ∨ j = 42 ∨ j = 43 := by omega
      have n := no j hj4
      rcases hj4 with rfl | rfl | rfl | rfl
      · unfold swg; rw [if_neg n, if_pos rfl]; rfl
      · unfold swg; rw [if_neg n, if_neg d3.symm, if_pos rfl]; rfl
      · unfold swg; rw [if_neg n, if_neg d4.symm, if_neg d6.symm, if_neg d8, if_pos rfl]; rfl
      · unfold swg; rw [if_neg n, if_neg d5.symm, if_neg d7.symm, if_pos rfl]; rfl
  · unfold swg at ha
    split at ha
    · cases ha
    · split at ha
      · assumption
      · split at ha
        · cases ha
        · split at ha
          · cases ha
          · split at ha <;> cases ha
  · unfold swg at ha
    split at ha
    · cases ha
    · split at ha
      · cases ha
      · split at ha
        · assumption
        · split at ha
          · cases ha
          · split at ha <;> cases ha
  · unfold swg at ha
    split at ha
    · cases ha
    · split at ha
      · cases ha
      · split at ha
        · cases ha
        · split at ha
          · assumption
          · split at ha <;> cases ha
theorem sw_cell {ι : bI} (hD : swD ι.2.2.2) (a : Nat) (ha : (swt ι.2.2.2).1 a ≠ 0) : bcell ι (swt ι.2.2.2) (swh ι.2.2.2) [] a := by
  obtain ⟨d1, d2, d3, d4, d5, d6, d7, d8⟩ := hD
  by_cases c : ∃ j, j < 38 ∧ a = ι.2.2.2 j
  · have hs := Classical.choose_spec c
    refine Or.inr (Or.inr (Or.inr (Or.inr (Or.inl ⟨by simp only [swt, if_pos c], Classical.choose c, hs.1, hs.2, ?_⟩))))
    simp only [swh, dif_pos c]
  · by_cases c3 : a = ι.2.2.2 40 ∨ a = ι.2.2.2 41 ∨ a = ι.2.2.2 43
    · have ht : (swt ι.2.2.2).1 a = 31 := by simp only [swt, if_neg c, if_pos c3]
      refine Or.inr (Or.inr (Or.inr (Or.inr (Or.inr (Or.inl ⟨ht, ?_⟩)))))
      rcases c3 with e | e | e
      · refine ⟨40, [8, 1, 2, 12, 3, 1], rfl, e, by simp only [swt, if_neg c, if_pos (Or.inl e)]; rfl, fun i hi => ?_⟩
        simp only [swh, dif_neg c, if_pos e]
      · have n0 : a ≠ ι.2.2.2 40 := fun z => d3 (by rw [← z, e])
        refine ⟨41, [32, 2, 9, 60, 9, 60], rfl, e, by simp only [swt, if_neg c, if_pos (Or.inr e)]; rfl, fun i hi => ?_⟩
        simp only [swh, dif_neg c, if_neg n0, if_pos e]
      · have n0 : a ≠ ι.2.2.2 40 := fun z => d5 (by rw [← z, e])
        have n1 : a ≠ ι.2.2.2 41 := fun z => d7 (by rw [← z, e])
        have n01 : ¬ (a = ι.2.2.2 40 ∨ a = ι.2.2.2 41) := fun z => z.elim n0 n1
        refine ⟨43, b_sw, rfl, e, by simp only [swt, if_neg c, if_neg n01, if_pos e]; rfl, fun i hi => ?_⟩
        simp only [swh, dif_neg c, if_neg n0, if_neg n1, if_pos e]
    · by_cases c2 : a = ι.2.2.2 42
      · have n01 : ¬ (a = ι.2.2.2 40 ∨ a = ι.2.2.2 41) := fun z => c3 (z.elim Or.inl (fun z => Or.inr (Or.inl z)))
        have n3 : a ≠ ι.2.2.2 43 := fun z => c3 (Or.inr (Or.inr z))
        exact Or.inr (Or.inr (Or.inr (Or.inr (Or.inr (Or.inr ⟨by simp only [swt, if_neg c, if_neg c3, if_pos c2], c2, by simp only [swt, if_neg c, if_neg n01, if_neg n3]⟩)))))
      · exact absurd (by simp only [swt, if_neg c, if_neg c3, if_neg c2]) ha
