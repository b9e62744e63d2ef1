/-! ===== what the class throws, and the law catches ===== -/
/-- words of a throw that calls don't hand on by themselves -/
def aw_nw (U : State) : Prop := va_Nw (.castable "java/util/NoSuchElementException" "java/util/NoSuchElementException") U ∧ va_Nw (.declares ⟨"java/lang/RuntimeException", "<init>", "()V"⟩) U ∧ va_Nw (.declares ⟨"java/lang/Exception", "<init>", "()V"⟩) U ∧ va_Nw (.declares ⟨"java/lang/Throwable", "<init>", "()V"⟩) U
/-- what throwing asks of the things that are there: two statics of Throwable, and the words -/
def aw_Th (ι : ak_I) (U : State) (H : Heap) : Prop := vx_Zq Bundle.tN "UNASSIGNED_STACK" Bundle.steD (ak_A ι) U H ∧ vx_Zq Bundle.tN "SUPPRESSED_SENTINEL" Bundle.listD (ak_A ι) U H ∧ aw_nw U
theorem aw_Th.moved {ι : ak_I} {u U : State} {H : Heap} (hW : u.WarmedH U.vm) (h : aw_Th ι u H) : aw_Th ι U H := ⟨h.1.moved hW.alike, h.2.1.moved hW.alike, va_Nw.warmC hW h.2.2.1, va_Nw.warmD hW h.2.2.2.1, va_Nw.warmD hW h.2.2.2.2.1, va_Nw.warmD hW h.2.2.2.2.2⟩
theorem aw_Th.kept {ι : ak_I} {U : State} {H H1 : Heap} (h : aw_Th ι U H) (hq : ∀ q : Nat, q < H.size → ¬ ak_A ι q → H1[q]? = H[q]?) : aw_Th ι U H1 := ⟨h.1.kept hq, h.2.1.kept hq, h.2.2⟩
def aw_Pc (ι : ak_I) (ws : va_W) (avs : List Value) : Array Value → State → Prop := fun a U => ak_Pc ι ws avs a U ∧ aw_Th ι U U.heap
theorem aw_blind (ι : ak_I) (ws : va_W) (avs : List Value) : FrameBlind (aw_Pc ι ws avs) := by
  intro a U g mk ⟨h1, h2, h3, h4⟩
  have al : U.vm.Alike (U.calling g mk a).vm := Vm.Alike.refl U.vm
  exact ⟨ak_blind ι ws avs a U g mk h1, h2.moved al, h3.moved al, va_Nw.same rfl rfl h4.1, va_Nw.same rfl rfl h4.2.1, va_Nw.same rfl rfl h4.2.2.1, va_Nw.same rfl rfl h4.2.2.2⟩
theorem aw_pre {ι : ak_I} {s : State} {ws : va_W} {H : Heap} {locs : List Loc} (hK : va_K ι.2.1 vwCl (ak_T ι) s) (hE : ak_S ι s s.heap) (hb : ι.1 ≤ s.heap.size) (hN : ak_Nw s) (hT : aw_Th ι s s.heap) (hP : va_P ι.2.1 vwCl ws H) (hD : va_D (ak_A ι) ws) (hS : va_S (ak_A ι) s.heap H locs) (avs : List Value) (U : State) (hU : U.heap = H) (hW : s.WarmedH U.vm) : aw_Pc ι ws avs avs.toArray U :=
  ⟨ak_pre hK hE hb hN hP hD hS avs U hU hW, by rw [hU]; exact (hT.moved hW).kept hS.2.1⟩
theorem aw_w1 : Cond.classLink "SpanCopier" 206 "java/util/NoSuchElementException" ∈ ak_W := ak_W_of (by decide +kernel) rfl
theorem aw_w2 : Cond.initialized "java/util/NoSuchElementException" ∈ ak_W := ak_W_of (by decide +kernel) rfl
theorem aw_w3 : ∀ w ∈ (vx_at0 "SpanCopier" 208 "java/util/NoSuchElementException" ["java/lang/RuntimeException", "java/lang/Exception"]).filter goodWord, w ∈ lw_tbl := by decide +kernel
theorem aw_w4 : ∀ w ∈ (vx_at0 "SpanCopier" 208 "java/util/NoSuchElementException" ["java/lang/RuntimeException", "java/lang/Exception"]).filter (fun w => !goodWord w), w ∈ [Cond.castable "java/util/NoSuchElementException" "java/util/NoSuchElementException", Cond.declares ⟨"java/lang/RuntimeException", "<init>", "()V"⟩, Cond.declares ⟨"java/lang/Exception", "<init>", "()V"⟩, Cond.declares ⟨"java/lang/Throwable", "<init>", "()V"⟩] := by decide +kernel
theorem aw_w5 : ∀ w ∈ Cond.classLink "SpanCopier" 206 "java/util/NoSuchElementException" :: Cond.initialized "java/util/NoSuchElementException" :: vx_at0 "SpanCopier" 208 "java/util/NoSuchElementException" ["java/lang/RuntimeException", "java/lang/Exception"], vx_ot w = true := by decide +kernel
/-- thrown: the cells and the bounds then -/
def aw_XC (ι : ak_I) (ws : va_W) (o : ai_O) : String → State → State → Prop := fun E st t => E = "java/util/NoSuchElementException" ∧ (∃ u : va_W, ws.map Prod.fst <+: u.map Prod.fst ∧ ak_h ι o.2.1 o.2.2.1 u ∧ ak_e ι o.2.2.2 ∧ va_P ι.2.1 vwCl u t.heap ∧ va_D (ak_A ι) u) ∧ va_F (ak_A ι) st t
theorem aw_v8 {ι : ak_I} {ads : List Nat} {k : Nat} {x : Value} (h : ak_v ι ads (8, k) x) : False := by
  rcases h with ⟨h, -⟩ | ⟨h, -⟩ | ⟨h, -⟩ | ⟨h, -⟩ | ⟨h, -⟩ | ⟨h, -⟩ | ⟨h, -⟩ | ⟨h, -⟩ <;> simp at h
/-- the contract of a method that comes to 'throw new NoSuchElementException()' at k -/
theorem aw_met {d mid k n : Nat} {M : ai_M} {q : MethodName × ByteArray × Option FieldType × Nat} (hT : ai_tab[mid]? = some M) (hq : ak_mt[mid]? = some q) (hcl : q.1.cls = "SpanCopier") {a : List ai_V} {hp : ai_H} {env : ai_E} {o : ai_O} {loc : ai_L} (hl1 : loc.length = M.1) (hl2 : a.length ≤ M.1) (hl3 : ∀ v ∈ a, ai_in 3 4 v = false) (hl4 : ∀ (i : Nat) (v : ai_V), loc[i]? = some v → v.1 ≤ 7 → a[i]? = some v) (hF : ak_F n d mid 0 (loc, [], n, hp, env, 0, 0) [o]) (ho : o.1 = some (8, k)) (hM1 : M.2.2.1 = 1) (hM2 : M.2.2.2 = 6) (hd : 5 ≤ d) (d0 : decode q.2.1 k = .ok (.new 206, 3)) (d3 : decode q.2.1 (k + 3) = .ok (.dup, 1)) (d4 : decode q.2.1 (k + 4) = .ok (.invokespecial 208, 3)) (d7 : decode q.2.1 (k + 7) = .ok (.athrow, 1)) (l : Launch) (hl : l.stackTraces = false) (ι : ak_I) (ws : va_W) (avs : List Value) (hh : ak_h ι n hp ws) (hs : ak_s ι (ws.map Prod.fst) a avs) (he : ak_e ι env) : vx_Met l q.1 (ak_Wd q.1 q.2.1 M.1 q.2.2.1) (ak_rm d M.2.2.1 M.2.2.2) (aw_Pc ι ws avs) (fun _ _ _ _ => False) (aw_XC ι ws o) M.2.2.1 M.2.2.2 (ak_A ι) := by
  refine vx_ofW (cc := q.2.1) (maxL := M.1) (ret := q.2.2.1) (by rw [hcl]; decide) rfl ?_
  intro p e s m args below meth c s₁ B hml htab hv
  obtain ⟨⟨rfl, hb, hP, hD, hK, hE, hN⟩, hTh⟩ := hv
  have hts := atoms_spec (ws := ak_Wd q.1 q.2.1 M.1 q.2.2.1) B.pre
  have C : ak_C (ι.1, ι.2.1, ι.2.2.1, ι.2.2.2.1, ι.2.2.2.2.1, ws.map Prod.fst) q.1 q.2.1 q.2.2.1 M d p l e (headSpec (ak_Wd q.1 q.2.1 M.1 q.2.2.1) (ak_rm d M.2.2.1 M.2.2.2)).room s m avs.toArray below meth c :=
    ⟨⟨B.exec, B.bytes, B.returns, hml⟩, ⟨findClass_of_methodNamed B.named, fun w hw => hts w (List.mem_cons_of_mem _ hw), B.notSynchronized, (name_of_methodNamed B.named B.method).1⟩, ⟨hK, hE, hb, hN⟩, Nat.le_refl _, Nat.le_refl _, rfl, rfl⟩
  have hcat := ak_s_cat hs hl3
  obtain ⟨g1, g2⟩ := lg_sl_one hcat
  obtain ⟨g3, g4⟩ := ak_s_at hs
  have hlv := lv_entry avs (n := M.1) (by rw [g1, ← g3]; exact hl2)
  rw [lg_entry_eq]
  generalize (lg_sl avs ++ List.replicate (M.1 - (lg_sl avs).length) Slot.unset).toArray = ls at hlv ⊢
  refine hF M q hT hq (ι.1, ι.2.1, ι.2.2.1, ι.2.2.2.1, ι.2.2.2.2.1, ws.map Prod.fst) p l e _ s m _ below meth c (by show (ws.map Prod.fst).length ≤ n; rw [List.length_map, hh.2.1]; exact Nat.le_refl _) C _ ?_ ws ls [] s.heap [] ⟨hP, ⟨hD, List.prefix_rfl⟩, va_S.rf, hh, ⟨Nat.le_of_eq hl1, lv_args 0 avs, hlv, fun i u hu h7 => ?_⟩, trivial, he⟩
  · intro o' ho'
    rw [List.mem_singleton] at ho'
    subst ho'
    intro ws' ls' H' locs' pc' nc ns v r1 r2 hP' hD' hpre hS' hh' he' hcase
    rcases hcase with ⟨h1, -⟩ | ⟨u, x, h1, -, h3, -⟩ | ⟨u, x, h1, -, -, h3, -⟩ | ⟨k', h1, rfl, rfl, hsz, rfl, rfl⟩
    · rw [ho] at h1; cases h1
    · rw [ho] at h1; cases h1; exact (aw_v8 h3).elim
    · rw [ho] at h1; cases h1; exact (aw_v8 h3).elim
    · rw [ho] at h1
      cases h1
      refine vx_throw0 (cc := q.2.1) (own := "SpanCopier") (cls := "java/util/NoSuchElementException") (names := ["java/lang/RuntimeException", "java/lang/Exception"]) (ik := 206) (ic := 208) (A := ak_A ι) C.1.1 C.1.2.1 hl (by rw [← hcl]; exact C.2.1.1) (by decide +kernel) (by decide +kernel) (C.2.1.2.1 _ aw_w1) (C.2.1.2.1 _ aw_w2) (vx_hat (fun w hw => C.2.1.2.1 w (ak_W_of (aw_w3 w hw) (List.mem_filter.mp hw).2)) aw_w4 (vx_c (va_Nw.use rfl hTh.2.2.1) (vx_c (va_Nw.use rfl hTh.2.2.2.1) (vx_c (va_Nw.use rfl hTh.2.2.2.2.1) (vx_c (va_Nw.use rfl hTh.2.2.2.2.2) vx_n))))) aw_w5 hTh.1 hTh.2.1 hS' (hsz.trans hml.symm) d0 d3 d4 d7 (fun x hx => (htab x hx).elim) ?_ ?_ ?_ ?_ B.notSynchronized ?_ hS'.2.2 ?_ ?_
      · show 2 + 3 < d + 1; omega
      · show 0 + (13 * (2 + 1) + 42) ≤ 64 * (d + 1); omega
      · show 0 + 1 ≤ M.2.2.1; omega
      · show 0 + 6 ≤ M.2.2.2; omega
      · intro t hal hz hk
        refine ⟨rfl, ⟨ws', hpre, hh', he', hP'.kept (fun j r hj => hk _ (hP' j r hj).lt), hD'⟩, Nat.le_trans hS'.1 hz, fun j h1 h2 => ?_⟩
        rw [hk _ (Nat.lt_of_lt_of_le h1 hS'.1)]
        exact hS'.2.1 _ h1 h2
      · show 0 + 1 ≤ M.2.2.1; omega
      · show 0 + 6 ≤ M.2.2.2; omega
  · obtain ⟨v, v1, v2⟩ := g4 i u (hl4 i u hu h7)
    have := g2 0 i v v1
    rw [Nat.zero_add] at this
    exact ⟨v, this, v2, hcat v (List.mem_of_getElem? v1)⟩
/-- where throwing can be followed: no traces, the statics, the method's own table -/
def aw_G (hh : List (Nat × Nat × Nat × Nat)) : ak_I → ak_Fr → Prop := fun ι φ => φ.2.1.stackTraces = false ∧ aw_Th ι φ.2.2.2.2.1 φ.2.2.2.2.1.heap ∧ φ.2.2.2.2.2.2.2.2.2.exceptionTable.toList = tableOf hh
/-- the law's own -/
def aw_GL : ak_I → ak_Fr → Prop := fun ι φ => φ.2.1.stackTraces = false ∧ aw_Th ι φ.2.2.2.2.1 φ.2.2.2.2.1.heap
theorem aw_split {ι : ak_I} {ads : List Nat} {stk : List ai_V} : ∀ {as : List ai_V} {st : List Value}, ak_s ι ads (as ++ stk) st → ∃ xs rest : List Value, st = xs ++ rest ∧ ak_s ι ads as xs ∧ ak_s ι ads stk rest := by
  intro as
  induction as with
  | nil => intro st h; exact ⟨[], st, rfl, trivial, h⟩
  | cons a as ih =>
    intro st h
    obtain ⟨x, st, rfl, hx, h⟩ := ak_s_cons h
    obtain ⟨xs, rest, rfl, h1, h2⟩ := ih h
    exact ⟨x :: xs, rest, rfl, ⟨hx, h1⟩, h2⟩
theorem aw_rev {ι : ak_I} {ads : List Nat} : ∀ {as bs : List ai_V} {xs zs : List Value}, ak_s ι ads as xs → ak_s ι ads bs zs → ak_s ι ads (as.reverse ++ bs) (xs.reverse ++ zs) := by
  intro as
  induction as with
  | nil => intro bs xs zs h1 h2; rw [ak_s_nil h1]; exact h2
  | cons a as ih =>
    intro bs xs zs h1 h2
    obtain ⟨x, xs, rfl, hx, h1⟩ := ak_s_cons h1
    have := ih (bs := a :: bs) (zs := x :: zs) h1 ⟨hx, h2⟩
    simpa using this
theorem aw_slen {ι : ak_I} {ads : List Nat} : ∀ {l : List ai_V} {k : List Value}, ak_s ι ads l k → k.length = l.length := by
  intro l
  induction l with
  | nil => intro k h; rw [ak_s_nil h]; rfl
  | cons a l ih => intro k h; obtain ⟨x, k, rfl, -, h⟩ := ak_s_cons h; simp [ih h]
/-- a call of a method that throws, caught by the one row of the table -/
theorem aw_thr {r d mid mid' pc idx n nc ns k i hpc hp2 rc lo hi ct : Nat} {M M' : ai_M} {q q' : MethodName × ByteArray × Option FieldType × Nat} {hp : ai_H} {env : ai_E} {as1 stk : List ai_V} {loc loc' : ai_L} {o : ai_O} {ps : List ai_O} {c0 : ai_C} {qc : vw_C}
    (hT : ai_tab[mid]? = some M) (hq : ak_mt[mid]? = some q) (hT' : ai_tab[mid']? = some M') (hq' : ak_mt[mid']? = some q') (hy : ak_ym q'.1 q'.2.1 M'.1 q'.2.2.1) (hcl : q'.1.cls = "SpanCopier")
    (hlink : Cond.methodLink q.1.cls idx q'.1 ∈ ak_W) (hins : Cond.instanceMethod q'.1 ∈ ak_W) (hsel : Cond.selects "SpanCopier" q'.1 q'.1 ∈ ak_W) (hlk : Cond.classLink q.1.cls ct "java/util/NoSuchElementException" ∈ ak_W)
    (hpd : (parseMethodDescriptor q'.1.desc).map (fun d => d.parameters.length) = some as1.length) (hdg : decode q.2.1 pc = .ok (.invokevirtual idx, 3))
    (hrc : rc < n) (hcell : hp[n - (rc + 1)]? = some c0) (hc0 : c0.1 = 0) (hci : vwCl[c0.2.1]? = some qc) (hqc : qc.1 = "SpanCopier")
    (hl1 : loc'.length = M'.1) (hl2 : as1.length + 1 ≤ M'.1) (hl3 : ∀ v ∈ (6, rc) :: as1.reverse, ai_in 3 4 v = false) (hl4 : ∀ (i : Nat) (v : ai_V), loc'[i]? = some v → v.1 ≤ 7 → ((6, rc) :: as1.reverse)[i]? = some v)
    (hF : ak_F n d mid' 0 (loc', [], n, hp, env, 0, 0) [o]) (ho : o.1 = some (8, k)) (hM1 : M'.2.2.1 = 1) (hM2 : M'.2.2.2 = 6) (hd : 5 ≤ d) (d0 : decode q'.2.1 k = .ok (.new 206, 3)) (d3 : decode q'.2.1 (k + 3) = .ok (.dup, 1)) (d4 : decode q'.2.1 (k + 4) = .ok (.invokespecial 208, 3)) (d7 : decode q'.2.1 (k + 7) = .ok (.athrow, 1))
    (hcov : lo ≤ pc ∧ pc < hi) (hct : ct ≠ 0) (hst : (decode q.2.1 hpc = .ok (.astore i, 2) ∧ hp2 = hpc + 2) ∨ ∃ j : Fin 4, decode q.2.1 hpc = .ok (.astore_n j, 1) ∧ (j : Nat) = i ∧ hp2 = hpc + 1) (hi4 : i < M.1)
    (hsum : ai_sum stk ≤ 8) (hnc : nc + 1 ≤ M.2.2.1) (hns : ns + 6 ≤ M.2.2.2)
    (hA : ak_FG (aw_G [(lo, hi, hpc, ct)]) r (d + 1) mid hp2 (List.replicate M.1 (9, 0), [], o.2.1, o.2.2.1, o.2.2.2, nc + 1, ns + 6) ps) :
    ak_FG (aw_G [(lo, hi, hpc, ct)]) r (d + 1) mid pc (loc, as1 ++ (6, rc) :: stk, n, hp, env, nc, ns) ps := by
  intro M0 q0 hT0 hq0 ι p l e R s m args below meth c hG hn C Q hQ ws ls st H locs hM
  cases hT.symm.trans hT0
  cases hq.symm.trans hq0
  have hA2 := hA M q hT hq ι p l e R s m args below meth c hG hn C Q hQ
  obtain ⟨hl, hTh, htab⟩ := hG
  obtain ⟨m1, m2, m3, m4, m5, m6, m7⟩ := hM
  obtain ⟨xs, rest0, rfl, s1, s2⟩ := aw_split m6
  obtain ⟨b0, rest, rfl, hb0, s3⟩ := ak_s_cons s2
  obtain ⟨qa, hqa, rfl⟩ := ak_v_cell hb0 rfl
  obtain ⟨⟨qa', ee⟩, hw, hcc⟩ := m4.2.2 rc c0 hrc hcell
  have hqa' : qa' = qa := by
    rw [List.getElem?_map, hw] at hqa
    exact Option.some.inj hqa
  subst hqa'
  obtain ⟨fs, rfl, -, -⟩ := ak_c_obj hcc hc0
  have hs' : ak_s ι (ws.map Prod.fst) ((6, rc) :: as1.reverse) (.ref qa' :: xs.reverse) := ⟨hb0, by
    have := aw_rev s1 (show ak_s ι (ws.map Prod.fst) [] [] from trivial)
    simpa using this⟩
  have hMet := aw_met hT' hq' hcl hl1 (by simpa using hl2) hl3 hl4 hF ho hM1 hM2 hd d0 d3 d4 d7 l hl ι ws (.ref qa' :: xs.reverse) m4 hs' m7
  have hfix : CallFix p m c q.2.1 M.1 s args ak_W q.1.cls := ⟨C.1.1, C.1.2.1, C.1.2.2.2, C.2.1.1, C.2.1.2.1⟩
  have hR : (ak_rm d M'.2.2.1 M'.2.2.2).frames + 1 ≤ R.frames ∧ 8 + (M'.1 + 11) + (ak_rm d M'.2.2.1 M'.2.2.2).locals ≤ R.locals := by
    have r1 := C.2.2.2.1
    have r2 := C.2.2.2.2.1
    have r3 := hy.2.2.2.2.1
    exact ⟨r1, by show 8 + (M'.1 + 11) + 64 * (d + 1) ≤ R.locals; omega⟩
  have hls : ls.size = M.1 := by obtain ⟨-, lv, hl, -⟩ := m5; exact hl.1
  have hf : nc + M'.2.2.1 ≤ R.cells ∧ ns + M'.2.2.2 ≤ R.slots := ⟨by rw [C.2.2.2.2.2.1, hM1]; exact hnc, by rw [C.2.2.2.2.2.2, hM2]; exact hns⟩
  have hrest : (rest.map fun v => v.category).sum ≤ 8 := by rw [ak_s_sum s3]; exact hsum
  have hxl : xs.reverse.length = as1.length := by rw [List.length_reverse]; exact aw_slen s1
  have hrun := vx_runV (g := F0 m pc ls (xs ++ .ref qa' :: rest)) (H := H) (locs := locs) (cells := nc) (slots := ns) (below := below) (meth := meth) (e := e) (As := xs.reverse) (n := as1.length) (C := "SpanCopier") (index := idx) (b := qa') (rest := rest) hfix hMet ⟨callB_of as1.length C.2.1.2.1 (ak_good hy.1) rfl rfl rfl (C.2.1.2.1 _ hy.2.1) (C.2.1.2.1 _ hlink) ⟨hy.2.2.1, hy.2.2.2.1, hpd⟩ hR, C.2.1.2.1 _ hins, C.2.1.2.1 _ hsel⟩ ⟨aw_blind ι ws _, by rw [← hqc]; exact va_recv C.2.2.1.1 m1 hci hw, aw_pre C.2.2.1.1 C.2.2.1.2.1 C.2.2.1.2.2.1 C.2.2.1.2.2.2 hTh m1 m2.1 m3 _⟩ rfl hxl hls (by show xs ++ _ = _; rw [List.reverse_reverse]) (lv_room hrest) hdg hf
  intro T hT9 X
  rcases hrun T hT9 X with ⟨v, st₀, t, T', L, h0, X', hL, e1, e2, hbad, stp⟩ | ⟨q9, st₀, t, T', L, E, ce, h0, X', hL, e1, e2, ⟨rfl, ⟨u, u1, u2, u3, u4, u5⟩, hz, hk⟩, hce, hcv, hcl9, stp⟩
  · exact hbad.elim
  · rw [h0] at hz hk
    have hS1 : va_S (ak_A ι) s.heap T'.heap (locs ++ L) := ⟨by rw [e1]; exact Nat.le_trans m3.1 hz, fun j z1 z2 => by rw [e1, hk j (Nat.lt_of_lt_of_le z1 m3.1) z2]; exact m3.2.1 j z1 z2, fun j hj => by
      rcases List.mem_append.mp hj with hj | hj
      · exact m3.2.2 j hj
      · exact hL j hj⟩
    have hW : vx_W p l e R s m args below meth c T'.heap (locs ++ L) (nc + M'.2.2.1) (ns + M'.2.2.2) Q (F0 m pc ls rest) q9 := by
      refine vx_catch (own := q.1.cls) (name := "java/util/NoSuchElementException") (E := "java/util/NoSuchElementException") (ce := ce) C.2.1.1 ⟨lo, hi, hpc, ct⟩ htab (by simp [covers, hcov.1, hcov.2]) hct (C.2.1.2.1 _ hlk) (va_Nw.use rfl hTh.2.2.1) (by rw [e1]; exact hce) hcv hcl9 ?_
      have fin : ∀ ls' : Array Slot, ∀ lv, lv_has ls' M.1 lv → W p l e R s m args below meth c T'.heap (locs ++ L) (nc + M'.2.2.1) (ns + M'.2.2.2) Q (F0 m hp2 ls' []) := by
        intro ls' lv hlv
        rw [hM1, hM2]
        refine hA2 u ls' [] T'.heap (locs ++ L) ⟨by rw [e1]; exact u4, ⟨u5, m2.2.trans u1⟩, hS1, u2, ⟨by simp, lv, hlv, fun j a ha h7 => ?_⟩, trivial, u3⟩
        rw [List.getElem?_replicate] at ha
        split at ha
        · cases ha; simp at h7
        · cases ha
      obtain ⟨-, lv, hlv, -⟩ := m5
      rcases hst with ⟨g1, g2⟩ | ⟨j, g1, g3, g2⟩
      · subst g2
        exact lv_astore C.1.1 C.1.2.1 g1 hlv hi4 rfl (fun ls' h => fin ls' _ h)
      · subst g2
        exact lv_astore_n C.1.1 C.1.2.1 g1 g3 hlv hi4 rfl (fun ls' h => fin ls' _ h)
    obtain ⟨t2, a1, b1⟩ := hW T' rfl X'
    exact ⟨t2, stp.trans a1, b1⟩
/-- the words of a method with a table -/
def aw_Wd (y : MethodName) (b : ByteArray) (nL : Nat) (rt : Option FieldType) (hh : List (Nat × Nat × Nat × Nat)) : List Cond := .codeWith y b nL rt hh :: ak_W
theorem aw_ofW {l : Launch} {y : MethodName} {ws ws' : List Cond} {rm : Room} {Pc : Array Value → State → Prop} {Qc : Array Value → State → Outcome → State → Prop} {mc ms : Nat} {free : Addr → Prop} {cc : ByteArray} {maxL : Nat} {ret : Option FieldType} {hh : List (Nat × Nat × Nat × Nat)} (hy : plainFor y = true) (hw : ws = Cond.codeWith y cc maxL ret hh :: ws') (body : ∀ p e s m args below meth c s₁, BodyLoose p l y (headSpec ws rm) cc maxL ret e s m args below meth c s₁ → c.maxLocals = maxL → c.exceptionTable.toList = tableOf hh → Pc args s → W p l e (headSpec ws rm).room s m args below meth c s.heap [] 0 0 (MQ below Qc args s mc ms free) (entryFrame m args maxL)) : Met l y ws rm Pc Qc mc ms free := by
  refine Jvm.Free.MetFree.of_bodySF (code := cc) (maxLocals := maxL) (ret := ret) hy ?_ ?_
  · intro args s m h hn
    obtain ⟨m9, meth, c, hn9, h1, h2, h3, h4, -, h5, h6, -⟩ := Cond.codeWith_spec (atoms_spec (ws := ws) h _ (by rw [hw]; exact List.mem_cons_self))
    cases hn.symm.trans hn9
    exact ⟨meth, c, h1, h2, h3, h4, h5, h6⟩
  · intro p e s m args below meth c s₁ B hml hP _
    have hh0 : s₁.heap = s.heap := by rw [B.state]; rfl
    have ht : c.exceptionTable.toList = tableOf hh := vx_table (x := y) B (atoms_spec (ws := ws) B.pre _ (by rw [hw]; exact List.mem_cons_self))
    obtain ⟨t, a1, o, b1, b2, b3⟩ := body p e s m args below meth c s₁ B hml ht hP s₁ hh0 (Stand.of_body B)
    exact ⟨t, o, a1, b1, b2, ⟨b3.1, b3.2⟩⟩
/-- the contract of a method with a table, out of what is known of its beginning -/
theorem aw_metW {d mid n : Nat} {M : ai_M} {q : MethodName × ByteArray × Option FieldType × Nat} {hh : List (Nat × Nat × Nat × Nat)} (hT : ai_tab[mid]? = some M) (hq : ak_mt[mid]? = some q) (hpl : plainFor q.1 = true) {a : List ai_V} {hp : ai_H} {env : ai_E} {os : List ai_O} {loc : ai_L} (hl1 : loc.length = M.1) (hl2 : a.length ≤ M.1) (hl3 : ∀ v ∈ a, ai_in 3 4 v = false) (hl4 : ∀ (i : Nat) (v : ai_V), loc[i]? = some v → v.1 ≤ 7 → a[i]? = some v) (hF : ak_FG (aw_G hh) n d mid 0 (loc, [], n, hp, env, 0, 0) os) (h8 : ∀ o ∈ os, ∀ k : Nat, o.1 ≠ some (8, k)) (l : Launch) (hl : l.stackTraces = false) (ι : ak_I) (ws : va_W) (avs : List Value) (hhp : ak_h ι n hp ws) (hs : ak_s ι (ws.map Prod.fst) a avs) (he : ak_e ι env) : Met l q.1 (aw_Wd q.1 q.2.1 M.1 q.2.2.1 hh) (ak_rm d M.2.2.1 M.2.2.2) (aw_Pc ι ws avs) (ak_Q ι ws os) M.2.2.1 M.2.2.2 (ak_A ι) := by
  refine aw_ofW (cc := q.2.1) (maxL := M.1) (ret := q.2.2.1) (hh := hh) hpl rfl ?_
  intro p e s m args below meth c s₁ B hml htab hv
  obtain ⟨⟨rfl, hb, hP, hD, hK, hE, hN⟩, hTh⟩ := hv
  have hts := atoms_spec (ws := aw_Wd q.1 q.2.1 M.1 q.2.2.1 hh) B.pre
  have C : ak_C (ι.1, ι.2.1, ι.2.2.1, ι.2.2.2.1, ι.2.2.2.2.1, ws.map Prod.fst) q.1 q.2.1 q.2.2.1 M d p l e (headSpec (aw_Wd q.1 q.2.1 M.1 q.2.2.1 hh) (ak_rm d M.2.2.1 M.2.2.2)).room s m avs.toArray below meth c :=
    ⟨⟨B.exec, B.bytes, B.returns, hml⟩, ⟨findClass_of_methodNamed B.named, fun w hw => hts w (List.mem_cons_of_mem _ hw), B.notSynchronized, (name_of_methodNamed B.named B.method).1⟩, ⟨hK, hE, hb, hN⟩, Nat.le_refl _, Nat.le_refl _, rfl, rfl⟩
  have hcat := ak_s_cat hs hl3
  obtain ⟨g1, g2⟩ := lg_sl_one hcat
  obtain ⟨g3, g4⟩ := ak_s_at hs
  have hlv := lv_entry avs (n := M.1) (by rw [g1, ← g3]; exact hl2)
  rw [lg_entry_eq]
  generalize (lg_sl avs ++ List.replicate (M.1 - (lg_sl avs).length) Slot.unset).toArray = ls at hlv ⊢
  refine hF M q hT hq (ι.1, ι.2.1, ι.2.2.1, ι.2.2.2.1, ι.2.2.2.2.1, ws.map Prod.fst) p l e _ s m _ below meth c ⟨hl, hTh, htab⟩ (by show (ws.map Prod.fst).length ≤ n; rw [List.length_map, hhp.2.1]; exact Nat.le_refl _) C _ ?_ ws ls [] s.heap [] ⟨hP, ⟨hD, List.prefix_rfl⟩, va_S.rf, hhp, ⟨Nat.le_of_eq hl1, lv_args 0 avs, hlv, fun i u hu h7 => ?_⟩, trivial, he⟩
  · intro o ho
    exact ak_end_of ho (h8 o ho) C
  · obtain ⟨v, v1, v2⟩ := g4 i u (hl4 i u hu h7)
    have := g2 0 i v v1
    rw [Nat.zero_add] at this
    exact ⟨v, this, v2, hcat v (List.mem_of_getElem? v1)⟩
/-- the law's call of such a method -/
theorem aw_law {r d mid mid' pc idx n nc ns : Nat} {M M' : ai_M} {q q' : MethodName × ByteArray × Option FieldType × Nat} {hp : ai_H} {env : ai_E} {as stk : List ai_V} {loc loc' : ai_L} {os ps : List ai_O} {hh : List (Nat × Nat × Nat × Nat)}
    (hT : ai_tab[mid]? = some M) (hq : ak_mt[mid]? = some q) (hT' : ai_tab[mid']? = some M') (hq' : ak_mt[mid']? = some q') (hy : Cond.codeWith q'.1 q'.2.1 M'.1 q'.2.2.1 hh ∈ ak_W ∧ Cond.initialized q'.1.cls ∈ ak_W ∧ q'.1.cls ≠ "java/lang/invoke/MethodHandle" ∧ q'.1.cls ≠ "java/lang/invoke/VarHandle" ∧ M'.1 ≤ 45 ∧ plainFor q'.1 = true)
    (hlink : Cond.methodLink q.1.cls idx q'.1 ∈ ak_W) (hstt : Cond.static q'.1 ∈ ak_W) (hpd : (parseMethodDescriptor q'.1.desc).map (fun d => d.parameters.length) = some as.length) (hdg : decode q.2.1 pc = .ok (.invokestatic idx, 3))
    (hl1 : loc'.length = M'.1) (hl2 : as.length ≤ M'.1) (hl3 : ∀ v ∈ as.reverse, ai_in 3 4 v = false) (hl4 : ∀ (i : Nat) (v : ai_V), loc'[i]? = some v → v.1 ≤ 7 → as.reverse[i]? = some v)
    (hF : ak_FG (aw_G hh) n d mid' 0 (loc', [], n, hp, env, 0, 0) os) (h8 : ai_no8 os = true) (hsum : ai_sum stk ≤ 8) (hnc : nc + M'.2.2.1 ≤ M.2.2.1) (hns : ns + M'.2.2.2 ≤ M.2.2.2)
    (hA : ∀ o ∈ os, ∃ a, o.1 = some a ∧ ak_FG aw_GL r (d + 1) mid (pc + 3) (loc, a :: stk, o.2.1, o.2.2.1, o.2.2.2, nc + M'.2.2.1, ns + M'.2.2.2) ps) :
    ak_FG aw_GL r (d + 1) mid pc (loc, as ++ stk, n, hp, env, nc, ns) ps := by
  intro M0 q0 hT0 hq0 ι p l e R s m args below meth c hG hn C Q hQ ws ls st H locs hM
  cases hT.symm.trans hT0
  cases hq.symm.trans hq0
  obtain ⟨hl, hTh⟩ := id hG
  obtain ⟨m1, m2, m3, m4, m5, m6, m7⟩ := id hM
  obtain ⟨xs, rest, rfl, s1, s2⟩ := aw_split m6
  have s3 : ak_s ι (ws.map Prod.fst) as.reverse xs.reverse := by
    have := aw_rev s1 (show ak_s ι (ws.map Prod.fst) [] [] from trivial)
    simpa using this
  have hMet := aw_metW hT' hq' hy.2.2.2.2.2 hl1 (by simpa using hl2) hl3 hl4 hF (ai_no8_ok h8) l hl ι ws xs.reverse m4 s3 m7
  have hfix : CallFix p m c q.2.1 M.1 s args ak_W q.1.cls := ⟨C.1.1, C.1.2.1, C.1.2.2.2, C.2.1.1, C.2.1.2.1⟩
  have hR : (ak_rm d M'.2.2.1 M'.2.2.2).frames + 1 ≤ R.frames ∧ 8 + (M'.1 + 11) + (ak_rm d M'.2.2.1 M'.2.2.2).locals ≤ R.locals := by
    have r1 := C.2.2.2.1
    have r2 := C.2.2.2.2.1
    have r3 := hy.2.2.2.2.1
    exact ⟨r1, by show 8 + (M'.1 + 11) + 64 * (d + 1) ≤ R.locals; omega⟩
  have hls : ls.size = M.1 := by obtain ⟨-, lv, hl, -⟩ := m5; exact hl.1
  have hf : nc + M'.2.2.1 ≤ R.cells ∧ ns + M'.2.2.2 ≤ R.slots := ⟨by rw [C.2.2.2.2.2.1]; exact hnc, by rw [C.2.2.2.2.2.2]; exact hns⟩
  have hrest : (rest.map fun v => v.category).sum ≤ 8 := by rw [ak_s_sum s2]; exact hsum
  have hxl : xs.reverse.length = as.length := by rw [List.length_reverse]; exact aw_slen s1
  have gW : ∀ w ∈ ak_W, w ∈ ak_W ∧ ((w.onTables && w.keeps) = true ∨ ∃ ty, w = .arrayClass ty) := fun w hw => ⟨hw, good_of_word (List.mem_filter.mp hw).2⟩
  have hgood : GoodIn ak_W (va_wsS q.1.cls idx q'.1 (aw_Wd q'.1 q'.2.1 M'.1 q'.2.2.1 hh)) := by
    intro w hw
    rcases List.mem_append.mp hw with hw | hw
    · simp only [List.mem_cons, List.not_mem_nil, or_false] at hw
      rcases hw with rfl | rfl | rfl
      · exact gW _ hlink
      · exact gW _ hstt
      · exact gW _ hy.2.1
    · rcases List.mem_cons.mp hw with rfl | hw
      · exact gW _ hy.1
      · exact gW _ hw
  have hrun := vx_runSW (g := F0 m pc ls (xs ++ rest)) (H := H) (locs := locs) (cells := nc) (slots := ns) (below := below) (meth := meth) (e := e) (As := xs.reverse) (n := as.length) (index := idx) (rest := rest) hfix hMet (vx_cwSW as.length C.2.1.2.1 hgood rfl rfl rfl ⟨hy.2.2.1, hy.2.2.2.1, hpd⟩ hR) ⟨aw_blind ι ws _, aw_pre C.2.2.1.1 C.2.2.1.2.1 C.2.2.1.2.2.1 C.2.2.1.2.2.2 hTh m1 m2.1 m3 _⟩ rfl hxl hls (by show xs ++ _ = _; rw [List.reverse_reverse]) (lv_room hrest) hdg hf
  refine ak_go hrun m3 (fun o v u H1 locs1 ho q1 q2 q3 q4 q5 q6 q7 => ?_)
  obtain ⟨a, ha, hA1⟩ := hA o ho
  rcases q1 with ⟨e1, -⟩ | ⟨a', z, e1, rfl, e3⟩
  · rw [ha] at e1; cases e1
  · rw [ha] at e1
    cases e1
    exact hA1 M q hT hq ι p l e R s m args below meth c hG hn C Q hQ u ls _ H1 locs1 ⟨q5, ⟨q6, m2.2.trans q4⟩, q7, q2, ak_l_mono q4 m5, ⟨e3, ak_s_mono q4 s2⟩, q3⟩
