/-! ===== rows: stretches of arrays, a Word's number, longs that are answered ===== -/
/-- a stretch is copied -/
def bcp (h : bh) (a dp t sp n : Nat) : bh := (fun b j => if b = a ∧ dp ≤ j ∧ j < dp + n then h.1 t (sp + (j - dp)) else h.1 b j, h.2)
theorem b_pos {z : Int} (h0 : 0 ≤ z) (h1 : z ≤ 30000) : ¬ bz z < 0 := by
  have hr : brg z := ⟨by omega, by omega⟩
  intro h
  have h2 := Int32.lt_iff_toInt_lt.mp h
  rw [bz_toInt hr] at h2
  have : (0 : Int32).toInt = 0 := rfl
  omega
theorem bcopyw : Cond.native arraycopyName ∈ bW ∧ Cond.static arraycopyName ∈ bW ∧ Cond.initialized "java/lang/System" ∈ bW ∧ nativeFrameWords "java/lang/System" "arraycopy" 5 ≤ 40 := ⟨bW_of (by decide +kernel) rfl, bW_of (by decide +kernel) rfl, bW_of (by decide +kernel) rfl, by decide +kernel⟩
section BCOPY
variable {γ : bG} {y : bY} {d b1 b2 pc : Nat} {lo : List (Option Value)} {st : List Value} {τ : bt} {h : bh} {nc ns : Nat}
theorem b_copy {a t idx : Nat} {sp dp n : Int} (C : bC γ y d b1 b2) (hlink : Cond.methodLink y.1.cls idx arraycopyName ∈ bW) (hd : decode y.2.1 pc = .ok (.invokestatic idx, 3)) (hk : τ.1 t = τ.1 a) (hk2 : τ.1 a = 21 ∨ τ.1 a = 22) (h1 : 0 ≤ sp) (h2 : 0 ≤ dp) (h3 : 0 ≤ n) (h4 : sp + n ≤ τ.2 t) (h5 : dp + n ≤ τ.2 a) (p1 : 0 < τ.2 t) (p2 : 0 < τ.2 a) (hsum : (st.map fun v => v.category).sum ≤ 8) (kk : bJ γ (pc + 3) lo st τ (bcp h a dp.toNat t sp.toNat n.toNat) nc ns) : bJ γ pc lo (.int (bz n) :: .int (bz dp) :: .ref a :: .int (bz sp) :: .ref t :: st) τ h nc ns := by
  intro ws ls H locs hM
  obtain ⟨k, g, hw, hn, hfit, hg⟩ := (hM.2.2.2.1 a (by omega)).ints (by omega) p2
  obtain ⟨k', f, hw', hn', hfit', hf⟩ := (hM.2.2.2.1 t (by omega)).ints (by omega) p1
  have hls : ls.size = γ.2.2.1 := by obtain ⟨-, lv, hl, -⟩ := hM.2.2.2.2; exact hl.1
  have c1 : (bz sp).toNatClampNeg = sp.toNat := bz_clamp ⟨by omega, by omega⟩
  have c2 : (bz dp).toNatClampNeg = dp.toNat := bz_clamp ⟨by omega, by omega⟩
  have c3 : (bz n).toNatClampNeg = n.toNat := bz_clamp ⟨by omega, by omega⟩
  have r3 := C.2.2.2.2.1
  have r2 := C.2.2.2.1
  have r4 := bcopyw.2.2.2
  refine va_copyi (ty := bkt (τ.1 a % 20)) C.1.1 C.1.2.1 (C.1.2.2.2.trans hls.symm) C.2.1.1 (C.2.1.2.1 _ hlink) (C.2.1.2.1 _ bcopyw.1) (C.2.1.2.1 _ bcopyw.2.1) (C.2.1.2.1 _ bcopyw.2.2.1) C.2.2.1.1 hM.1 hM.2.1 hM.2.2.1 k' k (τ.1 t % 20 - 1) (τ.1 a % 20 - 1) hw' hw (by rw [hk]; exact bT_at (by omega)) (bT_at (by omega)) ?_ (b_pos h1 (by omega)) (b_pos h2 (by omega)) (b_pos h3 (by omega)) (by rw [c1, c3]; omega) (by rw [c2, c3]; omega) ?_ (by omega) (by omega) hd ?_
  · rcases hk2 with e | e <;> rw [e] <;> rfl
  · intro i hi
    rw [c3] at hi
    rw [c1]
    rcases hk2 with e | e
    · rw [e]; rfl
    · rw [e]; exact hfit' (by omega) _ (by omega)
  · intro H1 locs1 a1 a2 a3
    rw [c1, c2, c3] at a1 a2
    refine kk _ ls H1 locs1 (hM.write hw a1 a2 a3 (Or.inr (Or.inl ⟨by omega, k, _, List.getElem?_set_self ((List.getElem?_eq_some_iff.mp hw).1), hn, fun e i hi => ?_, fun i hi => ?_⟩)) (fun b hb i => ⟨if_neg (fun q => hb q.1), rfl⟩))
    · show fits .byte (.int (if dp.toNat ≤ i ∧ i < dp.toNat + n.toNat then f (sp.toNat + (i - dp.toNat)) else g i)) = true
      split
      · exact hfit' (by omega) _ (by omega)
      · exact hfit e i hi
    · show (if dp.toNat ≤ i ∧ i < dp.toNat + n.toNat then f (sp.toNat + (i - dp.toNat)) else g i).toInt = if a = a ∧ dp.toNat ≤ i ∧ i < dp.toNat + n.toNat then h.1 t (sp.toNat + (i - dp.toNat)) else h.1 a i
      by_cases hc : dp.toNat ≤ i ∧ i < dp.toNat + n.toNat
      · rw [if_pos hc, if_pos ⟨rfl, hc⟩]; exact hf _ (by omega)
      · rw [if_neg hc, if_neg (fun q => hc q.2)]; exact hg i hi
/-- out of a constant array of ints -/
theorem b_copyT {a j idx : Nat} {ll : List Nat} {sp dp n : Int} (C : bC γ y d b1 b2) (hlink : Cond.methodLink y.1.cls idx arraycopyName ∈ bW) (hd : decode y.2.1 pc = .ok (.invokestatic idx, 3)) (hsar : bsar j = some ll) (hll : ∀ i, ((ll.getD i 0 : Nat) : Int) ≤ 1000) (hk2 : τ.1 a = 21) (h1 : 0 ≤ sp) (h2 : 0 ≤ dp) (h3 : 0 ≤ n) (h4 : sp + n ≤ ll.length) (hl1 : ll.length ≤ 30000) (h5 : dp + n ≤ τ.2 a) (p2 : 0 < τ.2 a) (hsum : (st.map fun v => v.category).sum ≤ 8) (kk : ∀ h', (∀ b i, (b ≠ a ∨ i < dp.toNat ∨ dp.toNat + n.toNat ≤ i) → h'.1 b i = h.1 b i ∧ h'.2 b i = h.2 b i) → bJ γ (pc + 3) lo st τ h' nc ns) : bJ γ pc lo (.int (bz n) :: .int (bz dp) :: .ref a :: .int (bz sp) :: .ref (γ.1.2.2.2 j) :: st) τ h nc ns := by
  intro ws ls H locs hM T hTT X
  obtain ⟨q1, g, ha, hn1, -, hg⟩ := (hM.2.2.2.1 a (by omega)).ints (by omega) p2
  have e1 : τ.1 a % 20 = 1 := by omega
  rw [e1] at ha
  have hls : ls.size = γ.2.2.1 := by obtain ⟨-, lv, hl, -⟩ := hM.2.2.2.2; exact hl.1
  have r3 := C.2.2.2.2.1
  have r2 := C.2.2.2.1
  have r4 := bcopyw.2.2.2
  obtain ⟨scr, s1, ⟨s2, k0, hk0, cm0, hkk0⟩, s3, s4, -, s5, s6⟩ := (C.2.2.1.2.1.2.1 j ll hsar).2
  have c0 : H[γ.1.2.2.2 j]? = some scr := (hM.2.2.1.2.1 _ (Array.getElem?_eq_some_iff.mp s1).1 s6).trans s1
  have c1 : H[a]? = some (vp_cell (γ.1.2.2.1 1) (τ.2 a, .inl g)) := hM.1 q1 _ ha
  obtain ⟨-, kc, hkc, cm1, hkk1⟩ := (C.2.2.1.1.2 0 _ (show (bT γ.1)[0]? = some (γ.1.2.2.1 1, .int) from rfl)).1 (τ.2 a) (fun j => .int (g j))
  have ti : ∀ z : Int, 0 ≤ z → z ≤ 30000 → (bz z).toInt = z := fun z _ _ => bz_toInt ⟨by omega, by omega⟩
  have tc : ∀ z : Int, 0 ≤ z → z ≤ 30000 → (bz z).toNatClampNeg = z.toNat := fun z _ _ => bz_clamp ⟨by omega, by omega⟩
  obtain ⟨vm', X', step⟩ := X.arraycopy C.1.1 C.2.1.1 (C.2.1.2.1 _ hlink) (C.2.1.2.1 _ bcopyw.1) (C.2.1.2.1 _ bcopyw.2.1) (C.2.1.2.1 _ bcopyw.2.2.1) (src := γ.1.2.2.2 j) (dst := a) (cs := scr) (cd := vp_cell (γ.1.2.2.1 1) (τ.2 a, .inl g)) (srcPos := bz sp) (destPos := bz dp) (n := bz n) (hTT ▸ c0) (hTT ▸ c1) s2 (fun _ h => by cases h) s3 (fun h => by cases h) hk0 hkc hkk0 hkk1 (by simp [refKind]) (b_pos h1 (by omega)) (b_pos h2 (by omega)) (b_pos h3 (by omega))
    (by rw [ti sp h1 (by omega), ti n h3 (by omega)]; omega)
    (by rw [ti dp h2 (by omega), ti n h3 (by omega)]; show ¬ _ > ((arrV (γ.1.2.2.1 1) (τ.2 a) (fun j => .int (g j))).slots.size : Int); rw [arrV_size]; omega)
    (fun _ _ i hi => by
      rw [tc n h3 (by omega)] at hi
      have : scr.slots.getD ((bz sp).toNatClampNeg + i) .null = .int (bz ((ll.getD (sp.toNat + i) 0 : Nat) : Int)) := by rw [tc sp h1 (by omega), Array.getD_eq_getD_getElem?, s5 _ (by omega)]; rfl
      rw [this]
      exact ⟨rfl, trivial⟩)
    (g := F0 γ.2.1.2.2.2.2.2.1 pc ls (.int (bz n) :: .int (bz dp) :: .ref a :: .int (bz sp) :: .ref (γ.1.2.2.2 j) :: st)) rfl (hls.trans C.1.2.2.2.symm) (rest := st) rfl (by rw [C.1.2.1]; exact hd) (by omega) (by show 2 * 0 + _ + _ ≤ _; omega)
  generalize hF : va_cpy (fun i => bz ((ll.getD i 0 : Nat) : Int)) g sp.toNat dp.toNat n.toNat = F at *
  have ec : copied scr (vp_cell (γ.1.2.2.1 1) (τ.2 a, .inl g)) (bz sp) (bz dp) (bz n) = vp_cell (γ.1.2.2.1 1) (τ.2 a, .inl F) := by
    have := va_copiedX (fun z => .int z) scr (γ.1.2.2.1 1) (n1 := τ.2 a) (dp := dp.toNat) (sp := sp.toNat) (n := n.toNat) (fun i => bz ((ll.getD i 0 : Nat) : Int)) g s5 (by omega)
    show Cell.storeRun _ (bz dp).toNatClampNeg (scr.stretch (bz sp).toNatClampNeg (bz n).toNatClampNeg) = _
    rw [tc sp h1 (by omega), tc dp h2 (by omega), tc n h3 (by omega), ← hF]
    exact this
  rw [ec] at X' step
  have al : a < H.size := (Array.getElem?_eq_some_iff.mp c1).1
  have hA : γ.1.1 ≤ a := hM.2.1.2 q1 _ ha
  have hh : ((T.setVm vm').setCell a (vp_cell (γ.1.2.2.1 1) (τ.2 a, .inl F))).heap = H.setIfInBounds a (vp_cell (γ.1.2.2.1 1) (τ.2 a, .inl F)) := by rw [← hTT]; rfl
  have hne : ∀ q : Nat, q ≠ a → (H.setIfInBounds a (vp_cell (γ.1.2.2.1 1) (τ.2 a, .inl F)))[q]? = H[q]? := fun q hq => Array.getElem?_setIfInBounds_ne (Ne.symm hq)
  have hat : (H.setIfInBounds a (vp_cell (γ.1.2.2.1 1) (τ.2 a, .inl F)))[a]? = some (vp_cell (γ.1.2.2.1 1) (τ.2 a, .inl F)) := by simp [al]
  have b1' := hM.1.set hM.2.1 ha (e := .inl (γ.1.2.2.1 1, τ.2 a, .inl F)) hat hne
  obtain ⟨t2, a1, b1⟩ := kk (fun b i => if b = a ∧ dp.toNat ≤ i ∧ i < dp.toNat + n.toNat then (F i).toInt else h.1 b i, h.2) (fun b i hb => ⟨if_neg (by omega), rfl⟩) _ ls _ _ (hM.write ha b1' (hM.2.1.set ha) ⟨by rw [Array.size_setIfInBounds]; exact hM.2.2.1.1, fun q hq hn => by rw [hne q (fun e => hn (e ▸ hA))]; exact hM.2.2.1.2.1 q hq hn, fun q hq => by
    rcases List.mem_append.mp hq with hq | hq
    · exact hM.2.2.1.2.2 q hq
    · obtain ⟨z, -, rfl⟩ := List.mem_map.mp hq
      exact hA⟩ (Or.inr (Or.inl ⟨by omega, q1, F, by rw [e1]; exact List.getElem?_set_self ((List.getElem?_eq_some_iff.mp ha).1), hn1, fun e => by omega, fun i hi => by
        show _ = if a = a ∧ dp.toNat ≤ i ∧ i < dp.toNat + n.toNat then (F i).toInt else h.1 a i
        by_cases hc : dp.toNat ≤ i ∧ i < dp.toNat + n.toNat
        · rw [if_pos ⟨rfl, hc⟩]
        · rw [if_neg (fun q => hc q.2), ← hg i hi, ← hF]; show (if _ then _ else _ : Int32).toInt = _; rw [if_neg hc]⟩)) (fun b hb i => ⟨if_neg (fun q => hb q.1), rfl⟩)) _ hh X'
  exact ⟨t2, step t2 a1, b1⟩
end BCOPY
/-! a Word's number -/
abbrev b_yO : MethodName := ⟨"java/lang/Enum", "ordinal", "()I"⟩
abbrev b_bO : ByteArray := prog_18_method_2_code
theorem b_dO0 : decode b_bO 0 = .ok (.aload_n 0, 1) := by decide +kernel
theorem b_dO1 : decode b_bO 1 = .ok (.getfield 7, 3) := by decide +kernel
theorem b_dO4 : decode b_bO 4 = .ok (.ireturn, 1) := by decide +kernel
theorem b_ordw : Cond.code b_yO b_bO 1 (some .int) ∈ bW ∧ Cond.fieldLink "java/lang/Enum" 7 "java/lang/Enum" "ordinal" "I" ∈ bW ∧ Cond.sameMethod "SpanCopier$Word" "java/lang/Enum" "ordinal" "()I" ∈ bW ∧ Cond.selects "SpanCopier$Word" ⟨"SpanCopier$Word", "ordinal", "()I"⟩ b_yO ∈ bW ∧ Cond.instanceMethod b_yO ∈ bW ∧ Cond.initialized "java/lang/Enum" ∈ bW := by
  refine ⟨?_, ?_, ?_, ?_, ?_, ?_⟩ <;> exact bW_of (by decide +kernel) rfl
theorem b_metO (l : Launch) (ι : bI) (τ : bt) (h : bh) (d j : Nat) (hj : j < 38) : Met l b_yO (bWd (b_yO, b_bO, some .int) 1) (bRm d 0 0) (bPc ι τ h [.ref (ι.2.2.2 j)]) (bQ ι τ h [.ref (ι.2.2.2 j)] (fun _ _ τ h v τ' h' => v = some (.int (bz j)) ∧ τ' = τ ∧ h' = h)) 0 0 (bA ι) := by
  refine Met.ofW (cc := b_bO) (maxL := 1) (ret := some .int) (by decide +kernel) rfl ?_
  intro p e s m args below meth c s₁ B hml hv
  obtain ⟨rfl, hb, ⟨ws, hP, hD, hc⟩, hK, hE, hN, hTh⟩ := hv
  have hts := atoms_spec (ws := bWd (b_yO, b_bO, some .int) 1) B.pre
  have hown : s.vm.findClass "java/lang/Enum" = some m.cls := findClass_of_methodNamed B.named
  have hlocks := B.notSynchronized
  have hl := lv_entry [.ref (ι.2.2.2 j)] (n := 1) (Nat.le_of_ble_eq_true rfl)
  rw [lg_entry_eq]
  generalize (lg_sl [.ref (ι.2.2.2 j)] ++ List.replicate (1 - (lg_sl [.ref (ι.2.2.2 j)]).length) Slot.unset).toArray = ls at hl ⊢
  have hl : lv_has ls 1 [(0, .ref (ι.2.2.2 j))] := hl
  have hS : va_S (bA ι) s.heap s.heap [] := va_S.rf
  refine lv_aload_n B.exec B.bytes b_dO0 rfl (lv_at hl 0 rfl) ?_
  refine va_getE B.exec B.bytes hE.1 (show j < b_nm.length from hj) hS hown (q := ("java/lang/Enum", "ordinal", "I", (List.range 38).map (fun i : Nat => bz (i : Int)))) (List.mem_singleton.mpr rfl) (hts _ (List.mem_cons_of_mem _ b_ordw.2.1)) (fun _ h => h) b_dO1 ?_
  have ev : ((List.range 38).map (fun i : Nat => bz (i : Int))).getD j 0 = bz j := by rw [List.getD_eq_getElem?_getD, List.getElem?_map, List.getElem?_range hj]; rfl
  dsimp only
  rw [ev]
  refine W.iret B.exec B.bytes B.returns (fun t ht _ => ?_) (fun q hq => absurd hq List.not_mem_nil) b_dO4
  exact ⟨⟨_, τ, h, rfl, ⟨rfl, rfl, rfl⟩, ws, by rw [ht]; exact hP, hD, hc⟩, hS.F ht⟩
theorem b_ord {γ : bG} {y : bY} {d b1 b2 pc : Nat} {lo : List (Option Value)} {st : List Value} {τ : bt} {h : bh} {nc ns idx j : Nat} (C : bC γ y (d + 1) b1 b2) (X : bX γ) (hj : j < 38) (hlink : Cond.methodLink y.1.cls idx ⟨"SpanCopier$Word", "ordinal", "()I"⟩ ∈ bW) (hd : decode y.2.1 pc = .ok (.invokevirtual idx, 3)) (hsum : (st.map fun v => v.category).sum ≤ 8) (hc : nc ≤ b1) (hsl : ns ≤ b2) (kk : bJ γ (pc + 3) lo (.int (bz j) :: st) τ h nc ns) : bJ γ pc lo (.ref (γ.1.2.2.2 j) :: st) τ h nc ns := by
  intro ws ls H locs hM
  have pre := b_pre C X hM [.ref (γ.1.2.2.2 j)]
  have hMet := b_metO γ.2.1.2.1 γ.1 τ h d j hj
  have hls : ls.size = γ.2.2.1 := by obtain ⟨-, lv, hl, -⟩ := hM.2.2.2.2; exact hl.1
  have hR : (bRm d 0 0).frames + 1 ≤ γ.2.1.2.2.2.1.frames ∧ 8 + (1 + 11) + (bRm d 0 0).locals ≤ γ.2.1.2.2.2.1.locals := by
    have r1 := C.2.2.2.1
    have r2 := C.2.2.2.2.1
    exact ⟨r1, by show 8 + (1 + 11) + 64 * (d + 1) ≤ _; omega⟩
  have hG : GoodIn bW (va_wsU y.1.cls idx "SpanCopier$Word" "java/lang/Enum" ⟨"SpanCopier$Word", "ordinal", "()I"⟩ b_yO (bWd (b_yO, b_bO, some .int) 1)) := by
    intro w hw2
    rcases List.mem_append.mp hw2 with h1 | h1
    · have : w ∈ bW := by
        simp only [List.mem_cons, List.not_mem_nil, or_false] at h1
        rcases h1 with rfl | rfl | rfl | rfl | rfl
        · exact hlink
        · exact b_ordw.2.2.1
        · exact b_ordw.2.2.2.1
        · exact b_ordw.2.2.2.2.1
        · exact b_ordw.2.2.2.2.2
      exact ⟨this, good_of_word (List.mem_filter.mp this).2⟩
    · exact bgood (y := (b_yO, b_bO, some .int)) b_ordw.1 w h1
  have hcu := va_cwU (R := γ.2.1.2.2.2.1) (rm := bRm d 0 0) (mc := 0) (ms := 0) 0 C.2.1.2.1 hG rfl rfl rfl rfl ⟨by decide +kernel, by decide +kernel, by decide +kernel⟩ hR
  have hcc : nc + 0 ≤ γ.2.1.2.2.2.1.cells ∧ ns + 0 ≤ γ.2.1.2.2.2.1.slots := ⟨by rw [C.2.2.2.2.2.1]; exact hc, by rw [C.2.2.2.2.2.2]; exact hsl⟩
  have hfix : CallFix γ.2.1.1 γ.2.1.2.2.2.2.2.1 γ.2.1.2.2.2.2.2.2.2.2.2 y.2.1 γ.2.2.1 γ.2.1.2.2.2.2.1 γ.2.1.2.2.2.2.2.2.1 bW y.1.cls := ⟨C.1.1, C.1.2.1, C.1.2.2.2, C.2.1.1, C.2.1.2.1⟩
  refine b_go (mc := 0) (ms := 0) (avs := [.ref (γ.1.2.2.2 j)]) (a := #[.ref (γ.1.2.2.2 j)]) (va_runU (As := []) (n := 0) hfix hMet hcu ⟨b_blind _ _ _ _, va_recvE C.2.2.1.2.1.1 (show j < b_nm.length from hj) hM.2.2.1, pre⟩ rfl rfl hls rfl (lv_room hsum) hd hcc) hM.2.2.1 hM.2.2.2.2 ?_
  rintro v τ' h' ⟨rfl, rfl, rfl⟩
  exact kk
/-! longs that are answered -/
theorem b_lret {γ : bG} {y : bY} {d b1 b2 pc nL : Nat} {lo : List (Option Value)} {τ τ0 : bt} {h h0 : bh} {nc ns : Nat} {ι : bI} {avs : List Value} {Post : bPost} {v : Int64} (C : bC γ y d b1 b2) (B : bBeg ι τ0 h0 avs Post nL b1 b2 γ) (hd : decode y.2.1 pc = .ok (.lreturn, 1)) (hty : y.2.2 = some .long) (h1 : nc ≤ b1) (h2 : ns ≤ b2) (hp : Post ι avs τ0 h0 (some (.long v)) τ h) : bJ γ pc lo [.long v] τ h nc ns := by
  intro ws ls H locs ⟨m1, m2, m3, m4, m5⟩
  have hend := fun t ht => b_end B m1 m2 m3 m4 hp t ht
  obtain ⟨e1, e2, e3, e4, -⟩ := B
  subst e1
  show W _ _ _ _ _ _ _ _ _ _ H locs nc ns γ.2.2.2 _
  rw [e4]
  rw [← e3] at hend ⊢
  refine W.widen h1 h2 ?_
  exact W.lret C.1.1 C.1.2.1 (C.1.2.2.1.trans hty) (fun t ht _ => hend t ht) m3.2.2 hd C.2.1.2.2.1
