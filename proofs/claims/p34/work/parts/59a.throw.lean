/-! ===== what the class throws, and the law catches ===== -/
abbrev bPostX : Type := bI → List Value → bt → bh → bt → bh → Prop
def bXC (ι : bI) (τ : bt) (h : bh) (avs : List Value) (PostX : bPostX) : String → State → State → Prop := fun E st t => E = "java/util/NoSuchElementException" ∧ (∃ (τ' : bt) (h' : bh), PostX ι avs τ h τ' h' ∧ bHp ι τ' h' t.heap) ∧ va_F (bA ι) st t
/-- a method that returns or throws -/
def bOkX (y : bY) (nL d0 b1 b2 : Nat) (Pre : bI → List Value → bt → bh → Prop) (Post : bPost) (PostX : bPostX) : Prop := ∀ (l : Launch), l.stackTraces = false → ∀ (d : Nat), d0 ≤ d → ∀ (ι : bI) (τ : bt) (h : bh) (avs : List Value), Pre ι avs τ h → vx_Met l y.1 (bWd y nL) (bRm d b1 b2) (bPc ι τ h avs) (bQ ι τ h avs Post) (bXC ι τ h avs PostX) b1 b2 (bA ι)
def bBegX (ι : bI) (τ : bt) (h : bh) (avs : List Value) (Post : bPost) (PostX : bPostX) (nL b1 b2 : Nat) (γ : bG) : Prop := γ.1 = ι ∧ γ.2.2.1 = nL ∧ γ.2.1.2.2.2.2.2.2.1 = avs.toArray ∧ γ.2.2.2 = vx_MQ γ.2.1.2.2.2.2.2.2.2.1 (bQ ι τ h avs Post) (bXC ι τ h avs PostX) γ.2.1.2.2.2.2.2.2.1 γ.2.1.2.2.2.2.1 b1 b2 (bA ι) ∧ γ.2.1.2.1.stackTraces = false ∧ bTh ι γ.2.1.2.2.2.2.1 γ.2.1.2.2.2.2.1.heap ∧ ∀ x ∈ γ.2.1.2.2.2.2.2.2.2.2.2.exceptionTable.toList, False
theorem bBegX.x {ι : bI} {τ : bt} {h : bh} {avs : List Value} {Post : bPost} {PostX : bPostX} {nL b1 b2 : Nat} {γ : bG} (B : bBegX ι τ h avs Post PostX nL b1 b2 γ) : bX γ := by
  obtain ⟨rfl, -, -, -, h1, h2, -⟩ := B
  exact ⟨h1, h2⟩
theorem bOkX_of {y : bY} {nL d0 b1 b2 : Nat} {Pre : bI → List Value → bt → bh → Prop} {Post : bPost} {PostX : bPostX} (hpl : plainName y.1.cls = true) (hlen : ∀ ι avs τ h, Pre ι avs τ h → (blv avs).length ≤ nL) (body : ∀ (γ : bG) (ι : bI) (τ : bt) (h : bh) (avs : List Value) (d : Nat), d0 ≤ d → Pre ι avs τ h → bBegX ι τ h avs Post PostX nL b1 b2 γ → bC γ y d b1 b2 → bJ γ 0 (blv avs ++ List.replicate (nL - (blv avs).length) none) [] τ h 0 0) : bOkX y nL d0 b1 b2 Pre Post PostX := by
  intro l hl d hd ι τ h avs hp
  refine vx_ofW (cc := y.2.1) (maxL := nL) (ret := y.2.2) hpl rfl ?_
  intro p e s m args below meth c s₁ B hml htab hv
  obtain ⟨rfl, hb, ⟨ws, hP, hD, hc⟩, hK, hE, hN, hTh⟩ := hv
  have hts := atoms_spec (ws := bWd y nL) B.pre
  have hlen := hlen ι avs τ h hp
  have hlv := lv_entry avs (n := nL) (by rw [blv_len]; exact hlen)
  rw [lg_entry_eq]
  generalize (lg_sl avs ++ List.replicate (nL - (lg_sl avs).length) Slot.unset).toArray = ls at hlv ⊢
  refine body (ι, (p, l, e, (headSpec (bWd y nL) (bRm d b1 b2)).room, s, m, avs.toArray, below, meth, c), nL, vx_MQ below (bQ ι τ h avs Post) (bXC ι τ h avs PostX) avs.toArray s b1 b2 (bA ι)) ι τ h avs d hd hp ⟨rfl, rfl, rfl, rfl, hl, hTh, htab⟩ ⟨⟨B.exec, B.bytes, B.returns, hml⟩, ⟨findClass_of_methodNamed B.named, fun w hw => hts w (List.mem_cons_of_mem _ hw), B.notSynchronized, (name_of_methodNamed B.named B.method).1⟩, ⟨hK, hE, hb, hN⟩, Nat.le_refl _, Nat.le_refl _, rfl, rfl⟩ ws ls s.heap [] ⟨hP, hD, va_S.rf, hc, ?_, lv_args 0 avs, hlv, fun i v hi => ?_⟩
  · show (blv avs ++ List.replicate (nL - (blv avs).length) none).length ≤ nL; rw [List.length_append, List.length_replicate]; omega
  · by_cases hi2 : i < (blv avs).length
    · rw [List.getElem?_append_left hi2] at hi
      have := blv_at avs 0 i v hi
      rwa [Nat.zero_add] at this
    · rw [List.getElem?_append_right (by omega), List.getElem?_replicate] at hi
      split at hi <;> cases hi
section BX
variable {γ : bG} {y : bY} {d b1 b2 pc nL : Nat} {lo : List (Option Value)} {st : List Value} {τ τ0 : bt} {h h0 : bh} {nc ns : Nat} {ι : bI} {avs : List Value} {Post : bPost} {PostX : bPostX} {Γ : List (bY × Nat)}
theorem b_iretX {z : Int} (C : bC γ y d b1 b2) (B : bBegX ι τ0 h0 avs Post PostX nL b1 b2 γ) (hd : decode y.2.1 pc = .ok (.ireturn, 1)) (hty : y.2.2 = some .int ∨ (y.2.2 = some .boolean ∧ (z = 0 ∨ z = 1))) (h1 : nc ≤ b1) (h2 : ns ≤ b2) (hp : Post ι avs τ0 h0 (some (.int (bz z))) τ h) : bJ γ pc lo [.int (bz z)] τ h nc ns := by
  obtain ⟨e1, e2, e3, e4, e5, e6, -⟩ := B
  intro ws ls H locs hM
  have key : bJ (γ.1, γ.2.1, γ.2.2.1, MQ γ.2.1.2.2.2.2.2.2.2.1 (bQ ι τ0 h0 avs Post) γ.2.1.2.2.2.2.2.2.1 γ.2.1.2.2.2.2.1 b1 b2 (bA ι)) pc lo [.int (bz z)] τ h nc ns :=
    b_iret (ι := ι) (τ0 := τ0) (h0 := h0) (avs := avs) (Post := Post) (nL := nL) C ⟨e1, e2, e3, by show MQ _ _ γ.2.1.2.2.2.2.2.2.1 _ _ _ _ = _; rw [e3], e5, e6⟩ hd hty h1 h2 hp
  show bWW γ.2.1 H locs nc ns γ.2.2.2 _
  rw [e4]
  exact vx_ret (key ws ls H locs hM)
theorem bx_w1 : Cond.classLink "SpanCopier" 206 "java/util/NoSuchElementException" ∈ bW := bW_of (by decide +kernel) rfl
theorem bx_w2 : Cond.initialized "java/util/NoSuchElementException" ∈ bW := bW_of (by decide +kernel) rfl
theorem bx_w3 : ∀ w ∈ (vx_at0 "SpanCopier" 208 "java/util/NoSuchElementException" ["java/lang/RuntimeException", "java/lang/Exception"]).filter goodWord, w ∈ lw_tbl := by decide +kernel
theorem bx_w4 : ∀ w ∈ (vx_at0 "SpanCopier" 208 "java/util/NoSuchElementException" ["java/lang/RuntimeException", "java/lang/Exception"]).filter (fun w => !goodWord w), w ∈ [Cond.castable "java/util/NoSuchElementException" "java/util/NoSuchElementException", Cond.declares ⟨"java/lang/RuntimeException", "<init>", "()V"⟩, Cond.declares ⟨"java/lang/Exception", "<init>", "()V"⟩, Cond.declares ⟨"java/lang/Throwable", "<init>", "()V"⟩] := by decide +kernel
theorem bx_w5 : ∀ w ∈ Cond.classLink "SpanCopier" 206 "java/util/NoSuchElementException" :: Cond.initialized "java/util/NoSuchElementException" :: vx_at0 "SpanCopier" 208 "java/util/NoSuchElementException" ["java/lang/RuntimeException", "java/lang/Exception"], vx_ot w = true := by decide +kernel
theorem b_thr (C : bC γ y d b1 b2) (B : bBegX ι τ0 h0 avs Post PostX nL b1 b2 γ) (hcl : y.1.cls = "SpanCopier") (d0 : decode y.2.1 pc = .ok (.new 206, 3)) (d3 : decode y.2.1 (pc + 3) = .ok (.dup, 1)) (d4 : decode y.2.1 (pc + 4) = .ok (.invokespecial 208, 3)) (d7 : decode y.2.1 (pc + 7) = .ok (.athrow, 1)) (hd : 5 ≤ d) (h1 : nc + 1 ≤ b1) (h2 : ns + 6 ≤ b2) (hp : PostX ι avs τ0 h0 τ h) : bJ γ pc lo [] τ h nc ns := by
  obtain ⟨rfl, e2, e3, e4, e5, hTh, htab⟩ := B
  intro ws ls H locs hM
  obtain ⟨m1, m2, m3, m4, m5⟩ := hM
  have hls : ls.size = γ.2.2.1 := by obtain ⟨-, lv, hl, -⟩ := m5; exact hl.1
  show bWW γ.2.1 H locs nc ns γ.2.2.2 _
  rw [e4]
  refine vx_throw0 (cc := y.2.1) (own := "SpanCopier") (cls := "java/util/NoSuchElementException") (names := ["java/lang/RuntimeException", "java/lang/Exception"]) (ik := 206) (ic := 208) (A := bA γ.1) C.1.1 C.1.2.1 e5 (by rw [← hcl]; exact C.2.1.1) (by decide +kernel) (by decide +kernel) (C.2.1.2.1 _ bx_w1) (C.2.1.2.1 _ bx_w2) (vx_hat (fun w hw => C.2.1.2.1 w (bW_of (bx_w3 w hw) (List.mem_filter.mp hw).2)) bx_w4 (vx_c (va_Nw.use rfl hTh.2.2.1.1) (vx_c (va_Nw.use rfl hTh.2.2.1.2.1) (vx_c (va_Nw.use rfl hTh.2.2.1.2.2.1) (vx_c (va_Nw.use rfl hTh.2.2.1.2.2.2) vx_n))))) bx_w5 hTh.1 hTh.2.1 m3 (hls.trans C.1.2.2.2.symm) d0 d3 d4 d7 (fun x hx => (htab x hx).elim) ?_ ?_ ?_ ?_ C.2.1.2.2.1 ?_ m3.2.2 ?_ ?_
  · have := C.2.2.2.1
    show 2 + 3 < _; omega
  · have := C.2.2.2.2.1
    show 0 + (13 * (2 + 1) + 42) ≤ _; omega
  · rw [C.2.2.2.2.2.1]; exact h1
  · rw [C.2.2.2.2.2.2]; exact h2
  · intro t hal hz hk
    refine ⟨rfl, ⟨τ, h, hp, ws, m1.kept (fun j r hj => hk _ (m1 j r hj).lt), m2, m4⟩, Nat.le_trans m3.1 hz, fun j z1 z2 => ?_⟩
    rw [hk _ (Nat.lt_of_lt_of_le z1 m3.1)]
    exact m3.2.1 _ z1 z2
  · exact h1
  · exact h2
/-- a call of a method that may throw, caught by the one row of the table -/
theorem b_invX {mid k r4 ci idx a d0 c1 c2 lo9 hi9 hpc ct : Nat} {q : bY × Nat} {As rest : List Value} {Pre : bI → List Value → bt → bh → Prop} (C : bC γ y (d + 1) b1 b2) (X : bX γ) (htab : γ.2.1.2.2.2.2.2.2.2.2.2.exceptionTable.toList = tableOf [(lo9, hi9, hpc, ct)]) (hE : dk_ok y Γ (pc, .invokevirtual idx, 3, mid, k, 0, r4, ci)) (hq : Γ[mid]? = some q) (K : bOkX q.1 q.2 d0 c1 c2 Pre Post PostX) (hd0 : d0 ≤ d) (hlen : As.length + 1 = k) (ht : τ.1 a = ci + 1) (hp : Pre γ.1 (.ref a :: As) τ h) (hsum : (rest.map fun v => v.category).sum ≤ 8) (hc : nc + c1 ≤ b1) (hs : ns + c2 ≤ b2) (hcov : lo9 ≤ pc ∧ pc < hi9) (hct : ct ≠ 0) (hlk : Cond.classLink y.1.cls ct "java/util/NoSuchElementException" ∈ bW) (kk : ∀ (v : Option Value) (τ' : bt) (h' : bh), Post γ.1 (.ref a :: As) τ h v τ' h' → bJ γ (pc + 3) lo (v.toList ++ rest) τ' h' (nc + c1) (ns + c2)) (kx : ∀ (e : Nat) (τ' : bt) (h' : bh), PostX γ.1 (.ref a :: As) τ h τ' h' → bJ γ hpc lo [.ref e] τ' h' (nc + c1) (ns + c2)) : bJ γ pc lo (As.reverse ++ (.ref a :: rest)) τ h nc ns := by
  obtain ⟨hdg, -, hl⟩ := hE
  rcases hl with ⟨h6, hci, ⟨q', hq', hy, hmd, hkp⟩, hop⟩ | ⟨h7, -⟩ | ⟨h7, -⟩ | ⟨h7, -⟩
  · rw [hq] at hq'
    cases hq'
    have hmd : bmd 0 y.1.cls idx q.1.1 ci := hmd
    rcases hmd with ⟨-, a1, a2, a3, qc, a4, a5⟩ | ⟨h7, -⟩ | ⟨h7, -⟩ | ⟨h7, -⟩ | ⟨h7, -⟩ | ⟨h7, -⟩
    · intro ws ls H locs hM
      have pre := b_pre C X hM (.ref a :: As)
      have hMet := K γ.2.1.2.1 X.1 d hd0 γ.1 τ h (.ref a :: As) hp
      have hls : ls.size = γ.2.2.1 := by obtain ⟨-, lv, hl, -⟩ := hM.2.2.2.2; exact hl.1
      have hR : (bRm d c1 c2).frames + 1 ≤ γ.2.1.2.2.2.1.frames ∧ 8 + (q.2 + 11) + (bRm d c1 c2).locals ≤ γ.2.1.2.2.2.1.locals := by
        have r1 := C.2.2.2.1
        have r2 := C.2.2.2.2.1
        have r3 := hy.2.2.2.2.1
        exact ⟨r1, by show 8 + (q.2 + 11) + 64 * (d + 1) ≤ _; omega⟩
      have hfix : CallFix γ.2.1.1 γ.2.1.2.2.2.2.2.1 γ.2.1.2.2.2.2.2.2.2.2.2 y.2.1 γ.2.2.1 γ.2.1.2.2.2.2.1 γ.2.1.2.2.2.2.2.2.1 bW y.1.cls := ⟨C.1.1, C.1.2.1, C.1.2.2.2, C.2.1.1, C.2.1.2.1⟩
      have hf : nc + c1 ≤ γ.2.1.2.2.2.1.cells ∧ ns + c2 ≤ γ.2.1.2.2.2.1.slots := ⟨by rw [C.2.2.2.2.2.1]; exact hc, by rw [C.2.2.2.2.2.2]; exact hs⟩
      have hW : 2 * (F0 γ.2.1.2.2.2.2.2.1 pc ls (As.reverse ++ .ref a :: rest)).monitorRoom + (rest.map fun v => v.category).sum ≤ 8 := lv_room hsum
      have hn1 : ∀ j : Nat, (parseMethodDescriptor q.1.1.desc).map (fun d => d.parameters.length) = some j → (q.1.1.cls ≠ "java/lang/invoke/MethodHandle" ∧ q.1.1.cls ≠ "java/lang/invoke/VarHandle" ∧ (parseMethodDescriptor q.1.1.desc).map (fun d => d.parameters.length) = some j) := fun j h => ⟨hy.2.2.1, hy.2.2.2.1, h⟩
      have hini := C.2.1.2.1 _ hy.2.1
      obtain ⟨v2, fs, hw, -, -⟩ := (hM.2.2.2.1 a (by omega)).obj ht hci
      have hrun := vx_runV (As := As) (rest := rest) (n := k - 1) (C := q.1.1.cls) (index := idx) hfix hMet ⟨callB_of (k - 1) C.2.1.2.1 (bgood hy.1) rfl rfl rfl hini (C.2.1.2.1 _ a1) (hn1 _ (by simpa using hkp)) hR, C.2.1.2.1 _ a2, C.2.1.2.1 _ a3⟩ ⟨b_blind _ _ _ _, by rw [← a5]; exact va_recv C.2.2.1.1 hM.1 a4 hw, pre⟩ (g := F0 γ.2.1.2.2.2.2.2.1 pc ls (As.reverse ++ .ref a :: rest)) (below := γ.2.1.2.2.2.2.2.2.2.1) (meth := γ.2.1.2.2.2.2.2.2.2.2.1) (e := γ.2.1.2.2.1) (locs := locs) (cells := nc) (slots := ns) rfl (by omega) hls rfl hW hdg hf
      intro T hT9 X9
      obtain ⟨m1, m2, m3, m4, m5⟩ := hM
      rcases hrun T hT9 X9 with ⟨v, st₀, t, T', L, h0, X', hL, e1, -, ⟨⟨v', τ', h', hv, hp', ws', q5, q6, q7⟩, hz, hk⟩, stp⟩ | ⟨q9, st₀, t, T', L, E, ce, h0, X', hL, e1, e2, ⟨rfl, ⟨τ', h', hpx, ws', q5, q6, q7⟩, hz, hk⟩, hce, hcv, hcl9, stp⟩
      · cases hv
        rw [h0] at hz hk
        obtain ⟨t2, z1, z2⟩ := kk v τ' h' hp' ws' ls T'.heap (locs ++ L) ⟨by rw [e1]; exact q5, q6,
          ⟨by rw [e1]; exact Nat.le_trans m3.1 hz, fun q z1 z2 => by rw [e1, hk q (Nat.lt_of_lt_of_le z1 m3.1) z2]; exact m3.2.1 q z1 z2, fun q hq => by
            rcases List.mem_append.mp hq with hq | hq
            · exact m3.2.2 q hq
            · exact hL q hq⟩, q7, m5⟩ T' rfl X'
        exact ⟨t2, stp t2 z1, z2⟩
      · rw [h0] at hz hk
        have hS1 : va_S (bA γ.1) γ.2.1.2.2.2.2.1.heap T'.heap (locs ++ L) := ⟨by rw [e1]; exact Nat.le_trans m3.1 hz, fun j z1 z2 => by rw [e1, hk j (Nat.lt_of_lt_of_le z1 m3.1) z2]; exact m3.2.1 j z1 z2, fun j hj => by
          rcases List.mem_append.mp hj with hj | hj
          · exact m3.2.2 j hj
          · exact hL j hj⟩
        have hW9 : vx_W γ.2.1.1 γ.2.1.2.1 γ.2.1.2.2.1 γ.2.1.2.2.2.1 γ.2.1.2.2.2.2.1 γ.2.1.2.2.2.2.2.1 γ.2.1.2.2.2.2.2.2.1 γ.2.1.2.2.2.2.2.2.2.1 γ.2.1.2.2.2.2.2.2.2.2.1 γ.2.1.2.2.2.2.2.2.2.2.2 T'.heap (locs ++ L) (nc + c1) (ns + c2) γ.2.2.2 (F0 γ.2.1.2.2.2.2.2.1 pc ls rest) q9 := by
          refine vx_catch (own := y.1.cls) (name := "java/util/NoSuchElementException") (E := "java/util/NoSuchElementException") (ce := ce) C.2.1.1 ⟨lo9, hi9, hpc, ct⟩ htab (by simp [covers, hcov.1, hcov.2]) hct (C.2.1.2.1 _ hlk) (va_Nw.use rfl X.2.2.2.1.1) (by rw [e1]; exact hce) hcv hcl9 ?_
          exact kx q9 τ' h' hpx ws' ls T'.heap (locs ++ L) ⟨by rw [e1]; exact q5, q6, hS1, q7, m5⟩
        obtain ⟨t2, z1, z2⟩ := hW9 T' rfl X'
        exact ⟨t2, stp.trans z1, z2⟩
    · exact absurd (show (0 : Nat) = 1 from h7) (by decide)
    · exact absurd (show (0 : Nat) = 2 from h7) (by decide)
    · exact absurd (show (0 : Nat) = 3 from h7) (by decide)
    · exact absurd h7 (by decide)
    · exact absurd (show (0 : Nat) = 6 from h7) (by decide)
  · exact absurd (show (0 : Nat) = 7 from h7) (by decide)
  · exact absurd (show (0 : Nat) = 8 from h7) (by decide)
  · exact absurd (show (0 : Nat) = 9 from h7) (by decide)
end BX
/-! a static method of the law's, with a table -/
def bWdW (y : bY) (nL : Nat) (hh : List (Nat × Nat × Nat × Nat)) : List Cond := .codeWith y.1 y.2.1 nL y.2.2 hh :: bW
def bOkW (y : bY) (nL : Nat) (hh : List (Nat × Nat × Nat × Nat)) (d0 b1 b2 : Nat) (Pre : bI → List Value → bt → bh → Prop) (Post : bPost) : Prop := ∀ (l : Launch), l.stackTraces = false → ∀ (d : Nat), d0 ≤ d → ∀ (ι : bI) (τ : bt) (h : bh) (avs : List Value), Pre ι avs τ h → Met l y.1 (bWdW y nL hh) (bRm d b1 b2) (bPc ι τ h avs) (bQ ι τ h avs Post) b1 b2 (bA ι)
theorem bx_ofW {l : Launch} {y : MethodName} {ws ws' : List Cond} {rm : Room} {Pc : Array Value → State → Prop} {Qc : Array Value → State → Outcome → State → Prop} {mc ms : Nat} {free : Addr → Prop} {cc : ByteArray} {maxL : Nat} {ret : Option FieldType} {hh : List (Nat × Nat × Nat × Nat)} (hy : plainFor y = true) (hw : ws = Cond.codeWith y cc maxL ret hh :: ws') (body : ∀ p e s m args below meth c s₁, BodyLoose p l y (headSpec ws rm) cc maxL ret e s m args below meth c s₁ → c.maxLocals = maxL → c.exceptionTable.toList = tableOf hh → Pc args s → W p l e (headSpec ws rm).room s m args below meth c s.heap [] 0 0 (MQ below Qc args s mc ms free) (entryFrame m args maxL)) : Met l y ws rm Pc Qc mc ms free := by
  refine Jvm.Free.MetFree.of_bodySF (code := cc) (maxLocals := maxL) (ret := ret) hy ?_ ?_
  · intro args s m h hn
    obtain ⟨m9, meth, c, hn9, h1, h2, h3, h4, -, h5, h6, -⟩ := Cond.codeWith_spec (atoms_spec (ws := ws) h _ (by rw [hw]; exact List.mem_cons_self))
    cases hn.symm.trans hn9
    exact ⟨meth, c, h1, h2, h3, h4, h5, h6⟩
  · intro p e s m args below meth c s₁ B hml hP _
    have hh0 : s₁.heap = s.heap := by rw [B.state]; rfl
    have ht : c.exceptionTable.toList = tableOf hh := vx_table (x := y) B (atoms_spec (ws := ws) B.pre _ (by rw [hw]; exact List.mem_cons_self))
    obtain ⟨t, a1, o, b1, b2, b3⟩ := body p e s m args below meth c s₁ B hml ht hP s₁ hh0 (Stand.of_body B)
    exact ⟨t, o, a1, b1, b2, ⟨b3.1, b3.2⟩⟩
theorem bOkW_of {y : bY} {nL d0 b1 b2 : Nat} {hh : List (Nat × Nat × Nat × Nat)} {Pre : bI → List Value → bt → bh → Prop} {Post : bPost} (hpl : plainFor y.1 = true) (hlen : ∀ ι avs τ h, Pre ι avs τ h → (blv avs).length ≤ nL) (body : ∀ (γ : bG) (ι : bI) (τ : bt) (h : bh) (avs : List Value) (d : Nat), d0 ≤ d → Pre ι avs τ h → bBeg ι τ h avs Post nL b1 b2 γ → γ.2.1.2.2.2.2.2.2.2.2.2.exceptionTable.toList = tableOf hh → bC γ y d b1 b2 → bJ γ 0 (blv avs ++ List.replicate (nL - (blv avs).length) none) [] τ h 0 0) : bOkW y nL hh d0 b1 b2 Pre Post := by
  intro l hl d hd ι τ h avs hp
  refine bx_ofW (cc := y.2.1) (maxL := nL) (ret := y.2.2) (hh := hh) hpl rfl ?_
  intro p e s m args below meth c s₁ B hml htab hv
  obtain ⟨rfl, hb, ⟨ws, hP, hD, hc⟩, hK, hE, hN, hTh⟩ := hv
  have hts := atoms_spec (ws := bWdW y nL hh) B.pre
  have hlen := hlen ι avs τ h hp
  have hlv := lv_entry avs (n := nL) (by rw [blv_len]; exact hlen)
  rw [lg_entry_eq]
  generalize (lg_sl avs ++ List.replicate (nL - (lg_sl avs).length) Slot.unset).toArray = ls at hlv ⊢
  refine body (ι, (p, l, e, (headSpec (bWdW y nL hh) (bRm d b1 b2)).room, s, m, avs.toArray, below, meth, c), nL, MQ below (bQ ι τ h avs Post) avs.toArray s b1 b2 (bA ι)) ι τ h avs d hd hp ⟨rfl, rfl, rfl, rfl, hl, hTh⟩ htab ⟨⟨B.exec, B.bytes, B.returns, hml⟩, ⟨findClass_of_methodNamed B.named, fun w hw => hts w (List.mem_cons_of_mem _ hw), B.notSynchronized, (name_of_methodNamed B.named B.method).1⟩, ⟨hK, hE, hb, hN⟩, Nat.le_refl _, Nat.le_refl _, rfl, rfl⟩ ws ls s.heap [] ⟨hP, hD, va_S.rf, hc, ?_, lv_args 0 avs, hlv, fun i v hi => ?_⟩
  · show (blv avs ++ List.replicate (nL - (blv avs).length) none).length ≤ nL; rw [List.length_append, List.length_replicate]; omega
  · by_cases hi2 : i < (blv avs).length
    · rw [List.getElem?_append_left hi2] at hi
      have := blv_at avs 0 i v hi
      rwa [Nat.zero_add] at this
    · rw [List.getElem?_append_right (by omega), List.getElem?_replicate] at hi
      split at hi <;> cases hi
theorem b_insW {γ : bG} {y y' : bY} {d b1 b2 pc nL' d0 c1 c2 idx : Nat} {lo : List (Option Value)} {τ : bt} {h : bh} {nc ns : Nat} {hh : List (Nat × Nat × Nat × Nat)} {As rest : List Value} {Pre : bI → List Value → bt → bh → Prop} {Post : bPost} (C : bC γ y (d + 1) b1 b2) (X : bX γ) (K : bOkW y' nL' hh d0 c1 c2 Pre Post) (hd0 : d0 ≤ d) (hy : Cond.codeWith y'.1 y'.2.1 nL' y'.2.2 hh ∈ bW ∧ Cond.initialized y'.1.cls ∈ bW ∧ y'.1.cls ≠ "java/lang/invoke/MethodHandle" ∧ y'.1.cls ≠ "java/lang/invoke/VarHandle" ∧ nL' ≤ 45) (hlink : Cond.methodLink y.1.cls idx y'.1 ∈ bW) (hstt : Cond.static y'.1 ∈ bW) (hpd : (parseMethodDescriptor y'.1.desc).map (fun d => d.parameters.length) = some As.length) (hdg : decode y.2.1 pc = .ok (.invokestatic idx, 3)) (hp : Pre γ.1 As τ h) (hsum : (rest.map fun v => v.category).sum ≤ 8) (hc : nc + c1 ≤ b1) (hs : ns + c2 ≤ b2) (kk : ∀ (v : Option Value) (τ' : bt) (h' : bh), Post γ.1 As τ h v τ' h' → bJ γ (pc + 3) lo (v.toList ++ rest) τ' h' (nc + c1) (ns + c2)) : bJ γ pc lo (As.reverse ++ rest) τ h nc ns := by
  intro ws ls H locs hM
  have pre := b_pre C X hM As
  have hMet := K γ.2.1.2.1 X.1 d hd0 γ.1 τ h As hp
  have hls : ls.size = γ.2.2.1 := by obtain ⟨-, lv, hl, -⟩ := hM.2.2.2.2; exact hl.1
  have hR : (bRm d c1 c2).frames + 1 ≤ γ.2.1.2.2.2.1.frames ∧ 8 + (nL' + 11) + (bRm d c1 c2).locals ≤ γ.2.1.2.2.2.1.locals := by
    have r1 := C.2.2.2.1
    have r2 := C.2.2.2.2.1
    have r3 := hy.2.2.2.2
    exact ⟨r1, by show 8 + (nL' + 11) + 64 * (d + 1) ≤ _; omega⟩
  have hfix : CallFix γ.2.1.1 γ.2.1.2.2.2.2.2.1 γ.2.1.2.2.2.2.2.2.2.2.2 y.2.1 γ.2.2.1 γ.2.1.2.2.2.2.1 γ.2.1.2.2.2.2.2.2.1 bW y.1.cls := ⟨C.1.1, C.1.2.1, C.1.2.2.2, C.2.1.1, C.2.1.2.1⟩
  have hf : nc + c1 ≤ γ.2.1.2.2.2.1.cells ∧ ns + c2 ≤ γ.2.1.2.2.2.1.slots := ⟨by rw [C.2.2.2.2.2.1]; exact hc, by rw [C.2.2.2.2.2.2]; exact hs⟩
  have hW : 2 * (F0 γ.2.1.2.2.2.2.2.1 pc ls (As.reverse ++ rest)).monitorRoom + (rest.map fun v => v.category).sum ≤ 8 := lv_room hsum
  have gW : ∀ w ∈ bW, w ∈ bW ∧ ((w.onTables && w.keeps) = true ∨ ∃ ty, w = .arrayClass ty) := fun w hw => ⟨hw, good_of_word (List.mem_filter.mp hw).2⟩
  have hgood : GoodIn bW (va_wsS y.1.cls idx y'.1 (bWdW y' nL' hh)) := by
    intro w hw
    rcases List.mem_append.mp hw with hw | hw
    · simp only [List.mem_cons, List.not_mem_nil, or_false] at hw
      rcases hw with rfl | rfl | rfl
      · exact gW _ hlink
      · exact gW _ hstt
      · exact gW _ hy.2.1
    · rcases List.mem_cons.mp hw with rfl | hw
      · exact gW _ hy.1
      · exact gW _ hw
  refine b_go (mc := c1) (ms := c2) (avs := As) (a := As.toArray) ?_ hM.2.2.1 hM.2.2.2.2 kk
  exact vx_runSW (As := As) (n := As.length) (index := idx) hfix hMet (vx_cwSW As.length C.2.1.2.1 hgood rfl rfl rfl ⟨hy.2.2.1, hy.2.2.2.1, hpd⟩ hR) ⟨b_blind _ _ _ _, pre⟩ rfl rfl hls rfl hW hdg hf
