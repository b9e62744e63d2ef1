/-! ===== every instruction of the tables, and the run ===== -/
abbrev ak_yO : MethodName := ⟨"java/lang/Enum", "ordinal", "()I"⟩
abbrev ak_bO : ByteArray := prog_18_method_2_code
theorem ak_dO0 : decode ak_bO 0 = .ok (.aload_n 0, 1) := by decide +kernel
theorem ak_dO1 : decode ak_bO 1 = .ok (.getfield 7, 3) := by decide +kernel
theorem ak_dO4 : decode ak_bO 4 = .ok (.ireturn, 1) := by decide +kernel
/-- the words of ordinal() -/
def ak_ordw : Prop := Cond.code ak_yO ak_bO 1 (some .int) ∈ ak_W ∧ Cond.fieldLink "java/lang/Enum" 7 "java/lang/Enum" "ordinal" "I" ∈ ak_W ∧ Cond.sameMethod "SpanCopier$Word" "java/lang/Enum" "ordinal" "()I" ∈ ak_W ∧ Cond.selects "SpanCopier$Word" ⟨"SpanCopier$Word", "ordinal", "()I"⟩ ak_yO ∈ ak_W ∧ Cond.instanceMethod ak_yO ∈ ak_W ∧ Cond.initialized "java/lang/Enum" ∈ ak_W
theorem ak_metO (hw : ak_ordw) (l : Launch) (ι : ak_I) (ws : va_W) (d j : Nat) (hj : j < 38) {k : Nat} {hp : ai_H} {env : ai_E} (hh : ak_h ι k hp ws) (he : ak_e ι env) : Met l ak_yO (ak_Wd ak_yO ak_bO 1 (some .int)) (ak_rm d 0 0) (ak_Pc ι ws [.ref (ι.2.2.2.1 j)]) (ak_Q ι ws [(some (0, j), k, hp, env)]) 0 0 (ak_A ι) := by
  refine Met.ofW (cc := ak_bO) (maxL := 1) (ret := some .int) (by decide +kernel) rfl ?_
  intro p e s m args below meth c s₁ B hml hv
  obtain ⟨rfl, hb, hP, hD, hK, hE, hN⟩ := hv
  have hts := atoms_spec (ws := ak_Wd ak_yO ak_bO 1 (some .int)) B.pre
  have hown : s.vm.findClass "java/lang/Enum" = some m.cls := findClass_of_methodNamed B.named
  have hlocks := B.notSynchronized
  have hl := lv_entry [.ref (ι.2.2.2.1 j)] (n := 1) (Nat.le_of_ble_eq_true rfl)
  rw [lg_entry_eq]
  generalize (lg_sl [.ref (ι.2.2.2.1 j)] ++ List.replicate (1 - (lg_sl [.ref (ι.2.2.2.1 j)]).length) Slot.unset).toArray = ls at hl ⊢
  have hl : lv_has ls 1 [(0, .ref (ι.2.2.2.1 j))] := hl
  have hS : va_S (ak_A ι) s.heap s.heap [] := va_S.rf
  refine lv_aload_n B.exec B.bytes ak_dO0 rfl (lv_at hl 0 rfl) ?_
  refine va_getE B.exec B.bytes hE.1 (show j < ak_nm.length from hj) hS hown (q := ("java/lang/Enum", "ordinal", "I", (List.range 38).map nI)) (List.mem_singleton.mpr rfl) (hts _ (List.mem_cons_of_mem _ hw.2.1)) (fun _ h => h) ak_dO1 ?_
  have ev : ((List.range 38).map nI).getD j 0 = nI j := by rw [List.getD_eq_getElem?_getD, List.getElem?_map, List.getElem?_range hj]; rfl
  dsimp only
  rw [ev]
  refine W.iret B.exec B.bytes B.returns (fun t ht _ => ?_) (fun q hq => absurd hq List.not_mem_nil) ak_dO4
  exact ⟨⟨_, List.mem_singleton.mpr rfl, some (.int (nI j)), ws, rfl, Or.inr ⟨(0, j), _, rfl, rfl, Or.inl ⟨rfl, rfl⟩⟩, hh, he, List.prefix_rfl, by rw [ht]; exact hP, hD⟩, hS.F ht⟩
section ALL
variable {ι : ak_I} {y : MethodName} {b : ByteArray} {rt : Option FieldType} {M : ai_M} {d : Nat} {p : Program} {l : Launch} {e : Env} {R : Room} {s : State} {m : MethodId} {args : Array Value} {below : List Frame} {meth : Method} {c : Code} {pc : Nat} {sq : ai_Q} {jm : Nat → ai_Q}
theorem ah_ord {κ : ai_K} {idx : Nat} (hw : ak_ordw) (C : ak_C ι y b rt M d p l e R s m args below meth c) (hκ : κ.2.2.1 = M) (hκd : κ.2.1 = d) (hlink : Cond.methodLink y.cls idx ⟨"SpanCopier$Word", "ordinal", "()I"⟩ ∈ ak_W) (hd : decode b pc = .ok (.invokevirtual idx, 3)) (hs : ak_Snd ι M (p, l, e, R, s, m, args, below, meth, c) (pc + 3) sq) : ak_Snd ι M (p, l, e, R, s, m, args, below, meth, c) pc (ai_ord sq jm κ) := by
  intro loc stk w outs h Q hQ ws ls st H locs hM
  obtain ⟨n, hp, env, nc, ns⟩ := w
  cases stk with
  | nil => exact absurd h (by simp [ai_ord])
  | cons v stk =>
    obtain ⟨t, j⟩ := v
    simp only [ai_ord, ak_if, ak_and, Nat.beq_eq, Nat.ble_eq, hκ, hκd] at h
    split at h
    · rename_i hh0
      obtain ⟨hh, hd1, hc1, hc2⟩ := hh0
      obtain ⟨d, rfl⟩ : ∃ d', d = d' + 1 := ⟨d - 1, by omega⟩
      obtain ⟨X, st, rfl, hx, hst⟩ := ak_s_cons hM.2.2.2.2.2.1
      obtain rfl := ak_v_const hx hh.1.1
      have hj : j < 38 := by have := hh.1.2; omega
      have hMet := ak_metO hw l ι ws d j hj hM.2.2.2.1 hM.2.2.2.2.2.2
      have pre := ak_pre C.2.2.1.1 C.2.2.1.2.1 C.2.2.1.2.2.1 C.2.2.1.2.2.2 hM.1 hM.2.1.1 hM.2.2.1 [.ref (ι.2.2.2.1 j)]
      have hls : ls.size = M.1 := by obtain ⟨-, lv, hl, -⟩ := hM.2.2.2.2.1; exact hl.1
      have hR : (ak_rm d 0 0).frames + 1 ≤ R.frames ∧ 8 + (1 + 11) + (ak_rm d 0 0).locals ≤ R.locals := by
        have r1 := C.2.2.2.1
        have r2 := C.2.2.2.2.1
        exact ⟨r1, by show 8 + (1 + 11) + 64 * (d + 1) ≤ R.locals; omega⟩
      have hG : GoodIn ak_W (va_wsU y.cls idx "SpanCopier$Word" "java/lang/Enum" ⟨"SpanCopier$Word", "ordinal", "()I"⟩ ak_yO (ak_Wd ak_yO ak_bO 1 (some .int))) := by
        intro w hw2
        rcases List.mem_append.mp hw2 with h1 | h1
        · have : w ∈ ak_W := by
            simp only [List.mem_cons, List.not_mem_nil, or_false] at h1
            rcases h1 with rfl | rfl | rfl | rfl | rfl
            · exact hlink
            · exact hw.2.2.1
            · exact hw.2.2.2.1
            · exact hw.2.2.2.2.1
            · exact hw.2.2.2.2.2
          exact ⟨this, good_of_word (List.mem_filter.mp this).2⟩
        · exact ak_good hw.1 w h1
      have hcu := va_cwU (R := R) (rm := ak_rm d 0 0) (mc := 0) (ms := 0) 0 C.2.1.2.1 hG rfl rfl rfl rfl ⟨by decide +kernel, by decide +kernel, by decide +kernel⟩ hR
      have hcc : nc + 0 ≤ R.cells ∧ ns + 0 ≤ R.slots := by rw [C.2.2.2.2.2.1, C.2.2.2.2.2.2]; exact ⟨hc1, hc2⟩
      have hrun := va_runU (As := []) (n := 0) (rest := st) (H := H) (locs := locs) (cells := nc) (slots := ns) (g := F0 m pc ls (.ref (ι.2.2.2.1 j) :: st)) (below := below) (meth := meth) (c := c) (e := e) ⟨C.1.1, C.1.2.1, C.1.2.2.2, C.2.1.1, C.2.1.2.1⟩ hMet hcu ⟨ak_blind ι ws _, va_recvE C.2.2.1.2.1.1 (show j < ak_nm.length from hj) hM.2.2.1, pre⟩ rfl rfl hls rfl (lv_room (by rw [ak_s_sum hst]; exact hh.2)) hd hcc
      refine ak_go hrun hM.2.2.1 (fun o v u H1 locs1 ho q1 q2 q3 q4 q5 q6 q7 => ?_)
      obtain rfl := List.mem_singleton.mp ho
      rcases q1 with ⟨e1, -⟩ | ⟨a, z, e1, rfl, e3⟩
      · cases e1
      · cases e1
        exact hs _ _ _ _ h Q hQ u ls _ H1 locs1 ⟨q5, ⟨q6, hM.2.1.2.trans q4⟩, q7, q2, ak_l_mono q4 hM.2.2.2.2.1, ⟨e3, ak_s_mono q4 hst⟩, q3⟩
    · cases h
/-- an instruction is sound -/
theorem ah_one {ih : ai_X} (hX : ak_X ih) (hg : ak_glob) (ho : ak_ordw) (C : ak_C ι y b rt M d p l e R s m args below meth c) {en : ai_N} {hd : ai_D} (hok : ak_okE y b rt en) (hh : ai_h en = some hd) (hs : ak_Snd ι M (p, l, e, R, s, m, args, below, meth, c) (en.1 + en.2.2.1) sq) (hj : ∀ t, ak_Snd ι M (p, l, e, R, s, m, args, below, meth, c) t (jm t)) : ak_Snd ι M (p, l, e, R, s, m, args, below, meth, c) en.1 (hd sq jm (ih, d, M, en.1)) := by
  obtain ⟨pc, ins, len, r1, r2, r3, r4, r5⟩ := en
  obtain ⟨hdec, hlen, hlk⟩ := hok
  dsimp only at hdec hlen hlk hs ⊢
  unfold ai_h at hh
  cases ins with
  | iconst n => obtain rfl := hlen (fun _ _ _ _ h => by cases h); cases hh; exact ah_iconst C hdec hs
  | bipush n =>
    obtain rfl := hlen (fun _ _ _ _ h => by cases h)
    simp only [ak_if, Bool.and_eq_true, decide_eq_true_eq] at hh
    split at hh
    · rename_i hn; cases hh; exact ah_bipush C hn hdec hs
    · cases hh
  | sipush n =>
    obtain rfl := hlen (fun _ _ _ _ h => by cases h)
    simp only [ak_if, Bool.and_eq_true, decide_eq_true_eq] at hh
    split at hh
    · rename_i hn; cases hh; exact ah_sipush C hn hdec hs
    · cases hh
  | ldc i => obtain rfl := hlen (fun _ _ _ _ h => by cases h); cases hh; exact ah_ldc C hlk hdec hs
  | ldc_w i => obtain rfl := hlen (fun _ _ _ _ h => by cases h); cases hh; exact ah_ldcw C hlk hdec hs
  | lconst n => obtain rfl := hlen (fun _ _ _ _ h => by cases h); cases hh; exact ah_lconst C hdec hs
  | aconst_null => obtain rfl := hlen (fun _ _ _ _ h => by cases h); cases hh; exact ah_null C hdec hs
  | iload i => obtain rfl := hlen (fun _ _ _ _ h => by cases h); cases hh; exact ah_iload C hdec hs
  | iload_n i => obtain rfl := hlen (fun _ _ _ _ h => by cases h); cases hh; exact ah_iload_n C hdec hs
  | aload i => obtain rfl := hlen (fun _ _ _ _ h => by cases h); cases hh; exact ah_aload C hdec hs
  | aload_n i => obtain rfl := hlen (fun _ _ _ _ h => by cases h); cases hh; exact ah_aload_n C hdec hs
  | istore i => obtain rfl := hlen (fun _ _ _ _ h => by cases h); cases hh; exact ah_istore C hdec hs
  | istore_n i => obtain rfl := hlen (fun _ _ _ _ h => by cases h); cases hh; exact ah_istore_n C hdec hs
  | astore i => obtain rfl := hlen (fun _ _ _ _ h => by cases h); cases hh; exact ah_astore C hdec hs
  | astore_n i => obtain rfl := hlen (fun _ _ _ _ h => by cases h); cases hh; exact ah_astore_n C hdec hs
  | iinc i n => obtain rfl := hlen (fun _ _ _ _ h => by cases h); cases hh; exact ah_iinc C hdec hs
  | iadd => obtain rfl := hlen (fun _ _ _ _ h => by cases h); cases hh; exact ah_iadd C rfl hdec hs hj
  | isub => obtain rfl := hlen (fun _ _ _ _ h => by cases h); cases hh; exact ah_isub C rfl hdec hs hj
  | imul => obtain rfl := hlen (fun _ _ _ _ h => by cases h); cases hh; exact ah_imul C rfl hdec hs hj
  | iand => obtain rfl := hlen (fun _ _ _ _ h => by cases h); cases hh; exact ah_iand C rfl hdec hs hj
  | iushr => obtain rfl := hlen (fun _ _ _ _ h => by cases h); cases hh; exact ah_iushr C rfl hdec hs hj
  | ishr => obtain rfl := hlen (fun _ _ _ _ h => by cases h); cases hh; exact ah_ishr C rfl hdec hs hj
  | irem => obtain rfl := hlen (fun _ _ _ _ h => by cases h); cases hh; exact ah_irem C rfl hdec hs hj
  | i2b => obtain rfl := hlen (fun _ _ _ _ h => by cases h); cases hh; exact ah_i2b C hdec hs
  | i2l => obtain rfl := hlen (fun _ _ _ _ h => by cases h); cases hh; exact ah_i2l C hdec hs
  | lcmp => obtain rfl := hlen (fun _ _ _ _ h => by cases h); cases hh; exact ah_lcmp C hdec hs
  | dup => obtain rfl := hlen (fun _ _ _ _ h => by cases h); cases hh; exact ah_dup C hdec hs
  | dup2 => obtain rfl := hlen (fun _ _ _ _ h => by cases h); cases hh; exact ah_dup2 C hdec hs
  | pop => obtain rfl := hlen (fun _ _ _ _ h => by cases h); cases hh; exact ah_pop C hdec hs
  | goto off =>
    obtain rfl := hlen (fun _ _ _ _ h => by cases h)
    obtain ⟨t, ht, rfl⟩ := ai_to_some hh
    exact ah_goto C ht hdec hj
  | if_icmp cnd off =>
    obtain rfl := hlen (fun _ _ _ _ h => by cases h)
    cases cnd <;> obtain ⟨t, ht, rfl⟩ := ai_to_some hh
    · exact ah_icmp_eq C ht hdec hs hj
    · exact ah_icmp_ne C ht hdec hs hj
    · exact ah_icmp_lt C ht hdec hs hj
    · exact ah_icmp_ge C ht hdec hs hj
    · exact ah_icmp_gt C ht hdec hs hj
    · exact ah_icmp_le C ht hdec hs hj
  | ifCond cnd off =>
    obtain rfl := hlen (fun _ _ _ _ h => by cases h)
    cases cnd <;> obtain ⟨t, ht, rfl⟩ := ai_to_some hh
    · exact ah_if_eq C ht hdec hs hj
    · exact ah_if_ne C ht hdec hs hj
    · exact ah_if_lt C ht hdec hs hj
    · exact ah_if_ge C ht hdec hs hj
    · exact ah_if_gt C ht hdec hs hj
    · exact ah_if_le C ht hdec hs hj
  | if_acmp cnd off =>
    obtain rfl := hlen (fun _ _ _ _ h => by cases h)
    cases cnd <;> obtain ⟨t, ht, rfl⟩ := ai_to_some hh
    · exact ah_acmp_eq C ht hdec hs hj
    · exact ah_acmp_ne C ht hdec hs hj
  | ifnull off =>
    obtain rfl := hlen (fun _ _ _ _ h => by cases h)
    obtain ⟨t, ht, rfl⟩ := ai_to_some hh
    exact ah_ifnull C ht hdec hs hj
  | ifnonnull off =>
    obtain rfl := hlen (fun _ _ _ _ h => by cases h)
    obtain ⟨t, ht, rfl⟩ := ai_to_some hh
    exact ah_ifnonnull C ht hdec hs hj
  | tableswitch df lo hi offs =>
    simp only [ak_op, ak_if, decide_eq_true_eq] at hh
    cases hlo : ai_tgt 0 lo with
    | none => rw [hlo] at hh; cases hh
    | some lo' =>
      rw [hlo] at hh
      simp only [Option.elim] at hh
      split at hh
      · rename_i hhi
        cases hts : ai_tgts pc offs.toList with
        | none => rw [hts] at hh; cases hh
        | some ts =>
          rw [hts] at hh
          simp only at hh
          obtain ⟨t, ht, rfl⟩ := ai_to_some hh
          have := ai_tgt_some hlo
          exact ah_tsw C (by omega) hhi hts ht hdec hj
      · cases hh
  | getfield i =>
    obtain rfl := hlen (fun _ _ _ _ h => by cases h)
    cases hh
    obtain ⟨q, q1, q2, q3⟩ := hlk
    exact ah_get C q1 q2 q3 hdec hs
  | putfield i =>
    obtain rfl := hlen (fun _ _ _ _ h => by cases h)
    cases hh
    obtain ⟨q, ty, q1, q2, q3, q4, q5⟩ := hlk
    exact ah_putf C q1 q2 q3 q4 q5 hdec hs
  | getstatic i =>
    obtain rfl := hlen (fun _ _ _ _ h => by cases h)
    cases hh
    exact ah_gets C hlk.1 hlk.2 hdec hs
  | new i =>
    obtain rfl := hlen (fun _ _ _ _ h => by cases h)
    cases hh
    obtain ⟨q, q1, q2, q3⟩ := hlk
    exact ah_new C rfl q1 q2 (fun j hj => by obtain ⟨ty, t1, t2⟩ := hg.2.2.2.2.2.2 _ _ q1 j hj; exact ⟨ty, t1, t2 ι⟩) q3 hdec hs
  | newarray t =>
    obtain rfl := hlen (fun _ _ _ _ h => by cases h)
    cases hh
    exact ah_newa C rfl hlk.1 hlk.2 hdec hs
  | anewarray i =>
    obtain rfl := hlen (fun _ _ _ _ h => by cases h)
    cases hh
    obtain ⟨Cn, q1, q2⟩ := hlk
    exact ah_anewa C rfl q1 q2 hdec hs
  | arraylength => obtain rfl := hlen (fun _ _ _ _ h => by cases h); cases hh; exact ah_alen C hdec hs
  | iaload => obtain rfl := hlen (fun _ _ _ _ h => by cases h); cases hh; exact ah_iald C rfl hdec hs hj
  | baload => obtain rfl := hlen (fun _ _ _ _ h => by cases h); cases hh; exact ah_bald C rfl hdec hs hj
  | laload => obtain rfl := hlen (fun _ _ _ _ h => by cases h); cases hh; exact ah_lald C rfl hdec hs hj
  | aaload => obtain rfl := hlen (fun _ _ _ _ h => by cases h); cases hh; exact ah_aald C rfl hdec hs hj
  | iastore => obtain rfl := hlen (fun _ _ _ _ h => by cases h); cases hh; exact ah_iast C rfl hdec hs hj
  | bastore => obtain rfl := hlen (fun _ _ _ _ h => by cases h); cases hh; exact ah_bast C rfl hdec hs hj
  | lastore => obtain rfl := hlen (fun _ _ _ _ h => by cases h); cases hh; exact ah_last C rfl hdec hs hj
  | aastore => obtain rfl := hlen (fun _ _ _ _ h => by cases h); cases hh; exact ah_aast C rfl hdec hs hj
  | invokevirtual i =>
    obtain rfl := hlen (fun _ _ _ _ h => by cases h)
    cases hh
    rcases hlk with ⟨h6, ⟨q, M', t1, t2, t3, t4, t5⟩, t6⟩ | ⟨rfl, h, -⟩ | ⟨rfl, h, -⟩ | ⟨rfl, -, h9⟩
    · have e1 : ai_inv r3 r1 r2 r5 = ai_call r3 r1 r2 r5 := by simp only [ai_inv, ak_if, Nat.ble_eq]; rw [if_pos h6]
      rw [e1]
      refine ah_call hX C t2 t1 t3 t4 t5 ?_ hs
      rcases t6 with ⟨a, -⟩ | ⟨-, -, h⟩ | ⟨-, h⟩ <;> first | exact Or.inl ⟨a, hdec⟩ | omega
    · omega
    · omega
    · exact ah_ord (jm := jm) ho C rfl rfl h9 hdec hs
  | invokespecial i =>
    obtain rfl := hlen (fun _ _ _ _ h => by cases h)
    cases hh
    rcases hlk with ⟨h6, ⟨q, M', t1, t2, t3, t4, t5⟩, t6⟩ | ⟨rfl, -, h7⟩ | ⟨rfl, h, -⟩ | ⟨rfl, h, -⟩
    · have e1 : ai_inv r3 r1 r2 r5 = ai_call r3 r1 r2 r5 := by simp only [ai_inv, ak_if, Nat.ble_eq]; rw [if_pos h6]
      rw [e1]
      refine ah_call hX C t2 t1 t3 t4 t5 ?_ hs
      rcases t6 with ⟨-, h⟩ | ⟨a1, a2, -⟩ | ⟨-, h⟩ <;> first | exact Or.inr (Or.inl ⟨a1, a2, hdec⟩) | omega
    · exact ah_obj (jm := jm) (κ := (ih, d, M, pc)) C h7 hg.2.2.2.1 hg.2.2.2.2.1 hdec hs
    · omega
    · omega
  | invokestatic i =>
    obtain rfl := hlen (fun _ _ _ _ h => by cases h)
    cases hh
    rcases hlk with ⟨h6, ⟨q, M', t1, t2, t3, t4, t5⟩, t6⟩ | ⟨rfl, h, -⟩ | ⟨rfl, -, h8⟩ | ⟨rfl, h, -⟩
    · have e1 : ai_inv r3 r1 r2 r5 = ai_call r3 r1 r2 r5 := by simp only [ai_inv, ak_if, Nat.ble_eq]; rw [if_pos h6]
      rw [e1]
      refine ah_call hX C t2 t1 t3 t4 t5 ?_ hs
      rcases t6 with ⟨-, h⟩ | ⟨-, -, h⟩ | ⟨a, -⟩ <;> first | exact Or.inr (Or.inr ⟨a, hdec⟩) | omega
    · omega
    · exact ah_copy (jm := jm) (κ := (ih, d, M, pc)) C h8 hg.1 hg.2.1 hg.2.2.1 hg.2.2.2.2.2.1 hdec hs
    · omega
  | ireturn =>
    obtain rfl := hlen (fun _ _ _ _ h => by cases h)
    obtain ⟨ty, q1, q2⟩ := hlk
    simp only [ak_if, Nat.beq_eq] at hh
    split at hh
    · rename_i h1
      cases hh
      rcases q2 with ⟨-, rfl⟩ | ⟨h, -⟩
      · exact ah_retz C rfl q1 hdec
      · exact absurd h1 h
    · rename_i h1
      cases hh
      rcases q2 with ⟨h, -⟩ | ⟨-, rfl⟩
      · exact absurd h h1
      · exact ah_reti C rfl q1 hdec
  | areturn =>
    obtain rfl := hlen (fun _ _ _ _ h => by cases h)
    cases hh
    obtain ⟨ty, q1, q2⟩ := hlk
    exact ah_reta C rfl q1 q2 hdec
  | return_ => obtain rfl := hlen (fun _ _ _ _ h => by cases h); cases hh; exact ah_retv C rfl hlk hdec
  | _ => exact absurd hh (by simp)
/-- what is checked of the tables -/
def ak_tabok : Prop := ∀ (mid : Nat) (M : ai_M) (q : MethodName × ByteArray × Option FieldType × Nat), ai_tab[mid]? = some M → ak_mt[mid]? = some q → ∀ e ∈ M.2.1, ak_okE q.1 q.2.1 q.2.2.1 e
theorem ak_run_ok (hg : ak_glob) (ho : ak_ordw) (ht : ak_tabok) : ∀ n : Nat, ak_X (ai_run n) := by
  intro n
  induction n with
  | zero => intro d mid M q hT hq ι p l e R s m args below meth c C pc rest hr loc stk w outs h; cases h
  | succ n ih =>
    intro d mid M q hT hq ι p l e R s m args below meth c C pc rest hr loc stk w outs h Q hQ ws ls st H locs hM
    have h1 : ai_run (n + 1) = ai_body (ai_run n) := rfl
    rw [h1] at h
    cases rest with
    | nil => cases h
    | cons en tl =>
      simp only [ai_body, ak_if, Nat.beq_eq] at h
      split at h
      · rename_i hpc
        subst hpc
        simp only [ai_one, ak_op] at h
        cases hh : ai_h en with
        | none => rw [hh] at h; cases h
        | some hd =>
          rw [hh] at h
          exact ah_one (sq := ai_run n d M (Nat.add en.1 en.2.2.1) tl) (jm := ai_jm (ai_run n) d M) ih hg ho C (ht mid M q hT hq en (hr en List.mem_cons_self)) hh (ih d mid M q hT hq ι p l e R s m args below meth c C _ tl (fun e he => hr e (List.mem_cons_of_mem _ he))) (fun t => ih d mid M q hT hq ι p l e R s m args below meth c C t _ (fun e he => ai_seek_mem t M.2.1 e he)) loc stk w outs h Q hQ ws ls st H locs hM
      · cases h
end ALL
