/-! ===== every instruction of the tables, and the run ===== -/
abbrev ak_yO : MethodName := ⟨"java/lang/Enum", "ordinal", "()I"⟩
abbrev ak_bO : ByteArray := prog_18_method_2_code
theorem ak_dO0 : decode ak_bO 0 = .ok (.aload_n 0, 1) := by decide +kernel
theorem ak_dO1 : decode ak_bO 1 = .ok (.getfield 7, 3) := by decide +kernel
theorem ak_dO4 : decode ak_bO 4 = .ok (.ireturn, 1) := by decide +kernel
/-- the words of ordinal() -/
def ak_ordw : Prop := Cond.code ak_yO ak_bO 1 (some .int) ∈ ak_W ∧ Cond.fieldLink "java/lang/Enum" 7 "java/lang/Enum" "ordinal" "I" ∈ ak_W ∧ Cond.sameMethod "SpanCopier$Word" "java/lang/Enum" "ordinal" "()I" ∈ ak_W ∧ Cond.selects "SpanCopier$Word" ⟨"SpanCopier$Word", "ordinal", "()I"⟩ ak_yO ∈ ak_W ∧ Cond.instanceMethod ak_yO ∈ ak_W ∧ Cond.initialized "java/lang/Enum" ∈ ak_W
theorem ak_metO (hw : ak_ordw) (l : Launch) (ι : ak_I) (ws : va_W) (d j : Nat) (hj : j < 38) {k : Nat} {hp : ai_H} {env : ai_E} (hh : ak_h ι k hp ws) (he : ak_e ι env) : Met l ak_yO (ak_Wd ak_yO ak_bO 1 (some .int)) (ak_rm d 0 0) (ak_Pc ι ws [.ref (ι.2.2.2.1 j)]) (ak_Q ι ws [(some (0, j), k, hp, env)]) 0 0 (ak_A ι) := by
  refine Met.ofW (cc := ak_bO) (maxL := 1) (ret := some .int) (by decide +kernel) rfl ?_
  intro p e s m args below meth c s₁ B hml hv
  obtain ⟨rfl, hb, hP, hD, hK, hE, hN⟩ := hv
  have hts := atoms_spec (ws := ak_Wd ak_yO ak_bO 1 (some .int)) B.pre
  have hown : s.vm.findClass "java/lang/Enum" = some m.cls := findClass_of_methodNamed B.named
  have hlocks := B.notSynchronized
  have hl := lv_entry [.ref (ι.2.2.2.1 j)] (n := 1) (Nat.le_of_ble_eq_true rfl)
  rw [lg_entry_eq]
  generalize (lg_sl [.ref (ι.2.2.2.1 j)] ++ List.replicate (1 - (lg_sl [.ref (ι.2.2.2.1 j)]).length) Slot.unset).toArray = ls at hl ⊢
  have hl : lv_has ls 1 [(0, .ref (ι.2.2.2.1 j))] := hl
  have hS : va_S (ak_A ι) s.heap s.heap [] := va_S.rf
  refine lv_aload_n B.exec B.bytes ak_dO0 rfl (lv_at hl 0 rfl) ?_
  refine va_getE B.exec B.bytes hE.1 (show j < ak_nm.length from hj) hS hown (q := ("java/lang/Enum", "ordinal", "I", (List.range 38).map nI)) (List.mem_singleton.mpr rfl) (hts _ (List.mem_cons_of_mem _ hw.2.1)) (fun _ h => h) ak_dO1 ?_
  have ev : ((List.range 38).map nI).getD j 0 = nI j := by rw [List.getD_eq_getElem?_getD, List.getElem?_map, List.getElem?_range hj]; rfl
  dsimp only
  rw [ev]
  refine W.iret B.exec B.bytes B.returns (fun t ht _ => ?_) (fun q hq => absurd hq List.not_mem_nil) ak_dO4
  exact ⟨⟨_, List.mem_singleton.mpr rfl, some (.int (nI j)), ws, rfl, Or.inr ⟨(0, j), _, rfl, rfl, Or.inl ⟨rfl, rfl⟩⟩, hh, he, List.prefix_rfl, by rw [ht]; exact hP, hD⟩, hS.F ht⟩
section ALL
variable {ι : ak_I} {y : MethodName} {b : ByteArray} {rt : Option FieldType} {M : ai_M} {d : Nat} {p : Program} {l : Launch} {e : Env} {R : Room} {s : State} {m : MethodId} {args : Array Value} {below : List Frame} {meth : Method} {c : Code} {pc : Nat} {sq : ai_Q} {jm : Nat → ai_Q}
theorem ah_ord {κ : ai_K} {idx : Nat} (hw : ak_ordw) (C : ak_C ι y b rt M (d + 1) p l e R s m args below meth c) (hlink : Cond.methodLink y.cls idx ⟨"SpanCopier$Word", "ordinal", "()I"⟩ ∈ ak_W) (hd : decode b pc = .ok (.invokevirtual idx, 3)) (hs : ak_Snd ι M (p, l, e, R, s, m, args, below, meth, c) (pc + 3) sq) : ak_Snd ι M (p, l, e, R, s, m, args, below, meth, c) pc (ai_ord sq jm κ) := by
  intro loc stk w outs h Q hQ ws ls st H locs hM
  obtain ⟨n, hp, env, nc, ns⟩ := w
  cases stk with
  | nil => exact absurd h (by simp [ai_ord])
  | cons v stk =>
    obtain ⟨t, j⟩ := v
    simp only [ai_ord, ak_if, ak_and, Nat.beq_eq, Nat.ble_eq] at h
    split at h
    · rename_i hh
      obtain ⟨X, st, rfl, hx, hst⟩ := ak_s_cons hM.2.2.2.2.2.1
      obtain rfl := ak_v_const hx hh.1.1
      have hj : j < 38 := by have := hh.1.2; omega
      have hMet := ak_metO hw l ι ws d j hj hM.2.2.2.1 hM.2.2.2.2.2.2
      have pre := ak_pre C.2.2.1.1 C.2.2.1.2.1 C.2.2.1.2.2.1 C.2.2.1.2.2.2 hM.1 hM.2.1.1 hM.2.2.1 [.ref (ι.2.2.2.1 j)]
      have hls : ls.size = M.1 := by obtain ⟨-, lv, hl, -⟩ := hM.2.2.2.2.1; exact hl.1
      have hR : (ak_rm d 0 0).frames + 1 ≤ R.frames ∧ 8 + (1 + 11) + (ak_rm d 0 0).locals ≤ R.locals := by
        have r1 := C.2.2.2.1
        have r2 := C.2.2.2.2.1
        exact ⟨r1, by show 8 + (1 + 11) + 64 * (d + 1) ≤ R.locals; omega⟩
      have hG : GoodIn ak_W (va_wsU y.cls idx "SpanCopier$Word" "java/lang/Enum" ⟨"SpanCopier$Word", "ordinal", "()I"⟩ ak_yO (ak_Wd ak_yO ak_bO 1 (some .int))) := by
        intro w hw2
        rcases List.mem_append.mp hw2 with h1 | h1
        · have : w ∈ ak_W := by
            simp only [List.mem_cons, List.not_mem_nil, or_false] at h1
            rcases h1 with rfl | rfl | rfl | rfl | rfl
            · exact hlink
            · exact hw.2.2.1
            · exact hw.2.2.2.1
            · exact hw.2.2.2.2.1
            · exact hw.2.2.2.2.2
          exact ⟨this, good_of_word (List.mem_filter.mp this).2⟩
        · exact ak_good hw.1 w h1
      have hcu := va_cwU (R := R) (rm := ak_rm d 0 0) (mc := 0) (ms := 0) 0 C.2.1.2.1 hG rfl rfl rfl rfl ⟨by decide +kernel, by decide +kernel, by decide +kernel⟩ hR
      have hcc : nc + 0 ≤ R.cells ∧ ns + 0 ≤ R.slots := by
        sorry
      have hrun := va_runU (As := []) (n := 0) (rest := st) (H := H) (locs := locs) (cells := nc) (slots := ns) (g := F0 m pc ls (.ref (ι.2.2.2.1 j) :: st)) (below := below) (meth := meth) (c := c) (e := e) ⟨C.1.1, C.1.2.1, C.1.2.2.2, C.2.1.1, C.2.1.2.1⟩ hMet hcu ⟨ak_blind ι ws _, va_recvE C.2.2.1.2.1.1 (show j < ak_nm.length from hj) hM.2.2.1, pre⟩ rfl rfl hls rfl (lv_room (by rw [ak_s_sum hst]; exact hh.2)) hd hcc
      refine ak_go hrun hM.2.2.1 (fun o v u H1 locs1 ho q1 q2 q3 q4 q5 q6 q7 => ?_)
      obtain rfl := List.mem_singleton.mp ho
      rcases q1 with ⟨e1, -⟩ | ⟨a, z, e1, rfl, e3⟩
      · cases e1
      · cases e1
        exact hs _ _ _ _ h Q hQ u ls _ H1 locs1 ⟨q5, ⟨q6, hM.2.1.2.trans q4⟩, q7, q2, ak_l_mono q4 hM.2.2.2.2.1, ⟨e3, ak_s_mono q4 hst⟩, q3⟩
    · cases h
end ALL
