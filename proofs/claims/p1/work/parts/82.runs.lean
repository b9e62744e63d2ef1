theorem aw_tg0 {G : ak_I → ak_Fr → Prop} {r d mid : Nat} : ∀ t ∈ ([] : List ai_T), ak_FG G r d mid t.1 t.2.1 t.2.2 := fun t h => by cases h
theorem aw_tg1 {G : ak_I → ak_Fr → Prop} {r d mid pc : Nat} {z : ai_Z} {o : List ai_O} {ts : List ai_T} (h : ak_FG G r d mid pc z o) (hs : ∀ t ∈ ts, ak_FG G r d mid t.1 t.2.1 t.2.2) : ∀ t ∈ ((pc, z, o) :: ts), ak_FG G r d mid t.1 t.2.1 t.2.2 := by
  intro t ht
  rcases List.mem_cons.mp ht with rfl | ht
  · exact h
  · exact hs t ht
theorem aw_loc {l a : List ai_V} (h : ∀ i, i < l.length → (l.getD i (9, 0)).1 ≤ 7 → a[i]? = some (l.getD i (9, 0))) (i : Nat) (v : ai_V) (hi : l[i]? = some v) (h7 : v.1 ≤ 7) : a[i]? = some v := by
  have h1 : i < l.length := (List.getElem?_eq_some_iff.mp hi).1
  have h2 : l.getD i (9, 0) = v := by rw [List.getD_eq_getElem?_getD, hi]; rfl
  have := h i h1
  rw [h2] at this
  exact this h7
theorem aw_env1 {ι : ak_I} {e0 : Nat × Nat} {lo hi : Nat} (m : Nat) {tl : ai_E} (h : ak_e ι (e0 :: (lo, hi) :: tl)) : ak_e ι (e0 :: (lo, m) :: tl) ∨ ak_e ι (e0 :: (m + 1, hi) :: tl) := by
  obtain ⟨b1, b2⟩ := h 1 (lo, hi) rfl
  by_cases hm : ak_b (ι.2.2.2.2.1 1) ≤ m
  · refine Or.inl (fun k q hq => ?_)
    match k with
    | 0 => exact h 0 q hq
    | 1 => cases hq; exact ⟨b1, hm⟩
    | k + 2 => exact h (k + 2) q hq
  · refine Or.inr (fun k q hq => ?_)
    match k with
    | 0 => exact h 0 q hq
    | 1 => cases hq; exact ⟨by show m + 1 ≤ _; omega, b2⟩
    | k + 2 => exact h (k + 2) q hq
theorem aw_or {G : ak_I → ak_Fr → Prop} {r d mid pc n nc ns : Nat} {l : ai_L} {stk : List ai_V} {h : ai_H} {e e1 e2 : ai_E} {ps : List ai_O} (hs : ∀ ι : ak_I, ak_e ι e → ak_e ι e1 ∨ ak_e ι e2) (h1 : ak_FG G r d mid pc (l, stk, n, h, e1, nc, ns) ps) (h2 : ak_FG G r d mid pc (l, stk, n, h, e2, nc, ns) ps) : ak_FG G r d mid pc (l, stk, n, h, e, nc, ns) ps := by
  intro M q hT hq ι p l e R s m args below meth c hG hn C Q hQ ws ls st H locs ⟨m1, m2, m3, m4, m5, m6, m7⟩
  rcases hs ι m7 with k | k
  · exact h1 M q hT hq ι p l e R s m args below meth c hG hn C Q hQ ws ls st H locs ⟨m1, m2, m3, m4, m5, m6, k⟩
  · exact h2 M q hT hq ι p l e R s m args below meth c hG hn C Q hQ ws ls st H locs ⟨m1, m2, m3, m4, m5, m6, k⟩
def ai_M41 : ai_M := (4, ai_k41, 1, 6)
theorem ak_t41 : ai_tab[41]? = some ai_M41 := rfl
def ai_M180 : ai_M := (5, ai_k180, 1, 6)
theorem ak_t180 : ai_tab[180]? = some ai_M180 := rfl
def ai_M33 : ai_M := (2, ai_k33, 1, 6)
theorem ak_t33 : ai_tab[33]? = some ai_M33 := rfl
def ai_M181 : ai_M := (4, ai_k181, 1, 6)
theorem ak_t181 : ai_tab[181]? = some ai_M181 := rfl
theorem ak_q179 : ak_mt[179]? = some (⟨"SpanCopierLaw", "law", "([I)Z"⟩, code, ret, 0) := rfl
theorem ak_q41 : ak_mt[41]? = some (⟨"SpanCopier", "unit", "(II)I"⟩, prog_1_method_21_code, (Option.some Jvm.ClassFile.FieldType.int), 0) := rfl
theorem ak_q180 : ak_mt[180]? = some (⟨"SpanCopierLaw", "unit", "(LSpanCopier;II[J)I"⟩, method_3_code, (Option.some Jvm.ClassFile.FieldType.int), 2) := rfl
theorem ak_q33 : ak_mt[33]? = some (⟨"SpanCopier", "sum", "(I)I"⟩, prog_1_method_26_code, (Option.some Jvm.ClassFile.FieldType.int), 0) := rfl
theorem ak_q181 : ak_mt[181]? = some (⟨"SpanCopierLaw", "sum", "(LSpanCopier;I[J)I"⟩, method_4_code, (Option.some Jvm.ClassFile.FieldType.int), 2) := rfl
def az_Uh : ai_H := [az_0, az_1, az_2, az_3, az_4, az_5, az_6, az_7, az_8, az_9, az_9, az_10, az_10, az_11, az_12, az_13, az_14, az_15, az_16, az_9, az_17, az_17, az_18, az_19, az_20, az_17, az_21, az_22, az_22, az_23, az_24, az_22, az_22, az_25, az_26, az_22, az_27, az_28, az_29, az_30, az_31, az_32, az_33, az_34, az_35, az_36, az_9, az_17, az_17, az_18, az_19, az_37, az_17, az_38, az_22, az_22, az_39, az_40, az_22, az_22, az_41, az_42, az_22, az_43, az_44, az_29, az_30, az_45, az_46, az_47, az_47, az_48, az_49, az_50, az_51, az_52]
def az_Ue : ai_E := [(0, 4294967295), (0, 4294967295), (0, 4294967295), (0, 4294967295), (0, 4294967295), (0, 4294967295), (2147483662, 2147483662), (2147483654, 2147483654)]
def az_c14 : ai_Z := ([(7, 45), (6, 0), (6, 57), (6, 75), (0, 0), (9, 0), (9, 0)], [], 76, [az_0, az_1, az_2, az_3, az_4, az_5, az_6, az_7, az_8, az_9, az_9, az_10, az_10, az_11, az_12, az_13, az_14, az_15, az_16, az_9, az_17, az_17, az_18, az_19, az_20, az_17, az_21, az_22, az_22, az_23, az_24, az_22, az_22, az_25, az_26, az_22, az_27, az_28, az_29, az_30, az_31, az_32, az_33, az_34, az_35, az_36, az_9, az_17, az_17, az_18, az_19, az_37, az_17, az_38, az_22, az_22, az_39, az_40, az_22, az_22, az_41, az_42, az_22, az_43, az_44, az_29, az_30, az_45, az_46, az_47, az_47, az_48, az_49, az_50, az_51, az_52], [(0, 4294967295), (0, 4294967295), (0, 4294967295), (0, 4294967295), (0, 4294967295), (0, 4294967295), (2147483662, 2147483662), (2147483654, 2147483654)], 76, 45994)
def az_Sah : ai_H := [az_0, az_1, az_2, az_3, az_4, az_5, az_6, az_7, az_8, az_9, az_9, az_10, az_10, az_11, az_12, az_13, az_14, az_15, az_16, az_9, az_17, az_17, az_18, az_19, az_20, az_17, az_21, az_22, az_22, az_23, az_24, az_22, az_22, az_25, az_26, az_22, az_27, az_28, az_29, az_30, az_31, az_32, az_33, az_34, az_35, az_36, az_9, az_17, az_17, az_18, az_19, az_37, az_17, az_38, az_22, az_22, az_39, az_40, az_22, az_22, az_41, az_42, az_22, az_43, az_44, az_29, az_30, az_45, az_46, az_47, az_47, az_48, az_49, az_50, az_51, az_52]
def az_Sae : ai_E := [(0, 4294967295), (0, 2147483647), (0, 4294967295), (0, 4294967295), (0, 4294967295), (0, 4294967295), (2147483667, 2147483667), (2147483654, 2147483654)]
def az_Sbh : ai_H := [az_0, az_1, az_2, az_3, az_4, az_5, az_6, az_7, az_8, az_9, az_9, az_10, az_10, az_11, az_12, az_13, az_14, az_15, az_16, az_9, az_17, az_17, az_18, az_19, az_20, az_17, az_21, az_22, az_22, az_23, az_24, az_22, az_22, az_25, az_26, az_22, az_27, az_28, az_29, az_30, az_31, az_32, az_33, az_34, az_35, az_36, az_9, az_17, az_17, az_18, az_19, az_37, az_17, az_38, az_22, az_22, az_39, az_40, az_22, az_22, az_41, az_42, az_22, az_43, az_44, az_29, az_30, az_45, az_46, az_47, az_47, az_48, az_49, az_50, az_51, az_52]
def az_Sbe : ai_E := [(0, 4294967295), (2147483648, 2147483648), (0, 4294967295), (0, 4294967295), (0, 4294967295), (0, 4294967295), (2147483667, 2147483667), (2147483654, 2147483654)]
def az_Sch : ai_H := [az_0, az_1, az_2, az_3, az_4, az_5, az_6, az_7, az_8, az_9, az_9, az_10, az_10, az_11, az_12, az_13, az_14, az_15, az_16, az_9, az_17, az_17, az_18, az_19, az_20, az_17, az_21, az_22, az_22, az_23, az_24, az_22, az_22, az_25, az_26, az_22, az_27, az_28, az_29, az_30, az_31, az_32, az_33, az_34, az_35, az_36, az_9, az_17, az_17, az_18, az_19, az_37, az_17, az_38, az_22, az_22, az_39, az_40, az_22, az_22, az_41, az_42, az_22, az_43, az_44, az_29, az_30, az_45, az_46, az_47, az_47, az_48, az_49, az_50, az_51, az_52]
def az_Sce : ai_E := [(0, 4294967295), (2147483649, 2147483649), (0, 4294967295), (0, 4294967295), (0, 4294967295), (0, 4294967295), (2147483667, 2147483667), (2147483654, 2147483654)]
def az_Sdh : ai_H := [az_0, az_1, az_2, az_3, az_4, az_5, az_6, az_7, az_8, az_9, az_9, az_10, az_10, az_11, az_12, az_13, az_14, az_15, az_16, az_9, az_17, az_17, az_18, az_19, az_20, az_17, az_21, az_22, az_22, az_23, az_24, az_22, az_22, az_25, az_26, az_22, az_27, az_28, az_29, az_30, az_31, az_32, az_33, az_34, az_35, az_36, az_9, az_17, az_17, az_18, az_19, az_37, az_17, az_38, az_22, az_22, az_39, az_40, az_22, az_22, az_41, az_42, az_22, az_43, az_44, az_29, az_30, az_45, az_46, az_47, az_47, az_48, az_49, az_50, az_51, az_52]
def az_Sde : ai_E := [(0, 4294967295), (2147483650, 4294967295), (0, 4294967295), (0, 4294967295), (0, 4294967295), (0, 4294967295), (2147483667, 2147483667), (2147483654, 2147483654)]
def az_c19 : ai_Z := ([(7, 45), (6, 0), (6, 57), (6, 75), (0, 0), (9, 0), (9, 0)], [], 76, [az_0, az_1, az_2, az_3, az_4, az_5, az_6, az_7, az_8, az_9, az_9, az_10, az_10, az_11, az_12, az_13, az_14, az_15, az_16, az_9, az_17, az_17, az_18, az_19, az_20, az_17, az_21, az_22, az_22, az_23, az_24, az_22, az_22, az_25, az_26, az_22, az_27, az_28, az_29, az_30, az_31, az_32, az_33, az_34, az_35, az_36, az_9, az_17, az_17, az_18, az_19, az_37, az_17, az_38, az_22, az_22, az_39, az_40, az_22, az_22, az_41, az_42, az_22, az_43, az_44, az_29, az_30, az_45, az_46, az_47, az_47, az_48, az_49, az_50, az_51, az_52], [(0, 4294967295), (0, 4294967295), (0, 4294967295), (0, 4294967295), (0, 4294967295), (0, 4294967295), (2147483667, 2147483667), (2147483654, 2147483654)], 76, 45994)
theorem aG_xU : ai_go (ai_run 1000000) [(25, ((List.replicate 4 (9, 0)), [], (76, az_Uh, az_Ue, 0, 0)), [(some (8, 25), 76, az_Uh, az_Ue)])] 1000 76 6 ai_M41 0 ([(6, 0), (1, 1), (1, 2), (9, 0)], [], (76, az_Uh, az_Ue, 0, 0)) [(some (8, 25), 76, az_Uh, az_Ue)] = true := by decide +kernel
theorem aF_xU : ak_F 76 6 41 0 ([(6, 0), (1, 1), (1, 2), (9, 0)], [], (76, az_Uh, az_Ue, 0, 0)) [(some (8, 25), 76, az_Uh, az_Ue)] := ak_cut (ak_all _) ak_t41 (ak_ts1 ak_hook ak_ts0) aG_xU
theorem aG_hU : ai_go (ai_run 1000000) [] 1000 76 7 ai_M180 15 ((List.replicate 5 (9, 0)), [], (76, az_Uh, az_Ue, 1, 6)) [(some (0, 1), 76, az_Uh, az_Ue)] = true := by decide +kernel
theorem aF_hU : ak_F 76 7 180 15 ((List.replicate 5 (9, 0)), [], (76, az_Uh, az_Ue, 1, 6)) [(some (0, 1), 76, az_Uh, az_Ue)] := ak_cut (ak_all _) ak_t180 ak_ts0 aG_hU
theorem aw_l4_U : ∀ (i : Nat) (v : ai_V), ([(6, 0), (1, 1), (1, 2), (9, 0)] : ai_L)[i]? = some v → v.1 ≤ 7 → ((6, 0) :: ([(1, 2), (1, 1)] : List ai_V).reverse)[i]? = some v := aw_loc (by decide)
theorem aF_tU : ak_FG (aw_G [(0, 10, 13, 13)]) 76 7 180 5 ([(6, 0), (1, 1), (1, 2), (6, 75), (9, 0)], [(1, 2), (1, 1), (6, 0), (0, 0), (6, 75)], (76, az_Uh, az_Ue, 0, 0)) [(some (0, 1), 76, az_Uh, az_Ue)] :=
  aw_thr (d := 6) (mid' := 41) (idx := 7) (k := 25) (i := 4) (rc := 0) (as1 := [(1, 2), (1, 1)]) (stk := [(0, 0), (6, 75)]) (qc := (RX12, TX12, 12)) (hp2 := 15) ak_t180 ak_q180 ak_t41 ak_q41 ak_mp41.1 rfl (ak_W_of (by decide +kernel) rfl) (ak_W_of (by decide +kernel) rfl) (ak_W_of (by decide +kernel) rfl) (ak_W_of (by decide +kernel) rfl) (by decide +kernel) (by decide +kernel) (by decide) rfl rfl rfl rfl rfl (by decide) (by decide) aw_l4_U aF_xU rfl rfl rfl (by decide) (by decide +kernel) (by decide +kernel) (by decide +kernel) (by decide +kernel) ⟨by decide, by decide⟩ (by decide) (Or.inl ⟨by decide +kernel, rfl⟩) (by decide) (by decide) (by decide) (by decide) aF_hU.g
theorem aG_lU : ai_go (ai_run 1000000) [(5, ([(6, 0), (1, 1), (1, 2), (6, 75), (9, 0)], [(1, 2), (1, 1), (6, 0), (0, 0), (6, 75)], (76, az_Uh, az_Ue, 0, 0)), [(some (0, 1), 76, az_Uh, az_Ue)])] 1000 76 7 ai_M180 0 ([(6, 0), (1, 1), (1, 2), (6, 75), (9, 0)], [], (76, az_Uh, az_Ue, 0, 0)) [(some (0, 1), 76, az_Uh, az_Ue)] = true := by decide +kernel
theorem aF_lU : ak_FG (aw_G [(0, 10, 13, 13)]) 76 7 180 0 ([(6, 0), (1, 1), (1, 2), (6, 75), (9, 0)], [], (76, az_Uh, az_Ue, 0, 0)) [(some (0, 1), 76, az_Uh, az_Ue)] := ak_cutG (ak_all _) ak_t180 (aw_tg1 aF_tU aw_tg0) aG_lU
theorem aG_aU : ai_go (ai_run 1000000) [] 1000 0 8 ai_M179 547 ([(7, 45), (6, 0), (6, 57), (6, 75), (0, 0), (9, 0), (9, 0)], [(0, 1)], (76, az_Uh, az_Ue, 77, 46000)) az_o = true := by decide +kernel
theorem aF_aU : ak_F 0 8 179 547 ([(7, 45), (6, 0), (6, 57), (6, 75), (0, 0), (9, 0), (9, 0)], [(0, 1)], (76, az_Uh, az_Ue, 77, 46000)) az_o := ak_cut (ak_all _) ak_t179 ak_ts0 aG_aU
theorem aw_m4_U : ∀ (i : Nat) (v : ai_V), ([(6, 0), (1, 1), (1, 2), (6, 75), (9, 0)] : ai_L)[i]? = some v → v.1 ≤ 7 → ([(6, 75), (1, 2), (1, 1), (6, 0)] : List ai_V).reverse[i]? = some v := aw_loc (by decide)
theorem aF_wU : ak_FG aw_GL 0 8 179 544 ([(7, 45), (6, 0), (6, 57), (6, 75), (0, 0), (9, 0), (9, 0)], [(6, 75), (1, 2), (1, 1), (6, 0)], 76, az_Uh, az_Ue, 76, 45994) az_o :=
  aw_law (d := 7) (mid' := 180) (idx := 82) (as := [(6, 75), (1, 2), (1, 1), (6, 0)]) (stk := []) (os := [(some (0, 1), 76, az_Uh, az_Ue)]) ak_t179 ak_q179 ak_t180 ak_q180 ⟨(ak_W_of (by decide +kernel) rfl), (ak_W_of (by decide +kernel) rfl), by decide, by decide, by decide, by decide +kernel⟩ (ak_W_of (by decide +kernel) rfl) (ak_W_of (by decide +kernel) rfl) (by decide +kernel) (by decide +kernel) rfl (by decide) (by decide) aw_m4_U aF_lU rfl (by decide) (by decide) (by decide) (by
    intro o ho
    rw [List.mem_singleton] at ho
    subst ho
    exact ⟨(0, 1), rfl, aF_aU.g⟩)
theorem aG_c14 : ai_go (ai_run 1000000) [(544, ([(7, 45), (6, 0), (6, 57), (6, 75), (0, 0), (9, 0), (9, 0)], [(6, 75), (1, 2), (1, 1), (6, 0)], 76, az_Uh, az_Ue, 76, 45994), az_o)] 1000 0 8 ai_M179 530 az_c14 az_o = true := by decide +kernel
theorem aF_c14 : ak_FG aw_GL 0 8 179 530 az_c14 az_o := ak_cutG (ak_all _) ak_t179 (aw_tg1 aF_wU aw_tg0) aG_c14
theorem aG_xSa : ai_go (ai_run 1000000) [(9, ((List.replicate 2 (9, 0)), [], (76, az_Sah, az_Sae, 0, 0)), [(some (8, 9), 76, az_Sah, az_Sae)])] 1000 76 6 ai_M33 0 ([(6, 0), (1, 1)], [], (76, az_Sah, az_Sae, 0, 0)) [(some (8, 9), 76, az_Sah, az_Sae)] = true := by decide +kernel
theorem aF_xSa : ak_F 76 6 33 0 ([(6, 0), (1, 1)], [], (76, az_Sah, az_Sae, 0, 0)) [(some (8, 9), 76, az_Sah, az_Sae)] := ak_cut (ak_all _) ak_t33 (ak_ts1 ak_hook ak_ts0) aG_xSa
theorem aG_hSa : ai_go (ai_run 1000000) [] 1000 76 7 ai_M181 13 ((List.replicate 4 (9, 0)), [], (76, az_Sah, az_Sae, 1, 6)) [(some (0, 1), 76, az_Sah, az_Sae)] = true := by decide +kernel
theorem aF_hSa : ak_F 76 7 181 13 ((List.replicate 4 (9, 0)), [], (76, az_Sah, az_Sae, 1, 6)) [(some (0, 1), 76, az_Sah, az_Sae)] := ak_cut (ak_all _) ak_t181 ak_ts0 aG_hSa
theorem aw_l4_Sa : ∀ (i : Nat) (v : ai_V), ([(6, 0), (1, 1)] : ai_L)[i]? = some v → v.1 ≤ 7 → ((6, 0) :: ([(1, 1)] : List ai_V).reverse)[i]? = some v := aw_loc (by decide)
theorem aF_tSa : ak_FG (aw_G [(0, 9, 12, 13)]) 76 7 181 4 ([(6, 0), (1, 1), (6, 75), (9, 0)], [(1, 1), (6, 0), (0, 0), (6, 75)], (76, az_Sah, az_Sae, 0, 0)) [(some (0, 1), 76, az_Sah, az_Sae)] :=
  aw_thr (d := 6) (mid' := 33) (idx := 15) (k := 9) (i := 3) (rc := 0) (as1 := [(1, 1)]) (stk := [(0, 0), (6, 75)]) (qc := (RX12, TX12, 12)) (hp2 := 13) ak_t181 ak_q181 ak_t33 ak_q33 ak_mp33.1 rfl (ak_W_of (by decide +kernel) rfl) (ak_W_of (by decide +kernel) rfl) (ak_W_of (by decide +kernel) rfl) (ak_W_of (by decide +kernel) rfl) (by decide +kernel) (by decide +kernel) (by decide) rfl rfl rfl rfl rfl (by decide) (by decide) aw_l4_Sa aF_xSa rfl rfl rfl (by decide) (by decide +kernel) (by decide +kernel) (by decide +kernel) (by decide +kernel) ⟨by decide, by decide⟩ (by decide) (Or.inr ⟨3, by decide +kernel, rfl, rfl⟩) (by decide) (by decide) (by decide) (by decide) aF_hSa.g
theorem aG_lSa : ai_go (ai_run 1000000) [(4, ([(6, 0), (1, 1), (6, 75), (9, 0)], [(1, 1), (6, 0), (0, 0), (6, 75)], (76, az_Sah, az_Sae, 0, 0)), [(some (0, 1), 76, az_Sah, az_Sae)])] 1000 76 7 ai_M181 0 ([(6, 0), (1, 1), (6, 75), (9, 0)], [], (76, az_Sah, az_Sae, 0, 0)) [(some (0, 1), 76, az_Sah, az_Sae)] = true := by decide +kernel
theorem aF_lSa : ak_FG (aw_G [(0, 9, 12, 13)]) 76 7 181 0 ([(6, 0), (1, 1), (6, 75), (9, 0)], [], (76, az_Sah, az_Sae, 0, 0)) [(some (0, 1), 76, az_Sah, az_Sae)] := ak_cutG (ak_all _) ak_t181 (aw_tg1 aF_tSa aw_tg0) aG_lSa
theorem aG_aSa : ai_go (ai_run 1000000) [] 1000 0 8 ai_M179 757 ([(7, 45), (6, 0), (6, 57), (6, 75), (0, 0), (9, 0), (9, 0)], [(0, 1)], (76, az_Sah, az_Sae, 77, 46000)) az_o = true := by decide +kernel
theorem aF_aSa : ak_F 0 8 179 757 ([(7, 45), (6, 0), (6, 57), (6, 75), (0, 0), (9, 0), (9, 0)], [(0, 1)], (76, az_Sah, az_Sae, 77, 46000)) az_o := ak_cut (ak_all _) ak_t179 ak_ts0 aG_aSa
theorem aw_m4_Sa : ∀ (i : Nat) (v : ai_V), ([(6, 0), (1, 1), (6, 75), (9, 0)] : ai_L)[i]? = some v → v.1 ≤ 7 → ([(6, 75), (1, 1), (6, 0)] : List ai_V).reverse[i]? = some v := aw_loc (by decide)
theorem aF_wSa : ak_FG aw_GL 0 8 179 754 ([(7, 45), (6, 0), (6, 57), (6, 75), (0, 0), (9, 0), (9, 0)], [(6, 75), (1, 1), (6, 0)], 76, az_Sah, az_Sae, 76, 45994) az_o :=
  aw_law (d := 7) (mid' := 181) (idx := 108) (as := [(6, 75), (1, 1), (6, 0)]) (stk := []) (os := [(some (0, 1), 76, az_Sah, az_Sae)]) ak_t179 ak_q179 ak_t181 ak_q181 ⟨(ak_W_of (by decide +kernel) rfl), (ak_W_of (by decide +kernel) rfl), by decide, by decide, by decide, by decide +kernel⟩ (ak_W_of (by decide +kernel) rfl) (ak_W_of (by decide +kernel) rfl) (by decide +kernel) (by decide +kernel) rfl (by decide) (by decide) aw_m4_Sa aF_lSa rfl (by decide) (by decide) (by decide) (by
    intro o ho
    rw [List.mem_singleton] at ho
    subst ho
    exact ⟨(0, 1), rfl, aF_aSa.g⟩)
theorem aG_lSb : ai_go (ai_run 1000000) [] 1000 76 7 ai_M181 0 ([(6, 0), (1, 1), (6, 75), (9, 0)], [], (76, az_Sbh, az_Sbe, 0, 0)) [(some (0, 0), 76, az_Sbh, az_Sbe)] = true := by decide +kernel
theorem aF_lSb : ak_FG (aw_G [(0, 9, 12, 13)]) 76 7 181 0 ([(6, 0), (1, 1), (6, 75), (9, 0)], [], (76, az_Sbh, az_Sbe, 0, 0)) [(some (0, 0), 76, az_Sbh, az_Sbe)] := (ak_cut (ak_all _) ak_t181 ak_ts0 aG_lSb).g
theorem aG_aSb : ai_go (ai_run 1000000) [] 1000 0 8 ai_M179 757 ([(7, 45), (6, 0), (6, 57), (6, 75), (0, 0), (9, 0), (9, 0)], [(0, 0)], (76, az_Sbh, az_Sbe, 77, 46000)) az_o = true := by decide +kernel
theorem aF_aSb : ak_F 0 8 179 757 ([(7, 45), (6, 0), (6, 57), (6, 75), (0, 0), (9, 0), (9, 0)], [(0, 0)], (76, az_Sbh, az_Sbe, 77, 46000)) az_o := ak_cut (ak_all _) ak_t179 ak_ts0 aG_aSb
theorem aw_m4_Sb : ∀ (i : Nat) (v : ai_V), ([(6, 0), (1, 1), (6, 75), (9, 0)] : ai_L)[i]? = some v → v.1 ≤ 7 → ([(6, 75), (1, 1), (6, 0)] : List ai_V).reverse[i]? = some v := aw_loc (by decide)
theorem aF_wSb : ak_FG aw_GL 0 8 179 754 ([(7, 45), (6, 0), (6, 57), (6, 75), (0, 0), (9, 0), (9, 0)], [(6, 75), (1, 1), (6, 0)], 76, az_Sbh, az_Sbe, 76, 45994) az_o :=
  aw_law (d := 7) (mid' := 181) (idx := 108) (as := [(6, 75), (1, 1), (6, 0)]) (stk := []) (os := [(some (0, 0), 76, az_Sbh, az_Sbe)]) ak_t179 ak_q179 ak_t181 ak_q181 ⟨(ak_W_of (by decide +kernel) rfl), (ak_W_of (by decide +kernel) rfl), by decide, by decide, by decide, by decide +kernel⟩ (ak_W_of (by decide +kernel) rfl) (ak_W_of (by decide +kernel) rfl) (by decide +kernel) (by decide +kernel) rfl (by decide) (by decide) aw_m4_Sb aF_lSb rfl (by decide) (by decide) (by decide) (by
    intro o ho
    rw [List.mem_singleton] at ho
    subst ho
    exact ⟨(0, 0), rfl, aF_aSb.g⟩)
theorem aG_lSc : ai_go (ai_run 1000000) [] 1000 76 7 ai_M181 0 ([(6, 0), (1, 1), (6, 75), (9, 0)], [], (76, az_Sch, az_Sce, 0, 0)) [(some (0, 0), 76, az_Sch, az_Sce)] = true := by decide +kernel
theorem aF_lSc : ak_FG (aw_G [(0, 9, 12, 13)]) 76 7 181 0 ([(6, 0), (1, 1), (6, 75), (9, 0)], [], (76, az_Sch, az_Sce, 0, 0)) [(some (0, 0), 76, az_Sch, az_Sce)] := (ak_cut (ak_all _) ak_t181 ak_ts0 aG_lSc).g
theorem aG_aSc : ai_go (ai_run 1000000) [] 1000 0 8 ai_M179 757 ([(7, 45), (6, 0), (6, 57), (6, 75), (0, 0), (9, 0), (9, 0)], [(0, 0)], (76, az_Sch, az_Sce, 77, 46000)) az_o = true := by decide +kernel
theorem aF_aSc : ak_F 0 8 179 757 ([(7, 45), (6, 0), (6, 57), (6, 75), (0, 0), (9, 0), (9, 0)], [(0, 0)], (76, az_Sch, az_Sce, 77, 46000)) az_o := ak_cut (ak_all _) ak_t179 ak_ts0 aG_aSc
theorem aw_m4_Sc : ∀ (i : Nat) (v : ai_V), ([(6, 0), (1, 1), (6, 75), (9, 0)] : ai_L)[i]? = some v → v.1 ≤ 7 → ([(6, 75), (1, 1), (6, 0)] : List ai_V).reverse[i]? = some v := aw_loc (by decide)
theorem aF_wSc : ak_FG aw_GL 0 8 179 754 ([(7, 45), (6, 0), (6, 57), (6, 75), (0, 0), (9, 0), (9, 0)], [(6, 75), (1, 1), (6, 0)], 76, az_Sch, az_Sce, 76, 45994) az_o :=
  aw_law (d := 7) (mid' := 181) (idx := 108) (as := [(6, 75), (1, 1), (6, 0)]) (stk := []) (os := [(some (0, 0), 76, az_Sch, az_Sce)]) ak_t179 ak_q179 ak_t181 ak_q181 ⟨(ak_W_of (by decide +kernel) rfl), (ak_W_of (by decide +kernel) rfl), by decide, by decide, by decide, by decide +kernel⟩ (ak_W_of (by decide +kernel) rfl) (ak_W_of (by decide +kernel) rfl) (by decide +kernel) (by decide +kernel) rfl (by decide) (by decide) aw_m4_Sc aF_lSc rfl (by decide) (by decide) (by decide) (by
    intro o ho
    rw [List.mem_singleton] at ho
    subst ho
    exact ⟨(0, 0), rfl, aF_aSc.g⟩)
theorem aG_xSd : ai_go (ai_run 1000000) [(9, ((List.replicate 2 (9, 0)), [], (76, az_Sdh, az_Sde, 0, 0)), [(some (8, 9), 76, az_Sdh, az_Sde)])] 1000 76 6 ai_M33 0 ([(6, 0), (1, 1)], [], (76, az_Sdh, az_Sde, 0, 0)) [(some (8, 9), 76, az_Sdh, az_Sde)] = true := by decide +kernel
theorem aF_xSd : ak_F 76 6 33 0 ([(6, 0), (1, 1)], [], (76, az_Sdh, az_Sde, 0, 0)) [(some (8, 9), 76, az_Sdh, az_Sde)] := ak_cut (ak_all _) ak_t33 (ak_ts1 ak_hook ak_ts0) aG_xSd
theorem aG_hSd : ai_go (ai_run 1000000) [] 1000 76 7 ai_M181 13 ((List.replicate 4 (9, 0)), [], (76, az_Sdh, az_Sde, 1, 6)) [(some (0, 1), 76, az_Sdh, az_Sde)] = true := by decide +kernel
theorem aF_hSd : ak_F 76 7 181 13 ((List.replicate 4 (9, 0)), [], (76, az_Sdh, az_Sde, 1, 6)) [(some (0, 1), 76, az_Sdh, az_Sde)] := ak_cut (ak_all _) ak_t181 ak_ts0 aG_hSd
theorem aw_l4_Sd : ∀ (i : Nat) (v : ai_V), ([(6, 0), (1, 1)] : ai_L)[i]? = some v → v.1 ≤ 7 → ((6, 0) :: ([(1, 1)] : List ai_V).reverse)[i]? = some v := aw_loc (by decide)
theorem aF_tSd : ak_FG (aw_G [(0, 9, 12, 13)]) 76 7 181 4 ([(6, 0), (1, 1), (6, 75), (9, 0)], [(1, 1), (6, 0), (0, 0), (6, 75)], (76, az_Sdh, az_Sde, 0, 0)) [(some (0, 1), 76, az_Sdh, az_Sde)] :=
  aw_thr (d := 6) (mid' := 33) (idx := 15) (k := 9) (i := 3) (rc := 0) (as1 := [(1, 1)]) (stk := [(0, 0), (6, 75)]) (qc := (RX12, TX12, 12)) (hp2 := 13) ak_t181 ak_q181 ak_t33 ak_q33 ak_mp33.1 rfl (ak_W_of (by decide +kernel) rfl) (ak_W_of (by decide +kernel) rfl) (ak_W_of (by decide +kernel) rfl) (ak_W_of (by decide +kernel) rfl) (by decide +kernel) (by decide +kernel) (by decide) rfl rfl rfl rfl rfl (by decide) (by decide) aw_l4_Sd aF_xSd rfl rfl rfl (by decide) (by decide +kernel) (by decide +kernel) (by decide +kernel) (by decide +kernel) ⟨by decide, by decide⟩ (by decide) (Or.inr ⟨3, by decide +kernel, rfl, rfl⟩) (by decide) (by decide) (by decide) (by decide) aF_hSd.g
theorem aG_lSd : ai_go (ai_run 1000000) [(4, ([(6, 0), (1, 1), (6, 75), (9, 0)], [(1, 1), (6, 0), (0, 0), (6, 75)], (76, az_Sdh, az_Sde, 0, 0)), [(some (0, 1), 76, az_Sdh, az_Sde)])] 1000 76 7 ai_M181 0 ([(6, 0), (1, 1), (6, 75), (9, 0)], [], (76, az_Sdh, az_Sde, 0, 0)) [(some (0, 1), 76, az_Sdh, az_Sde)] = true := by decide +kernel
theorem aF_lSd : ak_FG (aw_G [(0, 9, 12, 13)]) 76 7 181 0 ([(6, 0), (1, 1), (6, 75), (9, 0)], [], (76, az_Sdh, az_Sde, 0, 0)) [(some (0, 1), 76, az_Sdh, az_Sde)] := ak_cutG (ak_all _) ak_t181 (aw_tg1 aF_tSd aw_tg0) aG_lSd
theorem aG_aSd : ai_go (ai_run 1000000) [] 1000 0 8 ai_M179 757 ([(7, 45), (6, 0), (6, 57), (6, 75), (0, 0), (9, 0), (9, 0)], [(0, 1)], (76, az_Sdh, az_Sde, 77, 46000)) az_o = true := by decide +kernel
theorem aF_aSd : ak_F 0 8 179 757 ([(7, 45), (6, 0), (6, 57), (6, 75), (0, 0), (9, 0), (9, 0)], [(0, 1)], (76, az_Sdh, az_Sde, 77, 46000)) az_o := ak_cut (ak_all _) ak_t179 ak_ts0 aG_aSd
theorem aw_m4_Sd : ∀ (i : Nat) (v : ai_V), ([(6, 0), (1, 1), (6, 75), (9, 0)] : ai_L)[i]? = some v → v.1 ≤ 7 → ([(6, 75), (1, 1), (6, 0)] : List ai_V).reverse[i]? = some v := aw_loc (by decide)
theorem aF_wSd : ak_FG aw_GL 0 8 179 754 ([(7, 45), (6, 0), (6, 57), (6, 75), (0, 0), (9, 0), (9, 0)], [(6, 75), (1, 1), (6, 0)], 76, az_Sdh, az_Sde, 76, 45994) az_o :=
  aw_law (d := 7) (mid' := 181) (idx := 108) (as := [(6, 75), (1, 1), (6, 0)]) (stk := []) (os := [(some (0, 1), 76, az_Sdh, az_Sde)]) ak_t179 ak_q179 ak_t181 ak_q181 ⟨(ak_W_of (by decide +kernel) rfl), (ak_W_of (by decide +kernel) rfl), by decide, by decide, by decide, by decide +kernel⟩ (ak_W_of (by decide +kernel) rfl) (ak_W_of (by decide +kernel) rfl) (by decide +kernel) (by decide +kernel) rfl (by decide) (by decide) aw_m4_Sd aF_lSd rfl (by decide) (by decide) (by decide) (by
    intro o ho
    rw [List.mem_singleton] at ho
    subst ho
    exact ⟨(0, 1), rfl, aF_aSd.g⟩)
theorem aF_Sy : ak_FG aw_GL 0 8 179 754 ([(7, 45), (6, 0), (6, 57), (6, 75), (0, 0), (9, 0), (9, 0)], [(6, 75), (1, 1), (6, 0)], 76, az_Sah, [(0, 4294967295), (2147483649, 4294967295), (0, 4294967295), (0, 4294967295), (0, 4294967295), (0, 4294967295), (2147483667, 2147483667), (2147483654, 2147483654)], 76, 45994) az_o := aw_or (fun ι he => aw_env1 2147483649 he) aF_wSc aF_wSd
theorem aF_Sx : ak_FG aw_GL 0 8 179 754 ([(7, 45), (6, 0), (6, 57), (6, 75), (0, 0), (9, 0), (9, 0)], [(6, 75), (1, 1), (6, 0)], 76, az_Sah, [(0, 4294967295), (2147483648, 4294967295), (0, 4294967295), (0, 4294967295), (0, 4294967295), (0, 4294967295), (2147483667, 2147483667), (2147483654, 2147483654)], 76, 45994) az_o := aw_or (fun ι he => aw_env1 2147483648 he) aF_wSb aF_Sy
theorem aF_Sw : ak_FG aw_GL 0 8 179 754 ([(7, 45), (6, 0), (6, 57), (6, 75), (0, 0), (9, 0), (9, 0)], [(6, 75), (1, 1), (6, 0)], 76, az_Sah, [(0, 4294967295), (0, 4294967295), (0, 4294967295), (0, 4294967295), (0, 4294967295), (0, 4294967295), (2147483667, 2147483667), (2147483654, 2147483654)], 76, 45994) az_o := aw_or (fun ι he => aw_env1 2147483647 he) aF_wSa aF_Sx
theorem aG_c19 : ai_go (ai_run 1000000) [(754, ([(7, 45), (6, 0), (6, 57), (6, 75), (0, 0), (9, 0), (9, 0)], [(6, 75), (1, 1), (6, 0)], 76, az_Sah, [(0, 4294967295), (0, 4294967295), (0, 4294967295), (0, 4294967295), (0, 4294967295), (0, 4294967295), (2147483667, 2147483667), (2147483654, 2147483654)], 76, 45994), az_o)] 1000 0 8 ai_M179 746 az_c19 az_o = true := by decide +kernel
theorem aF_c19 : ak_FG aw_GL 0 8 179 746 az_c19 az_o := ak_cutG (ak_all _) ak_t179 (aw_tg1 aF_Sw aw_tg0) aG_c19
