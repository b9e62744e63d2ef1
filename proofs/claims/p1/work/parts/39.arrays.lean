/-! ===== arrays and constant things ===== -/
theorem ak_st_w : ∀ j, j < 38 → ak_st j = ("SpanCopier$Word", ak_nm.getD j "", "LSpanCopier$Word;") := by decide +kernel
section ARRAYS
variable {ι : ak_I} {y : MethodName} {b : ByteArray} {rt : Option FieldType} {M : ai_M} {d : Nat} {p : Program} {l : Launch} {e : Env} {R : Room} {s : State} {m : MethodId} {args : Array Value} {below : List Frame} {meth : Method} {c : Code} {pc : Nat} {sq : ai_Q} {jm : Nat → ai_Q} {κ : ai_K}
theorem ak_Zj {j : Nat} (h : ak_S ι s s.heap) (hj : j < 38 ∨ 40 ≤ j ∧ j ≤ 43) : va_Z (ak_st j).1 (ak_st j).2.1 (ak_st j).2.2 (.ref (ι.2.2.2.1 j)) (ak_A ι) s s.heap := by
  rcases hj with hj | hj
  · rw [ak_st_w j hj]
    exact (h.1.1 j hj).1
  · rcases (show j = 40 ∨ j = 41 ∨ j = 42 ∨ j = 43 by omega) with rfl | rfl | rfl | rfl
    · exact (h.2.1 40 _ rfl).1
    · exact (h.2.1 41 _ rfl).1
    · exact h.2.2.1.1
    · exact (h.2.1 43 _ rfl).1
theorem ah_gets {j idx : Nat} (C : ak_C ι y b rt M d p l e R s m args below meth c) (hj : j < 38 ∨ 40 ≤ j ∧ j ≤ 43) (hlink : Cond.fieldLink y.cls idx (ak_st j).1 (ak_st j).2.1 (ak_st j).2.2 ∈ ak_W ∨ ∃ host, Cond.fieldLinkNest y.cls idx (ak_st j).1 (ak_st j).2.1 (ak_st j).2.2 host ∈ lw_tbl) (hd : decode b pc = .ok (.getstatic idx, 3)) (hs : ak_Snd ι M (p, l, e, R, s, m, args, below, meth, c) (pc + 3) sq) : ak_Snd ι M (p, l, e, R, s, m, args, below, meth, c) pc (ai_push (7, j) sq jm κ) := by
  intro loc stk w outs h Q hQ ws ls st H locs hM
  have kk := hs loc ((7, j) :: stk) w outs h Q hQ ws ls (.ref (ι.2.2.2.1 j) :: st) H locs (hM.push (Or.inr (Or.inr (Or.inr (Or.inr (Or.inr (Or.inr (Or.inr ⟨rfl, rfl⟩))))))))
  rcases hlink with hlk | ⟨host, hlk⟩
  · exact va_gets C.1.1 C.1.2.1 (ak_Zj C.2.2.1.2.1 hj) hM.2.2.1 C.2.1.1 (C.2.1.2.1 _ hlk) (fun _ h => h) hd kk
  · exact va_getsN C.1.1 C.1.2.1 (ak_Zj C.2.2.1.2.1 hj) hM.2.2.1 C.2.1.1 (va_Nw.use rfl (C.2.2.1.2.2.2.1 _ _ _ _ _ _ hlk)) (fun _ h => h) hd kk
/-- the class of an array by its kind -/
def ak_kt (kd : Nat) : FieldType := if kd = 1 then .int else if kd = 2 then .byte else if kd = 3 then .boolean else if kd = 4 then .long else if kd = 5 then .object "SpanCopier$Word" else .object "SpanCopier$World"
theorem ak_T_at {kd : Nat} (h : 1 ≤ kd ∧ kd ≤ 6) : (ak_T ι)[kd - 1]? = some (ι.2.2.1 kd, ak_kt kd) := by
  rcases (show kd = 1 ∨ kd = 2 ∨ kd = 3 ∨ kd = 4 ∨ kd = 5 ∨ kd = 6 by omega) with rfl | rfl | rfl | rfl | rfl | rfl <;> rfl
theorem ak_c_arr {ads : List Nat} {cl : ai_C} {el : va_E} (h : ak_c ι ads cl el) (h1 : 1 ≤ cl.1) (h9 : ¬ cl.1 = 9) : 1 ≤ cl.1 ∧ cl.1 ≤ 6 ∧ ∃ x : vp_A, el = .inl (ι.2.2.1 cl.1, x) ∧ x.1 = cl.2.1 := by
  rcases h with h | ⟨h, -⟩
  · exact absurd h h9
  · rcases h with ⟨h, -⟩ | ⟨h, f, rfl⟩ | ⟨h, f, rfl, -⟩ | ⟨h, f, rfl⟩ | ⟨h, f, rfl⟩ | ⟨h, f, rfl⟩ | ⟨h, f, rfl⟩
    · omega
    all_goals exact ⟨h1, by omega, _, by rw [h], rfl⟩
theorem ah_alen (C : ak_C ι y b rt M d p l e R s m args below meth c) (hd : decode b pc = .ok (.arraylength, 1)) (hs : ak_Snd ι M (p, l, e, R, s, m, args, below, meth, c) (pc + 1) sq) : ak_Snd ι M (p, l, e, R, s, m, args, below, meth, c) pc (ai_alen sq jm κ) := by
  intro loc stk w outs h Q hQ ws ls st H locs hM
  cases stk with
  | nil => exact absurd h (by simp [ai_alen])
  | cons o stk =>
    simp only [ai_alen, ak_if, Nat.beq_eq, ai_nt_eq, ak_op] at h
    obtain ⟨X, st, rfl, hx, hst⟩ := ak_s_cons hM.2.2.2.2.2.1
    split at h
    · rename_i h7
      obtain rfl := ak_v_const hx h7
      split at h
      · rename_i h45
        obtain ⟨-, -, -, L, xs, q1, q2, q3, q4, q5, q6, q7⟩ := C.2.2.1.2.1
        rw [h45]
        refine va_slen C.1.1 C.1.2.1 q1 q3 (by show ¬ _ ≤ _; omega) hM.2.2.1 hd ?_
        exact hs _ _ _ _ h Q hQ ws ls _ H locs (hM.restk ⟨Or.inr (Or.inl ⟨rfl, by rw [q5]⟩), hst⟩)
      · split at h
        · rename_i h42
          rw [h42]
          exact va_tlen C.1.1 C.1.2.1 C.2.2.1.2.1.2.2.1.2 hM.2.2.1 (v := nI 0) rfl hd (hs _ _ _ _ h Q hQ ws ls _ H locs (hM.restk ⟨Or.inl ⟨rfl, rfl⟩, hst⟩))
        · cases hl : ai_sar o.2 with
          | none => rw [hl] at h; exact absurd h (by simp)
          | some ll =>
            rw [hl] at h
            simp only [Option.elim, ai_len_eq] at h
            exact va_tlen C.1.1 C.1.2.1 (C.2.2.1.2.1.2.1 o.2 ll hl).2 hM.2.2.1 (v := nI ll.length) rfl hd (hs _ _ _ _ h Q hQ ws ls _ H locs (hM.restk ⟨Or.inl ⟨rfl, rfl⟩, hst⟩))
    · obtain ⟨h6, hlt, cl, a, el, hf, hc, hw, hcc, href⟩ := ai_cel_some hM.2.2.2.1 h
      obtain rfl := href _ hx
      obtain ⟨kd, mm, rest⟩ := cl
      simp only [ak_and, Nat.ble_eq] at hf
      split at hf
      · rename_i hh
        obtain ⟨a1, a2, x, rfl, a3⟩ := ak_c_arr hcc hh.1.1 (by show ¬ kd = 9; omega)
        exact va_alen C.1.1 C.1.2.1 C.2.2.1.1 hM.1 o.2 (kd - 1) hw (ak_T_at ⟨a1, a2⟩) (v := nI mm) (by rw [a3]; rfl) hd (hs _ _ _ _ hf Q hQ ws ls _ H locs (hM.restk ⟨Or.inl ⟨rfl, rfl⟩, hst⟩))
      · exact absurd hf (by simp)
/-- a place of an array is read -/
theorem ah_ald {k1 k2 : Nat} (C : ak_C ι y b rt M d p l e R s m args below meth c) (hκ : κ.2.2.2 = pc) (hst7 : k1 = 1 → decode b pc = .ok (.iaload, 1)) (hrow : ∀ (H : Heap) (locs : List Loc) (nc ns : Nat) (Q : State → Prop) (ls : Array Slot) (st : List Value) (ws : va_W) (k a nj : Nat) (cl : ai_C) (el : va_E), va_P ι.2.1 vwCl ws H → ws[k]? = some (a, el) → ak_c ι (ws.map Prod.fst) cl el → k1 ≤ cl.1 → cl.1 ≤ k2 → nj < cl.2.1 → cl.2.1 ≤ 30000 → ∃ x : Value, ak_v ι (ws.map Prod.fst) (ak_rd cl nj) x ∧ (W p l e R s m args below meth c H locs nc ns Q (F0 m (pc + 1) ls (x :: st)) → W p l e R s m args below meth c H locs nc ns Q (F0 m pc ls (.int (nI nj) :: .ref a :: st)))) (hs : ak_Snd ι M (p, l, e, R, s, m, args, below, meth, c) (pc + 1) sq) (hj : ∀ t, ak_Snd ι M (p, l, e, R, s, m, args, below, meth, c) t (jm t)) : ak_Snd ι M (p, l, e, R, s, m, args, below, meth, c) pc (ai_ald k1 k2 sq jm κ) := by
  intro loc stk w outs h Q hQ ws ls st H locs hM
  obtain ⟨n, hp, env, cs⟩ := w
  have he : ak_e ι env := hM.2.2.2.2.2.2
  cases stk with
  | nil => exact absurd h (by simp [ai_ald])
  | cons j stk =>
    cases stk with
    | nil => exact absurd h (by simp [ai_ald])
    | cons o stk =>
      simp only [ai_ald] at h
      rw [hκ] at h
      rcases ai_split_some he h with h | ⟨env', outs', h1, h2, h3⟩
      · obtain ⟨u, hu, huv, -, -⟩ := ai_res_eq ι env he j (fun j => @Prod.rec _ _ (fun _ => ai_P) (fun tj nj => @Bool.rec (fun _ => ai_P) none (@Bool.rec (fun _ => ai_P) (ai_cel (n, hp, env, cs) o (fun c => @Bool.rec (fun _ => ai_P) none (ai_rd c nj (fun v => sq loc (v :: stk) (n, hp, env, cs))) (ai_at k1 k2 c nj))) (@Bool.rec (fun _ => ai_P) none (@Bool.rec (fun _ => ai_P) (@Option.rec (List Nat) (fun _ => ai_P) none (fun l => ai_nth l none (fun x => sq loc ((0, x) :: stk) (n, hp, env, cs)) nj) (ai_sar o.2)) (@Bool.rec (fun _ => ai_P) none (sq loc ((1, nj) :: stk) (n, hp, env, cs)) (@Bool.rec (fun _ => Bool) false (ai_six env) (Nat.ble nj 5))) (Nat.beq o.2 45)) (Nat.beq k1 1)) (Nat.beq o.1 7)) (Nat.beq tj 0)) j)
        have h := hu.symm.trans h
        obtain ⟨tj, nj⟩ := u
        obtain ⟨J, st, rfl, hJ, hst⟩ := ak_s_cons hM.2.2.2.2.2.1
        obtain ⟨X, st, rfl, hx, hst2⟩ := ak_s_cons hst
        simp only [ak_if, Nat.beq_eq, ak_op, ai_nth_eq, Nat.ble_eq, ak_and] at h
        split at h
        · rename_i ht0
          obtain ⟨J, rfl, hJ0, -⟩ := ak_v_int (huv _ _ hJ) (by show tj ≤ 2; omega)
          obtain rfl := hJ0 ht0
          split at h
          · rename_i h7
            obtain rfl := ak_v_const hx h7
            split at h
            · rename_i hk1
              have hd := hst7 hk1
              split at h
              · rename_i h45
                split at h
                · rename_i hh
                  obtain ⟨-, -, -, L, xs, q1, q2, q3, q4, q5, q6, q7⟩ := C.2.2.1.2.1
                  have hL : L = 6 := by
                    have h6 := hh.2
                    simp only [ai_six, ai_nth_eq] at h6
                    cases h7 : env[7]? with
                    | none => rw [h7] at h6; exact absurd h6 (by simp)
                    | some q =>
                      rw [h7] at h6
                      simp only [Option.elim, ai_eqV_iff] at h6
                      obtain ⟨b1, b2⟩ := he 7 q h7
                      rw [h6] at b1 b2
                      have e1 : ak_b (ι.2.2.2.2.1 7) = L + 2147483648 := by
                        have e2 := ak_b_int (ι.2.2.2.2.1 7)
                        have e3 : (ι.2.2.2.2.1 7).toInt = (L : Int) := by rw [q5]; exact nI_toInt (by omega)
                        omega
                      dsimp only at b1 b2
                      omega
                  subst hL
                  have hnj : nj < 6 := by omega
                  rw [h45]
                  refine va_sld C.1.1 C.1.2.1 q1 q3 (by show ¬ _ ≤ _; omega) hM.2.2.1 (vp_in_nI hnj (by omega)) hd ?_
                  refine hs _ _ _ _ h Q hQ ws ls _ H locs (hM.restk ⟨Or.inr (Or.inl ⟨rfl, ?_⟩), hst2⟩)
                  rw [nI_clamp (by omega), ← q6 nj hnj]
                · exact absurd h (by simp)
              · cases hl : ai_sar o.2 with
                | none => rw [hl] at h; exact absurd h (by simp)
                | some ll =>
                  rw [hl] at h
                  simp only [Option.elim] at h
                  cases hn : ll[nj]? with
                  | none => rw [hn] at h; exact absurd h (by simp)
                  | some z =>
                    rw [hn] at h
                    have hlt := (List.getElem?_eq_some_iff.mp hn).1
                    have hlen : ll.length ≤ 38 := by
                      unfold ai_sar at hl
                      simp only [ak_if] at hl
                      split at hl
                      · cases hl; decide
                      · split at hl
                        · cases hl; decide
                        · split at hl
                          · cases hl; decide +kernel
                          · cases hl
                    refine va_ti C.1.1 C.1.2.1 (C.2.2.1.2.1.2.1 o.2 ll hl).2 hM.2.2.1 (vp_in_nI hlt (by omega)) (v := .int (nI z)) ?_ hd (hs _ _ _ _ h Q hQ ws ls _ H locs (hM.restk ⟨Or.inl ⟨rfl, rfl⟩, hst2⟩))
                    rw [nI_clamp (by omega), List.getD_eq_getElem?_getD, hn]
                    rfl
            · exact absurd h (by simp)
          · obtain ⟨h6, hlt, cl, a, el, hf, hc, hw, hcc, href⟩ := ai_cel_some (w := (n, hp, env, cs)) hM.2.2.2.1 h
            obtain rfl := href _ hx
            simp only [ai_at, ak_if, ak_and, Nat.ble_eq, ai_rd_eq] at hf
            split at hf
            · rename_i hh
              obtain ⟨x, hxv, row⟩ := hrow H locs cs.1 cs.2 Q ls st ws o.2 a nj cl el hM.1 hw hcc hh.1.1 hh.1.2 hh.2.1 hh.2.2
              exact row (hs _ _ _ _ hf Q hQ ws ls (x :: st) H locs (hM.restk ⟨hxv, hst2⟩))
            · exact absurd hf (by simp)
        · exact absurd h (by simp)
      · exact hj pc _ _ _ _ h1 Q (fun o ho => hQ o (h2 o ho)) ws ls st H locs (hM.reenv h3)
theorem ah_iald (C : ak_C ι y b rt M d p l e R s m args below meth c) (hκ : κ.2.2.2 = pc) (hd : decode b pc = .ok (.iaload, 1)) (hs : ak_Snd ι M (p, l, e, R, s, m, args, below, meth, c) (pc + 1) sq) (hj : ∀ t, ak_Snd ι M (p, l, e, R, s, m, args, below, meth, c) t (jm t)) : ak_Snd ι M (p, l, e, R, s, m, args, below, meth, c) pc (ai_ald 1 1 sq jm κ) := by
  refine ah_ald C hκ (fun _ => hd) (fun H locs nc ns Q ls st ws k a nj cl el hP hw hcc h1 h2 hn hm => ?_) hs hj
  obtain ⟨f, rfl, -, hv⟩ := ak_c_ints hcc ⟨h1, by omega⟩
  have e1 : cl.1 = 1 := by omega
  rw [e1] at hw
  refine ⟨_, hv nj hn, fun kk => va_iald C.1.1 C.1.2.1 C.2.2.1.1 hP k 0 hw rfl (vp_in_nI hn (by omega)) hd ?_⟩
  rw [nI_clamp (by omega)]
  exact kk
theorem ah_bald (C : ak_C ι y b rt M d p l e R s m args below meth c) (hκ : κ.2.2.2 = pc) (hd : decode b pc = .ok (.baload, 1)) (hs : ak_Snd ι M (p, l, e, R, s, m, args, below, meth, c) (pc + 1) sq) (hj : ∀ t, ak_Snd ι M (p, l, e, R, s, m, args, below, meth, c) t (jm t)) : ak_Snd ι M (p, l, e, R, s, m, args, below, meth, c) pc (ai_ald 2 3 sq jm κ) := by
  refine ah_ald C hκ (fun h => by omega) (fun H locs nc ns Q ls st ws k a nj cl el hP hw hcc h1 h2 hn hm => ?_) hs hj
  obtain ⟨f, rfl, -, hv⟩ := ak_c_ints hcc ⟨by omega, h2⟩
  refine ⟨_, hv nj hn, fun kk => ?_⟩
  rw [← nI_clamp (show nj < 2 ^ 31 by omega)] at kk
  rcases (show cl.1 = 2 ∨ cl.1 = 3 by omega) with e1 | e1
  · rw [e1] at hw
    exact va_bald C.1.1 C.1.2.1 C.2.2.1.1 hP k 1 hw rfl (vp_in_nI hn (by omega)) hd kk
  · rw [e1] at hw
    exact va_zald C.1.1 C.1.2.1 C.2.2.1.1 hP k 2 hw rfl (vp_in_nI hn (by omega)) hd kk
theorem ah_lald (C : ak_C ι y b rt M d p l e R s m args below meth c) (hκ : κ.2.2.2 = pc) (hd : decode b pc = .ok (.laload, 1)) (hs : ak_Snd ι M (p, l, e, R, s, m, args, below, meth, c) (pc + 1) sq) (hj : ∀ t, ak_Snd ι M (p, l, e, R, s, m, args, below, meth, c) t (jm t)) : ak_Snd ι M (p, l, e, R, s, m, args, below, meth, c) pc (ai_ald 4 4 sq jm κ) := by
  refine ah_ald C hκ (fun h => by omega) (fun H locs nc ns Q ls st ws k a nj cl el hP hw hcc h1 h2 hn hm => ?_) hs hj
  obtain ⟨f, rfl, hv⟩ := ak_c_longs hcc (by omega)
  refine ⟨_, hv nj hn, fun kk => va_lald C.1.1 C.1.2.1 C.2.2.1.1 hP k 3 hw rfl (vp_in_nI hn (by omega)) hd ?_⟩
  rw [nI_clamp (by omega)]
  exact kk
theorem ah_aald (C : ak_C ι y b rt M d p l e R s m args below meth c) (hκ : κ.2.2.2 = pc) (hd : decode b pc = .ok (.aaload, 1)) (hs : ak_Snd ι M (p, l, e, R, s, m, args, below, meth, c) (pc + 1) sq) (hj : ∀ t, ak_Snd ι M (p, l, e, R, s, m, args, below, meth, c) t (jm t)) : ak_Snd ι M (p, l, e, R, s, m, args, below, meth, c) pc (ai_ald 5 6 sq jm κ) := by
  refine ah_ald C hκ (fun h => by omega) (fun H locs nc ns Q ls st ws k a nj cl el hP hw hcc h1 h2 hn hm => ?_) hs hj
  obtain ⟨f, rfl, hv⟩ := ak_c_refs hcc (by omega)
  refine ⟨_, hv nj hn, fun kk => ?_⟩
  rw [← nI_clamp (show nj < 2 ^ 31 by omega)] at kk
  rcases (show cl.1 = 5 ∨ cl.1 = 6 by omega) with e1 | e1
  · rw [e1] at hw
    exact va_aldq C.1.1 C.1.2.1 C.2.2.1.1 hP k 4 hw rfl (vp_in_nI hn (by omega)) hd kk
  · rw [e1] at hw
    exact va_aldq C.1.1 C.1.2.1 C.2.2.1.1 hP k 5 hw rfl (vp_in_nI hn (by omega)) hd kk
end ARRAYS
