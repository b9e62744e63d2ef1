/-! ===== writing into arrays ===== -/
/-- what an array keeps -/
def ak_kp (w : ai_W) (kd : Nat) (v u : ai_V) : Prop :=
  (kd = 1 ∧ v.1 ≤ 2 ∧ u = v) ∨ (kd = 2 ∧ v.1 ≤ 2 ∧ ((u = v ∧ v.1 = 0 ∧ v.2 ≤ 127) ∨ u = (2, 0))) ∨ (kd = 3 ∧ v.1 = 0 ∧ v.2 ≤ 1 ∧ u = v) ∨ (kd = 4 ∧ 3 ≤ v.1 ∧ v.1 ≤ 4 ∧ u = v) ∨ (kd = 5 ∧ v.1 = 7 ∧ v.2 ≤ 37 ∧ u = v) ∨ (kd = 6 ∧ v.1 = 6 ∧ v.2 < w.1 ∧ u = v ∧ ∃ cl : ai_C, w.2.1[w.1 - (v.2 + 1)]? = some cl ∧ cl.1 = 0 ∧ cl.2.1 = 9)
theorem ai_keep_some {ι : ak_I} {w : ai_W} {ws : va_W} {kd : Nat} {v : ai_V} {f : ai_V → ai_P} {outs : List ai_O} (hh : ak_h ι w.1 w.2.1 ws) (h : ai_keep w kd v f = some outs) : ∃ u : ai_V, f u = some outs ∧ ak_kp w kd v u := by
  simp only [ai_keep, ak_if, Nat.beq_eq, Nat.ble_eq, ak_and, ai_in_iff] at h
  split at h
  · rename_i hk
    split at h
    · rename_i h2
      exact ⟨v, h, Or.inl ⟨hk, h2, rfl⟩⟩
    · exact absurd h (by simp)
  · split at h
    · rename_i hk
      split at h
      · rename_i h2
        split at h
        · rename_i h3
          exact ⟨v, h, Or.inr (Or.inl ⟨hk, h2, Or.inl ⟨rfl, h3.1, h3.2⟩⟩)⟩
        · exact ⟨(2, 0), h, Or.inr (Or.inl ⟨hk, h2, Or.inr rfl⟩)⟩
      · exact absurd h (by simp)
    · split at h
      · rename_i hk
        split at h
        · rename_i h2
          exact ⟨v, h, Or.inr (Or.inr (Or.inl ⟨hk, h2.1, h2.2, rfl⟩))⟩
        · exact absurd h (by simp)
      · split at h
        · rename_i hk
          split at h
          · rename_i h2
            exact ⟨v, h, Or.inr (Or.inr (Or.inr (Or.inl ⟨hk, h2.1, h2.2, rfl⟩)))⟩
          · exact absurd h (by simp)
        · split at h
          · rename_i hk
            split at h
            · rename_i h2
              exact ⟨v, h, Or.inr (Or.inr (Or.inr (Or.inr (Or.inl ⟨hk, h2.1, h2.2, rfl⟩))))⟩
            · exact absurd h (by simp)
          · split at h
            · rename_i hk
              obtain ⟨h6, hlt, cl, a, el, hf, hc, -⟩ := ai_cel_some hh h
              split at hf
              · rename_i h2
                exact ⟨v, hf, Or.inr (Or.inr (Or.inr (Or.inr (Or.inr ⟨hk, h6, hlt, rfl, cl, hc, h2.1, h2.2⟩))))⟩
              · exact absurd hf (by simp)
            · exact absurd h (by simp)
section STORES
variable {ι : ak_I} {y : MethodName} {b : ByteArray} {rt : Option FieldType} {M : ai_M} {d : Nat} {p : Program} {l : Launch} {e : Env} {R : Room} {s : State} {m : MethodId} {args : Array Value} {below : List Frame} {meth : Method} {c : Code} {pc : Nat} {sq : ai_Q} {jm : Nat → ai_Q} {κ : ai_K}
/-- a place of an array is written: the element behind it -/
theorem ah_ast {k1 k2 : Nat} (C : ak_C ι y b rt M d p l e R s m args below meth c) (hκ : κ.2.2.2 = pc) (hrow : ∀ (H : Heap) (locs : List Loc) (nc ns : Nat) (Q : State → Prop) (ls : Array Slot) (st : List Value) (ws : va_W) (w : ai_W) (k a nj : Nat) (cl : ai_C) (el : va_E) (v u : ai_V) (x : Value), va_P ι.2.1 vwCl ws H → va_D (ak_A ι) ws → va_S (ak_A ι) s.heap H locs → ak_h ι w.1 w.2.1 ws → ws[k]? = some (a, el) → ak_c ι (ws.map Prod.fst) cl el → k1 ≤ cl.1 → cl.1 ≤ k2 → nj < cl.2.1 → cl.2.1 ≤ 30000 → ak_kp w cl.1 v u → ak_v ι (ws.map Prod.fst) v x → ∃ el' : va_E, (∀ c' : ai_C, c'.1 = cl.1 → c'.2.1 = cl.2.1 → (∀ i, ak_rd c' i = if i = nj then u else ak_rd cl i) → ak_c ι (ws.map Prod.fst) c' el') ∧ ((∀ (H1 : Heap) (locs1 : List Loc), va_P ι.2.1 vwCl (ws.set k (a, el')) H1 → va_D (ak_A ι) (ws.set k (a, el')) → va_S (ak_A ι) s.heap H1 locs1 → W p l e R s m args below meth c H1 locs1 nc ns Q (F0 m (pc + 1) ls st)) → W p l e R s m args below meth c H locs nc ns Q (F0 m pc ls (x :: .int (nI nj) :: .ref a :: st)))) (hs : ak_Snd ι M (p, l, e, R, s, m, args, below, meth, c) (pc + 1) sq) (hj : ∀ t, ak_Snd ι M (p, l, e, R, s, m, args, below, meth, c) t (jm t)) : ak_Snd ι M (p, l, e, R, s, m, args, below, meth, c) pc (ai_ast k1 k2 sq jm κ) := by
  intro loc stk w outs h Q hQ ws ls st H locs hM
  obtain ⟨n, hp, env, cs⟩ := w
  have he : ak_e ι env := hM.2.2.2.2.2.2
  cases stk with
  | nil => exact absurd h (by simp [ai_ast])
  | cons v stk =>
    cases stk with
    | nil => exact absurd h (by simp [ai_ast])
    | cons j stk =>
      cases stk with
      | nil => exact absurd h (by simp [ai_ast])
      | cons o stk =>
        simp only [ai_ast] at h
        rw [hκ] at h
        rcases ai_split_some he h with h | ⟨env', outs', h1, h2, h3⟩
        · obtain ⟨u, hu, huv, -, -⟩ := ai_res_eq ι env he j (fun j => @Prod.rec _ _ (fun _ => ai_P) (fun tj nj => @Bool.rec (fun _ => ai_P) none (ai_cel (n, hp, env, cs) o (fun c => @Bool.rec (fun _ => ai_P) none (ai_res env v (fun v => ai_keep (n, hp, env, cs) c.1 v (fun u => ai_wr c nj u (sq loc stk (n, hp, env, cs)) (fun c => ai_chg o c (n, hp, env, cs) (sq loc stk))))) (ai_at k1 k2 c nj))) (Nat.beq tj 0)) j)
          have h := hu.symm.trans h
          obtain ⟨tj, nj⟩ := u
          obtain ⟨V, st, rfl, hV, hst⟩ := ak_s_cons hM.2.2.2.2.2.1
          obtain ⟨J, st, rfl, hJ, hst2⟩ := ak_s_cons hst
          obtain ⟨X, st, rfl, hx, hst3⟩ := ak_s_cons hst2
          simp only [ak_if, Nat.beq_eq] at h
          split at h
          · rename_i ht0
            obtain ⟨J, rfl, hJ0, -⟩ := ak_v_int (huv _ _ hJ) (by show tj ≤ 2; omega)
            obtain rfl := hJ0 ht0
            obtain ⟨h6, hlt, cl, a, el, hf, hc, hw, hcc, href⟩ := ai_cel_some (w := (n, hp, env, cs)) hM.2.2.2.1 h
            obtain rfl := href _ hx
            simp only [ai_at, ak_if, ak_and, Nat.ble_eq] at hf
            split at hf
            · rename_i hh
              obtain ⟨v2, hv2, hvv, -, -⟩ := ai_res_eq ι env he v (fun v => ai_keep (n, hp, env, cs) cl.1 v (fun u => ai_wr cl nj u (sq loc stk (n, hp, env, cs)) (fun c => ai_chg o c (n, hp, env, cs) (sq loc stk))))
              have hf := hv2.symm.trans hf
              obtain ⟨u, hf, hkp⟩ := ai_keep_some (w := (n, hp, env, cs)) hM.2.2.2.1 hf
              obtain ⟨hp', c', hg, e1, e2, hrd, hh'⟩ := ai_wrh_some (g := sq loc stk) hM.2.2.2.1 rfl hlt hc hw hf
              obtain ⟨el', q1, q2⟩ := hrow H locs cs.1 cs.2 Q ls st ws (n, hp, env, cs) o.2 a nj cl el v2 u V hM.1 hM.2.1.1 hM.2.2.1 hM.2.2.2.1 hw hcc hh.1.1 hh.1.2 hh.2.1 hh.2.2 hkp (hvv _ _ hV)
              exact q2 (fun H1 locs1 a1 a2 a3 => hs _ _ _ _ hg Q hQ _ ls _ H1 locs1 (hM.write hw a1 a2 a3 (hh' _ (q1 c' e1 e2 hrd)) hst3))
            · exact absurd hf (by simp)
          · exact absurd h (by simp)
        · exact hj pc _ _ _ _ h1 Q (fun o ho => hQ o (h2 o ho)) ws ls st H locs (hM.reenv h3)
theorem ak_upd (f : Nat → Int32) (k : Nat) (x : Int32) (j : Nat) : upd f k x j = if j = k then x else f j := rfl
theorem ah_iast (C : ak_C ι y b rt M d p l e R s m args below meth c) (hκ : κ.2.2.2 = pc) (hd : decode b pc = .ok (.iastore, 1)) (hs : ak_Snd ι M (p, l, e, R, s, m, args, below, meth, c) (pc + 1) sq) (hj : ∀ t, ak_Snd ι M (p, l, e, R, s, m, args, below, meth, c) t (jm t)) : ak_Snd ι M (p, l, e, R, s, m, args, below, meth, c) pc (ai_ast 1 1 sq jm κ) := by
  refine ah_ast C hκ (fun H locs nc ns Q ls st ws w k a nj cl el v u x hP hD hS hh hw hcc h1 h2 hn hm hkp hx => ?_) hs hj
  have e1 : cl.1 = 1 := by omega
  obtain ⟨f, rfl, -, hv⟩ := ak_c_ints hcc ⟨h1, by omega⟩
  rcases hkp with ⟨-, hv2, rfl⟩ | ⟨h, -⟩ | ⟨h, -⟩ | ⟨h, -⟩ | ⟨h, -⟩ | ⟨h, -⟩ <;> try omega
  obtain ⟨z, rfl, -, -⟩ := ak_v_int hx hv2
  refine ⟨.inl (ι.2.2.1 cl.1, cl.2.1, .inl (upd f nj z)), fun c' a1 a2 hrd => ?_, fun kk => ?_⟩
  · rw [← a1, ← a2]
    refine ak_ints_c ⟨by omega, by omega⟩ (fun h => by omega) (fun j hj => ?_)
    rw [hrd, ak_upd]
    by_cases ej : j = nj
    · rw [if_pos ej, if_pos ej]; exact hx
    · rw [if_neg ej, if_neg ej]; exact hv j (by rw [← a2]; exact hj)
  · rw [e1] at hw kk
    have hc := nI_clamp (show nj < 2 ^ 31 by omega)
    exact va_iast C.1.1 C.1.2.1 C.2.2.1.1 hP hD hS k 0 hw rfl (vp_in_nI hn (by omega)) hd (by rw [hc]; exact kk)
theorem ah_last (C : ak_C ι y b rt M d p l e R s m args below meth c) (hκ : κ.2.2.2 = pc) (hd : decode b pc = .ok (.lastore, 1)) (hs : ak_Snd ι M (p, l, e, R, s, m, args, below, meth, c) (pc + 1) sq) (hj : ∀ t, ak_Snd ι M (p, l, e, R, s, m, args, below, meth, c) t (jm t)) : ak_Snd ι M (p, l, e, R, s, m, args, below, meth, c) pc (ai_ast 4 4 sq jm κ) := by
  refine ah_ast C hκ (fun H locs nc ns Q ls st ws w k a nj cl el v u x hP hD hS hh hw hcc h1 h2 hn hm hkp hx => ?_) hs hj
  have e1 : cl.1 = 4 := by omega
  obtain ⟨f, rfl, hv⟩ := ak_c_longs hcc e1
  rcases hkp with ⟨h, -⟩ | ⟨h, -⟩ | ⟨h, -⟩ | ⟨-, h3, h4, rfl⟩ | ⟨h, -⟩ | ⟨h, -⟩ <;> try omega
  obtain ⟨z, rfl, -⟩ := ak_v_long hx h3 h4
  refine ⟨.inl (ι.2.2.1 4, cl.2.1, .inr (.inl (vp_updL f nj z))), fun c' a1 a2 hrd => ?_, fun kk => ?_⟩
  · rw [← a2]
    refine ak_longs_c (a1.trans e1) (fun j hj => ?_)
    rw [hrd]
    show ak_v _ _ _ (.long (if j = nj then z else f j))
    by_cases ej : j = nj
    · rw [if_pos ej, if_pos ej]; exact hx
    · rw [if_neg ej, if_neg ej]; exact hv j (by rw [← a2]; exact hj)
  · have hc := nI_clamp (show nj < 2 ^ 31 by omega)
    exact va_last C.1.1 C.1.2.1 C.2.2.1.1 hP hD hS k 3 hw rfl (vp_in_nI hn (by omega)) hd (by rw [hc]; exact kk)
theorem ak_nar_b {n : Nat} (h : n ≤ 127) : vp_nar .byte (nI n) = nI n := by
  show (nI n).toInt8.toInt32 = nI n
  apply Int32.toInt_inj.mp
  rw [Int8.toInt_toInt32, Int32.toInt_toInt8, nI_toInt (by omega), Int.bmod_def]
  split <;> omega
theorem ak_fit_nb (x : Int32) : fits .byte (.int (vp_nar .byte x)) = true := pk_fb x
theorem ah_bast (C : ak_C ι y b rt M d p l e R s m args below meth c) (hκ : κ.2.2.2 = pc) (hd : decode b pc = .ok (.bastore, 1)) (hs : ak_Snd ι M (p, l, e, R, s, m, args, below, meth, c) (pc + 1) sq) (hj : ∀ t, ak_Snd ι M (p, l, e, R, s, m, args, below, meth, c) t (jm t)) : ak_Snd ι M (p, l, e, R, s, m, args, below, meth, c) pc (ai_ast 2 3 sq jm κ) := by
  refine ah_ast C hκ (fun H locs nc ns Q ls st ws w k a nj cl el v u x hP hD hS hh hw hcc h1 h2 hn hm hkp hx => ?_) hs hj
  obtain ⟨f, rfl, hfit, hv⟩ := ak_c_ints hcc ⟨by omega, h2⟩
  have hc := nI_clamp (show nj < 2 ^ 31 by omega)
  rcases (show cl.1 = 2 ∨ cl.1 = 3 by omega) with e1 | e1
  · rcases hkp with ⟨h, -⟩ | ⟨-, hv2, hu⟩ | ⟨h, -⟩ | ⟨h, -⟩ | ⟨h, -⟩ | ⟨h, -⟩ <;> try omega
    obtain ⟨z, rfl, hz, -⟩ := ak_v_int hx hv2
    refine ⟨.inl (ι.2.2.1 cl.1, cl.2.1, .inl (upd f nj (vp_nar .byte z))), fun c' a1 a2 hrd => ?_, fun kk => ?_⟩
    · rw [← a1, ← a2]
      refine ak_ints_c ⟨by omega, by omega⟩ (fun _ j hj => ?_) (fun j hj => ?_)
      · rw [ak_upd]
        by_cases ej : j = nj
        · rw [if_pos ej]; exact ak_fit_nb z
        · rw [if_neg ej]; exact hfit e1 j (by rw [← a2]; exact hj)
      · rw [hrd, ak_upd]
        by_cases ej : j = nj
        · rw [if_pos ej, if_pos ej]
          rcases hu with ⟨rfl, u0, u1⟩ | rfl
          · refine Or.inl ⟨u0, ?_⟩
            rw [hz u0, ak_nar_b u1]
          · exact Or.inr (Or.inr (Or.inl ⟨rfl, _, rfl⟩))
        · rw [if_neg ej, if_neg ej]; exact hv j (by rw [← a2]; exact hj)
    · rw [e1] at hw kk
      exact va_bast C.1.1 C.1.2.1 C.2.2.1.1 hP hD hS k 1 hw rfl (vp_in_nI hn (by omega)) hd (by rw [hc]; exact kk)
  · rcases hkp with ⟨h, -⟩ | ⟨h, -⟩ | ⟨-, v0, v1, rfl⟩ | ⟨h, -⟩ | ⟨h, -⟩ | ⟨h, -⟩ <;> try omega
    obtain ⟨z, rfl, hz, -⟩ := ak_v_int hx (by omega)
    have hnar : vp_nar .boolean z = z := by
      rw [hz v0]
      rcases (show u.2 = 0 ∨ u.2 = 1 by omega) with e2 | e2 <;> rw [e2] <;> decide +kernel
    refine ⟨.inl (ι.2.2.1 cl.1, cl.2.1, .inl (upd f nj (vp_nar .boolean z))), fun c' a1 a2 hrd => ?_, fun kk => ?_⟩
    · rw [← a1, ← a2, hnar]
      refine ak_ints_c ⟨by omega, by omega⟩ (fun h => by omega) (fun j hj => ?_)
      rw [hrd, ak_upd]
      by_cases ej : j = nj
      · rw [if_pos ej, if_pos ej]; exact hx
      · rw [if_neg ej, if_neg ej]; exact hv j (by rw [← a2]; exact hj)
    · rw [e1] at hw kk
      exact va_zast C.1.1 C.1.2.1 C.2.2.1.1 hP hD hS k 2 hw rfl (vp_in_nI hn (by omega)) hd (by rw [hc]; exact kk)
theorem ah_aast (C : ak_C ι y b rt M d p l e R s m args below meth c) (hκ : κ.2.2.2 = pc) (hd : decode b pc = .ok (.aastore, 1)) (hs : ak_Snd ι M (p, l, e, R, s, m, args, below, meth, c) (pc + 1) sq) (hj : ∀ t, ak_Snd ι M (p, l, e, R, s, m, args, below, meth, c) t (jm t)) : ak_Snd ι M (p, l, e, R, s, m, args, below, meth, c) pc (ai_ast 5 6 sq jm κ) := by
  refine ah_ast C hκ (fun H locs nc ns Q ls st ws w k a nj cl el v u x hP hD hS hh hw hcc h1 h2 hn hm hkp hx => ?_) hs hj
  obtain ⟨f, rfl, hv⟩ := ak_c_refs hcc (by omega)
  have hc := nI_clamp (show nj < 2 ^ 31 by omega)
  have upd2 : ∀ q : Nat, ak_v ι (ws.map Prod.fst) u (.ref q) → ∀ c' : ai_C, c'.1 = cl.1 → c'.2.1 = cl.2.1 → (∀ i, ak_rd c' i = if i = nj then u else ak_rd cl i) → ak_c ι (ws.map Prod.fst) c' (.inl (ι.2.2.1 cl.1, cl.2.1, .inr (.inr (.inr (.inr (va_up f nj (some q))))))) := by
    intro q hq c' a1 a2 hrd
    rw [← a1, ← a2]
    refine ak_refs_c (by omega) (fun j hj => ?_)
    rw [hrd]
    show ak_v _ _ _ (va_rf (if j = nj then some q else f j))
    by_cases ej : j = nj
    · rw [if_pos ej, if_pos ej]; exact hq
    · rw [if_neg ej, if_neg ej]; exact hv j (by rw [← a2]; exact hj)
  rcases hkp with ⟨h, -⟩ | ⟨h, -⟩ | ⟨h, -⟩ | ⟨h, -⟩ | ⟨e1, h7, h37, rfl⟩ | ⟨e1, h6, hlt, rfl, c9, hc9, h0, h9⟩ <;> try omega
  · obtain rfl := ak_v_const hx h7
    refine ⟨_, upd2 _ hx, fun kk => ?_⟩
    rw [e1] at hw kk
    have hr : va_Any "SpanCopier$Word" s H (ι.2.2.2.1 u.2) := by
      obtain ⟨cell, z1, z2, z3⟩ := va_recvE C.2.2.1.2.1.1 (show u.2 < ak_nm.length by show u.2 < 38; omega) hS
      obtain ⟨kC, hkC, -⟩ := Vm.findClass_spec z3
      exact ⟨cell, z1, z2, ⟨kC, hkC⟩, fun comp hcomp => by cases z3.symm.trans hcomp; exact va_asg _ _⟩
    exact va_astqM C.1.1 C.1.2.1 C.2.2.1.1 hP hD hS k 4 hw rfl hr (vp_in_nI hn (by omega)) hd (by rw [hc]; exact kk)
  · obtain ⟨q, z1, rfl⟩ := ak_v_cell hx h6
    refine ⟨_, upd2 _ hx, fun kk => ?_⟩
    rw [e1] at hw kk
    obtain ⟨⟨q', e'⟩, w1, w2⟩ := hh.2.2 u.2 c9 hlt hc9
    obtain ⟨fs, rfl, hl, -⟩ := ak_c_obj w2 h0
    rw [List.getElem?_map, w1] at z1
    cases z1
    rw [h9] at w1
    exact va_astq C.1.1 C.1.2.1 C.2.2.1.1 hP hD hS k 5 u.2 9 (r := vwCl[9]) hw rfl w1 rfl (vp_in_nI hn (by omega)) hd (by rw [hc]; exact kk)
end STORES
