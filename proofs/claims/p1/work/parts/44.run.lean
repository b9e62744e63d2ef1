/-! ===== methods ===== -/
/-- a run that is sound -/
def ak_X (ih : ai_X) : Prop := ∀ (d mid : Nat) (M : ai_M) (q : MethodName × ByteArray × Option FieldType × Nat), ai_tab[mid]? = some M → ak_mt[mid]? = some q → ∀ (ι : ak_I) (p : Program) (l : Launch) (e : Env) (R : Room) (s : State) (m : MethodId) (args : Array Value) (below : List Frame) (meth : Method) (c : Code), ak_C ι q.1 q.2.1 q.2.2.1 M d p l e R s m args below meth c → ∀ (pc : Nat) (rest : List ai_N), (∀ e ∈ rest, e ∈ M.2.1) → ak_Snd ι M (p, l, e, R, s, m, args, below, meth, c) pc (ih d M pc rest)
theorem lg_sl_one : ∀ {vs : List Value}, (∀ v ∈ vs, v.category = 1) → (lg_sl vs).length = vs.length ∧ ∀ (j i : Nat) (v : Value), vs[i]? = some v → (j + i, v) ∈ lv_args j vs := by
  intro vs
  induction vs with
  | nil => intro _; exact ⟨rfl, fun j i v h => by simp at h⟩
  | cons a vs ih =>
    intro h
    have ha : a.category = 1 := h a List.mem_cons_self
    obtain ⟨h1, h2⟩ := ih (fun v hv => h v (List.mem_cons_of_mem _ hv))
    refine ⟨?_, fun j i v hi => ?_⟩
    · have e : lg_sl (a :: vs) = [.val a] ++ lg_sl vs := by simp [lg_sl, ha]
      rw [e, List.length_append, h1]
      simp
      omega
    · have e : lv_args j (a :: vs) = (j, a) :: lv_args (j + 1) vs := by simp [lv_args, ha]
      rw [e]
      cases i with
      | zero => cases hi; exact List.mem_cons_self
      | succ i =>
        have := h2 (j + 1) i v hi
        rw [show j + 1 + i = j + (i + 1) by omega] at this
        exact List.mem_cons_of_mem _ this
theorem ak_s_at {ι : ak_I} {ads : List Nat} : ∀ {a : List ai_V} {vs : List Value}, ak_s ι ads a vs → a.length = vs.length ∧ ∀ (i : Nat) (u : ai_V), a[i]? = some u → ∃ v, vs[i]? = some v ∧ ak_v ι ads u v := by
  intro a
  induction a with
  | nil => intro vs h; rw [ak_s_nil h]; exact ⟨rfl, fun i u hu => by simp at hu⟩
  | cons u a ih =>
    intro vs h
    obtain ⟨v, vs, rfl, hv, h⟩ := ak_s_cons h
    obtain ⟨h1, h2⟩ := ih h
    refine ⟨by simp [h1], fun i w hw => ?_⟩
    cases i with
    | zero => cases hw; exact ⟨v, rfl, hv⟩
    | succ i => exact h2 i w hw
theorem ak_s_cat {ι : ak_I} {ads : List Nat} : ∀ {a : List ai_V} {vs : List Value}, ak_s ι ads a vs → (∀ v ∈ a, ai_in 3 4 v = false) → ∀ v ∈ vs, v.category = 1 := by
  intro a
  induction a with
  | nil => intro vs h _; rw [ak_s_nil h]; exact fun v hv => absurd hv List.not_mem_nil
  | cons u a ih =>
    intro vs h h34 w hw
    obtain ⟨v, vs, rfl, hv, h⟩ := ak_s_cons h
    rcases List.mem_cons.mp hw with rfl | hw
    · rw [ak_v_cat hv]
      have : ai_cat u = if ai_in 3 4 u = true then 2 else 1 := ak_if _ _ _
      rw [this, h34 u List.mem_cons_self]
      rfl
    · exact ih h (fun v hv => h34 v (List.mem_cons_of_mem _ hv)) w hw
/-- a method's contract out of its run -/
theorem ak_ofW {l : Launch} {y : MethodName} {ws ws' : List Cond} {rm : Room} {Pc : Array Value → State → Prop} {Qc : Array Value → State → Outcome → State → Prop} {mc ms : Nat} {free : Addr → Prop} {cc : ByteArray} {maxL : Nat} {ret : Option FieldType} (hy : plainFor y = true) (hw : ws = Cond.code y cc maxL ret :: ws') (body : ∀ p e s m args below meth c s₁, BodyLoose p l y (headSpec ws rm) cc maxL ret e s m args below meth c s₁ → c.maxLocals = maxL → Pc args s → W p l e (headSpec ws rm).room s m args below meth c s.heap [] 0 0 (MQ below Qc args s mc ms free) (entryFrame m args maxL)) : Met l y ws rm Pc Qc mc ms free := by
  refine Jvm.Free.MetFree.of_bodySF (code := cc) (maxLocals := maxL) (ret := ret) hy ?_ ?_
  · intro args s m h hn
    obtain ⟨meth, c, h1, h2, h3, h4, h5, h6, -, -⟩ := Cond.code_spec hn (atoms_spec (ws := ws) h _ (by rw [hw]; exact List.mem_cons_self))
    exact ⟨meth, c, h1, h2, h3, h4, h5, h6⟩
  · intro p e s m args below meth c s₁ B hml hP _
    have hh0 : s₁.heap = s.heap := by rw [B.state]; rfl
    obtain ⟨t, a1, o, b1, b2, b3⟩ := body p e s m args below meth c s₁ B hml hP s₁ hh0 (Stand.of_body B)
    exact ⟨t, o, a1, b1, b2, ⟨b3.1, b3.2⟩⟩
theorem ai_no8_ok {l : List ai_O} (h : ai_no8 l = true) : ∀ o ∈ l, ∀ k : Nat, o.1 ≠ some (8, k) := by
  induction l with
  | nil => intro o ho; cases ho
  | cons a tl ih =>
    have h1 : (@Option.rec ai_V (fun _ => Bool) (ai_no8 tl) (fun v => @Bool.rec (fun _ => Bool) (ai_no8 tl) false (Nat.beq v.1 8)) a.1) = true := h
    intro o ho k hk
    rcases List.mem_cons.mp ho with rfl | ho
    · rw [hk] at h1
      cases h1
    · cases ha : a.1 with
      | none => rw [ha] at h1; exact ih h1 o ho k hk
      | some v =>
        rw [ha] at h1
        simp only [ak_if, Nat.beq_eq] at h1
        split at h1
        · cases h1
        · exact ih h1 o ho k hk
/-- an end within a method's contract -/
theorem ak_end_of {ι : ak_I} {q : MethodName × ByteArray × Option FieldType × Nat} {M : ai_M} {d : Nat} {p : Program} {l : Launch} {e : Env} {R : Room} {s : State} {m : MethodId} {below : List Frame} {meth : Method} {c : Code} {ws : va_W} {avs : List Value} {os : List ai_O} {o : ai_O} (ho : o ∈ os) (h8 : ∀ k : Nat, o.1 ≠ some (8, k)) (C : ak_C (ι.1, ι.2.1, ι.2.2.1, ι.2.2.2.1, ι.2.2.2.2.1, ws.map Prod.fst) q.1 q.2.1 q.2.2.1 M d p l e R s m avs.toArray below meth c) : ak_End (ι.1, ι.2.1, ι.2.2.1, ι.2.2.2.1, ι.2.2.2.2.1, ws.map Prod.fst) M (p, l, e, R, s, m, avs.toArray, below, meth, c) (MQ below (ak_Q ι ws os) avs.toArray s M.2.2.1 M.2.2.2 (ak_A ι)) o := by
  intro ws' ls' H' locs' pc' nc ns v r1 r2 hP' hD' hpre hS' hh' he' hcase
  have post : ∀ (v : Option Value), ak_o ι (ws'.map Prod.fst) o.1 v → ∀ t : State, t.heap = H' → ak_Q ι ws os avs.toArray s (.returned v) t := fun v hv t ht => ⟨⟨o, ho, v, ws', rfl, hv, hh', he', hpre, by rw [ht]; exact hP', hD'⟩, hS'.F ht⟩
  rcases hcase with ⟨h1, rfl, h3, h4⟩ | ⟨u, x, h1, rfl, h3, ⟨ty, h4, h5⟩, h6⟩ | ⟨u, x, h1, rfl, h2, h3, ⟨ty, h4, h5⟩, h6⟩ | ⟨k, h1, -, -⟩
  · refine W.widen r1 r2 ?_
    exact W.vret C.1.1 rfl h3 (fun t ht _ => post none (Or.inl ⟨h1, rfl⟩) t ht) hS'.2.2 h4 C.2.1.2.2.1
  · refine W.widen r1 r2 ?_
    exact W.zret C.1.1 rfl h4 h5 (fun t ht _ => post _ (Or.inr ⟨u, _, h1, rfl, h3⟩) t ht) hS'.2.2 h6 C.2.1.2.2.1
  · refine W.widen r1 r2 ?_
    exact W.aret C.1.1 rfl h4 h5 h2 (fun t ht _ => post _ (Or.inr ⟨u, _, h1, rfl, h3⟩) t ht) hS'.2.2 h6 C.2.1.2.2.1
  · exact absurd h1 (h8 k)
/-- a method's contract out of its run -/
theorem ak_met_of {ih : ai_X} (hX : ak_X ih) {d mid : Nat} {M : ai_M} {q : MethodName × ByteArray × Option FieldType × Nat} (hT : ai_tab[mid]? = some M) (hq : ak_mt[mid]? = some q) (hy : ak_ym q.1 q.2.1 M.1 q.2.2.1) {a : List ai_V} {k : Nat} {hp : ai_H} {env : ai_E} {os : List ai_O} {loc : ai_L} (hl1 : loc.length = M.1) (hl2 : a.length ≤ M.1) (hl3 : ∀ v ∈ a, ai_in 3 4 v = false) (hl4 : ∀ (i : Nat) (v : ai_V), loc[i]? = some v → v.1 ≤ 7 → a[i]? = some v) (hrun : ih d M 0 M.2.1 loc [] (k, hp, env, 0, 0) = some os) (h8 : ∀ o ∈ os, ∀ k : Nat, o.1 ≠ some (8, k)) (l : Launch) (ι : ak_I) (ws : va_W) (avs : List Value) (hh : ak_h ι k hp ws) (hs : ak_s ι (ws.map Prod.fst) a avs) (he : ak_e ι env) : Met l q.1 (ak_Wd q.1 q.2.1 M.1 q.2.2.1) (ak_rm d M.2.2.1 M.2.2.2) (ak_Pc ι ws avs) (ak_Q ι ws os) M.2.2.1 M.2.2.2 (ak_A ι) := by
  refine ak_ofW (cc := q.2.1) (maxL := M.1) (ret := q.2.2.1) hy.2.2.2.2.2.1 rfl ?_
  intro p e s m args below meth c s₁ B hml hv
  obtain ⟨rfl, hb, hP, hD, hK, hE, hN⟩ := hv
  have hts := atoms_spec (ws := ak_Wd q.1 q.2.1 M.1 q.2.2.1) B.pre
  have C : ak_C (ι.1, ι.2.1, ι.2.2.1, ι.2.2.2.1, ι.2.2.2.2.1, ws.map Prod.fst) q.1 q.2.1 q.2.2.1 M d p l e (headSpec (ak_Wd q.1 q.2.1 M.1 q.2.2.1) (ak_rm d M.2.2.1 M.2.2.2)).room s m avs.toArray below meth c :=
    ⟨⟨B.exec, B.bytes, B.returns, hml⟩, ⟨findClass_of_methodNamed B.named, fun w hw => hts w (List.mem_cons_of_mem _ hw), B.notSynchronized, (name_of_methodNamed B.named B.method).1⟩, ⟨hK, hE, hb, hN⟩, Nat.le_refl _, Nat.le_refl _, rfl, rfl⟩
  have hcat := ak_s_cat hs hl3
  obtain ⟨g1, g2⟩ := lg_sl_one hcat
  obtain ⟨g3, g4⟩ := ak_s_at hs
  have hl := lv_entry avs (n := M.1) (by rw [g1, ← g3]; exact hl2)
  rw [lg_entry_eq]
  generalize (lg_sl avs ++ List.replicate (M.1 - (lg_sl avs).length) Slot.unset).toArray = ls at hl ⊢
  refine hX d mid M q hT hq _ p l e _ s m _ below meth c C 0 M.2.1 (fun _ h => h) loc [] (k, hp, env, 0, 0) os hrun _ ?_ ws ls [] s.heap [] ⟨hP, ⟨hD, List.prefix_rfl⟩, va_S.rf, hh, ⟨Nat.le_of_eq hl1, lv_args 0 avs, hl, fun i u hu h7 => ?_⟩, trivial, he⟩
  · intro o ho
    exact ak_end_of ho (h8 o ho) C
  · obtain ⟨v, v1, v2⟩ := g4 i u (hl4 i u hu h7)
    have := g2 0 i v v1
    rw [Nat.zero_add] at this
    exact ⟨v, this, v2, hcat v (List.mem_of_getElem? v1)⟩
section RUN
variable {ι : ak_I} {y : MethodName} {b : ByteArray} {rt : Option FieldType} {M : ai_M} {d : Nat} {p : Program} {l : Launch} {e : Env} {R : Room} {s : State} {m : MethodId} {args : Array Value} {below : List Frame} {meth : Method} {c : Code} {pc : Nat} {sq : ai_Q} {jm : Nat → ai_Q}
/-- the receiver's check asks nothing of what follows -/
theorem ai_rcv_some {mode ci : Nat} {w : ai_W} {a : List ai_V} {f : ai_P} {outs : List ai_O} (h : ai_rcv mode ci w a f = some outs) : f = some outs ∧ ai_rcv mode ci w a (some outs) = some outs := by
  have key : f = some outs := by
    simp only [ai_rcv, ak_if, Nat.ble_eq] at h
    split at h
    · cases a with
      | nil => cases h
      | cons v a =>
        simp only [ai_cel, ak_if, ai_nth_eq] at h
        split at h
        · split at h
          · revert h
            generalize w.2.1[Nat.sub w.1 (Nat.succ v.2)]? = z
            intro h
            cases z with
            | none => cases h
            | some z =>
              simp only [Option.elim, ak_and] at h
              split at h
              · exact h
              · cases h
          · cases h
        · cases h
    · split at h
      · cases a with
        | nil => cases h
        | cons v a =>
          simp only at h
          split at h
          · exact h
          · cases h
      · exact h
  exact ⟨key, by have h' := h; rw [key] at h'; exact h'⟩
theorem ah_call {ih : ai_X} (hX : ak_X ih) {mode mid k ci idx : Nat} {q : MethodName × ByteArray × Option FieldType × Nat} {M' : ai_M} (C : ak_C ι y b rt M d p l e R s m args below meth c) (hT : ai_tab[mid]? = some M') (hq : ak_mt[mid]? = some q) (hy : ak_ym q.1 q.2.1 M'.1 q.2.2.1) (hmd : ak_md mode y.cls idx q.1 ci) (hk : (parseMethodDescriptor q.1.desc).map (fun d => d.parameters.length) = some (if mode ≤ 3 then k - 1 else k)) (hdec : (mode ≤ 1 ∧ decode b pc = .ok (.invokevirtual idx, 3)) ∨ (2 ≤ mode ∧ mode ≤ 3 ∧ decode b pc = .ok (.invokespecial idx, 3)) ∨ (4 ≤ mode ∧ decode b pc = .ok (.invokestatic idx, 3))) (hs : ak_Snd ι M (p, l, e, R, s, m, args, below, meth, c) (pc + 3) sq) : ak_Snd ι M (p, l, e, R, s, m, args, below, meth, c) pc (ai_call mode mid k ci sq jm (ih, d, M, pc)) := by
  intro loc stk w outs h Q hQ ws ls st H locs hM
  obtain ⟨n, hp, env, nc, ns⟩ := w
  simp only [ai_call] at h
  obtain ⟨as, stk', rfl, hlen, h⟩ := ai_args_some h
  rw [List.append_nil] at h
  obtain ⟨h, hrcv⟩ := ai_rcv_some h
  simp only [ai_nth_eq, hT, Option.elim, ai_nt_eq, ai_call2, ak_if, ak_and, Nat.ble_eq] at h
  split at h
  · rename_i hh
    cases d with
    | zero => cases h
    | succ d' =>
      obtain ⟨loc', h, l1, l2, l3, l4⟩ := ai_ent_some h
      cases hr : ih d' M' 0 M'.2.1 loc' [] (n, hp, env, 0, 0) with
      | none => rw [hr] at h; cases h
      | some os =>
        rw [hr] at h
        simp only [ak_if] at h
        by_cases h8 : ai_no8 os = true
        case neg => rw [if_neg h8] at h; cases h
        rw [if_pos h8] at h
        have h8 := ai_no8_ok h8
        /- the arguments on the machine's stack -/
        have split2 : ∀ {as : List ai_V} {st : List Value}, ak_s ι (ws.map Prod.fst) (as ++ stk') st → ∃ xs rest : List Value, st = xs ++ rest ∧ ak_s ι (ws.map Prod.fst) as xs ∧ ak_s ι (ws.map Prod.fst) stk' rest := by
          intro as
          induction as with
          | nil => intro st h; exact ⟨[], st, rfl, trivial, h⟩
          | cons a as ih2 =>
            intro st h
            obtain ⟨x, st, rfl, hx, h⟩ := ak_s_cons h
            obtain ⟨xs, rest, rfl, h1, h2⟩ := ih2 h
            exact ⟨x :: xs, rest, rfl, ⟨hx, h1⟩, h2⟩
        obtain ⟨xs, rest, rfl, s1, s2⟩ := split2 hM.2.2.2.2.2.1
        have rev : ∀ {as bs : List ai_V} {xs zs : List Value}, ak_s ι (ws.map Prod.fst) as xs → ak_s ι (ws.map Prod.fst) bs zs → ak_s ι (ws.map Prod.fst) (as.reverse ++ bs) (xs.reverse ++ zs) := by
          intro as
          induction as with
          | nil => intro bs xs zs h1 h2; rw [ak_s_nil h1]; exact h2
          | cons a as ih2 =>
            intro bs xs zs h1 h2
            obtain ⟨x, xs, rfl, hx, h1⟩ := ak_s_cons h1
            have := ih2 (bs := a :: bs) (zs := x :: zs) h1 ⟨hx, h2⟩
            simpa using this
        have s3 : ak_s ι (ws.map Prod.fst) as.reverse xs.reverse := by
          have := rev s1 (show ak_s ι (ws.map Prod.fst) [] [] from trivial)
          simpa using this
        have hMet := ak_met_of hX hT hq hy l1 l2 l3 l4 hr h8 l ι ws xs.reverse hM.2.2.2.1 s3 hM.2.2.2.2.2.2
        have hls : ls.size = M.1 := by obtain ⟨-, lv, hl, -⟩ := hM.2.2.2.2.1; exact hl.1
        have hrc2 : ai_rcv mode ci (n, hp, env, nc, ns) as.reverse (some os) = some os := by
          have aux : ∀ (f : ai_P) (o1 o2 : List ai_O), ai_rcv mode ci (n, hp, env, nc, ns) as.reverse (some o1) = some o1 → ai_rcv mode ci (n, hp, env, nc, ns) as.reverse (some o2) = some o2 := by
            intro f o1 o2 h1
            simp only [ai_rcv, ak_if, Nat.ble_eq] at h1 ⊢
            split at h1
            · rename_i hm
              rw [if_pos hm]
              cases hz : as.reverse with
              | nil => rw [hz] at h1; cases h1
              | cons v a' =>
                rw [hz] at h1
                simp only [ai_cel, ak_if, ai_nth_eq] at h1 ⊢
                split at h1
                · rename_i c1
                  rw [if_pos c1]
                  split at h1
                  · rename_i c2
                    rw [if_pos c2]
                    revert h1
                    generalize hp[Nat.sub n (Nat.succ v.2)]? = z
                    intro h1
                    cases z with
                    | none => cases h1
                    | some z =>
                      simp only [Option.elim, ak_and] at h1 ⊢
                      split at h1
                      · rename_i c3; rw [if_pos c3]
                      · cases h1
                  · cases h1
                · cases h1
            · rename_i hm
              rw [if_neg hm]
              split at h1
              · rename_i hm3
                rw [if_pos hm3]
                cases hz : as.reverse with
                | nil => rw [hz] at h1; cases h1
                | cons v a' =>
                  rw [hz] at h1
                  simp only at h1 ⊢
                  split at h1
                  · rename_i c3; rw [if_pos c3]
                  · cases h1
              · rename_i hm3
                rw [if_neg hm3]
          exact aux none outs os hrcv
        have hrun := ah_run (pc := pc) (cells := nc) (slots := ns) (ls := ls) (rest := rest) C hy hmd hk hdec hM.1 hM.2.1.1 hM.2.2.1 hM.2.2.2.1 hlen s3 hrc2 hls (by rw [ak_s_sum s2]; exact hh.1) hh.2.1 hh.2.2 hMet
        rw [List.reverse_reverse] at hrun
        refine ak_go hrun hM.2.2.1 (fun o v u H1 locs1 ho q1 q2 q3 q4 q5 q6 q7 => ?_)
        obtain ⟨x, hx, hm⟩ := ai_all_some (f := ai_back (Nat.add nc M'.2.2.1) (Nat.add ns M'.2.2.2) stk' (sq loc)) h o (ai_uni_mem ho)
        obtain ⟨ov, on, oh, oe⟩ := o
        have base : ∀ (stk2 : List ai_V) (st2 : List Value), ak_s ι (u.map Prod.fst) stk2 st2 → ak_M ι s M.1 loc stk2 (on, oh, oe, nc + M'.2.2.1, ns + M'.2.2.2) u ls st2 H1 locs1 := fun stk2 st2 h2 => ⟨q5, ⟨q6, hM.2.1.2.trans q4⟩, q7, q2, ak_l_mono q4 hM.2.2.2.2.1, h2, q3⟩
        rcases q1 with ⟨e1, rfl⟩ | ⟨a, z, e1, rfl, e3⟩
        · have e1 : ov = none := e1
          subst e1
          exact hs _ _ _ _ hx Q (fun z hz => hQ z (hm z hz)) u ls _ H1 locs1 (base stk' rest (ak_s_mono q4 s2))
        · have e1 : ov = some a := e1
          subst e1
          exact hs _ _ _ _ hx Q (fun z hz => hQ z (hm z hz)) u ls _ H1 locs1 (base (a :: stk') (z :: rest) ⟨e3, ak_s_mono q4 s2⟩)
  · cases h
end RUN
