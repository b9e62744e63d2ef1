def ak_At (ι : ak_I) (M : ai_M) (φ : ak_Fr) (pc : Nat) (z : ai_Z) (outs : List ai_O) : Prop := ∀ Q : State → Prop, (∀ o ∈ outs, ak_End ι M φ Q o) → ∀ (ws : va_W) (ls : Array Slot) (st : List Value) (H : Heap) (locs : List Loc), ak_M ι φ.2.2.2.2.1 M.1 z.1 z.2.1 z.2.2 ws ls st H locs → ak_WW φ H locs z.2.2.2.2.2.1 z.2.2.2.2.2.2 Q (F0 φ.2.2.2.2.2.1 pc ls st)
/-- what is known of a state of a method; r: no more cells were there as it began -/
def ak_F (r d mid pc : Nat) (z : ai_Z) (ps : List ai_O) : Prop := ∀ (M : ai_M) (q : MethodName × ByteArray × Option FieldType × Nat), ai_tab[mid]? = some M → ak_mt[mid]? = some q → ∀ (ι : ak_I) (p : Program) (l : Launch) (e : Env) (R : Room) (s : State) (m : MethodId) (args : Array Value) (below : List Frame) (meth : Method) (c : Code), ι.2.2.2.2.2.length ≤ r → ak_C ι q.1 q.2.1 q.2.2.1 M d p l e R s m args below meth c → ak_At ι M (p, l, e, R, s, m, args, below, meth, c) pc z ps
/-- the same where G holds of the frame -/
def ak_FG (G : ak_I → ak_Fr → Prop) (r d mid pc : Nat) (z : ai_Z) (ps : List ai_O) : Prop := ∀ (M : ai_M) (q : MethodName × ByteArray × Option FieldType × Nat), ai_tab[mid]? = some M → ak_mt[mid]? = some q → ∀ (ι : ak_I) (p : Program) (l : Launch) (e : Env) (R : Room) (s : State) (m : MethodId) (args : Array Value) (below : List Frame) (meth : Method) (c : Code), G ι (p, l, e, R, s, m, args, below, meth, c) → ι.2.2.2.2.2.length ≤ r → ak_C ι q.1 q.2.1 q.2.2.1 M d p l e R s m args below meth c → ak_At ι M (p, l, e, R, s, m, args, below, meth, c) pc z ps
theorem ak_F.g {G : ak_I → ak_Fr → Prop} {r d mid pc : Nat} {z : ai_Z} {ps : List ai_O} (h : ak_F r d mid pc z ps) : ak_FG G r d mid pc z ps := fun M q h1 h2 ι p l e R s m args below meth c _ => h M q h1 h2 ι p l e R s m args below meth c
theorem ai_a2_ok {α : Type} {f : α → α → Bool} : ∀ {l k : List α}, ai_a2 f l k = true → l.length = k.length ∧ ∀ (i : Nat) (a b : α), l[i]? = some a → k[i]? = some b → f a b = true
  | [], [], _ => ⟨rfl, fun i a b h => by cases h⟩
  | [], _ :: _, h => by cases h
  | _ :: _, [], h => by cases h
  | a :: l, b :: k, h => by
    have h1 : (@Bool.rec (fun _ => Bool) false (ai_a2 f l k) (f a b)) = true := h
    rw [ak_if, ak_and] at h1
    obtain ⟨e1, e2⟩ := ai_a2_ok h1.2
    refine ⟨by simp [e1], fun i x y hx hy => ?_⟩
    cases i with
    | zero => cases hx; cases hy; exact h1.1
    | succ i => exact e2 i x y hx hy
theorem ak_and2 {a b : Bool} (h : (@Bool.rec (fun _ => Bool) false b a) = true) : a = true ∧ b = true := by
  cases a with
  | false => cases h
  | true => exact ⟨rfl, h⟩
theorem ai_a2_eq {α : Type} {f : α → α → Bool} (hf : ∀ a b, f a b = true → a = b) {l k : List α} (h : ai_a2 f l k = true) : l = k := by
  obtain ⟨h1, h2⟩ := ai_a2_ok h
  apply List.ext_getElem h1
  intro i p q
  exact hf _ _ (h2 i _ _ (List.getElem?_eq_getElem p) (List.getElem?_eq_getElem q))
theorem ai_eqC_ok {c d : ai_C} (h : ai_eqC c d = true) : c = d := by
  obtain ⟨h1, h⟩ := ak_and2 h
  obtain ⟨h2, h⟩ := ak_and2 h
  obtain ⟨h3, h⟩ := ak_and2 h
  have h4 := ai_a2_eq (fun a b h => by
    obtain ⟨g1, g2⟩ := ak_and2 h
    rw [ai_eqV_iff] at g2
    exact Prod.ext (Nat.eq_of_beq_eq_true g1) g2) h
  rw [ai_eqV_iff] at h3
  exact Prod.ext (Nat.eq_of_beq_eq_true h1) (Prod.ext (Nat.eq_of_beq_eq_true h2) (Prod.ext h3 h4))
theorem ai_leC_ok {ι : ak_I} {ads : List Nat} {c d : ai_C} {e : va_E} (h : ai_leC c d = true) (hc : ak_c ι ads c e) : ak_c ι ads d e := by
  have h1 : (@Bool.rec (fun _ => Bool) (ai_eqC c d) true (Nat.beq d.1 9)) = true := h
  rw [ak_if] at h1
  split at h1
  · rename_i h9; exact Or.inl (Nat.eq_of_beq_eq_true h9)
  · rw [← ai_eqC_ok h1]; exact hc
theorem ai_leH_ok {ι : ak_I} {n : Nat} {h h' : ai_H} {ws : va_W} (hl : ai_a2 ai_leC h h' = true) (hh : ak_h ι n h ws) : ak_h ι n h' ws := by
  obtain ⟨e1, e2⟩ := ai_a2_ok hl
  refine ⟨e1 ▸ hh.1, hh.2.1, fun k c hk hc => ?_⟩
  have hlt : n - (k + 1) < h.length := by rw [hh.1]; omega
  obtain ⟨q, q1, q2⟩ := hh.2.2 k _ hk (List.getElem?_eq_getElem hlt)
  exact ⟨q, q1, ai_leC_ok (e2 _ _ _ (List.getElem?_eq_getElem hlt) hc) q2⟩
theorem ai_leE_ok {ι : ak_I} {e e' : ai_E} (hl : ai_a2 ai_leE e e' = true) (h : ak_e ι e) : ak_e ι e' := by
  obtain ⟨e1, e2⟩ := ai_a2_ok hl
  intro k q hq
  have hlt : k < e.length := by rw [e1]; exact (List.getElem?_eq_some_iff.mp hq).1
  obtain ⟨g1, g2⟩ := ak_and2 (e2 k _ _ (List.getElem?_eq_getElem hlt) hq)
  obtain ⟨b1, b2⟩ := h k _ (List.getElem?_eq_getElem hlt)
  exact ⟨Nat.le_trans (Nat.le_of_ble_eq_true g1) b1, Nat.le_trans b2 (Nat.le_of_ble_eq_true g2)⟩
theorem ai_leV_ok {ι : ak_I} {ads : List Nat} {env : ai_E} {u v : ai_V} {x : Value} (he : ak_e ι env) (h : ai_leV env u v = true) (hu : ak_v ι ads u x) : ak_v ι ads v x := by
  have h1 : (@Bool.rec (fun _ => Bool) (@Bool.rec (fun _ => Bool) (@Bool.rec (fun _ => Bool) false (ai_nth env false (fun q => @Bool.rec (fun _ => Bool) false (Nat.beq (ai_b q.1) u.2) (Nat.beq q.1 q.2)) v.2) (@Bool.rec (fun _ => Bool) false (Nat.beq v.1 1) (Nat.beq u.1 0))) (Nat.ble u.1 2) (Nat.beq v.1 2)) true (ai_eqV u v)) = true := h
  rw [ak_if, ak_if] at h1
  split at h1
  · rename_i h2; rw [ai_eqV_iff] at h2; exact h2 ▸ hu
  · split at h1
    · rename_i h2
      obtain ⟨y, rfl, -, -⟩ := ak_v_int hu (Nat.le_of_ble_eq_true h1)
      exact Or.inr (Or.inr (Or.inl ⟨Nat.eq_of_beq_eq_true h2, y, rfl⟩))
    · obtain ⟨h3, h4⟩ := ak_and2 h1
      obtain ⟨h5, h6⟩ := ak_and2 h3
      have h5 := Nat.eq_of_beq_eq_true h5
      have h6 := Nat.eq_of_beq_eq_true h6
      rw [ai_nth_eq] at h4
      cases hk : env[v.2]? with
      | none => rw [hk] at h4; cases h4
      | some q =>
        rw [hk] at h4
        obtain ⟨h7, h8⟩ := ak_and2 h4
        have h7 := Nat.eq_of_beq_eq_true h7
        have h8 := Nat.eq_of_beq_eq_true h8
        obtain ⟨b1, b2⟩ := he _ _ hk
        have eb : ak_b (ι.2.2.2.2.1 v.2) = q.1 := Nat.le_antisymm (by omega) b1
        obtain ⟨y, rfl, h0, -⟩ := ak_v_int hu (by omega)
        refine Or.inr (Or.inl ⟨h6, ?_⟩)
        rw [h0 h5, ← h8, ← eb, ← ak_of_b]
theorem ai_leS_ok {ι : ak_I} {ads : List Nat} {env : ai_E} (he : ak_e ι env) : ∀ {l k : List ai_V} {st : List Value}, ai_a2 (ai_leV env) l k = true → ak_s ι ads l st → ak_s ι ads k st
  | [], [], st, _, hs => by rw [ak_s_nil hs]; trivial
  | [], _ :: _, _, h, _ => by cases h
  | _ :: _, [], _, h, _ => by cases h
  | a :: l, b :: k, st, h, hs => by
    have h1 : (@Bool.rec (fun _ => Bool) false (ai_a2 (ai_leV env) l k) (ai_leV env a b)) = true := h
    obtain ⟨g1, g2⟩ := ak_and2 h1
    obtain ⟨x, st', rfl, hx, hs⟩ := ak_s_cons hs
    exact ⟨ai_leV_ok he g1 hx, ai_leS_ok he g2 hs⟩
theorem ai_leL_ok {ι : ak_I} {ads : List Nat} {env : ai_E} (he : ak_e ι env) {loc loc' : ai_L} {nL : Nat} {ls : Array Slot} (h : ai_a2 (ai_leL env) loc loc' = true) (hl : ak_l ι ads loc nL ls) : ak_l ι ads loc' nL ls := by
  obtain ⟨e1, e2⟩ := ai_a2_ok h
  obtain ⟨h1, lv, h2, h3⟩ := hl
  refine ⟨e1 ▸ h1, lv, h2, fun i a hi ha => ?_⟩
  have hlt : i < loc.length := by rw [e1]; exact (List.getElem?_eq_some_iff.mp hi).1
  have g : (@Bool.rec (fun _ => Bool) (ai_leV env loc[i] a) true (Nat.ble 8 a.1)) = true := e2 i _ _ (List.getElem?_eq_getElem hlt) hi
  simp only [ak_if, Nat.ble_eq] at g
  rw [if_neg (by omega)] at g
  have h8 : (loc[i]).1 ≤ 7 := by
    have h1 : (@Bool.rec (fun _ => Bool) (@Bool.rec (fun _ => Bool) (@Bool.rec (fun _ => Bool) false (ai_nth env false (fun q => @Bool.rec (fun _ => Bool) false (Nat.beq (ai_b q.1) (loc[i]).2) (Nat.beq q.1 q.2)) a.2) (@Bool.rec (fun _ => Bool) false (Nat.beq a.1 1) (Nat.beq (loc[i]).1 0))) (Nat.ble (loc[i]).1 2) (Nat.beq a.1 2)) true (ai_eqV loc[i] a)) = true := g
    rw [ak_if, ak_if] at h1
    split at h1
    · rename_i h2; rw [ai_eqV_iff] at h2; rw [h2]; exact ha
    · split at h1
      · have := Nat.le_of_ble_eq_true h1; omega
      · obtain ⟨h3, h4⟩ := ak_and2 h1
        obtain ⟨h5, h6⟩ := ak_and2 h3
        have h5 := Nat.eq_of_beq_eq_true h5
        omega
  obtain ⟨v, m1, m2, m3⟩ := h3 i _ (List.getElem?_eq_getElem hlt) h8
  exact ⟨v, m1, ai_leV_ok he g m2, m3⟩
theorem ai_leZ_ok {ι : ak_I} {s : State} {nL : Nat} {loc : ai_L} {stk : List ai_V} {w : ai_W} {z : ai_Z} {ws : va_W} {ls : Array Slot} {st : List Value} {H : Heap} {locs : List Loc} (h : ai_leZ loc stk w z = true) (hM : ak_M ι s nL loc stk w ws ls st H locs) : ak_M ι s nL z.1 z.2.1 z.2.2 ws ls st H locs ∧ w.2.2.2.1 ≤ z.2.2.2.2.2.1 ∧ w.2.2.2.2 ≤ z.2.2.2.2.2.2 := by
  obtain ⟨h1, h⟩ := ak_and2 h
  obtain ⟨h2, h⟩ := ak_and2 h
  obtain ⟨h3, h⟩ := ak_and2 h
  obtain ⟨h4, h⟩ := ak_and2 h
  obtain ⟨h5, h6⟩ := ak_and2 h
  obtain ⟨h7, h8⟩ := ak_and2 h5
  obtain ⟨m1, m2, m3, m4, m5, m6, m7⟩ := hM
  refine ⟨⟨m1, m2, m3, ?_, ai_leL_ok m7 h3 m5, ai_leS_ok m7 h2 m6, ai_leE_ok h4 m7⟩, Nat.le_of_ble_eq_true h7, Nat.le_of_ble_eq_true h8⟩
  rw [← Nat.eq_of_beq_eq_true h1]
  exact ai_leH_ok h6 m4
theorem ai_dd_ok {h : ai_H} (hd : ai_dd h = true) : ∀ (k : Nat) (c : ai_C), h[k]? = some c → c.1 = 9 := by
  induction h with
  | nil => intro k c hc; cases hc
  | cons a tl ih =>
    have h1 : (@Bool.rec (fun _ => Bool) false (ai_dd tl) (Nat.beq a.1 9)) = true := hd
    obtain ⟨g1, g2⟩ := ak_and2 h1
    intro k c hc
    cases k with
    | zero => cases hc; exact Nat.eq_of_beq_eq_true g1
    | succ k => exact ih g2 k c hc
theorem ai_leO_ok {ι : ak_I} {M : ai_M} {φ : ak_Fr} {Q : State → Prop} {nz : Nat} {o o' : ai_O} (hnz : ι.2.2.2.2.2.length ≤ nz) (h : ai_leO nz o o' = true) (hE : ak_End ι M φ Q o') : ak_End ι M φ Q o := by
  obtain ⟨h1, h⟩ := ak_and2 h
  obtain ⟨h2, h⟩ := ak_and2 h
  obtain ⟨h3, h4⟩ := ak_and2 h
  have h3 := Nat.le_of_ble_eq_true h3
  simp only [ak_if, Nat.beq_eq] at h4
  intro ws ls H locs pc nc ns v hnc hns hP hD hads hS hh he hv
  have hv' : ∀ ws' : va_W, (o'.1 = none ∧ v = none ∧ φ.2.2.2.2.2.2.2.2.1.sig.returnType = none ∧ decode φ.2.2.2.2.2.2.2.2.2.code pc = .ok (.return_, 1)) ∨ (∃ (a : ai_V) (x : Int32), o'.1 = some a ∧ v = some (.int x) ∧ ak_v ι (ws'.map Prod.fst) a (.int x) ∧ (∃ ty, φ.2.2.2.2.2.2.2.2.1.sig.returnType = some ty ∧ narrow ty (.int x) = .int x) ∧ decode φ.2.2.2.2.2.2.2.2.2.code pc = .ok (.ireturn, 1)) ∨ (∃ k : Nat, o'.1 = some (8, k) ∧ v = none ∧ pc = k ∧ ls.size = M.1 ∧ nc = 0 ∧ ns = 0) := by
    intro ws'
    rcases hv with ⟨a1, a2, a3, a4⟩ | ⟨a, x, a1, a2, a3, a4, a5⟩ | ⟨a, x, a1, a2, a3, a4, a5, a6⟩ | ⟨k, a1, a2, a3⟩
    · rw [a1] at h1
      cases ho : o'.1 with
      | none => exact Or.inl ⟨rfl, a2, a3, a4⟩
      | some u => rw [ho] at h1; cases h1
    · rw [a1] at h1
      cases ho : o'.1 with
      | none => rw [ho] at h1; cases h1
      | some u =>
        rw [ho] at h1
        have h1 : (@Bool.rec (fun _ => Bool) (@Bool.rec (fun _ => Bool) false (ai_leV o.2.2.2 a u) (Nat.ble u.1 2)) (ai_eqV a u) (Nat.beq u.1 8)) = true := h1
        rw [ak_if] at h1
        split at h1
        · rename_i hu8
          rw [ai_eqV_iff] at h1
          subst h1
          have hu8 := Nat.eq_of_beq_eq_true hu8
          rcases a3 with ⟨b, c⟩ | ⟨b, c⟩ | ⟨b, c⟩ | ⟨b, c⟩ | ⟨b, c⟩ | ⟨b, c⟩ | ⟨b, c⟩ | ⟨b, c⟩ <;> omega
        obtain ⟨g1, g2⟩ := ak_and2 h1
        have g3 := ai_leV_ok he g2 a3
        refine Or.inr (Or.inl ⟨u, x, rfl, a2, ?_, a4, a5⟩)
        have g1 := Nat.le_of_ble_eq_true g1
        rcases g3 with ⟨b, c⟩ | ⟨b, c⟩ | ⟨b, c⟩ | ⟨b, c⟩ | ⟨b, y, c⟩ | ⟨b, c⟩ | ⟨b, y, -, c⟩ | ⟨b, c⟩ <;> first | cases c | skip
        · exact Or.inl ⟨b, rfl⟩
        · exact Or.inr (Or.inl ⟨b, rfl⟩)
        · exact Or.inr (Or.inr (Or.inl ⟨b, x, rfl⟩))
    · rw [a1] at h1
      cases ho : o'.1 with
      | none => rw [ho] at h1; cases h1
      | some u =>
        rw [ho] at h1
        have h1 : (@Bool.rec (fun _ => Bool) (@Bool.rec (fun _ => Bool) false (ai_leV o.2.2.2 a u) (Nat.ble u.1 2)) (ai_eqV a u) (Nat.beq u.1 8)) = true := h1
        rw [ak_if] at h1
        split at h1
        · rename_i hu8
          rw [ai_eqV_iff] at h1
          subst h1
          have hu8 := Nat.eq_of_beq_eq_true hu8
          rcases a4 with ⟨b, c⟩ | ⟨b, c⟩ | ⟨b, c⟩ | ⟨b, c⟩ | ⟨b, c⟩ | ⟨b, c⟩ | ⟨b, c⟩ | ⟨b, c⟩ <;> omega
        obtain ⟨g1, g2⟩ := ak_and2 h1
        have g3 := ai_leV_ok he g2 a4
        obtain ⟨y, hy, -, -⟩ := ak_v_int g3 (Nat.le_of_ble_eq_true g1)
        rcases a3 with rfl | ⟨q, rfl⟩ <;> cases hy
    · rw [a1] at h1
      cases ho : o'.1 with
      | none => rw [ho] at h1; cases h1
      | some u =>
        rw [ho] at h1
        have h1 : (@Bool.rec (fun _ => Bool) (@Bool.rec (fun _ => Bool) false (ai_leV o.2.2.2 (8, k) u) (Nat.ble u.1 2)) (ai_eqV (8, k) u) (Nat.beq u.1 8)) = true := h1
        rw [ak_if] at h1
        split at h1
        · rw [ai_eqV_iff] at h1
          subst h1
          exact Or.inr (Or.inr ⟨k, rfl, a2, a3⟩)
        · obtain ⟨g1, g2⟩ := ak_and2 h1
          have h3 : (@Bool.rec (fun _ => Bool) (@Bool.rec (fun _ => Bool) (@Bool.rec (fun _ => Bool) false (ai_nth o.2.2.2 false (fun q => @Bool.rec (fun _ => Bool) false (Nat.beq (ai_b q.1) k) (Nat.beq q.1 q.2)) u.2) (@Bool.rec (fun _ => Bool) false (Nat.beq u.1 1) (Nat.beq 8 0))) (Nat.ble 8 2) (Nat.beq u.1 2)) true (ai_eqV (8, k) u)) = true := g2
          rw [ak_if, ak_if] at h3
          split at h3
          · rename_i h4; rw [ai_eqV_iff] at h4; subst h4; rename_i h5; exact absurd rfl h5
          · split at h3
            · cases h3
            · have h5 : (false : Bool) = true := h3
              cases h5
  by_cases hn : o.2.1 = o'.2.1
  · rw [if_pos hn] at h4
    rcases hv' ws with k | k | k
    · exact hE ws ls H locs pc nc ns v hnc hns hP hD hads hS (hn ▸ ai_leH_ok h4 hh) (ai_leE_ok h2 he) (Or.inl k)
    · exact hE ws ls H locs pc nc ns v hnc hns hP hD hads hS (hn ▸ ai_leH_ok h4 hh) (ai_leE_ok h2 he) (Or.inr (Or.inl k))
    · exact hE ws ls H locs pc nc ns v hnc hns hP hD hads hS (hn ▸ ai_leH_ok h4 hh) (ai_leE_ok h2 he) (Or.inr (Or.inr (Or.inr k)))
  · rw [if_neg hn] at h4
    simp only [ak_and, Nat.ble_eq] at h4
    obtain ⟨g1, g3, g4⟩ := h4
    rw [ai_len_eq] at g3
    have gt : ∀ (k : Nat) (q : Nat × va_E), (ws.take o'.2.1)[k]? = some q → ws[k]? = some q := by
      intro k q hk
      rw [List.getElem?_take] at hk
      split at hk
      · exact hk
      · cases hk
    have hP' : va_P ι.2.1 vwCl (ws.take o'.2.1) H := fun k q hk => hP k q (gt k q hk)
    have hD' : va_D (ak_A ι) (ws.take o'.2.1) := ⟨fun i j a b ha hb he => hD.1 i j a b (gt i a ha) (gt j b hb) he, fun k q hk => hD.2 k q (gt k q hk)⟩
    have ha' : ι.2.2.2.2.2 <+: (ws.take o'.2.1).map Prod.fst := by
      rw [List.map_take]
      exact List.prefix_take_iff.mpr ⟨hads, by omega⟩
    have hh' : ak_h ι o'.2.1 o'.2.2.1 (ws.take o'.2.1) := by
      have hlen : (ws.take o'.2.1).length = o'.2.1 := by rw [List.length_take, hh.2.1]; omega
      refine ⟨g3, hlen, fun k c hk hc => ?_⟩
      have : k < (ws.take o'.2.1).length := by omega
      exact ⟨_, List.getElem?_eq_getElem this, Or.inl (ai_dd_ok g4 _ c hc)⟩
    rcases hv' (ws.take o'.2.1) with k | k | k
    · exact hE _ ls H locs pc nc ns v hnc hns hP' hD' ha' hS hh' (ai_leE_ok h2 he) (Or.inl k)
    · exact hE _ ls H locs pc nc ns v hnc hns hP' hD' ha' hS hh' (ai_leE_ok h2 he) (Or.inr (Or.inl k))
    · exact hE _ ls H locs pc nc ns v hnc hns hP' hD' ha' hS hh' (ai_leE_ok h2 he) (Or.inr (Or.inr (Or.inr k)))
theorem ai_any_ok {nz : Nat} {o : ai_O} {ps : List ai_O} (h : ai_any nz o ps = true) : ∃ p ∈ ps, ai_leO nz o p = true := by
  induction ps with
  | nil => cases h
  | cons p tl ih =>
    have h1 : (@Bool.rec (fun _ => Bool) (ai_any nz o tl) true (ai_leO nz o p)) = true := h
    rw [ak_if] at h1
    split at h1
    · rename_i h2; exact ⟨p, List.mem_cons_self, h2⟩
    · obtain ⟨q, q1, q2⟩ := ih h1; exact ⟨q, List.mem_cons_of_mem _ q1, q2⟩
theorem ai_cov_ok {nz : Nat} {ps os : List ai_O} (h : ai_cov nz ps os = true) : ∀ o ∈ os, ∃ p ∈ ps, ai_leO nz o p = true := by
  induction os with
  | nil => intro o ho; cases ho
  | cons a tl ih =>
    have h1 : (@Bool.rec (fun _ => Bool) false (ai_cov nz ps tl) (ai_any nz a ps)) = true := h
    obtain ⟨g1, g2⟩ := ak_and2 h1
    intro o ho
    rcases List.mem_cons.mp ho with rfl | ho
    · exact ai_any_ok g1
    · exact ih g2 o ho
theorem ak_At.weak {ι : ak_I} {M : ai_M} {φ : ak_Fr} {pc r : Nat} {z : ai_Z} {os ps : List ai_O} (hn : ι.2.2.2.2.2.length ≤ r) (h : ai_cov r ps os = true) (hA : ak_At ι M φ pc z os) : ak_At ι M φ pc z ps := by
  intro Q hQ ws ls st H locs hM
  refine hA Q (fun o ho => ?_) ws ls st H locs hM
  obtain ⟨p, p1, p2⟩ := ai_cov_ok h o ho
  exact ai_leO_ok hn p2 (hQ p p1)
theorem ak_M.few {ι : ak_I} {s : State} {nL : Nat} {loc : ai_L} {stk : List ai_V} {w : ai_W} {ws : va_W} {ls : Array Slot} {st : List Value} {H : Heap} {locs : List Loc} (hM : ak_M ι s nL loc stk w ws ls st H locs) : ι.2.2.2.2.2.length ≤ w.1 := by
  have h1 := hM.2.1.2.length_le
  have h2 := hM.2.2.2.1.2.1
  rw [List.length_map, h2] at h1
  exact h1
theorem ak_At.under {ι : ak_I} {M : ai_M} {φ : ak_Fr} {pc : Nat} {loc : ai_L} {stk : List ai_V} {w : ai_W} {z : ai_Z} {os : List ai_O} (h : ai_leZ loc stk w z = true) (hA : ak_At ι M φ pc z os) : ak_At ι M φ pc (loc, stk, w) os := by
  intro Q hQ ws ls st H locs hM
  obtain ⟨h1, h2, h3⟩ := ai_leZ_ok h hM
  exact W.widen h2 h3 (hA Q hQ ws ls st H locs h1)
theorem ai_stp_ok {ι : ak_I} {M : ai_M} {φ : ak_Fr} {pc : Nat} {loc : ai_L} {stk : List ai_V} {w : ai_W} {n : ai_P} {ts : List ai_T} (hts : ∀ t ∈ ts, ak_At ι M φ t.1 t.2.1 t.2.2) {os : List ai_O} (h : ai_stp ts pc loc stk w n = some os) : n = some os ∨ ak_At ι M φ pc (loc, stk, w) os := by
  induction ts with
  | nil => exact Or.inl h
  | cons t tl ih =>
    have h1 : (@Bool.rec (fun _ => ai_P) (ai_stp tl pc loc stk w n) (@Bool.rec (fun _ => ai_P) (ai_stp tl pc loc stk w n) (some t.2.2) (ai_leZ loc stk w t.2.1)) (Nat.beq t.1 pc)) = some os := h
    have ih := ih (fun t ht => hts t (List.mem_cons_of_mem _ ht))
    rw [ak_if, ak_if] at h1
    split at h1
    · rename_i hp
      split at h1
      · rename_i hz
        cases h1
        refine Or.inr ?_
        rw [← Nat.eq_of_beq_eq_true hp]
        exact ak_At.under hz (hts t List.mem_cons_self)
      · exact ih h1
    · exact ih h1
section TOP
variable {ι : ak_I} {q : MethodName × ByteArray × Option FieldType × Nat} {M : ai_M} {d mid : Nat} {p : Program} {l : Launch} {e : Env} {R : Room} {s : State} {m : MethodId} {args : Array Value} {below : List Frame} {meth : Method} {c : Code} {X : ai_X} {ts : List ai_T}
theorem ai_nxt_ok {ih : ai_X} (hg : ak_glob) (ho : ak_ordw) (ht : ak_tabok) (hX : ak_X X) (hT : ai_tab[mid]? = some M) (hq : ak_mt[mid]? = some q) (C : ak_C ι q.1 q.2.1 q.2.2.1 M d p l e R s m args below meth c) (hih : ∀ (pc : Nat) (rest : List ai_N), (∀ e ∈ rest, e ∈ M.2.1) → ak_Snd ι M (p, l, e, R, s, m, args, below, meth, c) pc (ih d M pc rest)) (pc : Nat) (rest : List ai_N) (hr : ∀ e ∈ rest, e ∈ M.2.1) : ak_Snd ι M (p, l, e, R, s, m, args, below, meth, c) pc (ai_nxt X ih d M pc rest) := by
  intro loc stk w outs h Q hQ ws ls st H locs hM
  cases rest with
  | nil => cases h
  | cons en tl =>
    simp only [ai_nxt, ak_if, Nat.beq_eq] at h
    split at h
    · rename_i hpc
      subst hpc
      simp only [ai_one2, ak_op] at h
      cases hh : ai_h en with
      | none => rw [hh] at h; cases h
      | some hd =>
        rw [hh] at h
        exact ah_one (sq := ih d M (Nat.add en.1 en.2.2.1) tl) (jm := ai_jm ih d M) hX hg ho C (ht mid M q hT hq en (hr en List.mem_cons_self)) hh (hih _ tl (fun e he => hr e (List.mem_cons_of_mem _ he))) (fun t => hih t _ (fun e he => ai_seek_mem t M.2.1 e he)) loc stk w outs h Q hQ ws ls st H locs hM
    · cases h
theorem ai_top_ok (hg : ak_glob) (ho : ak_ordw) (ht : ak_tabok) (hX : ak_X X) (hT : ai_tab[mid]? = some M) (hq : ak_mt[mid]? = some q) (C : ak_C ι q.1 q.2.1 q.2.2.1 M d p l e R s m args below meth c) (hts : ∀ t ∈ ts, ak_At ι M (p, l, e, R, s, m, args, below, meth, c) t.1 t.2.1 t.2.2) : ∀ (n pc : Nat) (rest : List ai_N), (∀ e ∈ rest, e ∈ M.2.1) → ak_Snd ι M (p, l, e, R, s, m, args, below, meth, c) pc (ai_top X ts n d M pc rest) := by
  intro n
  induction n with
  | zero => intro pc rest hr loc stk w outs h; cases h
  | succ n ih =>
    intro pc rest hr loc stk w outs h
    have h1 : ai_stp ts pc loc stk w (ai_nxt X (ai_top X ts n) d M pc rest loc stk w) = some outs := h
    rcases ai_stp_ok hts h1 with h2 | h2
    · exact ai_nxt_ok hg ho ht hX hT hq C ih pc rest hr loc stk w outs h2
    · exact h2
end TOP
theorem ai_go_okG {G : ak_I → ak_Fr → Prop} {X : ai_X} {ts : List ai_T} {n r d mid pc : Nat} {M : ai_M} {z : ai_Z} {ps : List ai_O} (hg : ak_glob) (ho : ak_ordw) (ht : ak_tabok) (hX : ak_X X) (hT : ai_tab[mid]? = some M) (hts : ∀ t ∈ ts, ak_FG G r d mid t.1 t.2.1 t.2.2) (h : ai_go X ts n r d M pc z ps = true) : ak_FG G r d mid pc z ps := by
  intro M' q hT' hq ι p l e R s m args below meth c hG hn C
  cases hT.symm.trans hT'
  have h1 : (@Option.rec _ (fun _ => Bool) false (fun os => ai_cov r ps os) (ai_nxt X (ai_top X ts n) d M pc (ai_seek pc M.2.1) z.1 z.2.1 z.2.2)) = true := h
  cases hr : ai_nxt X (ai_top X ts n) d M pc (ai_seek pc M.2.1) z.1 z.2.1 z.2.2 with
  | none => rw [hr] at h1; cases h1
  | some os =>
    rw [hr] at h1
    refine ak_At.weak hn h1 ?_
    exact ai_nxt_ok hg ho ht hX hT hq C (ai_top_ok hg ho ht hX hT hq C (fun t h => hts t h M q hT hq ι p l e R s m args below meth c hG hn C) n) pc (ai_seek pc M.2.1) (ai_seek_mem pc M.2.1) z.1 z.2.1 z.2.2 os hr
theorem ai_go_ok {X : ai_X} {ts : List ai_T} {n r d mid pc : Nat} {M : ai_M} {z : ai_Z} {ps : List ai_O} (hg : ak_glob) (ho : ak_ordw) (ht : ak_tabok) (hX : ak_X X) (hT : ai_tab[mid]? = some M) (hts : ∀ t ∈ ts, ak_F r d mid t.1 t.2.1 t.2.2) (h : ai_go X ts n r d M pc z ps = true) : ak_F r d mid pc z ps := fun M' q h1 h2 ι p l e R s m args below meth c hn C => ai_go_okG (G := fun _ _ => True) hg ho ht hX hT (fun t h M q h1 h2 ι p l e R s m args below meth c _ => hts t h M q h1 h2 ι p l e R s m args below meth c) h M' q h1 h2 ι p l e R s m args below meth c trivial hn C
/-- at a stop on the way there is nothing to show -/
theorem ak_hook {r d mid pc n : Nat} {l : ai_L} {h : ai_H} {env : ai_E} : ak_F r d mid pc (l, [], n, h, env, 0, 0) [(some (8, pc), n, h, env)] := by
  intro M q hT hq ι p l e R s m args below meth c hn C Q hQ ws ls st H locs hM
  obtain ⟨m1, m2, m3, m4, m5, m6, m7⟩ := hM
  obtain rfl := ak_s_nil m6
  exact hQ _ List.mem_cons_self ws ls H locs pc 0 0 none (Nat.zero_le _) (Nat.zero_le _) m1 m2.1 m2.2 m3 m4 m7 (Or.inr (Or.inr (Or.inr ⟨pc, rfl, rfl, rfl, by obtain ⟨-, lv, hl, -⟩ := m5; exact hl.1, rfl, rfl⟩)))
/-- an oracle's word is good -/
def ak_U (u : ai_U) : Prop := ∃ mid : Nat, (∀ (mid' : Nat) (M : ai_M), ai_tab[mid']? = some M → ai_key u.1 M = true → mid' = mid) ∧ ak_F u.2.2.2.1.1 u.2.1 mid 0 (u.2.2.1, [], u.2.2.2.1) u.2.2.2.2
theorem ai_orc_ok {us : List ai_U} {X : ai_X} (hX : ak_X X) (hus : ∀ u ∈ us, ak_U u) : ak_X (ai_orc us X) := by
  intro d mid M q hT hq ι p l e R s m args below meth c C pc rest hr loc stk w outs h
  have h1 : (@Bool.rec (fun _ => ai_P) (X d M pc rest loc stk w) (@List.rec ai_U (fun _ => ai_P) (X d M pc rest loc stk w) (fun u _ ih => @Bool.rec (fun _ => ai_P) ih (@Bool.rec (fun _ => ai_P) ih (some u.2.2.2.2) (ai_leZ loc stk w (u.2.2.1, [], u.2.2.2.1))) (@Bool.rec (fun _ => Bool) false (ai_key u.1 M) (Nat.beq u.2.1 d))) us) (Nat.beq pc 0)) = some outs := h
  have hx := hX d mid M q hT hq ι p l e R s m args below meth c C pc rest hr loc stk w outs
  rw [ak_if] at h1
  split at h1
  · rename_i hpc
    have hpc := Nat.eq_of_beq_eq_true hpc
    subst hpc
    clear h hr
    induction us with
    | nil => exact hx h1
    | cons u tl ih =>
      have ih := ih (fun u hu => hus u (List.mem_cons_of_mem _ hu))
      dsimp only at h1
      simp only [ak_if, ak_and, Nat.beq_eq] at h1
      split at h1
      · rename_i hk
        split at h1
        · rename_i hz
          cases h1
          obtain ⟨g1, g2⟩ := hk
          obtain ⟨mid', f1, f2⟩ := hus u List.mem_cons_self
          have := f1 mid M hT g2
          subst this
          subst g1
          intro Q hQ ws ls st H locs hM
          have hn := (ai_leZ_ok hz hM).1.few
          exact ak_At.under hz (f2 M q hT hq ι p l e R s m args below meth c hn C) Q hQ ws ls st H locs hM
        · exact ih (by simpa only [ak_if, ak_and, Nat.beq_eq] using h1)
      · exact ih (by simpa only [ak_if, ak_and, Nat.beq_eq] using h1)
  · exact hx h1
