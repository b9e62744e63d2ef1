/-! ===== one state under another; runs from known states to known states ===== -/
abbrev ai_Z : Type := ai_L × List ai_V × ai_W
abbrev ai_T : Type := Nat × ai_Z × List ai_O
noncomputable def ai_a2 {α : Type} (f : α → α → Bool) (l : List α) : List α → Bool := @List.rec α (fun _ => List α → Bool) (fun k => (@List.rec _ (fun _ => _) true (fun _ _ _ => false) k)) (fun a _ ih k => (@List.rec _ (fun _ => _) false (fun x k _ => (@Bool.rec (fun _ => _) false (ih k) (f a x))) k)) l
noncomputable def ai_eqP (p q : Nat × ai_V) : Bool := (@Bool.rec (fun _ => _) false (ai_eqV p.2 q.2) (Nat.beq p.1 q.1))
noncomputable def ai_eqC (c d : ai_C) : Bool := (@Bool.rec (fun _ => _) false ((@Bool.rec (fun _ => _) false ((@Bool.rec (fun _ => _) false (ai_a2 ai_eqP c.2.2.2 d.2.2.2) (ai_eqV c.2.2.1 d.2.2.1))) (Nat.beq c.2.1 d.2.1))) (Nat.beq c.1 d.1))
noncomputable def ai_leC (c d : ai_C) : Bool := (@Bool.rec (fun _ => _) (ai_eqC c d) true (Nat.beq d.1 9))
noncomputable def ai_leE (p q : Nat × Nat) : Bool := (@Bool.rec (fun _ => _) false (Nat.ble p.2 q.2) (Nat.ble q.1 p.1))
noncomputable def ai_leV (env : ai_E) (u v : ai_V) : Bool := (@Bool.rec (fun _ => _) ((@Bool.rec (fun _ => _) ((@Bool.rec (fun _ => _) false (ai_nth env false (fun q => (@Bool.rec (fun _ => _) false (Nat.beq (ai_b q.1) u.2) (Nat.beq q.1 q.2))) v.2) ((@Bool.rec (fun _ => _) false (Nat.beq v.1 1) (Nat.beq u.1 0))))) (Nat.ble u.1 2) (Nat.beq v.1 2))) true (ai_eqV u v))
noncomputable def ai_leL (env : ai_E) (u v : ai_V) : Bool := (@Bool.rec (fun _ => _) (ai_leV env u v) true (Nat.ble 8 v.1))
noncomputable def ai_leZ (loc : ai_L) (stk : List ai_V) (w : ai_W) (z : ai_Z) : Bool := (@Bool.rec (fun _ => _) false ((@Bool.rec (fun _ => _) false ((@Bool.rec (fun _ => _) false ((@Bool.rec (fun _ => _) false ((@Bool.rec (fun _ => _) false (ai_a2 ai_leC w.2.1 z.2.2.2.1) ((@Bool.rec (fun _ => _) false (Nat.ble w.2.2.2.2 z.2.2.2.2.2.2) (Nat.ble w.2.2.2.1 z.2.2.2.2.2.1))))) (ai_a2 ai_leE w.2.2.1 z.2.2.2.2.1))) (ai_a2 (ai_leL w.2.2.1) loc z.1))) (ai_a2 (ai_leV w.2.2.1) stk z.2.1))) (Nat.beq w.1 z.2.2.1))
noncomputable def ai_leU (env : ai_E) (u v : Option ai_V) : Bool := (@Option.rec _ (fun _ => _) ((@Option.rec _ (fun _ => _) true (fun _ => false) v)) (fun a => (@Option.rec _ (fun _ => _) false (fun x => (@Bool.rec (fun _ => _) ((@Bool.rec (fun _ => _) false (ai_leV env a x) (Nat.ble x.1 2))) (ai_eqV a x) (Nat.beq x.1 8))) v)) u)
noncomputable def ai_dd (h : ai_H) : Bool := @List.rec ai_C (fun _ => Bool) true (fun c _ ih => (@Bool.rec (fun _ => _) false ih (Nat.beq c.1 9))) h
/-- one end under another; nz: so many cells must stay -/
noncomputable def ai_leO (nz : Nat) (o p : ai_O) : Bool := (@Bool.rec (fun _ => _) false ((@Bool.rec (fun _ => _) false ((@Bool.rec (fun _ => _) false ((@Bool.rec (fun _ => _) ((@Bool.rec (fun _ => _) false ((@Bool.rec (fun _ => _) false (ai_dd p.2.2.1) (Nat.beq (ai_len p.2.2.1) p.2.1))) (Nat.ble p.2.1 o.2.1))) (ai_a2 ai_leC o.2.2.1 p.2.2.1) (Nat.beq o.2.1 p.2.1))) (Nat.ble nz p.2.1))) (ai_a2 ai_leE o.2.2.2 p.2.2.2))) (ai_leU o.2.2.2 o.1 p.1))
noncomputable def ai_any (nz : Nat) (o : ai_O) (ps : List ai_O) : Bool := @List.rec ai_O (fun _ => Bool) false (fun p _ ih => (@Bool.rec (fun _ => _) ih true (ai_leO nz o p))) ps
noncomputable def ai_cov (nz : Nat) (ps : List ai_O) (os : List ai_O) : Bool := @List.rec ai_O (fun _ => Bool) true (fun o _ ih => (@Bool.rec (fun _ => _) false ih (ai_any nz o ps))) os
noncomputable def ai_stp (ts : List ai_T) (pc : Nat) (loc : ai_L) (stk : List ai_V) (w : ai_W) (n : ai_P) : ai_P := @List.rec ai_T (fun _ => ai_P) n (fun t _ ih => (@Bool.rec (fun _ => _) ih ((@Bool.rec (fun _ => _) ih (some t.2.2) (ai_leZ loc stk w t.2.1))) (Nat.beq t.1 pc))) ts
noncomputable def ai_one2 (X ih : ai_X) (d : Nat) (M : ai_M) (loc : ai_L) (stk : List ai_V) (w : ai_W) (e : ai_N) (tl : List ai_N) : ai_P := (@Option.rec _ (fun _ => _) none (fun hd => hd (ih d M (Nat.add e.1 e.2.2.1) tl) (ai_jm ih d M) (X, d, M, e.1) loc stk w) (ai_h e))
noncomputable def ai_nxt (X ih : ai_X) : ai_X := fun d M pc rest loc stk w => (@List.rec _ (fun _ => _) none (fun e tl _ => (@Bool.rec (fun _ => _) none (ai_one2 X ih d M loc stk w e tl) (Nat.beq e.1 pc))) rest)
/-- a method's own run: calls by X, ended at the states ts -/
noncomputable def ai_top (X : ai_X) (ts : List ai_T) (n : Nat) : ai_X := @Nat.rec (fun _ => ai_X) (fun _ _ _ _ _ _ _ => none) (fun _ ih d M pc rest loc stk w => ai_stp ts pc loc stk w (ai_nxt X ih d M pc rest loc stk w)) n
noncomputable def ai_go (X : ai_X) (ts : List ai_T) (n r d : Nat) (M : ai_M) (pc : Nat) (z : ai_Z) (ps : List ai_O) : Bool := (@Option.rec _ (fun _ => _) false (fun os => ai_cov r ps os) (ai_nxt X (ai_top X ts n) d M pc (ai_seek pc M.2.1) z.1 z.2.1 z.2.2))
/-- what is known of calls: the method's numbers, depth, locals, cells and bounds, ends -/
abbrev ai_U : Type := (Nat × Nat × Nat × Nat) × Nat × ai_L × ai_W × List ai_O
/-- the links that a code names, counted together -/
noncomputable def ai_ks (l : List ai_N) : Nat := @List.rec ai_N (fun _ => Nat) 0 (fun e _ ih => Nat.add e.2.2.2.2.2.2.1 (Nat.succ ih)) l
noncomputable def ai_key (k : Nat × Nat × Nat × Nat) (M : ai_M) : Bool := (@Bool.rec (fun _ => _) false ((@Bool.rec (fun _ => _) false (Nat.beq k.2.2.2 (ai_ks M.2.1)) (Nat.beq k.2.2.1 M.2.2.2))) ((@Bool.rec (fun _ => _) false (Nat.beq k.2.1 M.2.2.1) (Nat.beq k.1 M.1))))
noncomputable def ai_orc (us : List ai_U) (X : ai_X) : ai_X := fun d M pc rest loc stk w => (@Bool.rec (fun _ => _) (X d M pc rest loc stk w) (@List.rec ai_U (fun _ => ai_P) (X d M pc rest loc stk w) (fun u _ ih => (@Bool.rec (fun _ => _) ih ((@Bool.rec (fun _ => _) ih (some u.2.2.2.2) (ai_leZ loc stk w (u.2.2.1, [], u.2.2.2.1)))) ((@Bool.rec (fun _ => _) false (ai_key u.1 M) (Nat.beq u.2.1 d))))) us) (Nat.beq pc 0))
