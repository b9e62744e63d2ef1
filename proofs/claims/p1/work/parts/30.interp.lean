/-! ===== lists by their recursors, what is found is handed on ===== -/
noncomputable def ai_nt {α : Type} (n : Nat) (f : Nat → α) : α := @Nat.rec (fun _ => α) (f 0) (fun m _ => f (Nat.succ m)) n
noncomputable def ai_look {α : Type} (i : Nat) (l : List (Nat × ai_V)) (n : α) (f : ai_V → α) : α := @List.rec (Nat × ai_V) (fun _ => α) n (fun q _ ih => (@Prod.rec _ _ (fun _ => _) (fun a v => (@Bool.rec (fun _ => _) ih (f v) (Nat.beq a i))) q)) l
noncomputable def ai_put {α : Type} (j : Nat) (v : ai_V) (l : List (Nat × ai_V)) : (List (Nat × ai_V) → α) → α := @List.rec (Nat × ai_V) (fun _ => (List (Nat × ai_V) → α) → α) (fun f => f [(j, v)]) (fun q tl ih f => (@Prod.rec _ _ (fun _ => _) (fun a _ => (@Bool.rec (fun _ => _) (ih (fun r => f (q :: r))) (f ((j, v) :: tl)) (Nat.beq a j))) q)) l
noncomputable def ai_nth {α β : Type} (l : List α) (n : β) (f : α → β) : Nat → β := @List.rec α (fun _ => Nat → β) (fun _ => n) (fun a _ ih k => @Nat.rec (fun _ => β) (f a) (fun k' _ => ih k') k) l
noncomputable def ai_set {α β : Type} (x : α) (n : β) (l : List α) : Nat → (List α → β) → β := @List.rec α (fun _ => Nat → (List α → β) → β) (fun _ _ => n) (fun a tl ih k f => @Nat.rec (fun _ => β) (f (x :: tl)) (fun k' _ => ih k' (fun r => f (a :: r))) k) l
noncomputable def ai_app {α : Type} (l k : List α) : List α := @List.rec α (fun _ => List α) k (fun a _ ih => a :: ih) l
noncomputable def ai_len {α : Type} (l : List α) : Nat := @List.rec α (fun _ => Nat) 0 (fun _ _ ih => Nat.succ ih) l
noncomputable def ai_seek (t : Nat) (l : List ai_N) : List ai_N := @List.rec ai_N (fun _ => List ai_N) [] (fun e tl ih => (@Bool.rec (fun _ => _) ih (e :: tl) (Nat.beq e.1 t))) l
noncomputable def ai_eqV (u v : ai_V) : Bool := (@Bool.rec (fun _ => _) false (Nat.beq u.2 v.2) (Nat.beq u.1 v.1))
noncomputable def ai_rd {α : Type} (c : ai_C) (j : Nat) (f : ai_V → α) : α := (@Prod.rec _ _ (fun _ => _) (fun _ c1 => (@Prod.rec _ _ (fun _ => _) (fun _ c2 => (@Prod.rec _ _ (fun _ => _) (fun df ov => ai_look j ov (f df) f) c2)) c1)) c)
/-- the cell written; n: as it was -/
noncomputable def ai_wr {α : Type} (c : ai_C) (j : Nat) (v : ai_V) (n : α) (f : ai_C → α) : α := (@Prod.rec _ _ (fun _ => _) (fun kd c1 => (@Prod.rec _ _ (fun _ => _) (fun inf c2 => (@Prod.rec _ _ (fun _ => _) (fun df ov => ai_look j ov ((@Bool.rec (fun _ => _) (ai_put j v ov (fun r => f (kd, inf, df, r))) n (ai_eqV v df))) (fun u => (@Bool.rec (fun _ => _) (ai_put j v ov (fun r => f (kd, inf, df, r))) n (ai_eqV v u)))) c2)) c1)) c)
/-! ===== numbers ===== -/
/-- signed numbers in their order -/
noncomputable def ai_b (n : Nat) : Nat := Nat.mod (Nat.add n 2147483648) 4294967296
noncomputable def ai_ofI (n : Int) : Nat := (n % 4294967296).toNat
noncomputable def ai_sub (a b : Nat) : Nat := Nat.mod (Nat.add a (Nat.sub 4294967296 (Nat.mod b 4294967296))) 4294967296
noncomputable def ai_add (a b : Nat) : Nat := Nat.mod (Nat.add a b) 4294967296
noncomputable def ai_mul (a b : Nat) : Nat := Nat.mod (Nat.mul a b) 4294967296
/-- a symbol of one value is that value -/
noncomputable def ai_res {α : Type} (env : ai_E) (v : ai_V) (f : ai_V → α) : α := (@Prod.rec _ _ (fun _ => _) (fun t k => (@Bool.rec (fun _ => _) (f v) (ai_nth env (f v) (fun q => (@Prod.rec _ _ (fun _ => _) (fun lo hi => (@Bool.rec (fun _ => _) (f v) (ai_nt (ai_b lo) (fun n => f (0, n))) (Nat.beq lo hi))) q)) k) (Nat.beq t 1))) v)
noncomputable def ai_in (lo hi : Nat) (v : ai_V) : Bool := (@Bool.rec (fun _ => _) false (Nat.ble v.1 hi) (Nat.ble lo v.1))
/-! ===== going on ===== -/
noncomputable def ai_jm (ih : ai_X) (d : Nat) (M : ai_M) (t : Nat) : ai_Q := ih d M t (ai_seek t M.2.1)
/-- first the one, then the other -/
noncomputable def ai_two (a b : ai_P) : ai_P := (@Option.rec _ (fun _ => _) none (fun x => (@Option.rec _ (fun _ => _) none (fun y => some (ai_app x y)) b)) a)
/-- for each of a list; of one alone nothing is left behind -/
noncomputable def ai_all {α : Type} (f : α → ai_P) (l : List α) : ai_P := @List.rec α (fun _ => ai_P) (some []) (fun q tl ih => (@List.rec _ (fun _ => _) (f q) (fun _ _ _ => ai_two (f q) ih) tl)) l
/-- with other bounds of a symbol -/
noncomputable def ai_env (k lo hi : Nat) (w : ai_W) (f : ai_W → ai_P) : ai_P := (@Prod.rec _ _ (fun _ => _) (fun n w1 => (@Prod.rec _ _ (fun _ => _) (fun h w2 => (@Prod.rec _ _ (fun _ => _) (fun env w3 => ai_nt lo (fun lo => ai_nt hi (fun hi => ai_set (lo, hi) none env k (fun env => f (n, h, env, w3))))) w2)) w1)) w)
/-! ===== what an instruction does ===== -/
noncomputable def ai_push (v : ai_V) : ai_D := fun sq _ _ loc stk w => sq loc (v :: stk) w
noncomputable def ai_goto (t : Nat) : ai_D := fun _ jm _ loc stk w => jm t loc stk w
noncomputable def ai_ups (n : Nat) : List Nat := @Nat.rec (fun _ => List Nat) [] (fun i ih => i :: ih) n
/-- of a symbol of few values, each value on its own; else as it is -/
noncomputable def ai_split (v : ai_V) (w : ai_W) (f : ai_P) (g : ai_W → ai_P) : ai_P := (@Bool.rec (fun _ => _) f (ai_nth w.2.2.1 none (fun q => (@Bool.rec (fun _ => _) ((@Bool.rec (fun _ => _) f (ai_all (fun i => ai_env v.2 (Nat.add q.1 i) (Nat.add q.1 i) w g) (ai_ups (Nat.succ (Nat.sub q.2 q.1)))) (Nat.ble (Nat.sub q.2 q.1) 255))) f (Nat.ble q.2 q.1))) v.2) (Nat.beq v.1 1))
noncomputable def ai_ld (i lo hi : Nat) : ai_D := fun sq _ _ loc stk w => ai_nth loc none (fun v => (@Bool.rec (fun _ => _) none (sq loc (v :: stk) w) (ai_in lo hi v))) i
noncomputable def ai_cat (v : ai_V) : Nat := (@Bool.rec (fun _ => _) 1 2 (ai_in 3 4 v))
noncomputable def ai_sto (i lo hi : Nat) : ai_D := fun sq _ _ loc stk w => (@List.rec _ (fun _ => _) none (fun v st _ => (@Bool.rec (fun _ => _) none (ai_set v none loc i (fun l => sq l st w)) (ai_in lo hi v))) stk)
/-- two ints -/
noncomputable def ai_op2 (f : Nat → Nat → Nat) (x y : ai_V) (k : ai_V → ai_P) : ai_P := (@Prod.rec _ _ (fun _ => _) (fun tx nx => (@Prod.rec _ _ (fun _ => _) (fun ty ny => (@Bool.rec (fun _ => _) none ((@Bool.rec (fun _ => _) none ((@Bool.rec (fun _ => _) (k (2, 0)) (ai_nt (f nx ny) (fun r => k (0, r))) (Nat.beq (Nat.add tx ty) 0))) (Nat.ble ty 2))) (Nat.ble tx 2))) y)) x)
noncomputable def ai_bin (g : ai_V → ai_V → (ai_V → ai_P) → ai_P) : ai_D := fun sq jm κ loc stk w => (@List.rec _ (fun _ => _) none (fun y st _ => (@List.rec _ (fun _ => _) none (fun x st _ => ai_split x w (ai_split y w (ai_res w.2.2.1 x (fun x => ai_res w.2.2.1 y (fun y => g x y (fun v => sq loc (v :: st) w)))) (jm κ.2.2.2 loc stk)) (jm κ.2.2.2 loc stk)) st)) stk)
/-- some int of two -/
noncomputable def ai_any2 (x y : ai_V) (k : ai_V → ai_P) : ai_P := (@Bool.rec (fun _ => _) none (k (2, 0)) ((@Bool.rec (fun _ => _) false (Nat.ble y.1 2) (Nat.ble x.1 2))))
/-- of the script's first number the six low bits are the symbol 6 -/
noncomputable def ai_iand (x y : ai_V) (k : ai_V → ai_P) : ai_P := (@Bool.rec (fun _ => _) (ai_op2 Nat.land x y k) (k (1, 6)) ((@Bool.rec (fun _ => _) false (ai_eqV y (0, 63)) (ai_eqV x (1, 0)))))
noncomputable def ai_irem (x y : ai_V) (k : ai_V → ai_P) : ai_P := (@Bool.rec (fun _ => _) none ((@Bool.rec (fun _ => _) (k (2, 0)) (ai_nt (Nat.mod x.2 y.2) (fun r => k (0, r))) ((@Bool.rec (fun _ => _) false (Nat.ble x.2 2147483647) (Nat.beq x.1 0))))) ((@Bool.rec (fun _ => _) false ((@Bool.rec (fun _ => _) false ((@Bool.rec (fun _ => _) false (Nat.ble y.2 2147483647) (Nat.ble 1 y.2))) (Nat.beq y.1 0))) (Nat.ble x.1 2))))
noncomputable def ai_iinc (i n : Nat) : ai_D := fun sq _ _ loc stk w => ai_nth loc none (fun x => ai_res w.2.2.1 x (fun x => ai_op2 ai_add x (0, n) (fun v => ai_set v none loc i (fun l => sq l stk w)))) i
/-- the bounds of a symbol, narrowed; nothing is left: nothing to do -/
noncomputable def ai_nar (k l h : Nat) (w : ai_W) (f : ai_W → ai_P) : ai_P := ai_nth w.2.2.1 none (fun q => (@Bool.rec (fun _ => _) (some []) (ai_env k ((@Bool.rec (fun _ => _) l q.1 (Nat.ble l q.1))) ((@Bool.rec (fun _ => _) q.2 h (Nat.ble h q.2))) w f) (Nat.ble ((@Bool.rec (fun _ => _) l q.1 (Nat.ble l q.1))) ((@Bool.rec (fun _ => _) q.2 h (Nat.ble h q.2)))))) k
noncomputable def ai_blw (k c : Nat) (w : ai_W) (f : ai_W → ai_P) : ai_P := (@Bool.rec (fun _ => _) (ai_nar k 0 (Nat.sub c 1) w f) (some []) (Nat.beq c 0))
/-- conditions by number: 0 eq, 1 ne, 2 lt, 3 ge, 4 gt, 5 le; of a symbol and a number: on where it holds -/
noncomputable def ai_hold (o k c : Nat) (w : ai_W) (f : ai_W → ai_P) : ai_P :=
  (@Bool.rec (fun _ => _) ((@Bool.rec (fun _ => _) ((@Bool.rec (fun _ => _) ((@Bool.rec (fun _ => _) ((@Bool.rec (fun _ => _) (ai_nar k 0 c w f) (ai_nar k (Nat.succ c) 4294967295 w f) (Nat.beq o 4))) (ai_nar k c 4294967295 w f) (Nat.beq o 3))) (ai_blw k c w f) (Nat.beq o 2))) (ai_two (ai_blw k c w f) (ai_nar k (Nat.succ c) 4294967295 w f)) (Nat.beq o 1))) (ai_nar k c c w f) (Nat.beq o 0))
noncomputable def ai_not (o : Nat) : Nat := (@Bool.rec (fun _ => _) ((@Bool.rec (fun _ => _) ((@Bool.rec (fun _ => _) ((@Bool.rec (fun _ => _) ((@Bool.rec (fun _ => _) 4 5 (Nat.beq o 4))) 2 (Nat.beq o 3))) 3 (Nat.beq o 2))) 0 (Nat.beq o 1))) 1 (Nat.beq o 0))
noncomputable def ai_flip (o : Nat) : Nat := (@Bool.rec (fun _ => _) ((@Bool.rec (fun _ => _) ((@Bool.rec (fun _ => _) ((@Bool.rec (fun _ => _) o 3 (Nat.beq o 5))) 5 (Nat.beq o 3))) 2 (Nat.beq o 4))) 4 (Nat.beq o 2))
noncomputable def ai_tst (o a c : Nat) : Bool := (@Bool.rec (fun _ => _) ((@Bool.rec (fun _ => _) ((@Bool.rec (fun _ => _) ((@Bool.rec (fun _ => _) ((@Bool.rec (fun _ => _) (Nat.ble a c) (Nat.ble (Nat.succ c) a) (Nat.beq o 4))) (Nat.ble c a) (Nat.beq o 3))) (Nat.ble (Nat.succ a) c) (Nat.beq o 2))) ((@Bool.rec (fun _ => _) true false (Nat.beq a c))) (Nat.beq o 1))) (Nat.beq a c) (Nat.beq o 0))
/-- a branch; t where it holds, f where not -/
noncomputable def ai_br (o : Nat) (x y : ai_V) (w : ai_W) (t f : ai_W → ai_P) : ai_P :=
  (@Bool.rec (fun _ => _) ((@Bool.rec (fun _ => _) ((@Bool.rec (fun _ => _) none (ai_two (t w) (f w)) ((@Bool.rec (fun _ => _) false (Nat.ble y.1 2) (Nat.ble x.1 2))))) (ai_two (ai_hold o x.2 (ai_b y.2) w t) (ai_hold (ai_not o) x.2 (ai_b y.2) w f)) ((@Bool.rec (fun _ => _) false (Nat.beq y.1 0) (Nat.beq x.1 1))))) ((@Bool.rec (fun _ => _) ((@Bool.rec (fun _ => _) ((@Bool.rec (fun _ => _) none (ai_two (t w) (f w)) (Nat.beq y.1 2))) (ai_two (ai_hold (ai_flip o) y.2 (ai_b x.2) w t) (ai_hold (ai_not (ai_flip o)) y.2 (ai_b x.2) w f)) (Nat.beq y.1 1))) ((@Bool.rec (fun _ => _) (f w) (t w) (ai_tst o (ai_b x.2) (ai_b y.2)))) (Nat.beq y.1 0))) (Nat.beq x.1 0))
noncomputable def ai_icmp (o t : Nat) : ai_D := fun sq jm _ loc stk w => (@List.rec _ (fun _ => _) none (fun y st _ => (@List.rec _ (fun _ => _) none (fun x st _ => ai_res w.2.2.1 x (fun x => ai_res w.2.2.1 y (fun y => ai_br o x y w (jm t loc st) (sq loc st)))) st)) stk)
noncomputable def ai_if0 (o t : Nat) : ai_D := fun sq jm _ loc stk w => (@List.rec _ (fun _ => _) none (fun x st _ => ai_res w.2.2.1 x (fun x => ai_br o x (0, 0) w (jm t loc st) (sq loc st))) stk)
/-- may be told apart -/
noncomputable def ai_acm (v : ai_V) : Bool := (@Bool.rec (fun _ => _) ((@Bool.rec (fun _ => _) (ai_eqV v (5, 0)) (Nat.ble v.2 37) (Nat.beq v.1 7))) true (Nat.beq v.1 6))
noncomputable def ai_acmp (eq : Bool) (t : Nat) : ai_D := fun sq jm _ loc stk w => (@List.rec _ (fun _ => _) none (fun y st _ => (@List.rec _ (fun _ => _) none (fun x st _ => (@Bool.rec (fun _ => _) none ((@Bool.rec (fun _ => _) ((@Bool.rec (fun _ => _) none ((@Bool.rec (fun _ => _) (jm t loc st w) (sq loc st w) eq)) ((@Bool.rec (fun _ => _) false (ai_acm y) (ai_acm x))))) ((@Bool.rec (fun _ => _) (sq loc st w) (jm t loc st w) eq)) (ai_eqV x y))) ((@Bool.rec (fun _ => _) false (ai_in 5 7 y) (ai_in 5 7 x))))) st)) stk)
noncomputable def ai_nul (eq : Bool) (t : Nat) : ai_D := fun sq jm _ loc stk w => (@List.rec _ (fun _ => _) none (fun x st _ => (@Bool.rec (fun _ => _) none ((@Bool.rec (fun _ => _) ((@Bool.rec (fun _ => _) (jm t loc st w) (sq loc st w) eq)) ((@Bool.rec (fun _ => _) (sq loc st w) (jm t loc st w) eq)) (Nat.beq x.1 5))) (ai_in 5 7 x))) stk)
/-- a switch over v .. by a symbol: each number with its target -/
noncomputable def ai_casd (k df : Nat) (w : ai_W) (g : Nat → ai_W → ai_P) (ts : List Nat) : Nat → ai_P := @List.rec Nat (fun _ => Nat → ai_P) (fun v => ai_nar k (Nat.add v 2147483648) 4294967295 w (g df)) (fun t _ ih v => ai_two (ai_nar k (Nat.add v 2147483648) (Nat.add v 2147483648) w (g t)) (ih (Nat.succ v))) ts
noncomputable def ai_tsw (df lo : Nat) (ts : List Nat) : ai_D := fun _ jm _ loc stk w => (@List.rec _ (fun _ => _) none (fun x st _ => ai_res w.2.2.1 x (fun x =>
  (@Bool.rec (fun _ => _) ((@Bool.rec (fun _ => _) none (ai_two (ai_nar x.2 0 (Nat.add lo 2147483647) w (jm df loc st)) (ai_casd x.2 df w (fun t => jm t loc st) ts lo)) (Nat.beq x.1 1))) ((@Bool.rec (fun _ => _) none ((@Bool.rec (fun _ => _) (jm df loc st w) (ai_nth ts (jm df loc st w) (fun t => jm t loc st w) (Nat.sub x.2 lo)) (Nat.ble lo x.2))) (Nat.ble x.2 2147483647))) (Nat.beq x.1 0)))) stk)
/-! ===== cells ===== -/
/-- the cell k -/
noncomputable def ai_cel (w : ai_W) (o : ai_V) (f : ai_C → ai_P) : ai_P := (@Bool.rec (fun _ => _) none ((@Bool.rec (fun _ => _) none (ai_nth w.2.1 none f (Nat.sub w.1 (Nat.succ o.2))) (Nat.ble (Nat.succ o.2) w.1))) (Nat.beq o.1 6))
noncomputable def ai_get (k ci : Nat) : ai_D := fun sq _ _ loc stk w => (@List.rec _ (fun _ => _) none (fun o st _ => ai_cel w o (fun c => (@Bool.rec (fun _ => _) none (ai_rd c k (fun v => sq loc (v :: st) w)) ((@Bool.rec (fun _ => _) false (Nat.beq c.2.1 ci) (Nat.beq c.1 0)))))) stk)
/-- may it stand in a field of the type: 0 int, 1 boolean, 2 a reference, 3 long -/
noncomputable def ai_fit (ty : Nat) (v : ai_V) : Bool := (@Bool.rec (fun _ => _) ((@Bool.rec (fun _ => _) ((@Bool.rec (fun _ => _) (ai_in 3 4 v) (ai_in 5 7 v) (Nat.beq ty 2))) ((@Bool.rec (fun _ => _) false (Nat.ble v.2 1) (Nat.beq v.1 0))) (Nat.beq ty 1))) (ai_in 0 2 v) (Nat.beq ty 0))
/-- another cell in its place -/
noncomputable def ai_chg (o : ai_V) (c : ai_C) (w : ai_W) (f : ai_W → ai_P) : ai_P := (@Prod.rec _ _ (fun _ => _) (fun n w1 => (@Prod.rec _ _ (fun _ => _) (fun h w2 => ai_set c none h (Nat.sub n (Nat.succ o.2)) (fun h => f (n, h, w2))) w1)) w)
noncomputable def ai_putf (k ci ty : Nat) : ai_D := fun sq jm κ loc stk w => (@List.rec _ (fun _ => _) none (fun v st _ => (@List.rec _ (fun _ => _) none (fun o st _ => (@Bool.rec (fun _ => _) none (ai_cel w o (fun c => (@Bool.rec (fun _ => _) none (ai_wr c k v (sq loc st w) (fun c => ai_chg o c w (sq loc st))) ((@Bool.rec (fun _ => _) false (Nat.beq c.2.1 ci) (Nat.beq c.1 0)))))) (ai_fit ty v))) st)) stk)
noncomputable def ai_alloc (sz : Nat) (c : ai_C) : ai_D := fun sq jm κ loc st w => (@Prod.rec _ _ (fun _ => _) (fun n w1 => (@Prod.rec _ _ (fun _ => _) (fun h w2 => (@Prod.rec _ _ (fun _ => _) (fun env w3 => (@Prod.rec _ _ (fun _ => _) (fun nc ns => ai_nt (Nat.succ nc) (fun nc => ai_nt (Nat.add ns sz) (fun ns => (@Bool.rec (fun _ => _) none (sq loc ((6, n) :: st) (Nat.succ n, c :: h, env, nc, ns)) ((@Bool.rec (fun _ => _) false (Nat.ble ns κ.2.2.1.2.2.2) (Nat.ble nc κ.2.2.1.2.2.1))))))) w3)) w2)) w1)) w)
noncomputable def ai_adf (kd : Nat) : ai_V := (@Bool.rec (fun _ => _) ((@Bool.rec (fun _ => _) (5, 0) (3, 0) (Nat.beq kd 4))) (0, 0) (Nat.ble kd 3))
noncomputable def ai_newa (kd : Nat) : ai_D := fun sq jm κ loc stk w => (@List.rec _ (fun _ => _) none (fun n st _ => ai_res w.2.2.1 n (fun x => (@Prod.rec _ _ (fun _ => _) (fun t m => (@Bool.rec (fun _ => _) none (ai_alloc m (kd, m, ai_adf kd, []) sq jm κ loc st w) ((@Bool.rec (fun _ => _) false (Nat.ble m 30000) (Nat.beq t 0))))) x))) stk)
/-- constant arrays of ints -/
noncomputable def ai_sar (j : Nat) : Option (List Nat) := (@Bool.rec (fun _ => _) ((@Bool.rec (fun _ => _) ((@Bool.rec (fun _ => _) none (some ai_sw) (Nat.beq j 43))) (some [32, 2, 9, 60, 9, 60]) (Nat.beq j 41))) (some [8, 1, 2, 12, 3, 1]) (Nat.beq j 40))
noncomputable def ai_alen : ai_D := fun sq jm κ loc stk w => (@List.rec _ (fun _ => _) none (fun o st _ => (@Bool.rec (fun _ => _) (ai_cel w o (fun c => (@Prod.rec _ _ (fun _ => _) (fun kd c1 => (@Prod.rec _ _ (fun _ => _) (fun m _ => (@Bool.rec (fun _ => _) none (sq loc ((0, m) :: st) w) ((@Bool.rec (fun _ => _) false (Nat.ble m 30000) ((@Bool.rec (fun _ => _) false (Nat.ble kd 6) (Nat.ble 1 kd))))))) c1)) c))) ((@Bool.rec (fun _ => _) ((@Bool.rec (fun _ => _) ((@Option.rec _ (fun _ => _) none (fun l => ai_nt (ai_len l) (fun n => sq loc ((0, n) :: st) w)) (ai_sar o.2))) (sq loc ((0, 0) :: st) w) (Nat.beq o.2 42))) (sq loc ((1, 7) :: st) w) (Nat.beq o.2 45))) (Nat.beq o.1 7))) stk)
/-- the script has six numbers -/
noncomputable def ai_six (env : ai_E) : Bool := ai_nth env false (fun q => ai_eqV q (2147483654, 2147483654)) 7
/-- may the place j of the cell be used as one of the kinds k1 .. k2 -/
noncomputable def ai_at (k1 k2 : Nat) (c : ai_C) (j : Nat) : Bool := (@Bool.rec (fun _ => _) false ((@Bool.rec (fun _ => _) false (Nat.ble c.2.1 30000) (Nat.ble (Nat.succ j) c.2.1))) ((@Bool.rec (fun _ => _) false (Nat.ble c.1 k2) (Nat.ble k1 c.1))))
noncomputable def ai_ald (k1 k2 : Nat) : ai_D := fun sq jm κ loc stk w => (@List.rec _ (fun _ => _) none (fun j st _ => (@List.rec _ (fun _ => _) none (fun o st _ => ai_split j w (ai_res w.2.2.1 j (fun j => (@Prod.rec _ _ (fun _ => _) (fun tj nj => (@Bool.rec (fun _ => _) none ((@Bool.rec (fun _ => _) (ai_cel w o (fun c => (@Bool.rec (fun _ => _) none (ai_rd c nj (fun v => sq loc (v :: st) w)) (ai_at k1 k2 c nj)))) ((@Bool.rec (fun _ => _) none ((@Bool.rec (fun _ => _) ((@Option.rec _ (fun _ => _) none (fun l => ai_nth l none (fun x => sq loc ((0, x) :: st) w) nj) (ai_sar o.2))) ((@Bool.rec (fun _ => _) none (sq loc ((1, nj) :: st) w) ((@Bool.rec (fun _ => _) false (ai_six w.2.2.1) (Nat.ble nj 5))))) (Nat.beq o.2 45))) (Nat.beq k1 1))) (Nat.beq o.1 7))) (Nat.beq tj 0))) j))) (jm κ.2.2.2 loc stk)) st)) stk)
/-- what a cell of the kind keeps of a value; none: it may not stand there -/
noncomputable def ai_keep (w : ai_W) (kd : Nat) (v : ai_V) (f : ai_V → ai_P) : ai_P :=
  (@Bool.rec (fun _ => _) ((@Bool.rec (fun _ => _) ((@Bool.rec (fun _ => _) ((@Bool.rec (fun _ => _) ((@Bool.rec (fun _ => _) ((@Bool.rec (fun _ => _) none (ai_cel w v (fun c => (@Bool.rec (fun _ => _) none (f v) ((@Bool.rec (fun _ => _) false (Nat.beq c.2.1 9) (Nat.beq c.1 0)))))) (Nat.beq kd 6))) ((@Bool.rec (fun _ => _) none (f v) ((@Bool.rec (fun _ => _) false (Nat.ble v.2 37) (Nat.beq v.1 7))))) (Nat.beq kd 5))) ((@Bool.rec (fun _ => _) none (f v) (ai_in 3 4 v))) (Nat.beq kd 4))) ((@Bool.rec (fun _ => _) none (f v) ((@Bool.rec (fun _ => _) false (Nat.ble v.2 1) (Nat.beq v.1 0))))) (Nat.beq kd 3))) ((@Bool.rec (fun _ => _) none ((@Bool.rec (fun _ => _) (f (2, 0)) (f v) ((@Bool.rec (fun _ => _) false (Nat.ble v.2 127) (Nat.beq v.1 0))))) (Nat.ble v.1 2))) (Nat.beq kd 2))) ((@Bool.rec (fun _ => _) none (f v) (Nat.ble v.1 2))) (Nat.beq kd 1))
noncomputable def ai_ast (k1 k2 : Nat) : ai_D := fun sq jm κ loc stk w => (@List.rec _ (fun _ => _) none (fun v st _ => (@List.rec _ (fun _ => _) none (fun j st _ => (@List.rec _ (fun _ => _) none (fun o st _ => ai_split j w (ai_res w.2.2.1 j (fun j => (@Prod.rec _ _ (fun _ => _) (fun tj nj => (@Bool.rec (fun _ => _) none (ai_cel w o (fun c => (@Bool.rec (fun _ => _) none (ai_res w.2.2.1 v (fun v => ai_keep w c.1 v (fun u => ai_wr c nj u (sq loc st w) (fun c => ai_chg o c w (sq loc st))))) (ai_at k1 k2 c nj)))) (Nat.beq tj 0))) j))) (jm κ.2.2.2 loc stk)) st)) st)) stk)
/-- what differs outside dp .. -/
noncomputable def ai_out {α : Type} (dp n : Nat) (l : List (Nat × ai_V)) : (List (Nat × ai_V) → α) → α := @List.rec (Nat × ai_V) (fun _ => (List (Nat × ai_V) → α) → α) (fun f => f []) (fun q _ ih f => (@Bool.rec (fun _ => _) (ih (fun r => f (q :: r))) (ih f) ((@Bool.rec (fun _ => _) false (Nat.ble (Nat.succ q.1) (Nat.add dp n)) (Nat.ble dp q.1))))) l
/-- a stretch of one row over another's: of the numbers sp .. what differs, moved to dp .. -/
noncomputable def ai_mov {α : Type} (sp dp n : Nat) (l : List (Nat × ai_V)) : (List (Nat × ai_V) → α) → α := @List.rec (Nat × ai_V) (fun _ => (List (Nat × ai_V) → α) → α) (fun f => f []) (fun q _ ih f => (@Bool.rec (fun _ => _) (ih f) (ai_nt (Nat.add (Nat.sub q.1 sp) dp) (fun k => (@Prod.rec _ _ (fun _ => _) (fun _ v => ih (fun r => f ((k, v) :: r))) q))) ((@Bool.rec (fun _ => _) false (Nat.ble (Nat.succ q.1) (Nat.add sp n)) (Nat.ble sp q.1))))) l
/-- one list behind the other -/
noncomputable def ai_cat2 {α : Type} (k : List (Nat × ai_V)) (l : List (Nat × ai_V)) : (List (Nat × ai_V) → α) → α := @List.rec (Nat × ai_V) (fun _ => (List (Nat × ai_V) → α) → α) (fun f => f k) (fun q _ ih f => ih (fun r => f (q :: r))) l
noncomputable def ai_cpy {α : Type} (s d : ai_C) (sp dp n : Nat) (f : ai_C → α) : α := (@Prod.rec _ _ (fun _ => _) (fun kd d1 => (@Prod.rec _ _ (fun _ => _) (fun m d2 => (@Prod.rec _ _ (fun _ => _) (fun df ov => ai_out dp n ov (fun a => ai_mov sp dp n s.2.2.2 (fun b => ai_cat2 b a (fun r => f (kd, m, df, r))))) d2)) d1)) d)
/-- a constant array as a cell -/
noncomputable def ai_num (l : List Nat) : Nat → List (Nat × ai_V) := @List.rec Nat (fun _ => Nat → List (Nat × ai_V)) (fun _ => []) (fun x _ ih k => (k, (0, x)) :: ih (Nat.succ k)) l
noncomputable def ai_src (w : ai_W) (o : ai_V) (f : ai_C → ai_P) : ai_P := (@Bool.rec (fun _ => _) (ai_cel w o f) ((@Option.rec _ (fun _ => _) none (fun l => f (1, ai_len l, (0, 0), ai_num l 0)) (ai_sar o.2))) (Nat.beq o.1 7))
noncomputable def ai_copy : ai_D := fun sq jm κ loc stk w => (@List.rec _ (fun _ => _) none (fun n st _ => (@List.rec _ (fun _ => _) none (fun dp st _ => (@List.rec _ (fun _ => _) none (fun d st _ => (@List.rec _ (fun _ => _) none (fun sp st _ => (@List.rec _ (fun _ => _) none (fun s st _ =>   ai_res w.2.2.1 n (fun n => ai_res w.2.2.1 dp (fun dp => ai_res w.2.2.1 sp (fun sp => (@Bool.rec (fun _ => _) none (ai_src w s (fun cs => ai_cel w d (fun cd => (@Bool.rec (fun _ => _) none (ai_cpy cs cd sp.2 dp.2 n.2 (fun c => ai_chg d c w (sq loc st))) ((@Bool.rec (fun _ => _) false ((@Bool.rec (fun _ => _) false ((@Bool.rec (fun _ => _) false ((@Bool.rec (fun _ => _) false (Nat.ble cd.2.1 30000) (Nat.ble cs.2.1 30000))) ((@Bool.rec (fun _ => _) false (Nat.ble (Nat.add dp.2 n.2) cd.2.1) (Nat.ble (Nat.add sp.2 n.2) cs.2.1))))) (ai_eqV cs.2.2.1 cd.2.2.1))) ((@Bool.rec (fun _ => _) false ((@Bool.rec (fun _ => _) false (Nat.ble cs.1 2) (Nat.ble 1 cs.1))) (Nat.beq cs.1 cd.1))))))))) ((@Bool.rec (fun _ => _) false ((@Bool.rec (fun _ => _) false (Nat.beq sp.1 0) (Nat.beq dp.1 0))) (Nat.beq n.1 0)))))))) st)) st)) st)) st)) stk) 
/-- the arguments of a call off the stack, and what stays -/
noncomputable def ai_args (n : Nat) : List ai_V → List ai_V → (List ai_V → List ai_V → ai_P) → ai_P := @Nat.rec (fun _ => List ai_V → List ai_V → (List ai_V → List ai_V → ai_P) → ai_P) (fun a st f => f a st) (fun _ ih a st f => (@List.rec _ (fun _ => _) none (fun v st _ => ih (v :: a) st f) st)) n
noncomputable def ai_sum (l : List ai_V) : Nat := @List.rec ai_V (fun _ => Nat) 0 (fun v _ ih => Nat.add (ai_cat v) ih) l
/-- the locals of a method that begins: one place each -/
noncomputable def ai_ent (nL : Nat) : List ai_V → (ai_L → ai_P) → ai_P := @Nat.rec (fun _ => List ai_V → (ai_L → ai_P) → ai_P) (fun a f => (@List.rec _ (fun _ => _) (f []) (fun _ _ _ => none) a)) (fun _ ih a f => (@List.rec _ (fun _ => _) (ih [] (fun r => f ((9, 0) :: r))) (fun v a _ => (@Bool.rec (fun _ => _) (ih a (fun r => f (v :: r))) none (ai_in 3 4 v))) a)) nL
noncomputable def ai_eqO (u v : ai_O) : Bool := (@Bool.rec (fun _ => _) false ((@Bool.rec (fun _ => _) false ((@Bool.rec (fun _ => _) false (decide (u.2.2.1 = v.2.2.1)) (Nat.beq u.2.1 v.2.1))) (decide (u.1 = v.1)))) (decide (u.2.2.2 = v.2.2.2)))
noncomputable def ai_has (u : ai_O) (l : List ai_O) : Bool := @List.rec ai_O (fun _ => Bool) false (fun v _ ih => (@Bool.rec (fun _ => _) ih true (ai_eqO u v))) l
noncomputable def ai_uni (l : List ai_O) : List ai_O := @List.rec ai_O (fun _ => List ai_O) [] (fun u tl ih => (@List.rec _ (fun _ => _) [u] (fun _ _ _ => (@Bool.rec (fun _ => _) (u :: ih) ih (ai_has u tl))) tl)) l
/-- behind a call: the caller goes on, its own cells counted -/
noncomputable def ai_back (nc ns : Nat) (st : List ai_V) (sq : List ai_V → ai_W → ai_P) (o : ai_O) : ai_P := (@Prod.rec _ _ (fun _ => _) (fun v o1 => (@Prod.rec _ _ (fun _ => _) (fun n o2 => (@Prod.rec _ _ (fun _ => _) (fun h env => (@Option.rec _ (fun _ => _) (sq st (n, h, env, nc, ns)) (fun v => sq (v :: st) (n, h, env, nc, ns)) v)) o2)) o1)) o)
/-- the one that a call is of: modes 0, 1 an object of the kind ci, 2, 3 some cell -/
noncomputable def ai_rcv (mode ci : Nat) (w : ai_W) (a : List ai_V) (f : ai_P) : ai_P := (@Bool.rec (fun _ => _) ((@Bool.rec (fun _ => _) f ((@List.rec _ (fun _ => _) none (fun v _ _ => (@Bool.rec (fun _ => _) none f (Nat.beq v.1 6))) a)) (Nat.ble mode 3))) ((@List.rec _ (fun _ => _) none (fun v _ _ => ai_cel w v (fun c => (@Bool.rec (fun _ => _) none f ((@Bool.rec (fun _ => _) false (Nat.beq c.2.1 ci) (Nat.beq c.1 0)))))) a)) (Nat.ble mode 1))
/-- none of the ends is a stop on the way -/
noncomputable def ai_no8 (l : List ai_O) : Bool := @List.rec ai_O (fun _ => Bool) true (fun o _ ih => (@Option.rec _ (fun _ => _) ih (fun v => (@Bool.rec (fun _ => _) ih false (Nat.beq v.1 8))) o.1)) l
/-- a call: nc, ns what is made behind it -/
noncomputable def ai_call2 (M : ai_M) (a st : List ai_V) (nc ns : Nat) : ai_D := fun sq _ κ loc _ w => (@Bool.rec (fun _ => _) none (@Nat.rec (fun _ => ai_P) none (fun d' _ => ai_ent M.1 a (fun l => (@Option.rec _ (fun _ => _) none (fun os => (@Bool.rec (fun _ => _) none (ai_all (ai_back nc ns st (sq loc)) (ai_uni os)) (ai_no8 os))) (κ.1 d' M 0 M.2.1 l [] (w.1, w.2.1, w.2.2.1, 0, 0))))) κ.2.1) ((@Bool.rec (fun _ => _) false ((@Bool.rec (fun _ => _) false (Nat.ble ns κ.2.2.1.2.2.2) (Nat.ble nc κ.2.2.1.2.2.1))) (Nat.ble (ai_sum st) 8))))
noncomputable def ai_call (mode mid k ci : Nat) : ai_D := fun sq jm κ loc stk w => ai_args k [] stk (fun a st => ai_rcv mode ci w a (ai_nth ai_tab none (fun M => ai_nt (Nat.add w.2.2.2.1 M.2.2.1) (fun nc => ai_nt (Nat.add w.2.2.2.2 M.2.2.2) (fun ns => ai_call2 M a st nc ns sq jm κ loc stk w))) mid))
noncomputable def ai_obj : ai_D := fun sq jm κ loc stk w => (@List.rec _ (fun _ => _) none (fun v st _ => (@Bool.rec (fun _ => _) none (sq loc st w) ((@Bool.rec (fun _ => _) false (Nat.ble (ai_sum st) 8) (Nat.beq v.1 6))))) stk)
noncomputable def ai_ord : ai_D := fun sq _ κ loc stk w => (@List.rec _ (fun _ => _) none (fun v st _ => (@Prod.rec _ _ (fun _ => _) (fun t j => (@Bool.rec (fun _ => _) none (sq loc ((0, j) :: st) w) ((@Bool.rec (fun _ => _) false ((@Bool.rec (fun _ => _) false ((@Bool.rec (fun _ => _) false (Nat.ble w.2.2.2.2 κ.2.2.1.2.2.2) (Nat.ble w.2.2.2.1 κ.2.2.1.2.2.1))) (Nat.ble 1 κ.2.1))) ((@Bool.rec (fun _ => _) false (Nat.ble (ai_sum st) 8) ((@Bool.rec (fun _ => _) false (Nat.ble j 37) (Nat.beq t 7))))))))) v)) stk)
noncomputable def ai_non : ai_D := fun _ _ _ _ _ _ => none
noncomputable def ai_cp : ai_D := fun sq jm κ loc stk w => (@Bool.rec (fun _ => _) none (ai_copy sq jm κ loc stk w) (Nat.ble (ai_sum stk) 13))
noncomputable def ai_inv (mode mid n ci : Nat) : ai_D := (@Bool.rec (fun _ => _) ((@Bool.rec (fun _ => _) ((@Bool.rec (fun _ => _) ((@Bool.rec (fun _ => _) ai_non ai_ord (Nat.beq mode 9))) ai_cp (Nat.beq mode 8))) ai_obj (Nat.beq mode 7))) (ai_call mode mid n ci) (Nat.ble mode 6))
noncomputable def ai_ret2 (v : Option ai_V) (κ : ai_K) (w : ai_W) : ai_P := (@Prod.rec _ _ (fun _ => _) (fun n w1 => (@Prod.rec _ _ (fun _ => _) (fun h w2 => (@Prod.rec _ _ (fun _ => _) (fun env w3 => (@Bool.rec (fun _ => _) none (some [(v, n, h, env)]) ((@Bool.rec (fun _ => _) false (Nat.ble w3.2 κ.2.2.1.2.2.2) (Nat.ble w3.1 κ.2.2.1.2.2.1))))) w2)) w1)) w)
noncomputable def ai_ret (lo hi : Nat) : ai_D := fun sq jm κ loc stk w => (@List.rec _ (fun _ => _) none (fun v st _ => (@List.rec _ (fun _ => _) ((@Bool.rec (fun _ => _) none (ai_res w.2.2.1 v (fun v => ai_ret2 (some v) κ w)) (ai_in lo hi v))) (fun _ _ _ => none) st)) stk)
/-- a boolean -/
noncomputable def ai_retz : ai_D := fun _ _ κ _ stk w => (@List.rec _ (fun _ => _) none (fun v st _ => (@List.rec _ (fun _ => _) (ai_res w.2.2.1 v (fun v => (@Bool.rec (fun _ => _) none (ai_ret2 (some v) κ w) ((@Bool.rec (fun _ => _) false (Nat.ble v.2 1) (Nat.beq v.1 0)))))) (fun _ _ _ => none) st)) stk)
noncomputable def ai_retv : ai_D := fun sq jm κ loc stk w => (@List.rec _ (fun _ => _) (ai_ret2 none κ w) (fun _ _ _ => none) stk)
noncomputable def ai_i2b : ai_D := fun sq _ _ loc stk w => (@List.rec _ (fun _ => _) none (fun x st _ => (@Bool.rec (fun _ => _) none (sq loc ((2, 0) :: st) w) (Nat.ble x.1 2))) stk)
noncomputable def ai_i2l : ai_D := fun sq jm κ loc stk w => (@List.rec _ (fun _ => _) none (fun x st _ => (@Prod.rec _ _ (fun _ => _) (fun t n => (@Bool.rec (fun _ => _) none (sq loc ((3, n) :: st) w) ((@Bool.rec (fun _ => _) false (Nat.ble n 2147483647) (Nat.beq t 0))))) x)) stk)
noncomputable def ai_lcmp : ai_D := fun sq _ _ loc stk w => (@List.rec _ (fun _ => _) none (fun y st _ => (@List.rec _ (fun _ => _) none (fun x st _ => (@Bool.rec (fun _ => _) none (sq loc ((0, 0) :: st) w) ((@Bool.rec (fun _ => _) false (ai_eqV x y) (Nat.beq x.1 3))))) st)) stk)
noncomputable def ai_dup : ai_D := fun sq jm κ loc stk w => (@List.rec _ (fun _ => _) none (fun x st _ => (@Bool.rec (fun _ => _) none (sq loc (x :: x :: st) w) (Nat.beq (ai_cat x) 1))) stk)
noncomputable def ai_dup2 : ai_D := fun sq jm κ loc stk w => (@List.rec _ (fun _ => _) none (fun x st _ => (@List.rec _ (fun _ => _) none (fun y st _ => (@Bool.rec (fun _ => _) none (sq loc (x :: y :: x :: y :: st) w) ((@Bool.rec (fun _ => _) false (Nat.beq (ai_cat y) 1) (Nat.beq (ai_cat x) 1))))) st)) stk)
noncomputable def ai_pop : ai_D := fun sq jm κ loc stk w => (@List.rec _ (fun _ => _) none (fun x st _ => (@Bool.rec (fun _ => _) none (sq loc st w) (Nat.beq (ai_cat x) 1))) stk)
/-- a target -/
noncomputable def ai_tgt (pc : Nat) (off : Int) : Option Nat := match (pc : Int) + off with
  | .ofNat t => some t
  | .negSucc _ => none
noncomputable def ai_to (pc : Nat) (off : Int) (f : Nat → ai_D) : Option ai_D := (@Option.rec _ (fun _ => _) none (fun t => some (f t)) (ai_tgt pc off))
noncomputable def ai_tgts (pc : Nat) (l : List Int) : Option (List Nat) := @List.rec Int (fun _ => Option (List Nat)) (some []) (fun o _ ih => (@Option.rec _ (fun _ => _) none (fun t => (@Option.rec _ (fun _ => _) none (fun ts => some (t :: ts)) ih)) (ai_tgt pc o))) l
/-! ===== an instruction's doing ===== -/
noncomputable def ai_h (e : ai_N) : Option ai_D := match e.2.1 with
  | .iconst n => some (ai_push (0, ai_ofI n))
  | .bipush n => (@Bool.rec (fun _ => _) none (some (ai_push (0, ai_ofI n))) (decide (-128 ≤ n) && decide (n ≤ 127)))
  | .sipush n => (@Bool.rec (fun _ => _) none (some (ai_push (0, ai_ofI n))) (decide (-32768 ≤ n) && decide (n ≤ 32767)))
  | .ldc _ => some (ai_push (0, e.2.2.2.1))
  | .ldc_w _ => some (ai_push (0, e.2.2.2.1))
  | .lconst n => some (ai_push (3, n.val))
  | .aconst_null => some (ai_push (5, 0))
  | .iload i => some (ai_ld i 0 2)
  | .iload_n i => some (ai_ld i.val 0 2)
  | .aload i => some (ai_ld i 5 7)
  | .aload_n i => some (ai_ld i.val 5 7)
  | .istore i => some (ai_sto i 0 2)
  | .istore_n i => some (ai_sto i.val 0 2)
  | .astore i => some (ai_sto i 5 7)
  | .astore_n i => some (ai_sto i.val 5 7)
  | .iinc i n => some (ai_iinc i (ai_ofI n))
  | .iadd => some (ai_bin (ai_op2 ai_add))
  | .isub => some (ai_bin (ai_op2 ai_sub))
  | .imul => some (ai_bin (ai_op2 ai_mul))
  | .iand => some (ai_bin ai_iand)
  | .iushr => some (ai_bin ai_any2)
  | .ishr => some (ai_bin ai_any2)
  | .irem => some (ai_bin ai_irem)
  | .i2b => some ai_i2b
  | .i2l => some ai_i2l
  | .lcmp => some ai_lcmp
  | .dup => some ai_dup
  | .dup2 => some ai_dup2
  | .pop => some ai_pop
  | .goto off => ai_to e.1 off ai_goto
  | .if_icmp .eq off => ai_to e.1 off (ai_icmp 0)
  | .if_icmp .ne off => ai_to e.1 off (ai_icmp 1)
  | .if_icmp .lt off => ai_to e.1 off (ai_icmp 2)
  | .if_icmp .ge off => ai_to e.1 off (ai_icmp 3)
  | .if_icmp .gt off => ai_to e.1 off (ai_icmp 4)
  | .if_icmp .le off => ai_to e.1 off (ai_icmp 5)
  | .ifCond .eq off => ai_to e.1 off (ai_if0 0)
  | .ifCond .ne off => ai_to e.1 off (ai_if0 1)
  | .ifCond .lt off => ai_to e.1 off (ai_if0 2)
  | .ifCond .ge off => ai_to e.1 off (ai_if0 3)
  | .ifCond .gt off => ai_to e.1 off (ai_if0 4)
  | .ifCond .le off => ai_to e.1 off (ai_if0 5)
  | .if_acmp .eq off => ai_to e.1 off (ai_acmp true)
  | .if_acmp .ne off => ai_to e.1 off (ai_acmp false)
  | .ifnull off => ai_to e.1 off (ai_nul true)
  | .ifnonnull off => ai_to e.1 off (ai_nul false)
  | .tableswitch df lo hi offs => (@Option.rec _ (fun _ => _) none (fun lo' => (@Bool.rec (fun _ => _) none ((@Option.rec _ (fun _ => _) none (fun ts => ai_to e.1 df (fun d => ai_tsw d lo' ts)) (ai_tgts e.1 offs.toList))) (decide (hi = lo + offs.toList.length - 1)))) (ai_tgt 0 lo))
  | .getfield _ => some (ai_get e.2.2.2.1 e.2.2.2.2.1)
  | .putfield _ => some (ai_putf e.2.2.2.1 e.2.2.2.2.1 e.2.2.2.2.2.2.2)
  | .getstatic _ => some (ai_push (7, e.2.2.2.1))
  | .new _ => some (ai_alloc e.2.2.2.2.1 (0, e.2.2.2.1, (5, 0), ai_ini e.2.2.2.1))
  | .newarray _ => some (ai_newa e.2.2.2.1)
  | .anewarray _ => some (ai_newa e.2.2.2.1)
  | .arraylength => some ai_alen
  | .iaload => some (ai_ald 1 1)
  | .baload => some (ai_ald 2 3)
  | .laload => some (ai_ald 4 4)
  | .aaload => some (ai_ald 5 6)
  | .iastore => some (ai_ast 1 1)
  | .bastore => some (ai_ast 2 3)
  | .lastore => some (ai_ast 4 4)
  | .aastore => some (ai_ast 5 6)
  | .invokevirtual _ => some (ai_inv e.2.2.2.2.2.1 e.2.2.2.1 e.2.2.2.2.1 e.2.2.2.2.2.2.2)
  | .invokespecial _ => some (ai_inv e.2.2.2.2.2.1 e.2.2.2.1 e.2.2.2.2.1 e.2.2.2.2.2.2.2)
  | .invokestatic _ => some (ai_inv e.2.2.2.2.2.1 e.2.2.2.1 e.2.2.2.2.1 e.2.2.2.2.2.2.2)
  | .ireturn => (@Bool.rec (fun _ => _) (some (ai_ret 0 2)) (some ai_retz) (Nat.beq e.2.2.2.1 1))
  | .areturn => some (ai_ret 5 7)
  | .return_ => some ai_retv
  | _ => none
/-! ===== the run ===== -/
noncomputable def ai_one (ih : ai_X) (d : Nat) (M : ai_M) (loc : ai_L) (stk : List ai_V) (w : ai_W) (e : ai_N) (tl : List ai_N) : ai_P := (@Option.rec _ (fun _ => _) none (fun hd => hd (ih d M (Nat.add e.1 e.2.2.1) tl) (ai_jm ih d M) (ih, d, M, e.1) loc stk w) (ai_h e))
noncomputable def ai_body (ih : ai_X) : ai_X := fun d M pc rest loc stk w => (@List.rec _ (fun _ => _) none (fun e tl _ => (@Bool.rec (fun _ => _) none (ai_one ih d M loc stk w e tl) (Nat.beq e.1 pc))) rest)
noncomputable def ai_run (n : Nat) : ai_X := @Nat.rec (fun _ => ai_X) (fun _ _ _ _ _ _ _ => none) (fun _ ih => ai_body ih) n
