/-! ===== the checker: locals, stack, branches ===== -/
section CBR
variable {Θ : cTh} {γ : bG} {y : bY} {d b1 b2 pc : Nat} {sq : cQ} {S : cZ} {ρ : Nat → Int} {σ : Nat → Option Nat} {g : Nat → Nat} {τ : bt} {h : bh} {lo st : List cV} {lo' : List (Option Value)} {st' : List Value}
theorem va_rf_inj {o q : Option Nat} (h : va_rf o = va_rf q) : o = q := by
  cases o <;> cases q <;> simp_all [va_rf]
theorem cv_cat {v : cV} {x : Value} (h : cv ρ σ v x) (h3 : v.1 ≠ 3) : x.category = 1 := by
  rcases h with ⟨-, rfl, -⟩ | ⟨-, rfl⟩ | ⟨-, rfl⟩ | ⟨h, -⟩
  · rfl
  · cases σ v.2.1 <;> rfl
  · rfl
  · exact absurd h h3
noncomputable def cq_ldI (i : Nat) (sq : cQ) : cQ := fun S lo st => cop (cnth lo i) (fun v => cond (Nat.beq v.1 0) (sq S lo (v :: st)) false)
theorem cs_ldI {i : Nat} (k : cSn Θ γ pc sq) (hq : cq_ldI i sq S lo st = true) (hG : cGd γ.1 Θ g τ h) (hR : cRl Θ S ρ σ g τ h lo st lo' st') : ∃ x : Int32, lo'[i]? = some (some (.int x)) ∧ bJ γ pc lo' (.int x :: st') τ h S.2.2.2.1 S.2.2.2.2 := by
  obtain ⟨v, hv, hq⟩ := cop_ok hq
  obtain ⟨h0, hq⟩ := c_and hq
  have h0 := Nat.eq_of_beq_eq_true h0
  rw [cnth_eq] at hv
  obtain ⟨x, h1, h2⟩ := hR.loc hv (by omega)
  obtain ⟨e, -⟩ := cv_int h0 rfl (h2 ρ σ (cag.rf hR.1))
  refine ⟨_, by rw [h1, e], ?_⟩
  rw [← e]
  exact k _ _ _ hq _ _ _ _ _ _ _ hG (hR.pushZ h2)
theorem cs_iload {i : Nat} (C : bC γ y d b1 b2) (hd : decode y.2.1 pc = .ok (.iload i, 2)) (k : cSn Θ γ (pc + 2) sq) : cSn Θ γ pc (cq_ldI i sq) := fun S lo st hq ρ σ g τ h lo' st' hG hR => by
  obtain ⟨x, h1, h2⟩ := cs_ldI k hq hG hR
  exact b_iload C hd h1 h2
theorem cs_iload_n {i : Fin 4} (C : bC γ y d b1 b2) (hd : decode y.2.1 pc = .ok (.iload_n i, 1)) (k : cSn Θ γ (pc + 1) sq) : cSn Θ γ pc (cq_ldI i.val sq) := fun S lo st hq ρ σ g τ h lo' st' hG hR => by
  obtain ⟨x, h1, h2⟩ := cs_ldI k hq hG hR
  exact b_iload_n C hd h1 h2
noncomputable def cq_ldL (i : Nat) (sq : cQ) : cQ := fun S lo st => cop (cnth lo i) (fun v => cond (Nat.beq v.1 3) (sq S lo (cLg :: st)) false)
theorem cs_ldL {i : Nat} (k : cSn Θ γ pc sq) (hq : cq_ldL i sq S lo st = true) (hG : cGd γ.1 Θ g τ h) (hR : cRl Θ S ρ σ g τ h lo st lo' st') : ∃ x : Int64, lo'[i]? = some (some (.long x)) ∧ bJ γ pc lo' (.long x :: st') τ h S.2.2.2.1 S.2.2.2.2 := by
  obtain ⟨v, hv, hq⟩ := cop_ok hq
  obtain ⟨h0, hq⟩ := c_and hq
  have h0 := Nat.eq_of_beq_eq_true h0
  rw [cnth_eq] at hv
  obtain ⟨x, h1, h2⟩ := hR.loc hv (by omega)
  rcases h2 ρ σ (cag.rf hR.1) with ⟨h, -⟩ | ⟨h, -⟩ | ⟨h, -⟩ | ⟨-, w, hw⟩
  iterate 3 omega
  subst hw
  exact ⟨w, h1, cs_lg k hq hG hR⟩
theorem cs_lload {i : Nat} (C : bC γ y d b1 b2) (hd : decode y.2.1 pc = .ok (.lload i, 2)) (k : cSn Θ γ (pc + 2) sq) : cSn Θ γ pc (cq_ldL i sq) := fun S lo st hq ρ σ g τ h lo' st' hG hR => by
  obtain ⟨x, h1, h2⟩ := cs_ldL k hq hG hR
  exact b_lload C hd h1 h2
theorem cs_lload_n {i : Fin 4} (C : bC γ y d b1 b2) (hd : decode y.2.1 pc = .ok (.lload_n i, 1)) (k : cSn Θ γ (pc + 1) sq) : cSn Θ γ pc (cq_ldL i.val sq) := fun S lo st hq ρ σ g τ h lo' st' hG hR => by
  obtain ⟨x, h1, h2⟩ := cs_ldL k hq hG hR
  exact b_lload_n C hd h1 h2
/-- is it a reference -/
def crq (v : cV) : Bool := Nat.beq v.1 1 || Nat.beq v.1 2
theorem crq_ok {v : cV} (h : crq v = true) : v.1 = 1 ∨ v.1 = 2 := by
  unfold crq at h
  rcases Bool.or_eq_true _ _ |>.mp h with h | h
  · exact Or.inl (Nat.eq_of_beq_eq_true h)
  · exact Or.inr (Nat.eq_of_beq_eq_true h)
theorem cv_ref {v : cV} {x : Value} (h0 : v.1 = 1 ∨ v.1 = 2) (h : cv ρ σ v x) : ∃ o, x = va_rf o := by
  rcases h with ⟨h, -⟩ | ⟨-, rfl⟩ | ⟨-, rfl⟩ | ⟨h, -⟩
  · omega
  · exact ⟨_, rfl⟩
  · exact ⟨_, rfl⟩
  · omega
noncomputable def cq_ldA (i : Nat) (sq : cQ) : cQ := fun S lo st => cop (cnth lo i) (fun v => cond (crq v) (sq S lo (v :: st)) false)
theorem cs_ldA {i : Nat} (k : cSn Θ γ pc sq) (hq : cq_ldA i sq S lo st = true) (hG : cGd γ.1 Θ g τ h) (hR : cRl Θ S ρ σ g τ h lo st lo' st') : ∃ o : Option Nat, lo'[i]? = some (some (va_rf o)) ∧ bJ γ pc lo' (va_rf o :: st') τ h S.2.2.2.1 S.2.2.2.2 := by
  obtain ⟨v, hv, hq⟩ := cop_ok hq
  obtain ⟨h0, hq⟩ := c_and hq
  have h0 := crq_ok h0
  rw [cnth_eq] at hv
  obtain ⟨x, h1, h2⟩ := hR.loc hv (by omega)
  obtain ⟨o, e⟩ := cv_ref h0 (h2 ρ σ (cag.rf hR.1))
  refine ⟨o, by rw [h1, e], ?_⟩
  rw [← e]
  exact k _ _ _ hq _ _ _ _ _ _ _ hG (hR.pushZ h2)
theorem cs_aload {i : Nat} (C : bC γ y d b1 b2) (hd : decode y.2.1 pc = .ok (.aload i, 2)) (k : cSn Θ γ (pc + 2) sq) : cSn Θ γ pc (cq_ldA i sq) := fun S lo st hq ρ σ g τ h lo' st' hG hR => by
  obtain ⟨x, h1, h2⟩ := cs_ldA k hq hG hR
  exact b_aload C hd h1 h2
theorem cs_aload_n {i : Fin 4} (C : bC γ y d b1 b2) (hd : decode y.2.1 pc = .ok (.aload_n i, 1)) (k : cSn Θ γ (pc + 1) sq) : cSn Θ γ pc (cq_ldA i.val sq) := fun S lo st hq ρ σ g τ h lo' st' hG hR => by
  obtain ⟨x, h1, h2⟩ := cs_ldA k hq hG hR
  exact b_aload_n C hd h1 h2
/-! stores into locals -/
noncomputable def cno2 (lo : List cV) (i : Nat) : Bool := @Nat.rec (fun _ => Bool) true (fun j _ => @Option.rec cV (fun _ => Bool) true (fun v => not (Nat.beq v.1 3)) (cnth lo j)) i
theorem cno2_ok {i : Nat} (hc : cno2 lo i = true) (hR : cRl Θ S ρ σ g τ h lo st lo' st') : bno2 lo' i := by
  intro j w hj hw e
  subst e
  obtain ⟨-, h1, -⟩ := hR.at
  have hlt : j < lo.length := by
    rw [h1.len]
    exact (List.getElem?_eq_some_iff.mp hj).1
  obtain ⟨x, hx, hP⟩ := h1.nth (List.getElem?_eq_getElem hlt)
  rw [hj] at hx
  cases hx
  change @Option.rec cV (fun _ => Bool) true (fun v => not (Nat.beq v.1 3)) (cnth lo j) = true at hc
  rw [cnth_eq, List.getElem?_eq_getElem hlt] at hc
  change (!Nat.beq (lo[j]).1 3) = true at hc
  rcases hP with ⟨-, h⟩ | ⟨w', e, hv⟩
  · cases h
  · cases e
    have := cv_cat hv (fun z => by rw [z] at hc; cases hc)
    omega
theorem cRl.put {i : Nat} {v : cV} {x : Value} (hR : cRl Θ S ρ σ g τ h lo st lo' st') (hv : ∀ ρ' σ', cag S.1 S.2.1 ρ σ ρ' σ' → cv ρ' σ' v x) : cRl Θ S ρ σ g τ h (cset v lo i) st (lo'.set i (some x)) st' := by
  obtain ⟨n, m, A, nc, ns⟩ := S
  rw [cset_eq]
  exact hR.map fun ρ' σ' ha h1 h2 => ⟨h1, c2.set (P := cvO ρ' σ') (Or.inr ⟨x, rfl, hv ρ' σ' ha⟩) h2.1, h2.2⟩
theorem cRl.putN {i : Nat} (hR : cRl Θ S ρ σ g τ h lo st lo' st') : cRl Θ S ρ σ g τ h (cset cNo lo i) st (lo'.set i none) st' := by
  obtain ⟨n, m, A, nc, ns⟩ := S
  rw [cset_eq]
  exact hR.map fun ρ' σ' ha h1 h2 => ⟨h1, c2.set (P := cvO ρ' σ') (Or.inl ⟨rfl, rfl⟩) h2.1, h2.2⟩
noncomputable def cq_stI (nL i : Nat) (sq : cQ) : cQ := fun S lo st => cpv 0 st (fun v r => cond (Nat.blt i nL) (cond (cno2 lo i) (sq S (cset v lo i) r) false) false)
theorem cs_stI {nL i : Nat} (k : cSn Θ γ pc sq) (hq : cq_stI nL i sq S lo st = true) (hG : cGd γ.1 Θ g τ h) (hR : cRl Θ S ρ σ g τ h lo st lo' st') : ∃ (x : Int32) (r : List Value), st' = .int x :: r ∧ i < nL ∧ bno2 lo' i ∧ bJ γ pc (lo'.set i (some (.int x))) r τ h S.2.2.2.1 S.2.2.2.2 := by
  obtain ⟨v, r, rfl, hv, hq⟩ := cpv_ok hq
  obtain ⟨q1, hq⟩ := c_and hq
  obtain ⟨q2, hq⟩ := c_and hq
  have n2 := cno2_ok q2 hR
  obtain ⟨x, s1, rfl, e1, hR1⟩ := hR.pop
  obtain ⟨e, -⟩ := cv_int hv rfl (e1 ρ σ (cag.rf hR.1))
  refine ⟨_, _, by rw [e], Nat.ble_eq.mp q1, n2, ?_⟩
  rw [← e]
  exact k _ _ _ hq _ _ _ _ _ _ _ hG (hR1.put e1)
theorem cs_istore {nL i : Nat} (C : bC γ y d b1 b2) (hn : γ.2.2.1 = nL) (hd : decode y.2.1 pc = .ok (.istore i, 2)) (k : cSn Θ γ (pc + 2) sq) : cSn Θ γ pc (cq_stI nL i sq) := fun S lo st hq ρ σ g τ h lo' st' hG hR => by
  obtain ⟨x, r, rfl, h1, h2, h3⟩ := cs_stI k hq hG hR
  exact b_istore C hd (by omega) h2 h3
theorem cs_istore_n {nL : Nat} {i : Fin 4} (C : bC γ y d b1 b2) (hn : γ.2.2.1 = nL) (hd : decode y.2.1 pc = .ok (.istore_n i, 1)) (k : cSn Θ γ (pc + 1) sq) : cSn Θ γ pc (cq_stI nL i.val sq) := fun S lo st hq ρ σ g τ h lo' st' hG hR => by
  obtain ⟨x, r, rfl, h1, h2, h3⟩ := cs_stI k hq hG hR
  exact b_istore_n C hd (by omega) h2 h3
noncomputable def cq_stA (nL i : Nat) (sq : cQ) : cQ := fun S lo st => cpx st (fun v r => cond (crq v) (cond (Nat.blt i nL) (cond (cno2 lo i) (sq S (cset v lo i) r) false) false) false)
theorem cs_stA {nL i : Nat} (k : cSn Θ γ pc sq) (hq : cq_stA nL i sq S lo st = true) (hG : cGd γ.1 Θ g τ h) (hR : cRl Θ S ρ σ g τ h lo st lo' st') : ∃ (o : Option Nat) (r : List Value), st' = va_rf o :: r ∧ i < nL ∧ bno2 lo' i ∧ bJ γ pc (lo'.set i (some (va_rf o))) r τ h S.2.2.2.1 S.2.2.2.2 := by
  obtain ⟨v, r, rfl, hq⟩ := cpx_ok hq
  obtain ⟨hv, hq⟩ := c_and hq
  obtain ⟨q1, hq⟩ := c_and hq
  obtain ⟨q2, hq⟩ := c_and hq
  have n2 := cno2_ok q2 hR
  obtain ⟨x, s1, rfl, e1, hR1⟩ := hR.pop
  obtain ⟨o, e⟩ := cv_ref (crq_ok hv) (e1 ρ σ (cag.rf hR.1))
  refine ⟨o, _, by rw [e], Nat.ble_eq.mp q1, n2, ?_⟩
  rw [← e]
  exact k _ _ _ hq _ _ _ _ _ _ _ hG (hR1.put e1)
theorem cs_astore {nL i : Nat} (C : bC γ y d b1 b2) (hn : γ.2.2.1 = nL) (hd : decode y.2.1 pc = .ok (.astore i, 2)) (k : cSn Θ γ (pc + 2) sq) : cSn Θ γ pc (cq_stA nL i sq) := fun S lo st hq ρ σ g τ h lo' st' hG hR => by
  obtain ⟨x, r, rfl, h1, h2, h3⟩ := cs_stA k hq hG hR
  exact b_astore C hd (by omega) h2 h3
theorem cs_astore_n {nL : Nat} {i : Fin 4} (C : bC γ y d b1 b2) (hn : γ.2.2.1 = nL) (hd : decode y.2.1 pc = .ok (.astore_n i, 1)) (k : cSn Θ γ (pc + 1) sq) : cSn Θ γ pc (cq_stA nL i.val sq) := fun S lo st hq ρ σ g τ h lo' st' hG hR => by
  obtain ⟨x, r, rfl, h1, h2, h3⟩ := cs_stA k hq hG hR
  exact b_astore_n C hd (by omega) h2 h3
noncomputable def cq_stL (nL i : Nat) (sq : cQ) : cQ := fun S lo st => cpv 3 st (fun _ r => cond (Nat.blt (i + 1) nL) (cond (cno2 lo i) (sq S (cset cNo (cset cLg lo i) (i + 1)) r) false) false)
theorem cs_lstore {nL i : Nat} (C : bC γ y d b1 b2) (hn : γ.2.2.1 = nL) (hd : decode y.2.1 pc = .ok (.lstore i, 2)) (k : cSn Θ γ (pc + 2) sq) : cSn Θ γ pc (cq_stL nL i sq) := fun S lo st hq ρ σ g τ h lo' st' hG hR => by
  obtain ⟨v, r, rfl, hv, hq⟩ := cpv_ok hq
  obtain ⟨q1, hq⟩ := c_and hq
  obtain ⟨q2, hq⟩ := c_and hq
  have n2 := cno2_ok q2 hR
  have q1 := Nat.ble_eq.mp q1
  obtain ⟨w, s1, rfl, hR1⟩ := hR.popL hv
  exact b_lstore C hd (by omega) n2 (k _ _ _ hq _ _ _ _ _ _ _ hG (hR1.put fun _ _ _ => cv_L).putN)
noncomputable def cq_inc (nL i : Nat) (n : Int) (sq : cQ) : cQ := fun S lo st => cop (cnth lo i) (fun v => cond (Nat.beq v.1 0) (cond (Nat.blt i nL) (cond (cno2 lo i) (cq_nrm (cpl n v.2.2) (fun S lo st => cpx st (fun w r => sq S (cset w lo i) r)) S lo st) false) false) false)
theorem cs_iinc {nL i : Nat} {n : Int} (C : bC γ y d b1 b2) (hn : γ.2.2.1 = nL) (hd : decode y.2.1 pc = .ok (.iinc i n, 3)) (k : cSn Θ γ (pc + 3) sq) : cSn Θ γ pc (cq_inc nL i n sq) := fun S lo st hq ρ σ g τ h lo' st' hG hR => by
  obtain ⟨v, hv, hq⟩ := cop_ok hq
  obtain ⟨h0, hq⟩ := c_and hq
  obtain ⟨q1, hq⟩ := c_and hq
  obtain ⟨q2, hq⟩ := c_and hq
  have n2 := cno2_ok q2 hR
  have q1 := Nat.ble_eq.mp q1
  have h0 := Nat.eq_of_beq_eq_true h0
  rw [cnth_eq] at hv
  obtain ⟨x, h1, h2⟩ := hR.loc hv (by omega)
  obtain ⟨e, eb⟩ := cv_int h0 rfl (h2 ρ σ (cag.rf hR.1))
  have ee : ∀ ρ' σ', cag S.1 S.2.1 ρ σ ρ' σ' → cE ρ' (cpl n v.2.2) = cE ρ v.2.2 + n := fun ρ' σ' ha => by
    obtain ⟨e', eb'⟩ := cv_int h0 rfl (h2 ρ' σ' ha)
    rw [e] at e'
    injection e' with e'
    rw [cpl_ev, (bz_eq eb eb').mp e']
  refine b_iinc C hd (by omega) (by rw [h1, e]) n2 ?_
  unfold cq_nrm at hq
  cases hc : cond (cpos S.2.2.1.1 S.2.2.1.2.1 (cpl 2147483648 (cpl n v.2.2))) (cpos S.2.2.1.1 S.2.2.1.2.1 (cpl 2147483647 (csc (-1) (cpl n v.2.2)))) false with
  | true =>
    rw [hc] at hq
    obtain ⟨c1, c2⟩ := c_and hc
    have e1 := cpos_ok hR.at.1.1 hR.at.1.2.1 c1
    have e2 := cpos_ok hR.at.1.1 hR.at.1.2.1 c2
    rw [cpl_ev, ee ρ σ (cag.rf hR.1)] at e1
    rw [cpl_ev, csc_ev, ee ρ σ (cag.rf hR.1)] at e2
    exact k _ _ _ hq _ _ _ _ _ _ _ hG (hR.put fun ρ' σ' ha => cv_I ⟨by omega, by omega⟩ (ee ρ' σ' ha))
  | false =>
    rw [hc] at hq
    obtain ⟨u, hu, hz, -⟩ := bz_norm (cE ρ v.2.2 + n)
    rw [hz]
    obtain ⟨r1, r2⟩ := hR.fresh (l := cmL) (u := cmH) hu hu.1 hu.2
    exact k _ _ _ hq _ _ _ _ _ _ _ hG (r1.put fun ρ' σ' ha => cv_I hu (by rw [cX_ev]; exact r2 ρ' σ' ha))
/-! stack -/
noncomputable def cq_dup (sq : cQ) : cQ := fun S lo st => cpx st (fun v r => cond (Nat.beq v.1 3) false (sq S lo (v :: v :: r)))
theorem c_nb {a b : Nat} {q : Bool} (h : cond (Nat.beq a b) false q = true) : a ≠ b ∧ q = true := by
  cases hc : Nat.beq a b with
  | true => rw [hc] at h; cases h
  | false => rw [hc] at h; exact ⟨Nat.ne_of_beq_eq_false hc, h⟩
theorem cs_dup (C : bC γ y d b1 b2) (hd : decode y.2.1 pc = .ok (.dup, 1)) (k : cSn Θ γ (pc + 1) sq) : cSn Θ γ pc (cq_dup sq) := fun S lo st hq ρ σ g τ h lo' st' hG hR => by
  obtain ⟨v, r, rfl, hq⟩ := cpx_ok hq
  obtain ⟨h3, hq⟩ := c_nb hq
  obtain ⟨x, s1, rfl, e1, hR1⟩ := hR.pop
  exact b_dup C hd (cv_cat (e1 ρ σ (cag.rf hR.1)) h3) (k _ _ _ hq _ _ _ _ _ _ _ hG (hR.pushZ e1))
noncomputable def cq_dup2 (sq : cQ) : cQ := fun S lo st => cpx st (fun v r => cond (Nat.beq v.1 3) false (cpx r (fun w r => cond (Nat.beq w.1 3) false (sq S lo (v :: w :: v :: w :: r)))))
theorem cs_dup2 (C : bC γ y d b1 b2) (hd : decode y.2.1 pc = .ok (.dup2, 1)) (k : cSn Θ γ (pc + 1) sq) : cSn Θ γ pc (cq_dup2 sq) := fun S lo st hq ρ σ g τ h lo' st' hG hR => by
  obtain ⟨v, r, rfl, hq⟩ := cpx_ok hq
  obtain ⟨h3, hq⟩ := c_nb hq
  obtain ⟨w, r, rfl, hq⟩ := cpx_ok hq
  obtain ⟨h4, hq⟩ := c_nb hq
  obtain ⟨x, s1, rfl, e1, hR1⟩ := hR.pop
  obtain ⟨z, s2, rfl, e2, hR2⟩ := hR1.pop
  exact b_dup2 C hd (cv_cat (e1 ρ σ (cag.rf hR.1)) h3) (cv_cat (e2 ρ σ (cag.rf hR.1)) h4) (k _ _ _ hq _ _ _ _ _ _ _ hG ((hR.pushZ e2).pushZ e1))
noncomputable def cq_pop (sq : cQ) : cQ := fun S lo st => cpx st (fun v r => cond (Nat.beq v.1 3) false (sq S lo r))
theorem cs_pop (C : bC γ y d b1 b2) (hd : decode y.2.1 pc = .ok (.pop, 1)) (k : cSn Θ γ (pc + 1) sq) : cSn Θ γ pc (cq_pop sq) := fun S lo st hq ρ σ g τ h lo' st' hG hR => by
  obtain ⟨v, r, rfl, hq⟩ := cpx_ok hq
  obtain ⟨h3, hq⟩ := c_nb hq
  obtain ⟨x, s1, rfl, e1, hR1⟩ := hR.pop
  exact b_pop C hd (cv_cat (e1 ρ σ (cag.rf hR.1)) h3) (k _ _ _ hq _ _ _ _ _ _ _ hG hR1)
end CBR
