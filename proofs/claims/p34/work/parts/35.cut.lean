/-! ===== the checker: places where a state is left for another one ===== -/
noncomputable def cwL (n : Nat) (e : cL) : Bool := call (fun q => Nat.blt q.1 n) e.2
theorem cev_ag {n : Nat} {ρ ρ' : Nat → Int} (ha : ∀ s, s < n → ρ' s = ρ s) (l : List (Nat × Int)) (h : ∀ q ∈ l, q.1 < n) : cev ρ' l = cev ρ l := by
  induction l with
  | nil => rfl
  | cons q r ih => rw [cev_cons, cev_cons, ha q.1 (h q List.mem_cons_self), ih fun p hp => h p (List.mem_cons_of_mem _ hp)]
theorem cwL_ok {n : Nat} {ρ ρ' : Nat → Int} {e : cL} (h : cwL n e = true) (ha : ∀ s, s < n → ρ' s = ρ s) : cE ρ' e = cE ρ e := by
  show e.1 + cev ρ' e.2 = e.1 + cev ρ e.2
  rw [cev_ag ha e.2 fun q hq => Nat.ble_eq.mp (call_iff.mp h q hq)]
noncomputable def cwX (n m : Nat) (v : cV) : Bool := cond (cwL n v.2.2) (cond (Nat.beq v.1 1) (Nat.blt v.2.1 m) true) false
theorem cwX_ok {n m : Nat} {v : cV} {ρ ρ' : Nat → Int} {σ σ' : Nat → Option Nat} {x : Value} (h : cwX n m v = true) (ha : cag n m ρ σ ρ' σ') (hv : cv ρ σ v x) : cv ρ' σ' v x := by
  obtain ⟨h1, h2⟩ := c_and h
  have e := cwL_ok h1 ha.2.1
  rcases hv with ⟨z, x1, x2⟩ | ⟨z, x1⟩ | ⟨z, x1⟩ | ⟨z, x1⟩
  · exact Or.inl ⟨z, by rw [e]; exact x1, by rw [e]; exact x2⟩
  · rw [z] at h2
    have h2 : v.2.1 < m := Nat.ble_eq.mp (show Nat.blt v.2.1 m = true from h2)
    exact Or.inr (Or.inl ⟨z, by rw [ha.2.2 _ h2]; exact x1⟩)
  · exact Or.inr (Or.inr (Or.inl ⟨z, x1⟩))
  · exact Or.inr (Or.inr (Or.inr ⟨z, x1⟩))
noncomputable def cwA (n m : Nat) (T : cA) : Bool := cond (call (fun q => Nat.blt q.1 n) T.1) (cond (call (cwL n) T.2.1) (cond (call (fun q => cond (Nat.blt q.1 m) (cwL n q.2.2.2.2) false) T.2.2.1) (call (fun q => cond (Nat.blt q.1 m) (cwX n m q.2.2) false) T.2.2.2) false) false) false
theorem cwA_ok {n m : Nat} {T : cA} {ρ ρ' : Nat → Int} {σ σ' : Nat → Option Nat} {g : Nat → Nat} {τ : bt} {h : bh} (hw : cwA n m T = true) (ha : cag n m ρ σ ρ' σ') (hT : cst ρ σ g τ h T) : cst ρ' σ' g τ h T := by
  obtain ⟨w1, hw⟩ := c_and hw
  obtain ⟨w2, hw⟩ := c_and hw
  obtain ⟨w3, w4⟩ := c_and hw
  refine ⟨⟨ha.1, fun q hq => ?_⟩, fun e he => ?_, fun q hq => ?_, fun q hq => ?_⟩
  · rw [ha.2.1 q.1 (Nat.ble_eq.mp (call_iff.mp w1 q hq))]
    exact hT.1.2 q hq
  · rw [cwL_ok (call_iff.mp w2 e he) ha.2.1]
    exact hT.2.1 e he
  · obtain ⟨c1, c2⟩ := c_and (call_iff.mp w3 q hq)
    have es := ha.2.2 q.1 (Nat.ble_eq.mp c1)
    rcases hT.2.2.1 q hq with ⟨z1, z2⟩ | ⟨a, z1, z2, z3, z4, z5⟩
    · exact Or.inl ⟨z1, by rw [es]; exact z2⟩
    · exact Or.inr ⟨a, by rw [es]; exact z1, z2, z3, z4, by rw [cwL_ok c2 ha.2.1]; exact z5⟩
  · obtain ⟨c1, c2⟩ := c_and (call_iff.mp w4 q hq)
    obtain ⟨c2, c3⟩ := c_and c2
    have es := ha.2.2 q.1 (Nat.ble_eq.mp c1)
    obtain ⟨a, z1, z2, z3, z4⟩ := hT.2.2.2 q hq
    refine ⟨a, by rw [es]; exact z1, fun w => ?_, fun w => ?_, z4⟩
    · rw [cwL_ok c2 ha.2.1]; exact z2 w
    · rw [w] at c3
      rw [ha.2.2 _ (Nat.ble_eq.mp (show Nat.blt q.2.2.2.1 m = true from c3))]
      exact z3 w
/-- fewer locals known -/
def cfg (lo2 lo1 : List (Option Value)) : Prop := lo2.length = lo1.length ∧ ∀ (i : Nat) (v : Value), lo2[i]? = some (some v) → lo1[i]? = some (some v)
theorem bJ.less {γ : bG} {pc : Nat} {lo1 lo2 : List (Option Value)} {st : List Value} {τ : bt} {h : bh} {nc ns : Nat} (hf : cfg lo2 lo1) (k : bJ γ pc lo2 st τ h nc ns) : bJ γ pc lo1 st τ h nc ns := by
  intro ws ls H locs ⟨m1, m2, m3, m4, m5, lv, m6, m7⟩
  exact k ws ls H locs ⟨m1, m2, m3, m4, by rw [hf.1]; exact m5, lv, m6, fun i v hi => m7 i v (hf.2 i v hi)⟩
noncomputable def cmL2 (θ : List (Nat × cL)) (θr : List (Nat × cV)) (ts : List cV) : List cV → Bool := @List.rec cV (fun _ => List cV → Bool) (fun vs => vs.isEmpty) (fun t _ ih vs => @List.rec cV (fun _ => Bool) false (fun v r _ => cond (cond (Nat.beq t.1 4) true (cmv θ θr t v)) (ih r) false) vs) ts
theorem cmL2_ok {θ : List (Nat × cL)} {θr : List (Nat × cV)} {ρ : Nat → Int} {σ : Nat → Option Nat} : ∀ (ts vs : List cV) (lo' : List (Option Value)), cmL2 θ θr ts vs = true → c2 (cvO ρ σ) vs lo' → ∃ lo2, c2 (cvO (cρ θ ρ) (cσ θr σ)) ts lo2 ∧ cfg lo2 lo' := by
  intro ts
  induction ts with
  | nil =>
    intro vs lo' h1 h2
    cases vs with
    | cons => cases h1
    | nil =>
      cases lo' with
      | cons => exact h2.elim
      | nil => exact ⟨[], trivial, rfl, fun i v h => by cases h⟩
  | cons t ts ih =>
    intro vs lo' h1 h2
    cases vs with
    | nil => cases h1
    | cons v vs =>
      obtain ⟨x, r, rfl, hx, hr⟩ := h2.cons
      obtain ⟨q1, q2⟩ := c_and (show cond (cond (Nat.beq t.1 4) true (cmv θ θr t v)) (cmL2 θ θr ts vs) false = true from h1)
      obtain ⟨lo2, l1, l2, l3⟩ := ih vs r q2 hr
      have key : ∃ w, cvO (cρ θ ρ) (cσ θr σ) t w ∧ ∀ u, w = some u → x = some u := by
        rcases c_or q1 with z | z
        · exact ⟨none, Or.inl ⟨Nat.eq_of_beq_eq_true z, rfl⟩, fun u hu => by cases hu⟩
        · rcases hx with ⟨y1, y2⟩ | ⟨u, y1, y2⟩
          · rcases cmv_ok z ρ σ with ⟨-, w, -⟩ | ⟨-, ⟨w, -⟩ | ⟨w, -⟩⟩ | ⟨-, w⟩ | ⟨-, w⟩ <;> omega
          · exact ⟨some u, Or.inr ⟨u, rfl, cmv_cv z y2⟩, fun u' hu => by cases hu; exact y1⟩
      obtain ⟨w, w1, w2⟩ := key
      refine ⟨w :: lo2, ⟨w1, l1⟩, by simp [l2], fun i u hi => ?_⟩
      cases i with
      | zero => cases hi; show some x = _; rw [w2 u rfl]
      | succ i => exact l3 i u hi
noncomputable def cmS2 (θ : List (Nat × cL)) (θr : List (Nat × cV)) (ts : List cV) : List cV → Bool := @List.rec cV (fun _ => List cV → Bool) (fun vs => vs.isEmpty) (fun t _ ih vs => @List.rec cV (fun _ => Bool) false (fun v r _ => cond (cmv θ θr t v) (ih r) false) vs) ts
theorem cmS2_ok {θ : List (Nat × cL)} {θr : List (Nat × cV)} {ρ : Nat → Int} {σ : Nat → Option Nat} : ∀ (ts vs : List cV) (st' : List Value), cmS2 θ θr ts vs = true → c2 (cv ρ σ) vs st' → c2 (cv (cρ θ ρ) (cσ θr σ)) ts st' := by
  intro ts
  induction ts with
  | nil =>
    intro vs st' h1 h2
    cases vs with
    | cons => cases h1
    | nil => cases st' with
      | cons => exact h2.elim
      | nil => trivial
  | cons t ts ih =>
    intro vs st' h1 h2
    cases vs with
    | nil => cases h1
    | cons v vs =>
      obtain ⟨x, r, rfl, hx, hr⟩ := h2.cons
      obtain ⟨q1, q2⟩ := c_and (show cond (cmv θ θr t v) (cmS2 θ θr ts vs) false = true from h1)
      exact ⟨cmv_cv q1 hx, ih vs r q2 hr⟩
/-- a place's state: counters and what is known, locals, stack, rank -/
abbrev cCt : Type := cZ × List cV × List cV × cKp
/-- all symbols of it are its own -/
noncomputable def cwC (κ : cCt) : Bool := cond (cwA κ.1.1 κ.1.2.1 κ.1.2.2.1) (cond (call (cwX κ.1.1 κ.1.2.1) κ.2.1) (cond (call (cwX κ.1.1 κ.1.2.1) κ.2.2.1) (cond (call (cwL κ.1.1) κ.2.2.2.1) (call (cwX κ.1.1 κ.1.2.1) κ.2.2.2.2) false) false) false) false
noncomputable def cmC (θ : List (Nat × cL)) (θr : List (Nat × cV)) (κ : cCt) (S : cZ) (lo st : List cV) : Bool := cond (cmA θ θr S.2.2.1 κ.1.2.2.1) (cond (cmL2 θ θr κ.2.1 lo) (cond (cmS2 θ θr κ.2.2.1 st) (cond (Nat.ble S.2.2.2.1 κ.1.2.2.2.1) (Nat.ble S.2.2.2.2 κ.1.2.2.2.2) false) false) false) false
theorem c2_ag {n m : Nat} {ρ ρ' : Nat → Int} {σ σ' : Nat → Option Nat} (ha : cag n m ρ σ ρ' σ') : ∀ (ts : List cV) (st' : List Value), call (cwX n m) ts = true → c2 (cv ρ σ) ts st' → c2 (cv ρ' σ') ts st'
  | [], [], _, _ => trivial
  | t :: ts, x :: r, hw, h => by
    obtain ⟨w1, w2⟩ := c_and (show cond (cwX n m t) (call (cwX n m) ts) false = true from hw)
    exact ⟨cwX_ok w1 ha h.1, c2_ag ha ts r w2 h.2⟩
  | [], _ :: _, _, h => h.elim
  | _ :: _, [], _, h => h.elim
theorem c2_agO {n m : Nat} {ρ ρ' : Nat → Int} {σ σ' : Nat → Option Nat} (ha : cag n m ρ σ ρ' σ') : ∀ (ts : List cV) (lo' : List (Option Value)), call (cwX n m) ts = true → c2 (cvO ρ σ) ts lo' → c2 (cvO ρ' σ') ts lo'
  | [], [], _, _ => trivial
  | t :: ts, x :: r, hw, h => by
    obtain ⟨w1, w2⟩ := c_and (show cond (cwX n m t) (call (cwX n m) ts) false = true from hw)
    refine ⟨?_, c2_agO ha ts r w2 h.2⟩
    rcases h.1 with z | ⟨u, z1, z2⟩
    · exact Or.inl z
    · exact Or.inr ⟨u, z1, cwX_ok w1 ha z2⟩
  | [], _ :: _, _, h => h.elim
  | _ :: _, [], _, h => h.elim
theorem cvo_ag {n m : Nat} {v : cV} {ρ ρ' : Nat → Int} {σ σ' : Nat → Option Nat} (h : cwX n m v = true) (ha : cag n m ρ σ ρ' σ') : cvo σ' v = cvo σ v := by
  obtain ⟨-, h2⟩ := c_and h
  unfold cvo
  cases hb : Nat.beq v.1 1 with
  | false => rfl
  | true =>
    rw [hb] at h2
    rw [ha.2.2 _ (Nat.ble_eq.mp (show Nat.blt v.2.1 m = true from h2))]
/-- at a place: the other state holds, with fewer locals -/
theorem cs_cut {Θ : cTh} {κ : cCt} {θ : List (Nat × cL)} {θr : List (Nat × cV)} {S : cZ} {ρ : Nat → Int} {σ : Nat → Option Nat} {g : Nat → Nat} {τ : bt} {h : bh} {lo st : List cV} {lo' : List (Option Value)} {st' : List Value} (hw : cwC κ = true) (hm : cmC θ θr κ S lo st = true) (hR : cRl Θ S ρ σ g τ h lo st lo' st') : ∃ lo2, cRl (Θ.1, Θ.2.1, Θ.2.2.1, Θ.2.2.2.1, Θ.2.2.2.2.1, κ.2.2.2, ckv (cρ θ ρ) (cσ θr σ) κ.2.2.2) κ.1 (cρ θ ρ) (cσ θr σ) g τ h κ.2.1 κ.2.2.1 lo2 st' ∧ cfg lo2 lo' ∧ S.2.2.2.1 ≤ κ.1.2.2.2.1 ∧ S.2.2.2.2 ≤ κ.1.2.2.2.2 := by
  obtain ⟨w1, hw⟩ := c_and hw
  obtain ⟨w2, hw⟩ := c_and hw
  obtain ⟨w3, w4⟩ := c_and hw
  obtain ⟨m1, hm⟩ := c_and hm
  obtain ⟨m2, hm⟩ := c_and hm
  obtain ⟨m3, hm⟩ := c_and hm
  obtain ⟨m4, m5⟩ := c_and hm
  obtain ⟨k1, k2, k3, -⟩ := hR.at
  obtain ⟨a1, a2⟩ := cmA_ok m1 k1
  obtain ⟨lo2, l1, l2⟩ := cmL2_ok _ _ _ m2 k2
  have s1 := cmS2_ok _ _ _ m3 k3
  refine ⟨lo2, ⟨a2, fun ρ' σ' ha => ⟨cwA_ok w1 ha a1, c2_agO ha _ _ w2 l1, c2_ag ha _ _ w3 s1, ?_⟩⟩, l2, Nat.ble_eq.mp m4, Nat.ble_eq.mp m5⟩
  obtain ⟨w4, w5⟩ := c_and w4
  show (κ.2.2.2.1.map (cE ρ'), κ.2.2.2.2.map (cvo σ')) = (κ.2.2.2.1.map (cE (cρ θ ρ)), κ.2.2.2.2.map (cvo (cσ θr σ)))
  rw [List.map_congr_left fun e he => cwL_ok (call_iff.mp w4 e he) ha.2.1, List.map_congr_left fun v hv => cvo_ag (call_iff.mp w5 v hv) ha]
