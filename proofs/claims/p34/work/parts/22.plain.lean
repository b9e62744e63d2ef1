/-! ===== the checker: instructions without cells ===== -/
/-- what goes on: state, locals, stack -/
abbrev cQ : Type := cZ → List cV → List cV → Bool
def cSn (Θ : cTh) (γ : bG) (pc : Nat) (q : cQ) : Prop := ∀ S lo st, q S lo st = true → cJ Θ γ pc S lo st
noncomputable def cpv (t : Nat) (st : List cV) (f : cV → List cV → Bool) : Bool := @List.rec cV (fun _ => Bool) false (fun v r _ => cond (Nat.beq v.1 t) (f v r) false) st
theorem cpv_ok {t : Nat} {st : List cV} {f : cV → List cV → Bool} (h : cpv t st f = true) : ∃ v r, st = v :: r ∧ v.1 = t ∧ f v r = true := by
  cases st with
  | nil => cases h
  | cons v r =>
    change cond (Nat.beq v.1 t) (f v r) false = true at h
    cases h1 : Nat.beq v.1 t with
    | true => rw [h1] at h; exact ⟨v, r, rfl, Nat.eq_of_beq_eq_true h1, h⟩
    | false => rw [h1] at h; cases h
noncomputable def cpx (st : List cV) (f : cV → List cV → Bool) : Bool := @List.rec cV (fun _ => Bool) false (fun v r _ => f v r) st
theorem cpx_ok {st : List cV} {f : cV → List cV → Bool} (h : cpx st f = true) : ∃ v r, st = v :: r ∧ f v r = true := by
  cases st with
  | nil => cases h
  | cons v r => exact ⟨v, r, rfl, h⟩
theorem c_and {a b : Bool} (h : cond a b false = true) : a = true ∧ b = true := by cases a <;> simp_all
theorem c_or {a b : Bool} (h : cond a true b = true) : a = true ∨ b = true := by cases a <;> simp_all
noncomputable def cnth {α : Type} (l : List α) : Nat → Option α := @List.rec α (fun _ => Nat → Option α) (fun _ => none) (fun a _ ih k => @Nat.rec (fun _ => Option α) (some a) (fun j _ => ih j) k) l
theorem cnth_eq {α : Type} (l : List α) (i : Nat) : cnth l i = l[i]? := by
  induction l generalizing i with
  | nil => rfl
  | cons a l ih => cases i with
    | zero => rfl
    | succ i => exact ih i
noncomputable def cset {α : Type} (x : α) (l : List α) : Nat → List α := @List.rec α (fun _ => Nat → List α) (fun _ => []) (fun a r ih k => @Nat.rec (fun _ => List α) (x :: r) (fun j _ => a :: ih j) k) l
theorem cset_eq {α : Type} (x : α) (l : List α) (i : Nat) : cset x l i = l.set i x := by
  induction l generalizing i with
  | nil => rfl
  | cons a l ih => cases i with
    | zero => rfl
    | succ i => show a :: cset x l i = _; rw [ih]; rfl
noncomputable def cop {α : Type} (o : Option α) (f : α → Bool) : Bool := @Option.rec α (fun _ => Bool) false f o
theorem cop_ok {α : Type} {o : Option α} {f : α → Bool} (h : cop o f = true) : ∃ a, o = some a ∧ f a = true := by
  cases o with
  | none => cases h
  | some a => exact ⟨a, rfl, h⟩
/-- bounds of a symbol -/
def cbnd (s : Nat) (l h : Int) (S : cZ) : cZ := (S.1, S.2.1, ((s, l, h) :: S.2.2.1.1, S.2.2.1.2), S.2.2.2)
/-- one more that is not below 0 -/
def cknw (e : cL) (S : cZ) : cZ := (S.1, S.2.1, (S.2.2.1.1, e :: S.2.2.1.2.1, S.2.2.1.2.2), S.2.2.2)
/-- a new int symbol with its bounds -/
def cnew (l h : Int) (S : cZ) : cZ := (S.1 + 1, S.2.1, ((S.1, l, h) :: S.2.2.1.1, S.2.2.1.2), S.2.2.2)
def cmL : Int := -2147483648
def cmH : Int := 2147483647
noncomputable def cfr (l h : Int) (sq : cQ) : cQ := fun S lo st => sq (cnew l h S) lo (cI (cX S.1) :: st)
section CPLAIN
variable {Θ : cTh} {γ : bG} {y : bY} {d b1 b2 pc : Nat} {sq : cQ} {S : cZ} {ρ : Nat → Int} {σ : Nat → Option Nat} {g : Nat → Nat} {τ : bt} {h : bh} {lo st : List cV} {lo' : List (Option Value)} {st' : List Value}
theorem cRl.bnd {s : Nat} {l u : Int} (hR : cRl Θ S ρ σ g τ h lo st lo' st') (hs : ∀ ρ' σ', cag S.1 S.2.1 ρ σ ρ' σ' → l ≤ ρ' s ∧ ρ' s ≤ u) : cRl Θ (cbnd s l u S) ρ σ g τ h lo st lo' st' := by
  obtain ⟨n, m, A, nc, ns⟩ := S
  refine hR.map fun ρ' σ' ha h1 h2 => ⟨⟨⟨h1.1.1, fun q hq => ?_⟩, h1.2⟩, h2⟩
  rcases List.mem_cons.mp hq with rfl | hq
  · exact hs ρ' σ' ha
  · exact h1.1.2 q hq
theorem cRl.knw {e : cL} (hR : cRl Θ S ρ σ g τ h lo st lo' st') (he : ∀ ρ' σ', cag S.1 S.2.1 ρ σ ρ' σ' → 0 ≤ cE ρ' e) : cRl Θ (cknw e S) ρ σ g τ h lo st lo' st' := by
  obtain ⟨n, m, A, nc, ns⟩ := S
  refine hR.map fun ρ' σ' ha h1 h2 => ⟨⟨h1.1, fun q hq => ?_, h1.2.2⟩, h2⟩
  rcases List.mem_cons.mp hq with rfl | hq
  · exact he ρ' σ' ha
  · exact h1.2.1 q hq
/-- a new symbol with its bounds -/
theorem cRl.fresh {l u z : Int} (hR : cRl Θ S ρ σ g τ h lo st lo' st') (hz : brg z) (h1 : l ≤ z) (h2 : z ≤ u) : cRl Θ (cnew l u S) (cup ρ S.1 z) σ g τ h lo st lo' st' ∧ ∀ ρ' σ', cag (S.1 + 1) S.2.1 (cup ρ S.1 z) σ ρ' σ' → ρ' S.1 = z := by
  obtain ⟨n, m, A, nc, ns⟩ := S
  have key : ∀ ρ' σ', cag (n + 1) m (cup ρ n z) σ ρ' σ' → ρ' n = z := fun ρ' σ' ha => by rw [ha.2.1 n (Nat.lt_succ_self n), cup_at]
  refine ⟨(hR.newI hz).map fun ρ' σ' ha k1 k2 => ⟨⟨⟨k1.1.1, fun q hq => ?_⟩, k1.2⟩, k2⟩, key⟩
  rcases List.mem_cons.mp hq with rfl | hq
  · show l ≤ ρ' n ∧ ρ' n ≤ u
    rw [key ρ' σ' ha]
    exact ⟨h1, h2⟩
  · exact k1.1.2 q hq
theorem cRl.pushZ {v : cV} {x : Value} (hR : cRl Θ S ρ σ g τ h lo st lo' st') (hv : ∀ ρ' σ', cag S.1 S.2.1 ρ σ ρ' σ' → cv ρ' σ' v x) : cRl Θ S ρ σ g τ h lo (v :: st) lo' (x :: st') := by
  obtain ⟨n, m, A, nc, ns⟩ := S
  exact hR.push hv
/-- some int within bounds goes on top -/
theorem cs_fr {l u z : Int} (k : cSn Θ γ pc sq) (hq : cfr l u sq S lo st = true) (hG : cGd γ.1 Θ g τ h) (hR : cRl Θ S ρ σ g τ h lo st lo' st') (hz : brg z) (h1 : l ≤ z) (h2 : z ≤ u) : bJ γ pc lo' (.int (bz z) :: st') τ h S.2.2.2.1 S.2.2.2.2 := by
  obtain ⟨r1, r2⟩ := hR.fresh hz h1 h2
  exact k _ _ _ hq _ _ _ _ _ _ _ hG (r1.pushZ fun ρ' σ' ha => cv_I hz (by rw [cX_ev]; exact r2 ρ' σ' ha))
theorem cs_any {x : Int32} (k : cSn Θ γ pc sq) (hq : cfr cmL cmH sq S lo st = true) (hG : cGd γ.1 Θ g τ h) (hR : cRl Θ S ρ σ g τ h lo st lo' st') : bJ γ pc lo' (.int x :: st') τ h S.2.2.2.1 S.2.2.2.2 := b_any fun u hu => cs_fr k hq hG hR hu hu.1 hu.2
/-- a number that is pushed -/
noncomputable def cq_k (z : Int) (sq : cQ) : cQ := fun S lo st => sq S lo (cI (cK z) :: st)
theorem cs_k {z : Int} (k : cSn Θ γ pc sq) (hz : brg z) (hq : cq_k z sq S lo st = true) (hG : cGd γ.1 Θ g τ h) (hR : cRl Θ S ρ σ g τ h lo st lo' st') : bJ γ pc lo' (.int (bz z) :: st') τ h S.2.2.2.1 S.2.2.2.2 := k _ _ _ hq _ _ _ _ _ _ _ hG (hR.pushZ fun ρ' σ' _ => cv_I hz (cK_ev _ _))
/-- the result of a sum, within an int's bounds or not -/
noncomputable def cq_nrm (e : cL) (sq : cQ) : cQ := fun S lo st => cond (cond (cpos S.2.2.1.1 S.2.2.1.2.1 (cpl 2147483648 e)) (cpos S.2.2.1.1 S.2.2.1.2.1 (cpl 2147483647 (csc (-1) e))) false) (sq S lo (cI e :: st)) (cfr cmL cmH sq S lo st)
theorem cs_nrm {e : cL} {z : Int} (k : cSn Θ γ pc sq) (hq : cq_nrm e sq S lo st = true) (hG : cGd γ.1 Θ g τ h) (hR : cRl Θ S ρ σ g τ h lo st lo' st') (hz : ∀ ρ' σ', cag S.1 S.2.1 ρ σ ρ' σ' → cE ρ' e = z) : bJ γ pc lo' (.int (bz z) :: st') τ h S.2.2.2.1 S.2.2.2.2 := by
  unfold cq_nrm at hq
  cases hc : cond (cpos S.2.2.1.1 S.2.2.1.2.1 (cpl 2147483648 e)) (cpos S.2.2.1.1 S.2.2.1.2.1 (cpl 2147483647 (csc (-1) e))) false with
  | true =>
    rw [hc] at hq
    obtain ⟨c1, c2⟩ := c_and hc
    have e1 := cpos_ok hR.at.1.1 hR.at.1.2.1 c1
    have e2 := cpos_ok hR.at.1.1 hR.at.1.2.1 c2
    rw [cpl_ev, hz ρ σ (cag.rf hR.1)] at e1
    rw [cpl_ev, csc_ev, hz ρ σ (cag.rf hR.1)] at e2
    have hb : brg z := ⟨by omega, by omega⟩
    exact k _ _ _ hq _ _ _ _ _ _ _ hG (hR.pushZ fun ρ' σ' ha => cv_I hb (hz ρ' σ' ha))
  | false =>
    rw [hc] at hq
    exact cs_any k hq hG hR
noncomputable def cq_add (sq : cQ) : cQ := fun S lo st => cpv 0 st (fun b r => cpv 0 r (fun a r => cq_nrm (cadd a.2.2 b.2.2) sq S lo r))
theorem cs_iadd (C : bC γ y d b1 b2) (hd : decode y.2.1 pc = .ok (.iadd, 1)) (k : cSn Θ γ (pc + 1) sq) : cSn Θ γ pc (cq_add sq) := by
  intro S lo st hq ρ σ g τ h lo' st' hG hR
  obtain ⟨b, r, rfl, hb, hq⟩ := cpv_ok hq
  obtain ⟨a, r, rfl, ha, hq⟩ := cpv_ok hq
  obtain ⟨zb, s1, rfl, -, -, e1, hR⟩ := hR.popI hb
  obtain ⟨za, s2, rfl, -, -, e2, hR⟩ := hR.popI ha
  exact b_iadd C hd (cs_nrm k hq hG hR fun ρ' σ' h => by rw [cadd_ev, e1 ρ' σ' h, e2 ρ' σ' h])
noncomputable def cq_sub (sq : cQ) : cQ := fun S lo st => cpv 0 st (fun b r => cpv 0 r (fun a r => cq_nrm (csub a.2.2 b.2.2) sq S lo r))
theorem cs_isub (C : bC γ y d b1 b2) (hd : decode y.2.1 pc = .ok (.isub, 1)) (k : cSn Θ γ (pc + 1) sq) : cSn Θ γ pc (cq_sub sq) := by
  intro S lo st hq ρ σ g τ h lo' st' hG hR
  obtain ⟨b, r, rfl, hb, hq⟩ := cpv_ok hq
  obtain ⟨a, r, rfl, ha, hq⟩ := cpv_ok hq
  obtain ⟨zb, s1, rfl, -, -, e1, hR⟩ := hR.popI hb
  obtain ⟨za, s2, rfl, -, -, e2, hR⟩ := hR.popI ha
  exact b_isub C hd (cs_nrm k hq hG hR fun ρ' σ' h => by rw [csub_ev, e1 ρ' σ' h, e2 ρ' σ' h])
/-- is it one number -/
def ccst (e : cL) : Bool := e.2.isEmpty
theorem ccst_ok {e : cL} (h : ccst e = true) (ρ : Nat → Int) : cE ρ e = e.1 := by
  obtain ⟨c, l⟩ := e
  cases l with
  | nil => show c + cev ρ [] = c; rw [cev_nil]; omega
  | cons => cases h
noncomputable def cq_mul (sq : cQ) : cQ := fun S lo st => cpv 0 st (fun b r => cpv 0 r (fun a r => cond (ccst b.2.2) (cq_nrm (csc b.2.2.1 a.2.2) sq S lo r) (cond (ccst a.2.2) (cq_nrm (csc a.2.2.1 b.2.2) sq S lo r) (cfr cmL cmH sq S lo r))))
theorem cs_imul (C : bC γ y d b1 b2) (hd : decode y.2.1 pc = .ok (.imul, 1)) (k : cSn Θ γ (pc + 1) sq) : cSn Θ γ pc (cq_mul sq) := by
  intro S lo st hq ρ σ g τ h lo' st' hG hR
  obtain ⟨b, r, rfl, hb, hq⟩ := cpv_ok hq
  obtain ⟨a, r, rfl, ha, hq⟩ := cpv_ok hq
  obtain ⟨zb, s1, rfl, -, -, e1, hR⟩ := hR.popI hb
  obtain ⟨za, s2, rfl, -, -, e2, hR⟩ := hR.popI ha
  refine b_imul C hd ?_
  cases c1 : ccst b.2.2 with
  | true =>
    rw [c1] at hq
    refine cs_nrm k hq hG hR fun ρ' σ' h => ?_
    rw [csc_ev, e2 ρ' σ' h, ← ccst_ok c1 ρ', e1 ρ' σ' h, Int.mul_comm]
  | false =>
    rw [c1] at hq
    cases c2 : ccst a.2.2 with
    | true =>
      rw [c2] at hq
      refine cs_nrm k hq hG hR fun ρ' σ' h => ?_
      rw [csc_ev, e1 ρ' σ' h, ← ccst_ok c2 ρ', e2 ρ' σ' h]
    | false =>
      rw [c2] at hq
      exact cs_any k hq hG hR
/-- some int out of two -/
noncomputable def cq_2 (sq : cQ) : cQ := fun S lo st => cpv 0 st (fun _ r => cpv 0 r (fun _ r => cfr cmL cmH sq S lo r))
theorem cs_2 {q : cQ} (k : cSn Θ γ (pc + 1) sq) (hq : cq_2 sq S lo st = true) (hG : cGd γ.1 Θ g τ h) (hR : cRl Θ S ρ σ g τ h lo st lo' st') (row : ∀ (x w : Int32) (s2 : List Value), (∀ z : Int32, bJ γ (pc + 1) lo' (.int z :: s2) τ h S.2.2.2.1 S.2.2.2.2) → bJ γ pc lo' (.int w :: .int x :: s2) τ h S.2.2.2.1 S.2.2.2.2) : bJ γ pc lo' st' τ h S.2.2.2.1 S.2.2.2.2 := by
  obtain ⟨b, r, rfl, hb, hq⟩ := cpv_ok hq
  obtain ⟨a, r, rfl, ha, hq⟩ := cpv_ok hq
  obtain ⟨zb, s1, rfl, -, -, e1, hR⟩ := hR.popI hb
  obtain ⟨za, s2, rfl, -, -, e2, hR⟩ := hR.popI ha
  exact row _ _ _ fun z => cs_any k hq hG hR
theorem cs_ior (C : bC γ y d b1 b2) (hd : decode y.2.1 pc = .ok (.ior, 1)) (k : cSn Θ γ (pc + 1) sq) : cSn Θ γ pc (cq_2 sq) := fun S lo st hq ρ σ g τ h lo' st' hG hR => cs_2 (q := sq) k hq hG hR fun _ _ _ f => b_ior C hd (f _)
theorem cs_ixor (C : bC γ y d b1 b2) (hd : decode y.2.1 pc = .ok (.ixor, 1)) (k : cSn Θ γ (pc + 1) sq) : cSn Θ γ pc (cq_2 sq) := fun S lo st hq ρ σ g τ h lo' st' hG hR => cs_2 (q := sq) k hq hG hR fun _ _ _ f => b_ixor C hd (f _)
theorem cs_ishl (C : bC γ y d b1 b2) (hd : decode y.2.1 pc = .ok (.ishl, 1)) (k : cSn Θ γ (pc + 1) sq) : cSn Θ γ pc (cq_2 sq) := fun S lo st hq ρ σ g τ h lo' st' hG hR => cs_2 (q := sq) k hq hG hR fun _ _ _ f => b_ishl C hd (fun _ _ => f _)
theorem cs_ishr (C : bC γ y d b1 b2) (hd : decode y.2.1 pc = .ok (.ishr, 1)) (k : cSn Θ γ (pc + 1) sq) : cSn Θ γ pc (cq_2 sq) := fun S lo st hq ρ σ g τ h lo' st' hG hR => cs_2 (q := sq) k hq hG hR fun _ _ _ f => b_ishr C hd (fun _ _ => f _)
end CPLAIN
