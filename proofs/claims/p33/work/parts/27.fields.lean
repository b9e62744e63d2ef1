/-! ===== the checker: fields that are read ===== -/
noncomputable def cff (F : List cFt) (s k : Nat) : Option cV := @List.rec cFt (fun _ => Option cV) none (fun q _ ih => cond (Nat.beq q.1 s) (cond (Nat.beq q.2.1 k) (some q.2.2) ih) ih) F
theorem cff_ok {F : List cFt} {s k : Nat} {v : cV} (h : cff F s k = some v) : (s, k, v) ∈ F := by
  induction F with
  | nil => cases h
  | cons q r ih =>
    change cond (Nat.beq q.1 s) (cond (Nat.beq q.2.1 k) (some q.2.2) (cff r s k)) (cff r s k) = some v at h
    cases h1 : Nat.beq q.1 s with
    | false => rw [h1] at h; exact List.mem_cons_of_mem _ (ih h)
    | true =>
      cases h2 : Nat.beq q.2.1 k with
      | false => rw [h1, h2] at h; exact List.mem_cons_of_mem _ (ih h)
      | true =>
        rw [h1, h2] at h
        have e1 := Nat.eq_of_beq_eq_true h1
        have e2 := Nat.eq_of_beq_eq_true h2
        cases h
        subst e1
        subst e2
        exact List.mem_cons_self
def caddF (q : cFt) (S : cZ) : cZ := (S.1, S.2.1, (S.2.2.1.1, S.2.2.1.2.1, S.2.2.1.2.2.1, q :: S.2.2.1.2.2.2), S.2.2.2)
/-- a reference that is not null, of a kind -/
noncomputable def cob (s kd : Nat) (S : cZ) (f : cRf → Bool) : Bool := cop (cfi S.2.2.1.2.2.1 s) (fun q => cond q.2.2.2.1 false (cond (Nat.beq q.2.1 kd) (f q) false))
section CFLD
variable {Θ : cTh} {γ : bG} {y : bY} {d b1 b2 pc : Nat} {sq : cQ} {S : cZ} {ρ : Nat → Int} {σ : Nat → Option Nat} {g : Nat → Nat} {τ : bt} {h : bh} {lo st : List cV} {lo' : List (Option Value)} {st' : List Value}
theorem cRl.addF {q : cFt} (hR : cRl Θ S ρ σ g τ h lo st lo' st') (hq : ∀ ρ' σ', cag S.1 S.2.1 ρ σ ρ' σ' → cft ρ' σ' h q) : cRl Θ (caddF q S) ρ σ g τ h lo st lo' st' := by
  obtain ⟨n, m, A, nc, ns⟩ := S
  refine hR.map fun ρ' σ' ha h1 h2 => ⟨⟨h1.1, h1.2.1, h1.2.2.1, fun p hp => ?_⟩, h2⟩
  rcases List.mem_cons.mp hp with rfl | hp
  · exact hq ρ' σ' ha
  · exact h1.2.2.2 p hp
theorem cob_ok {s kd : Nat} {f : cRf → Bool} (h : cob s kd S f = true) : ∃ q, q ∈ S.2.2.1.2.2.1 ∧ q.1 = s ∧ q.2.2.2.1 = false ∧ q.2.1 = kd ∧ f q = true := by
  obtain ⟨q, h1, h⟩ := cop_ok h
  obtain ⟨h2, h3⟩ := cfi_ok h1
  cases hb : q.2.2.2.1 with
  | true => rw [hb] at h; cases h
  | false =>
    rw [hb] at h
    obtain ⟨h4, h⟩ := c_and h
    exact ⟨q, h2, h3, hb, Nat.eq_of_beq_eq_true h4, h⟩
/-- the cell of a reference -/
theorem cRl.cell {q : cRf} (hR : cRl Θ S ρ σ g τ h lo st lo' st') (hm : q ∈ S.2.2.1.2.2.1) (hn : q.2.2.2.1 = false) : ∃ a, σ q.1 = some a ∧ τ.1 a = q.2.1 ∧ q.2.1 ≠ 0 ∧ g a = q.2.2.1 ∧ (τ.2 a : Int) = cE ρ q.2.2.2.2 := by
  rcases hR.at.1.2.2.1 q hm with ⟨h, -⟩ | h
  · rw [hn] at h; cases h
  · exact h
/-- the role's word on a slot -/
noncomputable def cslt (T : cTb) (ro k : Nat) : cS := @Option.rec cR (fun _ => cS) (2, 0, 0, 0, false) (fun R => cseg R.2.2.2 k) (cfR T ro)
theorem cslt_ok {T : cTb} {a k : Nat} (hw : cWT T g τ h) (hz : g a ≠ 0) : cok g h a k (cslt T (g a) k) := by
  obtain ⟨R, h1, -, -, -, h2, -⟩ := hw a hz
  have : cslt T (g a) k = cseg R.2.2.2 k := by unfold cslt; rw [h1]
  rw [this]
  exact h2 k
/-- an int of a slot: what is known, else of its role -/
noncomputable def crdI (T : cTb) (ro s k : Nat) (sq : cQ) : cQ := fun S lo st => @Option.rec cV (fun _ => Bool) (@Nat.rec (fun _ => Bool) (sq (caddF (s, k, cI (cX S.1)) (cnew cmL cmH S)) lo (cI (cX S.1) :: st)) (fun r _ => cond (Nat.beq (cslt T (r + 1) k).1 0) (sq (caddF (s, k, cI (cX S.1)) (cnew (cslt T (r + 1) k).2.1 (cslt T (r + 1) k).2.2.1 S)) lo (cI (cX S.1) :: st)) (sq (caddF (s, k, cI (cX S.1)) (cnew cmL cmH S)) lo (cI (cX S.1) :: st))) ro) (fun v => cond (Nat.beq v.1 0) (sq S lo (v :: st)) false) (cff S.2.2.1.2.2.2 s k)
theorem cs_rdI {s k a : Nat} (kk : cSn Θ γ pc sq) (hq : crdI Θ.1 (g a) s k sq S lo st = true) (hG : cGd γ.1 Θ g τ h) (hR : cRl Θ S ρ σ g τ h lo st lo' st') (ha : ∀ ρ' σ', cag S.1 S.2.1 ρ σ ρ' σ' → σ' s = some a) (hb : brg (h.1 a k)) : bJ γ pc lo' (.int (bz (h.1 a k)) :: st') τ h S.2.2.2.1 S.2.2.2.2 := by
  unfold crdI at hq
  have new : ∀ (l u : Int), l ≤ h.1 a k → h.1 a k ≤ u → sq (caddF (s, k, cI (cX S.1)) (cnew l u S)) lo (cI (cX S.1) :: st) = true → bJ γ pc lo' (.int (bz (h.1 a k)) :: st') τ h S.2.2.2.1 S.2.2.2.2 := by
    intro l u h1 h2 hq
    obtain ⟨r1, r2⟩ := hR.fresh hb h1 h2
    refine kk _ _ _ hq _ _ _ _ _ _ _ hG ((r1.addF (q := (s, k, cI (cX S.1))) fun ρ' σ' hag => ?_).pushZ fun ρ' σ' hag => cv_I hb (by rw [cX_ev]; exact r2 ρ' σ' hag))
    have hag' : cag S.1 S.2.1 ρ σ ρ' σ' := ⟨hag.1, fun s hs => by rw [hag.2.1 s (Nat.lt_succ_of_lt hs), cup_ne (by omega)], hag.2.2⟩
    refine ⟨a, ha ρ' σ' hag', fun _ => ?_, fun h => ?_, fun h => ?_⟩
    · show h.1 a k = cE ρ' (cX S.1)
      rw [cX_ev, r2 ρ' σ' hag]
    · cases h
    · cases h
  cases hf : cff S.2.2.1.2.2.2 s k with
  | some v =>
    rw [hf] at hq
    obtain ⟨h0, hq⟩ := c_and hq
    have h0 := Nat.eq_of_beq_eq_true h0
    have hm := cff_ok hf
    refine kk _ _ _ hq _ _ _ _ _ _ _ hG (hR.pushZ fun ρ' σ' hag => ?_)
    obtain ⟨a', e1, e2, -⟩ := (hR.2 ρ' σ' hag).1.2.2.2 _ hm
    have : a' = a := by
      have := ha ρ' σ' hag
      rw [e1] at this
      cases this; rfl
    subst this
    have e3 := e2 h0
    exact Or.inl ⟨h0, by rw [show h.1 a' k = cE ρ' v.2.2 from e3], by rw [← show h.1 a' k = cE ρ' v.2.2 from e3]; exact hb⟩
  | none =>
    rw [hf] at hq
    cases hr : g a with
    | zero => rw [hr] at hq; exact new _ _ hb.1 hb.2 hq
    | succ r =>
      rw [hr] at hq
      change cond (Nat.beq (cslt Θ.1 (r + 1) k).1 0) (sq (caddF (s, k, cI (cX S.1)) (cnew (cslt Θ.1 (r + 1) k).2.1 (cslt Θ.1 (r + 1) k).2.2.1 S)) lo (cI (cX S.1) :: st)) (sq (caddF (s, k, cI (cX S.1)) (cnew cmL cmH S)) lo (cI (cX S.1) :: st)) = true at hq
      have hc := cslt_ok (k := k) hG.1 (a := a) (by omega)
      rw [hr] at hc
      cases h0 : Nat.beq (cslt Θ.1 (r + 1) k).1 0 with
      | true =>
        rw [h0] at hq
        obtain ⟨c1, c2⟩ := hc.1 (Nat.eq_of_beq_eq_true h0)
        exact new _ _ c1 c2 hq
      | false => rw [h0] at hq; exact new _ _ hb.1 hb.2 hq
noncomputable def cq_getI (T : cTb) (ci k : Nat) (sq : cQ) : cQ := fun S lo st => cpv 1 st (fun v r => cob v.2.1 (ci + 1) S (fun q => crdI T q.2.2.1 v.2.1 k sq S lo r))
theorem cs_getI {k ci idx : Nat} {q : vw_C} (C : bC γ y d b1 b2) (hq : vwCl[ci]? = some q) (hk : k < q.2.2) (hci : ci ≤ 19) (hlink : blink y idx q k) (hd : decode y.2.1 pc = .ok (.getfield idx, 3)) (hty : bfk ci k = 0 ∨ bfk ci k = 1) (kk : cSn Θ γ (pc + 3) sq) : cSn Θ γ pc (cq_getI Θ.1 ci k sq) := by
  intro S lo st hq2 ρ σ g τ h lo' st' hG hR
  obtain ⟨v, r, rfl, hv, hq3⟩ := cpv_ok hq2
  obtain ⟨s1, rfl, e1, hR1⟩ := hR.popP hv
  obtain ⟨p, p1, p2, p3, p4, p5⟩ := cob_ok hq3
  obtain ⟨a, a1, a2, a3, a4, a5⟩ := hR.cell p1 p3
  rw [p2] at a1
  rw [a1]
  refine b_getI C hq hk hci hlink hd hty (by rw [a2, p4]) fun hb => ?_
  rw [← a4] at p5
  exact cs_rdI kk p5 hG hR1 (fun ρ' σ' hag => by rw [va_rf_inj (e1 ρ' σ' hag), a1]) hb
noncomputable def cq_getL (ci : Nat) (sq : cQ) : cQ := fun S lo st => cpv 1 st (fun v r => cob v.2.1 (ci + 1) S (fun _ => cq_lg sq S lo r))
theorem cs_getL {k ci idx : Nat} {q : vw_C} (C : bC γ y d b1 b2) (hq : vwCl[ci]? = some q) (hk : k < q.2.2) (hci : ci ≤ 19) (hlink : blink y idx q k) (hd : decode y.2.1 pc = .ok (.getfield idx, 3)) (hty : bfk ci k = 3) (kk : cSn Θ γ (pc + 3) sq) : cSn Θ γ pc (cq_getL ci sq) := by
  intro S lo st hq2 ρ σ g τ h lo' st' hG hR
  obtain ⟨v, r, rfl, hv, hq3⟩ := cpv_ok hq2
  obtain ⟨s1, rfl, e1, hR1⟩ := hR.popP hv
  obtain ⟨p, p1, p2, p3, p4, p5⟩ := cob_ok hq3
  obtain ⟨a, a1, a2, a3, a4, a5⟩ := hR.cell p1 p3
  rw [p2] at a1
  rw [a1]
  exact b_getL C hq hk hci hlink hd hty (by rw [a2, p4]) fun w => cs_lg kk p5 hG hR1
end CFLD
