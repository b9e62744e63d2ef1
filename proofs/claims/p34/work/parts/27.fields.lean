/-! ===== the checker: fields that are read ===== -/
noncomputable def cff (F : List cFt) (s k : Nat) : Option cV := @List.rec cFt (fun _ => Option cV) none (fun q _ ih => cond (Nat.beq q.1 s) (cond (Nat.beq q.2.1 k) (some q.2.2) ih) ih) F
theorem cff_ok {F : List cFt} {s k : Nat} {v : cV} (h : cff F s k = some v) : (s, k, v) ∈ F := by
  induction F with
  | nil => cases h
  | cons q r ih =>
    change cond (Nat.beq q.1 s) (cond (Nat.beq q.2.1 k) (some q.2.2) (cff r s k)) (cff r s k) = some v at h
    cases h1 : Nat.beq q.1 s with
    | false => rw [h1] at h; exact List.mem_cons_of_mem _ (ih h)
    | true =>
      cases h2 : Nat.beq q.2.1 k with
      | false => rw [h1, h2] at h; exact List.mem_cons_of_mem _ (ih h)
      | true =>
        rw [h1, h2] at h
        have e1 := Nat.eq_of_beq_eq_true h1
        have e2 := Nat.eq_of_beq_eq_true h2
        cases h
        subst e1
        subst e2
        exact List.mem_cons_self
def caddF (q : cFt) (S : cZ) : cZ := (S.1, S.2.1, (S.2.2.1.1, S.2.2.1.2.1, S.2.2.1.2.2.1, q :: S.2.2.1.2.2.2), S.2.2.2)
/-- a reference that is not null, of a kind -/
noncomputable def cob (s kd : Nat) (S : cZ) (f : cRf → Bool) : Bool := cop (cfi S.2.2.1.2.2.1 s) (fun q => cond q.2.2.2.1 false (cond (Nat.beq q.2.1 kd) (f q) false))
section CFLD
variable {Θ : cTh} {γ : bG} {y : bY} {d b1 b2 pc : Nat} {sq : cQ} {S : cZ} {ρ : Nat → Int} {σ : Nat → Option Nat} {g : Nat → Nat} {τ : bt} {h : bh} {lo st : List cV} {lo' : List (Option Value)} {st' : List Value}
theorem cRl.addF {q : cFt} (hR : cRl Θ S ρ σ g τ h lo st lo' st') (hq : ∀ ρ' σ', cag S.1 S.2.1 ρ σ ρ' σ' → cft ρ' σ' h q) : cRl Θ (caddF q S) ρ σ g τ h lo st lo' st' := by
  obtain ⟨n, m, A, nc, ns⟩ := S
  refine hR.map fun ρ' σ' ha h1 h2 => ⟨⟨h1.1, h1.2.1, h1.2.2.1, fun p hp => ?_⟩, h2⟩
  rcases List.mem_cons.mp hp with rfl | hp
  · exact hq ρ' σ' ha
  · exact h1.2.2.2 p hp
theorem cob_ok {s kd : Nat} {f : cRf → Bool} (h : cob s kd S f = true) : ∃ q, q ∈ S.2.2.1.2.2.1 ∧ q.1 = s ∧ q.2.2.2.1 = false ∧ q.2.1 = kd ∧ f q = true := by
  obtain ⟨q, h1, h⟩ := cop_ok h
  obtain ⟨h2, h3⟩ := cfi_ok h1
  cases hb : q.2.2.2.1 with
  | true => rw [hb] at h; cases h
  | false =>
    rw [hb] at h
    obtain ⟨h4, h⟩ := c_and h
    exact ⟨q, h2, h3, hb, Nat.eq_of_beq_eq_true h4, h⟩
/-- the cell of a reference -/
theorem cRl.cell {q : cRf} (hR : cRl Θ S ρ σ g τ h lo st lo' st') (hm : q ∈ S.2.2.1.2.2.1) (hn : q.2.2.2.1 = false) : ∃ a, σ q.1 = some a ∧ τ.1 a = q.2.1 ∧ q.2.1 ≠ 0 ∧ g a = q.2.2.1 ∧ (τ.2 a : Int) = cE ρ q.2.2.2.2 := by
  rcases hR.at.1.2.2.1 q hm with ⟨h, -⟩ | h
  · rw [hn] at h; cases h
  · exact h
/-- the role's word on a slot -/
noncomputable def cslt (T : cTb) (ro k : Nat) : cS := @Option.rec cR (fun _ => cS) (2, 0, 0, 0, false) (fun R => cseg R.2.2.2 k) (cfR T ro)
theorem cslt_ok {T : cTb} {a k : Nat} (hw : cWT T g τ h) (hz : g a ≠ 0) : cok g h a k (cslt T (g a) k) := by
  obtain ⟨R, h1, -, -, -, h2, -⟩ := hw a hz
  have : cslt T (g a) k = cseg R.2.2.2 k := by unfold cslt; rw [h1]
  rw [this]
  exact h2 k
/-- an array that is one unit, by its role -/
noncomputable def cis3 (T : cTb) (ro : Nat) : Bool := cop (cfR T ro) (fun R => cond (Nat.ble 41 R.1) (cany (fun q => cond (Nat.beq q.2.1 3) (cond (cz (q.2.2.1 - 3)) (cz q.2.2.2.1) false) false) R.2.2.2) false)
/-- its kind, if it is known (9: not) -/
noncomputable def ck3 (S : cZ) (s : Nat) : Nat := @Option.rec cV (fun _ => Nat) 9 (fun v => cond (Nat.beq v.1 0) (cond (cond (cz (cmin S.2.2.1.1 v.2.2)) (cz (cmax S.2.2.1.1 v.2.2)) false) 0 (cond (cond (cz (cmin S.2.2.1.1 v.2.2 - 1)) (cz (cmax S.2.2.1.1 v.2.2 - 1)) false) 1 (cond (cond (cz (cmin S.2.2.1.1 v.2.2 - 2)) (cz (cmax S.2.2.1.1 v.2.2 - 2)) false) 2 9))) 9) (cff S.2.2.1.2.2.2 s 0)
/-- what a slot of it may hold -/
noncomputable def cr3 (kd k : Nat) : Int × Int := cond (Nat.beq kd 0) (cond (Nat.beq k 2) (0, 240) (cond (Nat.beq k 3) (-2147483648, 32) (-2147483648, 2147483647))) (cond (Nat.beq kd 1) (cond (Nat.beq k 2) (0, 240) (-2147483648, 2147483647)) (cond (Nat.beq kd 2) (cond (Nat.beq k 2) (-1, 8) (cond (Nat.beq k 5) (0, 16) (cond (cond (Nat.ble 6 k) (Nat.ble k 37) false) (-1, 240) (-2147483648, 2147483647)))) (-2147483648, 2147483647)))
noncomputable def c3x (kd k : Nat) (o : Option cV) (x : cL) (S : cZ) : cZ := cond (cond (Nat.beq kd 0) (Nat.beq k 3) false) (@Option.rec cV (fun _ => cZ) S (fun v => cond (Nat.beq v.1 0) (cknw (cpl 240 (csc (-1) (cadd v.2.2 x))) S) S) o) S
noncomputable def crd3 (T : cTb) (ro s k : Nat) (sq : cQ) : cQ := fun S lo st => cond (cis3 T ro) (sq (c3x (ck3 S s) k (cff S.2.2.1.2.2.2 s 2) (cX S.1) (caddF (s, k, cI (cX S.1)) (cnew (cr3 (ck3 S s) k).1 (cr3 (ck3 S s) k).2 S))) lo (cI (cX S.1) :: st)) (sq (caddF (s, k, cI (cX S.1)) (cnew cmL cmH S)) lo (cI (cX S.1) :: st))
theorem cis3_ok {T : cTb} {a : Nat} (hw : cWT T g τ h) (hz : g a ≠ 0) (hi : cis3 T (g a) = true) : ublk (h.1 a) 0 := by
  obtain ⟨R, h1, -, -, -, -, h6, -⟩ := hw a hz
  unfold cis3 at hi
  obtain ⟨R', e, hi⟩ := cop_ok hi
  rw [h1] at e
  cases e
  obtain ⟨h41, hi⟩ := c_and hi
  obtain ⟨q, hm, hi⟩ := cany_iff hi
  obtain ⟨t3, hi⟩ := c_and hi
  obtain ⟨c3, b0⟩ := c_and hi
  have := h6 (Nat.ble_eq.mp h41) q hm (Nat.eq_of_beq_eq_true t3)
  have c3 : q.2.2.1 - 3 = 0 := of_decide_eq_true c3
  have b0 : q.2.2.2.1 = 0 := of_decide_eq_true b0
  have u := this.2.2.1 (by omega)
  rw [b0] at u
  exact u
theorem ck3_ok {s a : Nat} (hR : cRl Θ S ρ σ g τ h lo st lo' st') (ha : ∀ ρ' σ', cag S.1 S.2.1 ρ σ ρ' σ' → σ' s = some a) : (ck3 S s = 0 → h.1 a 0 = 0) ∧ (ck3 S s = 1 → h.1 a 0 = 1) ∧ (ck3 S s = 2 → h.1 a 0 = 2) := by
  unfold ck3
  cases hf : cff S.2.2.1.2.2.2 s 0 with
  | none => exact ⟨fun e => (by cases e), fun e => (by cases e), fun e => (by cases e)⟩
  | some v =>
    dsimp only
    cases h0 : Nat.beq v.1 0 with
    | false => exact ⟨fun e => (by cases e), fun e => (by cases e), fun e => (by cases e)⟩
    | true =>
      have hag := cag.rf (n := S.1) (m := S.2.1) (σ := σ) hR.1
      obtain ⟨a', e1, e2, -⟩ := hR.at.1.2.2.2 _ (cff_ok hf)
      have e4 : a' = a := by
        have := ha ρ σ hag
        rw [e1] at this
        cases this; rfl
      subst e4
      have e3 : h.1 a' 0 = cE ρ v.2.2 := e2 (Nat.eq_of_beq_eq_true h0)
      have l1 := cmin_le hR.at.1.1 v.2.2
      have l2 := le_cmax hR.at.1.1 v.2.2
      rw [← e3] at l1 l2
      have key : ∀ c : Int, cond (cz (cmin S.2.2.1.1 v.2.2 - c)) (cz (cmax S.2.2.1.1 v.2.2 - c)) false = true → h.1 a' 0 = c := by
        intro c hc
        obtain ⟨x1, x2⟩ := c_and hc
        have x1 : cmin S.2.2.1.1 v.2.2 - c = 0 := of_decide_eq_true x1
        have x2 : cmax S.2.2.1.1 v.2.2 - c = 0 := of_decide_eq_true x2
        omega
      have key0 := key 0
      rw [Int.sub_zero, Int.sub_zero] at key0
      simp only [cond_true]
      cases b0 : cond (cz (cmin S.2.2.1.1 v.2.2)) (cz (cmax S.2.2.1.1 v.2.2)) false with
      | true => exact ⟨fun _ => key0 b0, fun e => (by cases e), fun e => (by cases e)⟩
      | false =>
        simp only [cond_false]
        cases b1 : cond (cz (cmin S.2.2.1.1 v.2.2 - 1)) (cz (cmax S.2.2.1.1 v.2.2 - 1)) false with
        | true => exact ⟨fun e => (by cases e), fun _ => key 1 b1, fun e => (by cases e)⟩
        | false =>
          simp only [cond_false]
          cases b2 : cond (cz (cmin S.2.2.1.1 v.2.2 - 2)) (cz (cmax S.2.2.1.1 v.2.2 - 2)) false with
          | true => exact ⟨fun e => (by cases e), fun e => (by cases e), fun _ => key 2 b2⟩
          | false => exact ⟨fun e => (by cases e), fun e => (by cases e), fun e => (by cases e)⟩
theorem cr3_ok {f : Nat → Int} {kd k : Nat} (hu : ublk f 0) (h0 : kd = 0 → f 0 = 0) (h1 : kd = 1 → f 0 = 1) (h2 : kd = 2 → f 0 = 2) (hb : brg (f k)) : (cr3 kd k).1 ≤ f k ∧ f k ≤ (cr3 kd k).2 := by
  obtain ⟨hb1, hb2⟩ := hb
  obtain ⟨-, ⟨⟨u1, u2⟩, u3⟩, u4, u5⟩ := hu
  simp only [Nat.zero_add] at u1 u2 u3 u4 u5
  unfold cr3
  cases e0 : Nat.beq kd 0 with
  | true =>
    obtain ⟨v1, v2, v3⟩ := u4 (h0 (Nat.eq_of_beq_eq_true e0))
    cases e2 : Nat.beq k 2 with
    | true => obtain rfl := Nat.eq_of_beq_eq_true e2; exact ⟨v1, u2⟩
    | false =>
      cases e3 : Nat.beq k 3 with
      | true => obtain rfl := Nat.eq_of_beq_eq_true e3; exact ⟨hb1, v2⟩
      | false => exact ⟨hb1, hb2⟩
  | false =>
    cases e1 : Nat.beq kd 1 with
    | true =>
      cases e2 : Nat.beq k 2 with
      | true => obtain rfl := Nat.eq_of_beq_eq_true e2; exact ⟨u3 (h1 (Nat.eq_of_beq_eq_true e1)), u2⟩
      | false => exact ⟨hb1, hb2⟩
    | false =>
      cases e4 : Nat.beq kd 2 with
      | false => exact ⟨hb1, hb2⟩
      | true =>
        obtain ⟨v1, v2, v3, v4⟩ := u5 (h2 (Nat.eq_of_beq_eq_true e4))
        cases e2 : Nat.beq k 2 with
        | true => obtain rfl := Nat.eq_of_beq_eq_true e2; exact ⟨u1, v1⟩
        | false =>
          cases e5 : Nat.beq k 5 with
          | true => obtain rfl := Nat.eq_of_beq_eq_true e5; exact ⟨v2, v3⟩
          | false =>
            cases e6 : cond (Nat.ble 6 k) (Nat.ble k 37) false with
            | false => exact ⟨hb1, hb2⟩
            | true =>
              obtain ⟨w1, w2⟩ := c_and e6
              have w1 := Nat.ble_eq.mp w1
              have w2 := Nat.ble_eq.mp w2
              have := v4 (k - 6) (by omega)
              rw [show 6 + (k - 6) = k by omega] at this
              exact this
/-- an int of a slot: what is known, else of its role -/
noncomputable def crdI (T : cTb) (ro s k : Nat) (sq : cQ) : cQ := fun S lo st => @Option.rec cV (fun _ => Bool) (@Nat.rec (fun _ => Bool) (sq (caddF (s, k, cI (cX S.1)) (cnew cmL cmH S)) lo (cI (cX S.1) :: st)) (fun r _ => cond (Nat.beq (cslt T (r + 1) k).1 0) (sq (caddF (s, k, cI (cX S.1)) (cnew (cslt T (r + 1) k).2.1 (cslt T (r + 1) k).2.2.1 S)) lo (cI (cX S.1) :: st)) (crd3 T (r + 1) s k sq S lo st)) ro) (fun v => cond (Nat.beq v.1 0) (sq S lo (v :: st)) false) (cff S.2.2.1.2.2.2 s k)
theorem cs_rdI {s k a : Nat} (kk : cSn Θ γ pc sq) (hq : crdI Θ.1 (g a) s k sq S lo st = true) (hG : cGd γ.1 Θ g τ h) (hR : cRl Θ S ρ σ g τ h lo st lo' st') (ha : ∀ ρ' σ', cag S.1 S.2.1 ρ σ ρ' σ' → σ' s = some a) (hb : brg (h.1 a k)) : bJ γ pc lo' (.int (bz (h.1 a k)) :: st') τ h S.2.2.2.1 S.2.2.2.2 := by
  unfold crdI at hq
  have new : ∀ (l u : Int), l ≤ h.1 a k → h.1 a k ≤ u → sq (caddF (s, k, cI (cX S.1)) (cnew l u S)) lo (cI (cX S.1) :: st) = true → bJ γ pc lo' (.int (bz (h.1 a k)) :: st') τ h S.2.2.2.1 S.2.2.2.2 := by
    intro l u h1 h2 hq
    obtain ⟨r1, r2⟩ := hR.fresh hb h1 h2
    refine kk _ _ _ hq _ _ _ _ _ _ _ hG ((r1.addF (q := (s, k, cI (cX S.1))) fun ρ' σ' hag => ?_).pushZ fun ρ' σ' hag => cv_I hb (by rw [cX_ev]; exact r2 ρ' σ' hag))
    have hag' : cag S.1 S.2.1 ρ σ ρ' σ' := ⟨hag.1, fun s hs => by rw [hag.2.1 s (Nat.lt_succ_of_lt hs), cup_ne (by omega)], hag.2.2⟩
    refine ⟨a, ha ρ' σ' hag', fun _ => ?_, fun h => ?_, fun h => ?_⟩
    · show h.1 a k = cE ρ' (cX S.1)
      rw [cX_ev, r2 ρ' σ' hag]
    · cases h
    · cases h
  cases hf : cff S.2.2.1.2.2.2 s k with
  | some v =>
    rw [hf] at hq
    obtain ⟨h0, hq⟩ := c_and hq
    have h0 := Nat.eq_of_beq_eq_true h0
    have hm := cff_ok hf
    refine kk _ _ _ hq _ _ _ _ _ _ _ hG (hR.pushZ fun ρ' σ' hag => ?_)
    obtain ⟨a', e1, e2, -⟩ := (hR.2 ρ' σ' hag).1.2.2.2 _ hm
    have : a' = a := by
      have := ha ρ' σ' hag
      rw [e1] at this
      cases this; rfl
    subst this
    have e3 := e2 h0
    exact Or.inl ⟨h0, by rw [show h.1 a' k = cE ρ' v.2.2 from e3], by rw [← show h.1 a' k = cE ρ' v.2.2 from e3]; exact hb⟩
  | none =>
    rw [hf] at hq
    cases hr : g a with
    | zero => rw [hr] at hq; exact new _ _ hb.1 hb.2 hq
    | succ r =>
      rw [hr] at hq
      change cond (Nat.beq (cslt Θ.1 (r + 1) k).1 0) (sq (caddF (s, k, cI (cX S.1)) (cnew (cslt Θ.1 (r + 1) k).2.1 (cslt Θ.1 (r + 1) k).2.2.1 S)) lo (cI (cX S.1) :: st)) (crd3 Θ.1 (r + 1) s k sq S lo st) = true at hq
      have hc := cslt_ok (k := k) hG.1 (a := a) (by omega)
      rw [hr] at hc
      cases h0 : Nat.beq (cslt Θ.1 (r + 1) k).1 0 with
      | true =>
        rw [h0] at hq
        obtain ⟨c1, c2⟩ := hc.1 (Nat.eq_of_beq_eq_true h0)
        exact new _ _ c1 c2 hq
      | false =>
        rw [h0] at hq
        change crd3 Θ.1 (r + 1) s k sq S lo st = true at hq
        unfold crd3 at hq
        cases h3 : cis3 Θ.1 (r + 1) with
        | false => rw [h3] at hq; exact new _ _ hb.1 hb.2 hq
        | true =>
          rw [h3] at hq
          have hu := cis3_ok (a := a) hG.1 (by omega) (by rw [hr]; exact h3)
          obtain ⟨k0, k1, k2⟩ := ck3_ok hR ha
          obtain ⟨c1, c2⟩ := cr3_ok (k := k) hu k0 k1 k2 hb
          obtain ⟨r1, r2⟩ := hR.fresh hb c1 c2
          have hagf : ∀ ρ' σ', cag (S.1 + 1) S.2.1 (cup ρ S.1 (h.1 a k)) σ ρ' σ' → cag S.1 S.2.1 ρ σ ρ' σ' := fun ρ' σ' hag => ⟨hag.1, fun s hs => by rw [hag.2.1 s (Nat.lt_succ_of_lt hs), cup_ne (by omega)], hag.2.2⟩
          have R1 := r1.addF (q := (s, k, cI (cX S.1))) fun ρ' σ' hag => ⟨a, ha ρ' σ' (hagf ρ' σ' hag), fun _ => by
            show h.1 a k = cE ρ' (cX S.1)
            rw [cX_ev, r2 ρ' σ' hag], fun h => (by cases h), fun h => (by cases h)⟩
          have R2 : cRl Θ (c3x (ck3 S s) k (cff S.2.2.1.2.2.2 s 2) (cX S.1) (caddF (s, k, cI (cX S.1)) (cnew (cr3 (ck3 S s) k).1 (cr3 (ck3 S s) k).2 S))) (cup ρ S.1 (h.1 a k)) σ g τ h lo st lo' st' ∧ (c3x (ck3 S s) k (cff S.2.2.1.2.2.2 s 2) (cX S.1) (caddF (s, k, cI (cX S.1)) (cnew (cr3 (ck3 S s) k).1 (cr3 (ck3 S s) k).2 S))).2.2.2 = S.2.2.2 ∧ (c3x (ck3 S s) k (cff S.2.2.1.2.2.2 s 2) (cX S.1) (caddF (s, k, cI (cX S.1)) (cnew (cr3 (ck3 S s) k).1 (cr3 (ck3 S s) k).2 S))).1 = S.1 + 1 ∧ (c3x (ck3 S s) k (cff S.2.2.1.2.2.2 s 2) (cX S.1) (caddF (s, k, cI (cX S.1)) (cnew (cr3 (ck3 S s) k).1 (cr3 (ck3 S s) k).2 S))).2.1 = S.2.1 := by
            unfold c3x
            cases hc : cond (Nat.beq (ck3 S s) 0) (Nat.beq k 3) false with
            | false => exact ⟨R1, rfl, rfl, rfl⟩
            | true =>
              obtain ⟨z0, z3⟩ := c_and hc
              cases hf2 : cff S.2.2.1.2.2.2 s 2 with
              | none => exact ⟨R1, rfl, rfl, rfl⟩
              | some v =>
                simp only [cond_true]
                cases hv : Nat.beq v.1 0 with
                | false => exact ⟨R1, rfl, rfl, rfl⟩
                | true =>
                  refine ⟨R1.knw fun ρ' σ' hag => ?_, rfl, rfl, rfl⟩
                  obtain ⟨a', e1, e2, -⟩ := (hR.2 ρ' σ' (hagf ρ' σ' hag)).1.2.2.2 _ (cff_ok hf2)
                  have e4 : a' = a := by
                    have := ha ρ' σ' (hagf ρ' σ' hag)
                    rw [e1] at this
                    cases this; rfl
                  subst e4
                  have e3 : h.1 a' 2 = cE ρ' v.2.2 := e2 (Nat.eq_of_beq_eq_true hv)
                  have e5 : ρ' S.1 = h.1 a' k := r2 ρ' σ' hag
                  have ek := Nat.eq_of_beq_eq_true z3
                  subst ek
                  have hu4 := (hu.2.2.1 (k0 (Nat.eq_of_beq_eq_true z0))).2.2
                  simp only [Nat.zero_add] at hu4
                  rw [cpl_ev, csc_ev, cadd_ev, cX_ev, ← e3, e5]
                  omega
          obtain ⟨R2, ns2, n2, m2⟩ := R2
          have fin := kk _ _ _ hq _ _ _ _ _ _ _ hG (R2.pushZ (v := cI (cX S.1)) (x := .int (bz (h.1 a k))) fun ρ' σ' hag => cv_I hb (by
            rw [n2, m2] at hag
            rw [cX_ev]; exact r2 ρ' σ' hag))
          rw [ns2] at fin
          exact fin
noncomputable def cq_getI (T : cTb) (ci k : Nat) (sq : cQ) : cQ := fun S lo st => cpv 1 st (fun v r => cob v.2.1 (ci + 1) S (fun q => crdI T q.2.2.1 v.2.1 k sq S lo r))
theorem cs_getI {k ci idx : Nat} {q : vw_C} (C : bC γ y d b1 b2) (hq : vwCl[ci]? = some q) (hk : k < q.2.2) (hci : ci ≤ 19) (hlink : blink y idx q k) (hd : decode y.2.1 pc = .ok (.getfield idx, 3)) (hty : bfk ci k = 0 ∨ bfk ci k = 1) (kk : cSn Θ γ (pc + 3) sq) : cSn Θ γ pc (cq_getI Θ.1 ci k sq) := by
  intro S lo st hq2 ρ σ g τ h lo' st' hG hR
  obtain ⟨v, r, rfl, hv, hq3⟩ := cpv_ok hq2
  obtain ⟨s1, rfl, e1, hR1⟩ := hR.popP hv
  obtain ⟨p, p1, p2, p3, p4, p5⟩ := cob_ok hq3
  obtain ⟨a, a1, a2, a3, a4, a5⟩ := hR.cell p1 p3
  rw [p2] at a1
  rw [a1]
  refine b_getI C hq hk hci hlink hd hty (by rw [a2, p4]) fun hb => ?_
  rw [← a4] at p5
  exact cs_rdI kk p5 hG hR1 (fun ρ' σ' hag => by rw [va_rf_inj (e1 ρ' σ' hag), a1]) hb
noncomputable def cq_getL (ci : Nat) (sq : cQ) : cQ := fun S lo st => cpv 1 st (fun v r => cob v.2.1 (ci + 1) S (fun _ => cq_lg sq S lo r))
theorem cs_getL {k ci idx : Nat} {q : vw_C} (C : bC γ y d b1 b2) (hq : vwCl[ci]? = some q) (hk : k < q.2.2) (hci : ci ≤ 19) (hlink : blink y idx q k) (hd : decode y.2.1 pc = .ok (.getfield idx, 3)) (hty : bfk ci k = 3) (kk : cSn Θ γ (pc + 3) sq) : cSn Θ γ pc (cq_getL ci sq) := by
  intro S lo st hq2 ρ σ g τ h lo' st' hG hR
  obtain ⟨v, r, rfl, hv, hq3⟩ := cpv_ok hq2
  obtain ⟨s1, rfl, e1, hR1⟩ := hR.popP hv
  obtain ⟨p, p1, p2, p3, p4, p5⟩ := cob_ok hq3
  obtain ⟨a, a1, a2, a3, a4, a5⟩ := hR.cell p1 p3
  rw [p2] at a1
  rw [a1]
  exact b_getL C hq hk hci hlink hd hty (by rw [a2, p4]) fun w => cs_lg kk p5 hG hR1
end CFLD
