/-! ===== the checker: references that are read, arrays that are read ===== -/
def cnewR (q : cRf) (S : cZ) : cZ := (S.1, S.2.1 + 1, (S.2.2.1.1, S.2.2.1.2.1, q :: S.2.2.1.2.2.1, S.2.2.1.2.2.2), S.2.2.2)
/-- lengths that make sense -/
def clok (R : cR) : Bool := cond (cge R.2.1) (cond (cge (30000 - R.2.2.1)) (cge (R.2.2.1 - R.2.1)) false) false
/-- a new reference as a slot's word says -/
noncomputable def cnR (T : cTb) (t : cS) (K : cZ → cV → Bool) (S : cZ) : Bool := cond (Nat.beq t.1 1) (cop (cfR T t.2.2.2.1) (fun R => cond (clok R) (cond (cz (R.2.2.1 - R.2.1)) (K (cnewR (S.2.1, R.1, t.2.2.2.1, t.2.2.2.2, cK R.2.1) S) (cP S.2.1)) (K (cnewR (S.2.1, R.1, t.2.2.2.1, t.2.2.2.2, cX S.1) (cnew R.2.1 R.2.2.1 S)) (cP S.2.1))) false)) false
section CRD
variable {Θ : cTh} {γ : bG} {y : bY} {d b1 b2 pc : Nat} {sq : cQ} {S : cZ} {ρ : Nat → Int} {σ : Nat → Option Nat} {g : Nat → Nat} {τ : bt} {h : bh} {lo st : List cV} {lo' : List (Option Value)} {st' : List Value}
theorem cRl.newP {q : cRf} (o : Option Nat) (hR : cRl Θ S ρ σ g τ h lo st lo' st') (hq : ∀ ρ' σ', cag S.1 S.2.1 ρ σ ρ' σ' → σ' S.2.1 = o → crf ρ' σ' g τ q) : cRl Θ (cnewR q S) ρ (cup σ S.2.1 o) g τ h lo st lo' st' ∧ ∀ ρ' σ', cag S.1 (S.2.1 + 1) ρ (cup σ S.2.1 o) ρ' σ' → σ' S.2.1 = o ∧ cag S.1 S.2.1 ρ σ ρ' σ' := by
  obtain ⟨n, m, A, nc, ns⟩ := S
  have key : ∀ ρ' σ', cag n (m + 1) ρ (cup σ m o) ρ' σ' → σ' m = o ∧ cag n m ρ σ ρ' σ' := fun ρ' σ' ha => ⟨by rw [ha.2.2 m (Nat.lt_succ_self m), cup_at], ha.1, ha.2.1, fun s hs => by rw [ha.2.2 s (Nat.lt_succ_of_lt hs), cup_ne (by omega)]⟩
  refine ⟨(hR.newR o).map fun ρ' σ' ha k1 k2 => ⟨⟨k1.1, k1.2.1, fun p hp => ?_, k1.2.2.2⟩, k2⟩, key⟩
  rcases List.mem_cons.mp hp with rfl | hp
  · exact hq ρ' σ' (key ρ' σ' ha).2 (key ρ' σ' ha).1
  · exact k1.2.2.1 p hp
theorem cag.sub {n m : Nat} {z : Int} {ρ' : Nat → Int} {σ' : Nat → Option Nat} (ha : cag (n + 1) m (cup ρ n z) σ ρ' σ') : cag n m ρ σ ρ' σ' := ⟨ha.1, fun s hs => by rw [ha.2.1 s (Nat.lt_succ_of_lt hs), cup_ne (by omega)], ha.2.2⟩
theorem cfv_P {a k s : Nat} (e : h.2 a k = σ s) : cfv ρ σ h a k (cP s) := ⟨fun z => absurd (show (1 : Nat) = 0 from z) (by decide), fun _ => e, fun z => absurd (show (1 : Nat) = 2 from z) (by decide)⟩
theorem cfv_I {a k : Nat} {e : cL} (z : h.1 a k = cE ρ e) : cfv ρ σ h a k (cI e) := ⟨fun _ => z, fun w => absurd (show (0 : Nat) = 1 from w) (by decide), fun w => absurd (show (0 : Nat) = 2 from w) (by decide)⟩
theorem cfv_N {a k : Nat} (z : h.2 a k = none) : cfv ρ σ h a k cNl := ⟨fun w => absurd w (by decide), fun w => absurd w (by decide), fun _ => z⟩
/-- what a reference of a slot may be -/
def crt (g : Nat → Nat) (t : cS) (o : Option Nat) : Prop := (t.2.2.2.2 = true ∧ o = none) ∨ ∃ b, o = some b ∧ g b = t.2.2.2.1 ∧ g b ≠ 0
theorem cs_nR {t : cS} {K : cZ → cV → Bool} {o : Option Nat} (hq : cnR Θ.1 t K S = true) (hw : cWT Θ.1 g τ h) (hR : cRl Θ S ρ σ g τ h lo st lo' st') (ho : t.1 = 1 → crt g t o) : ∃ (S2 : cZ) (ρ2 : Nat → Int) (σ2 : Nat → Option Nat), K S2 (cP S.2.1) = true ∧ cRl Θ S2 ρ2 σ2 g τ h lo st lo' st' ∧ (∀ ρ' σ', cag S2.1 S2.2.1 ρ2 σ2 ρ' σ' → σ' S.2.1 = o ∧ cag S.1 S.2.1 ρ σ ρ' σ') ∧ S2.2.2.2 = S.2.2.2 := by
  unfold cnR at hq
  obtain ⟨h1, hq⟩ := c_and hq
  obtain ⟨R, hf, hq⟩ := cop_ok hq
  obtain ⟨hl, hq⟩ := c_and hq
  obtain ⟨l1, hl⟩ := c_and hl
  obtain ⟨l2, l3⟩ := c_and hl
  have l1 := cge_iff.mp l1
  have l2 := cge_iff.mp l2
  have l3 := cge_iff.mp l3
  have ho := ho (Nat.eq_of_beq_eq_true h1)
  have hb : ∀ b, o = some b → τ.1 b = R.1 ∧ R.1 ≠ 0 ∧ g b = t.2.2.2.1 ∧ R.2.1 ≤ τ.2 b ∧ (τ.2 b : Int) ≤ R.2.2.1 := by
    intro b e
    rcases ho with ⟨-, e2⟩ | ⟨b', e2, e3, e4⟩
    · rw [e] at e2; cases e2
    · rw [e] at e2
      cases e2
      obtain ⟨R', r1, r2, r3, r4, -⟩ := hw b e4
      rw [e3, hf] at r1
      cases r1
      exact ⟨r2, r3, e3, r4.1, r4.2⟩
  have hn : o = none → t.2.2.2.2 = true := by
    intro e
    rcases ho with ⟨e2, -⟩ | ⟨b', e2, -⟩
    · exact e2
    · rw [e] at e2; cases e2
  cases hc : cz (R.2.2.1 - R.2.1) with
  | true =>
    rw [hc] at hq
    have hc : R.2.2.1 - R.2.1 = 0 := of_decide_eq_true hc
    obtain ⟨r1, r2⟩ := hR.newP (q := (S.2.1, R.1, t.2.2.2.1, t.2.2.2.2, cK R.2.1)) o fun ρ' σ' hag e => by
      cases o with
      | none => exact Or.inl ⟨hn rfl, e⟩
      | some b =>
        obtain ⟨x1, x2, x3, x4, x5⟩ := hb b rfl
        exact Or.inr ⟨b, e, x1, x2, x3, by show _ = cE ρ' (cK R.2.1); rw [cK_ev]; omega⟩
    exact ⟨_, _, _, hq, r1, r2, rfl⟩
  | false =>
    rw [hc] at hq
    obtain ⟨z, z1, z2, z3⟩ : ∃ z : Int, R.2.1 ≤ z ∧ z ≤ R.2.2.1 ∧ ∀ b, o = some b → (τ.2 b : Int) = z := by
      cases o with
      | none => exact ⟨R.2.1, by omega, by omega, fun b e => by cases e⟩
      | some b =>
        obtain ⟨x1, x2, x3, x4, x5⟩ := hb b rfl
        exact ⟨τ.2 b, x4, x5, fun b' e => by cases e; rfl⟩
    obtain ⟨q1, q2⟩ := hR.fresh (z := z) (l := R.2.1) (u := R.2.2.1) ⟨by omega, by omega⟩ z1 z2
    obtain ⟨r1, r2⟩ := q1.newP (q := (S.2.1, R.1, t.2.2.2.1, t.2.2.2.2, cX S.1)) o fun ρ' σ' hag e => by
      cases o with
      | none => exact Or.inl ⟨hn rfl, e⟩
      | some b =>
        obtain ⟨x1, x2, x3, x4, x5⟩ := hb b rfl
        exact Or.inr ⟨b, e, x1, x2, x3, by show _ = cE ρ' (cX S.1); rw [cX_ev, q2 ρ' σ' hag]; exact z3 b rfl⟩
    exact ⟨_, _, _, hq, r1, fun ρ' σ' hag => ⟨(r2 ρ' σ' hag).1, (r2 ρ' σ' hag).2.sub⟩, rfl⟩
/-- a reference of a slot: what is known, else of its role -/
noncomputable def crdR (T : cTb) (ro s k : Nat) (sq : cQ) : cQ := fun S lo st => @Option.rec cV (fun _ => Bool) (@Nat.rec (fun _ => Bool) false (fun r _ => cnR T (cslt T (r + 1) k) (fun S2 v => sq (caddF (s, k, v) S2) lo (v :: st)) S) ro) (fun v => cond (crq v) (sq S lo (v :: st)) false) (cff S.2.2.1.2.2.2 s k)
theorem cs_rdR {s k a : Nat} (kk : cSn Θ γ pc sq) (hq : crdR Θ.1 (g a) s k sq S lo st = true) (hG : cGd γ.1 Θ g τ h) (hR : cRl Θ S ρ σ g τ h lo st lo' st') (ha : ∀ ρ' σ', cag S.1 S.2.1 ρ σ ρ' σ' → σ' s = some a) : bJ γ pc lo' (va_rf (h.2 a k) :: st') τ h S.2.2.2.1 S.2.2.2.2 := by
  unfold crdR at hq
  cases hf : cff S.2.2.1.2.2.2 s k with
  | some v =>
    rw [hf] at hq
    obtain ⟨h0, hq⟩ := c_and hq
    have h0 := crq_ok h0
    have hm := cff_ok hf
    refine kk _ _ _ hq _ _ _ _ _ _ _ hG (hR.pushZ fun ρ' σ' hag => ?_)
    obtain ⟨a', e1, -, e2, e3⟩ := (hR.2 ρ' σ' hag).1.2.2.2 _ hm
    have : a' = a := by
      have := ha ρ' σ' hag
      rw [e1] at this
      cases this; rfl
    subst this
    rcases h0 with h0 | h0
    · exact Or.inr (Or.inl ⟨h0, by rw [show h.2 a' k = σ' v.2.1 from e2 h0]⟩)
    · exact Or.inr (Or.inr (Or.inl ⟨h0, by rw [show h.2 a' k = none from e3 h0]⟩))
  | none =>
    rw [hf] at hq
    cases hr : g a with
    | zero => rw [hr] at hq; cases hq
    | succ r =>
      rw [hr] at hq
      change cnR Θ.1 (cslt Θ.1 (r + 1) k) (fun S2 v => sq (caddF (s, k, v) S2) lo (v :: st)) S = true at hq
      have hc := cslt_ok (k := k) hG.1 (a := a) (by omega)
      rw [hr] at hc
      obtain ⟨S2, ρ2, σ2, q1, q2, q3, q4⟩ := cs_nR (o := h.2 a k) hq hG.1 hR hc.2
      have := kk _ _ _ q1 _ _ _ _ _ _ _ hG ((q2.addF (q := (s, k, cP S.2.1)) fun ρ' σ' hag => ⟨a, ha ρ' σ' (q3 ρ' σ' hag).2, cfv_P (q3 ρ' σ' hag).1.symm⟩).pushZ (x := va_rf (h.2 a k)) fun ρ' σ' hag => cv_P (q3 ρ' σ' hag).1)
      have e : (caddF (s, k, cP S.2.1) S2).2.2.2 = S.2.2.2 := q4
      rwa [e] at this
noncomputable def cq_getR (T : cTb) (ci k : Nat) (sq : cQ) : cQ := fun S lo st => cpv 1 st (fun v r => cob v.2.1 (ci + 1) S (fun q => crdR T q.2.2.1 v.2.1 k sq S lo r))
theorem cs_getR {k ci idx : Nat} {q : vw_C} (C : bC γ y d b1 b2) (hq : vwCl[ci]? = some q) (hk : k < q.2.2) (hci : ci ≤ 19) (hlink : blink y idx q k) (hd : decode y.2.1 pc = .ok (.getfield idx, 3)) (hty : bfk ci k = 2) (kk : cSn Θ γ (pc + 3) sq) : cSn Θ γ pc (cq_getR Θ.1 ci k sq) := by
  intro S lo st hq2 ρ σ g τ h lo' st' hG hR
  obtain ⟨v, r, rfl, hv, hq3⟩ := cpv_ok hq2
  obtain ⟨s1, rfl, e1, hR1⟩ := hR.popP hv
  obtain ⟨p, p1, p2, p3, p4, p5⟩ := cob_ok hq3
  obtain ⟨a, a1, a2, a3, a4, a5⟩ := hR.cell p1 p3
  rw [p2] at a1
  rw [a1]
  refine b_getR C hq hk hci hlink hd hty (by rw [a2, p4]) ?_
  rw [← a4] at p5
  exact cs_rdR kk p5 hG hR1 (fun ρ' σ' hag => by rw [va_rf_inj (e1 ρ' σ' hag), a1])
/-! lengths -/
noncomputable def cq_len (sq : cQ) : cQ := fun S lo st => cpv 1 st (fun v r => cop (cfi S.2.2.1.2.2.1 v.2.1) (fun q => cond q.2.2.2.1 false (cond (cond (Nat.ble 21 q.2.1) (cond (Nat.beq q.2.1 31) true (cond (Nat.ble 1 (q.2.1 % 20)) (Nat.ble (q.2.1 % 20) 6) false)) false) (sq S lo (cI q.2.2.2.2 :: r)) false)))
theorem cs_len (C : bC γ y d b1 b2) (hd : decode y.2.1 pc = .ok (.arraylength, 1)) (kk : cSn Θ γ (pc + 1) sq) : cSn Θ γ pc (cq_len sq) := by
  intro S lo st hq2 ρ σ g τ h lo' st' hG hR
  obtain ⟨v, r, rfl, hv, hq3⟩ := cpv_ok hq2
  obtain ⟨s1, rfl, e1, hR1⟩ := hR.popP hv
  obtain ⟨p, p1, hq4⟩ := cop_ok hq3
  obtain ⟨m1, m2⟩ := cfi_ok p1
  cases hb : p.2.2.2.1 with
  | true => rw [hb] at hq4; cases hq4
  | false =>
    rw [hb] at hq4
    obtain ⟨hk, hq5⟩ := c_and hq4
    obtain ⟨k1, k2⟩ := c_and hk
    obtain ⟨a, a1, a2, a3, a4, a5⟩ := hR.cell m1 hb
    rw [m2] at a1
    rw [a1]
    have k1 := Nat.ble_eq.mp k1
    have k3 : 21 ≤ τ.1 a ∧ (τ.1 a = 31 ∨ 1 ≤ τ.1 a % 20 ∧ τ.1 a % 20 ≤ 6) := by
      rw [a2]
      refine ⟨k1, ?_⟩
      rcases c_or k2 with z | z
      · exact Or.inl (Nat.eq_of_beq_eq_true z)
      · obtain ⟨z1, z2⟩ := c_and z
        exact Or.inr ⟨Nat.ble_eq.mp z1, Nat.ble_eq.mp z2⟩
    refine b_alen C hd k3 fun hle => ?_
    refine kk _ _ _ hq5 _ _ _ _ _ _ _ hG (hR1.pushZ fun ρ' σ' hag => cv_I ⟨by omega, by omega⟩ ?_)
    rcases (hR.2 ρ' σ' hag).1.2.2.1 p m1 with ⟨z, -⟩ | ⟨a', z1, z2, z3, z4, z5⟩
    · rw [hb] at z; cases z
    · rw [m2, va_rf_inj (e1 ρ' σ' hag), a1] at z1
      cases z1
      exact z5.symm
end CRD
