/-! ===== the checker: constants, things that are made ===== -/
/-- facts whose reference is known -/
noncomputable def ckf (S : cZ) : List cFt := cfil (fun q => @Option.rec cRf (fun _ => Bool) false (fun _ => true) (cfi S.2.2.1.2.2.1 q.1)) S.2.2.1.2.2.2
/-- a new cell: kind, role, length, facts, slots -/
noncomputable def cmk (kd ro : Nat) (len : cL) (fs : List (Nat × cV)) (ns : Nat) (S : cZ) : cZ := (S.1, S.2.1 + 1, (S.2.2.1.1, S.2.2.1.2.1, (S.2.1, kd, ro, false, len) :: S.2.2.1.2.2.1, @List.rec (Nat × cV) (fun _ => List cFt) (ckf S) (fun q _ ih => (S.2.1, q.1, q.2) :: ih) fs), S.2.2.2.1 + 1, S.2.2.2.2 + ns)
theorem crk_ne (j : Nat) : crk j ≠ 0 := by
  unfold crk
  by_cases h1 : j < 38
  · rw [if_pos h1]; omega
  · rw [if_neg h1]
    by_cases h2 : j = 40
    · rw [if_pos h2]; omega
    · rw [if_neg h2]
      by_cases h3 : j = 41
      · rw [if_pos h3]; omega
      · rw [if_neg h3]
        by_cases h4 : j = 43
        · rw [if_pos h4]; omega
        · rw [if_neg h4]; omega
section CMK
variable {Θ : cTh} {γ : bG} {y : bY} {d b1 b2 pc : Nat} {sq : cQ} {S : cZ} {ρ : Nat → Int} {σ : Nat → Option Nat} {g : Nat → Nat} {τ : bt} {h : bh} {lo st : List cV} {lo' : List (Option Value)} {st' : List Value}
theorem bJ.wide {lo : List (Option Value)} {st : List Value} {nc ns nc' ns' : Nat} (h1 : nc ≤ nc') (h2 : ns ≤ ns') (k : bJ γ pc lo st τ h nc' ns') : bJ γ pc lo st τ h nc ns := fun ws ls H locs hM => W.widen h1 h2 (k ws ls H locs hM)
noncomputable def cq_null (sq : cQ) : cQ := fun S lo st => sq S lo (cNl :: st)
theorem cs_null (C : bC γ y d b1 b2) (hd : decode y.2.1 pc = .ok (.aconst_null, 1)) (kk : cSn Θ γ (pc + 1) sq) : cSn Θ γ pc (cq_null sq) := fun S lo st hq ρ σ g τ h lo' st' hG hR => b_null C hd (kk _ _ _ hq _ _ _ _ _ _ _ hG (hR.pushZ fun _ _ _ => cv_N))
noncomputable def cq_gets (T : cTb) (j : Nat) (sq : cQ) : cQ := fun S lo st => cnR T (1, 0, 0, crk j, false) (fun S2 v => sq S2 lo (v :: st)) S
theorem cs_gets {j idx : Nat} (C : bC γ y d b1 b2) (hj : j < 38 ∨ 40 ≤ j ∧ j ≤ 43) (hlink : Cond.fieldLink y.1.cls idx (bst j).1 (bst j).2.1 (bst j).2.2 ∈ bW ∨ ∃ host, Cond.fieldLinkNest y.1.cls idx (bst j).1 (bst j).2.1 (bst j).2.2 host ∈ lw_tbl) (hd : decode y.2.1 pc = .ok (.getstatic idx, 3)) (kk : cSn Θ γ (pc + 3) sq) : cSn Θ γ pc (cq_gets Θ.1 j sq) := by
  intro S lo st hq ρ σ g τ h lo' st' hG hR
  refine b_gets C hj hlink hd ?_
  have e : g (γ.1.2.2.2 j) = crk j := hG.2.1.1 j hj
  have e0 : crk j ≠ 0 := crk_ne j
  obtain ⟨S2, ρ2, σ2, q1, q2, q3, q4⟩ := cs_nR (t := (1, 0, 0, crk j, false)) (o := some (γ.1.2.2.2 j)) hq hG.1 hR fun _ => Or.inr ⟨_, rfl, e, by rw [e]; exact e0⟩
  have := kk _ _ _ q1 _ _ _ _ _ _ _ hG (q2.pushZ (x := va_rf (some (γ.1.2.2.2 j))) fun ρ' σ' hag => cv_P (q3 ρ' σ' hag).1)
  rwa [q4] at this
/-- a cell that is new is none of those that are known -/
theorem cGd.role {ι : bI} {a : Nat} (hG : cGd ι Θ g τ h) (ha : τ.1 a = 0) : g a = 0 := by
  refine Classical.byContradiction fun z => ?_
  obtain ⟨R, -, r2, r3, -⟩ := hG.1 a z
  rw [ha] at r2
  exact r3 r2.symm
/-- all slots empty suit a role -/
noncomputable def cemp (R : cR) : Bool := call (fun q => cond (Nat.beq q.2.1 0) (cond (cge (-q.2.2.1)) (cge q.2.2.2.1) false) (cond (Nat.beq q.2.1 1) q.2.2.2.2.2 true)) R.2.2.2
theorem cseg_mem (l : List (Nat × cS)) (i : Nat) : (cseg l i).1 = 2 ∨ ∃ q ∈ l, cseg l i = q.2 := by
  induction l with
  | nil => exact Or.inl rfl
  | cons q r ih =>
    show (cond (Nat.blt i q.1) q.2 (cseg r i)).1 = 2 ∨ ∃ p ∈ q :: r, cond (Nat.blt i q.1) q.2 (cseg r i) = p.2
    cases Nat.blt i q.1 with
    | true => exact Or.inr ⟨q, List.mem_cons_self, rfl⟩
    | false =>
      rcases ih with h | ⟨p, h1, h2⟩
      · exact Or.inl h
      · exact Or.inr ⟨p, List.mem_cons_of_mem _ h1, h2⟩
/-- may a new cell of a kind and length have a role -/
noncomputable def cnro (T : cTb) (kd ro : Nat) (S : cZ) (len : cL) : Bool := cond (Nat.beq ro 0) true (cond (cond (cond (Nat.ble 30 ro) (Nat.ble ro 33) false) true (Nat.beq ro 12)) false (cop (cfR T ro) (fun R => cond (Nat.beq R.1 kd) (cond (cpos S.2.2.1.1 S.2.2.1.2.1 (cpl (-R.2.1) len)) (cond (cpos S.2.2.1.1 S.2.2.1.2.1 (cpl R.2.2.1 (csc (-1) len))) (cemp R) false) false) false)))
theorem cGd.mk {ι : bI} {a kd ro n : Nat} {len : cL} (hG : cGd ι Θ g τ h) (hR : cRl Θ S ρ σ g τ h lo st lo' st') (ha : τ.1 a = 0) (hkd : kd ≠ 0) (hro : cnro Θ.1 kd ro S len = true) (hn : (n : Int) = cE ρ len) : cGd ι Θ (cup g a ro) (bnT τ a kd n) (bnH h a) := by
  have g0 := hG.role ha
  obtain ⟨h1, h2, h3⟩ := hG
  have r34 : ro ≠ 0 → (¬ (30 ≤ ro ∧ ro ≤ 33) ∧ ro ≠ 12) ∧ ∃ R, cfR Θ.1 ro = some R ∧ R.1 = kd ∧ R.2.1 ≤ n ∧ (n : Int) ≤ R.2.2.1 ∧ cemp R = true := by
    intro hz
    unfold cnro at hro
    cases hb : Nat.beq ro 0 with
    | true => exact absurd (Nat.eq_of_beq_eq_true hb) hz
    | false =>
      rw [hb] at hro
      cases h30 : cond (cond (Nat.ble 30 ro) (Nat.ble ro 33) false) true (Nat.beq ro 12) with
      | true => rw [h30] at hro; cases hro
      | false =>
        rw [h30] at hro
        obtain ⟨R, q1, q2⟩ := cop_ok hro
        obtain ⟨q3, q2⟩ := c_and q2
        obtain ⟨q4, q2⟩ := c_and q2
        obtain ⟨q5, q6⟩ := c_and q2
        have hA := hR.at.1
        have q4 := cpos_ok hA.1 hA.2.1 q4
        have q5 := cpos_ok hA.1 hA.2.1 q5
        rw [cpl_ev, ← hn] at q4
        rw [cpl_ev, csc_ev, ← hn] at q5
        refine ⟨⟨fun z => ?_, fun z => by rw [z] at h30; cases h30⟩, R, q1, Nat.eq_of_beq_eq_true q3, by omega, by omega, q6⟩
        rw [show Nat.ble 30 ro = true from Nat.ble_eq.mpr z.1, show Nat.ble ro 33 = true from Nat.ble_eq.mpr z.2] at h30
        cases h30
  have gne : ∀ b, g b ≠ 0 → b ≠ a := fun b hb e => hb (by rw [e]; exact g0)
  refine ⟨fun b hb => ?_, ⟨fun j hj => ?_, fun b hb => ?_, fun b hb => ?_, fun b hb => ?_⟩, fun b hb => ?_⟩
  · by_cases e : b = a
    · subst e
      rw [cup_at] at hb ⊢
      obtain ⟨⟨-, n12⟩, R, q1, q2, q3, q4, q5⟩ := r34 hb
      refine ⟨R, q1, by show (if b = b then kd else _) = _; rw [if_pos rfl, q2], by rw [q2]; exact hkd, by show R.2.1 ≤ ((if b = b then n else _ : Nat) : Int) ∧ ((if b = b then n else _ : Nat) : Int) ≤ _; rw [if_pos rfl]; exact ⟨q3, q4⟩, fun i => ?_, fun _ q _ _ => creg_zero fun i => by show (if b = b then (0 : Int) else _) = 0; rw [if_pos rfl], fun e12 => absurd (by rw [cup_at] at e12; exact e12) n12, fun e12 => absurd e12 n12⟩
      have z1 : (bnH h b).1 b i = 0 := by show (if b = b then (0 : Int) else _) = 0; rw [if_pos rfl]
      have z2 : (bnH h b).2 b i = none := by show (if b = b then none else _) = none; rw [if_pos rfl]
      rcases cseg_mem R.2.2.2 i with z | ⟨q, m1, m2⟩
      · exact ⟨fun w => by omega, fun w => by omega⟩
      · have := call_iff.mp q5 q m1
        rw [m2]
        refine ⟨fun w => ?_, fun w => ?_⟩
        · rw [w] at this
          obtain ⟨x1, x2⟩ := c_and (show cond (cge (-q.2.2.1)) (cge q.2.2.2.1) false = true from this)
          have x1 := cge_iff.mp x1
          have x2 := cge_iff.mp x2
          rw [z1]
          omega
        · rw [w] at this
          exact Or.inl ⟨this, z2⟩
    · rw [cup_ne e] at hb ⊢
      obtain ⟨R, q1, q2, q3, q4, q5, q6, q7, q8⟩ := h1 b hb
      refine ⟨R, q1, by show (if b = a then kd else _) = _; rw [if_neg e, q2], q3, by show R.2.1 ≤ ((if b = a then n else _ : Nat) : Int) ∧ ((if b = a then n else _ : Nat) : Int) ≤ _; rw [if_neg e]; exact q4, fun i => ?_, fun k41 q hq q3 => creg_eq (fun i _ => by show (if b = a then (0 : Int) else _) = _; rw [if_neg e]) (q6 k41 q hq q3), fun e12 B K hB hK k hk hm => ?_, fun e12 => q8 e12⟩
      case refine_2 =>
        rw [cup_ne e] at e12
        have hB : h.2 b 23 = some B := by rw [← hB]; show _ = if b = a then none else _; rw [if_neg e]
        have hK : h.2 b 16 = some K := by rw [← hK]; show _ = if b = a then none else _; rw [if_neg e]
        obtain ⟨w1, w2, w3, w4⟩ := q8 e12
        have nB : B ≠ a := by
          rcases (q5 23).2 w1 with ⟨-, z⟩ | ⟨c, c1, c2, c3⟩
          · rw [hB] at z; cases z
          · rw [hB] at c1; cases c1; exact gne _ c3
        have nK : K ≠ a := by
          rcases (q5 16).2 w3 with ⟨-, z⟩ | ⟨c, c1, c2, c3⟩
          · rw [hK] at z; cases z
          · rw [hK] at c1; cases c1; exact gne _ c3
        have hm : h.1 B k = 1 := by rw [← hm]; show _ = if B = a then (0 : Int) else _; rw [if_neg nB]
        have kk := q7 e12 B K hB hK k hk hm
        have ek : ∀ i, (bnH h a).1 K i = h.1 K i := fun i => by show (if K = a then (0 : Int) else _) = _; rw [if_neg nK]
        unfold chdk at *
        rw [ek, ek, ek]
        exact kk
      have z1 : (bnH h a).1 b i = h.1 b i := by show (if b = a then (0 : Int) else _) = _; rw [if_neg e]
      have z2 : (bnH h a).2 b i = h.2 b i := by show (if b = a then none else _) = _; rw [if_neg e]
      obtain ⟨x1, x2⟩ := q5 i
      refine ⟨fun w => by rw [z1]; exact x1 w, fun w => ?_⟩
      rw [z2]
      rcases x2 w with z | ⟨c, c1, c2, c3⟩
      · exact Or.inl z
      · exact Or.inr ⟨c, c1, by rw [cup_ne (gne c c3)]; exact c2, by rw [cup_ne (gne c c3)]; exact c3⟩
  · have e := h2.1 j hj
    have e0 : crk j ≠ 0 := crk_ne j
    rw [cup_ne (gne _ (by rw [e]; exact e0))]
    exact e
  · by_cases e : b = a
    · subst e
      rw [cup_at] at hb
      exact absurd ⟨by omega, by omega⟩ (r34 (by omega)).1.1
    · rw [cup_ne e] at hb
      exact h2.2.1 b hb
  · by_cases e : b = a
    · subst e
      rw [cup_at] at hb
      exact absurd ⟨by omega, by omega⟩ (r34 (by omega)).1.1
    · rw [cup_ne e] at hb
      exact h2.2.2.1 b hb
  · by_cases e : b = a
    · subst e
      rw [cup_at] at hb
      exact absurd ⟨by omega, by omega⟩ (r34 (by omega)).1.1
    · rw [cup_ne e] at hb
      exact h2.2.2.2 b hb
  · obtain ⟨x1, x2, x3, x4⟩ := h3 b hb
    have e : b ≠ a := fun e => by rw [e, ha] at x1; rw [e] at hb; exact hb x1.symm
    refine ⟨by show (if b = a then kd else _) = _; rw [if_neg e, x1], by show (if b = a then n else _) = _; rw [if_neg e, x2], by rw [cup_ne e]; exact x3, fun i hi => ?_⟩
    obtain ⟨y1, y2⟩ := x4 i hi
    exact ⟨by show (if b = a then (0 : Int) else _) = _; rw [if_neg e]; exact y1, by show (if b = a then none else _) = _; rw [if_neg e]; exact y2⟩
end CMK
