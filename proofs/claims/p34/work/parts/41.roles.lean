/-! ===== the checker: a cell gets its role ===== -/
/-- the slots of s suit a role's words, one by one -/
noncomputable def csl1 (S : cZ) (s : Nat) (t : cS) (i : Nat) : Bool := cond (Nat.beq t.1 0) (cop (cff S.2.2.1.2.2.2 s i) (fun v => cond (Nat.beq v.1 0) (csui S t v.2.2) false)) (cond (Nat.beq t.1 1) (cop (cff S.2.2.1.2.2.2 s i) (fun v => cond (crq v) (csuR S t v) false)) true)
/-- slots i to i + n -/
noncomputable def csln (S : cZ) (s : Nat) (t : cS) (i n : Nat) : Bool := @Nat.rec (fun _ => Bool) true (fun k ih => cond (csl1 S s t (i + k)) ih false) n
noncomputable def cslo (S : cZ) (s : Nat) (segs : List (Nat × cS)) : Nat → Bool := @List.rec (Nat × cS) (fun _ => Nat → Bool) (fun _ => true) (fun q _ ih i => cond (csln S s q.2 i (q.1 - i)) (ih q.1) false) segs
theorem csln_ok {S : cZ} {s i : Nat} {t : cS} : ∀ n, csln S s t i n = true → ∀ j, i ≤ j → j < i + n → csl1 S s t j = true := by
  intro n
  induction n with
  | zero => intro _ j h1 h2; omega
  | succ n ih =>
    intro h j h1 h2
    obtain ⟨h3, h4⟩ := c_and (show cond (csl1 S s t (i + n)) (csln S s t i n) false = true from h)
    by_cases e : j = i + n
    · rw [e]; exact h3
    · exact ih h4 j h1 (by omega)
noncomputable def cupS (s kd ro : Nat) (len : cL) (S : cZ) : cZ := (S.1, S.2.1, (S.2.2.1.1, S.2.2.1.2.1, (s, kd, ro, false, len) :: cfil (fun q => not (Nat.beq q.2.2.1 0 && Nat.beq q.2.1 kd)) S.2.2.1.2.2.1, S.2.2.1.2.2.2), S.2.2.2)
section CROLE
variable {ι : bI} {Θ : cTh} {S : cZ} {ρ : Nat → Int} {σ : Nat → Option Nat} {g : Nat → Nat} {τ : bt} {h : bh} {lo st : List cV} {lo' : List (Option Value)} {st' : List Value}
theorem cslo_ok {s a : Nat} (hR : cRl Θ S ρ σ g τ h lo st lo' st') (ha : σ s = some a) : ∀ (segs : List (Nat × cS)) (i : Nat), cslo S s segs i = true → ∀ j, i ≤ j → ((cseg segs j).1 = 0 → (cseg segs j).2.1 ≤ h.1 a j ∧ h.1 a j ≤ (cseg segs j).2.2.1) ∧ ((cseg segs j).1 = 1 → crt g (cseg segs j) (h.2 a j)) := by
  intro segs
  induction segs with
  | nil => intro i _ j _; exact ⟨fun z => absurd (show (2 : Nat) = 0 from z) (by decide), fun z => absurd (show (2 : Nat) = 1 from z) (by decide)⟩
  | cons q r ih =>
    intro i hc j hj
    obtain ⟨c2, c3⟩ := c_and (show cond (csln S s q.2 i (q.1 - i)) (cslo S s r q.1) false = true from hc)
    show ((cond (Nat.blt j q.1) q.2 (cseg r j)).1 = 0 → _) ∧ ((cond (Nat.blt j q.1) q.2 (cseg r j)).1 = 1 → _)
    by_cases e : j < q.1
    · have hb : Nat.blt j q.1 = true := Nat.ble_eq.mpr (by omega)
      have hs : cseg (q :: r) j = q.2 := by show cond (Nat.blt j q.1) q.2 (cseg r j) = _; rw [hb]; rfl
      have c2 := csln_ok _ c2 j hj (by omega)
      unfold csl1 at c2
      rw [hs, hb]
      refine ⟨fun z => ?_, fun z => ?_⟩
      · have z : q.2.1 = 0 := z
        rw [z] at c2
        obtain ⟨v, v1, c2⟩ := cop_ok (show cop (cff S.2.2.1.2.2.2 s j) (fun v => cond (Nat.beq v.1 0) (csui S q.2 v.2.2) false) = true from c2)
        obtain ⟨v2, v3⟩ := c_and c2
        obtain ⟨b, e1, e2, -⟩ := hR.at.1.2.2.2 _ (cff_ok v1)
        rw [show (s, j, v).1 = s from rfl, ha] at e1
        cases e1
        exact csui_ok v3 hR (e2 (Nat.eq_of_beq_eq_true v2)) z
      · have z : q.2.1 = 1 := z
        rw [z] at c2
        obtain ⟨v, v1, c2⟩ := cop_ok (show cop (cff S.2.2.1.2.2.2 s j) (fun v => cond (crq v) (csuR S q.2 v) false) = true from c2)
        obtain ⟨v2, v3⟩ := c_and c2
        obtain ⟨b, e1, -, e2, e3⟩ := hR.at.1.2.2.2 _ (cff_ok v1)
        rw [show (s, j, v).1 = s from rfl, ha] at e1
        cases e1
        refine csuR_ok v3 hR v2 ?_ z
        rcases crq_ok v2 with w | w
        · exact Or.inr (Or.inl ⟨w, by rw [show h.2 a j = σ v.2.1 from e2 w]⟩)
        · exact Or.inr (Or.inr (Or.inl ⟨w, by rw [show h.2 a j = none from e3 w]⟩))
    · have hb : Nat.blt j q.1 = false := by
        cases hh : Nat.blt j q.1 with
        | false => rfl
        | true => have : j < q.1 := Nat.ble_eq.mp hh; omega
      have hs : cseg (q :: r) j = cseg r j := by show cond (Nat.blt j q.1) q.2 (cseg r j) = _; rw [hb]; rfl
      rw [hs, hb]
      exact ih q.1 c3 j (by omega)
/-- may s, of a kind and without a role, get one -/
noncomputable def cupq (T : cTb) (E : cEf) (S : cZ) (s kd ro : Nat) (q : cRf) : Bool := cond (Nat.blt s S.2.1) (cond (Nat.beq q.2.2.1 0) (cond (cond (Nat.beq ro 0) true (cond (Nat.ble 30 ro) (Nat.ble ro 33) (Nat.beq ro 12))) false (cond (cond (Nat.ble kd 40) (cef E (1000 + kd) 0) false) (cop (cfR T ro) (fun R => cond (Nat.beq R.1 kd) (cond (cpos S.2.2.1.1 S.2.2.1.2.1 (cpl (-R.2.1) q.2.2.2.2)) (cond (cpos S.2.2.1.1 S.2.2.1.2.1 (cpl R.2.2.1 (csc (-1) q.2.2.2.2))) (cslo S s R.2.2.2 0) false) false) false)) false)) false) false
theorem cs_role {s kd ro : Nat} {K : cZ → Bool} (hq : cob s kd S (fun q => cond (cupq Θ.1 Θ.2.1 S s kd ro q) (K (cupS s kd ro q.2.2.2.2 S)) false) = true) (hR : cRl Θ S ρ σ g τ h lo st lo' st') (hG : cGd ι Θ g τ h) : ∃ S2 g', K S2 = true ∧ cGd ι Θ g' τ h ∧ cRl Θ S2 ρ σ g' τ h lo st lo' st' ∧ S2.2.2.2 = S.2.2.2 := by
  obtain ⟨q, p1, p2, p3, p4, p5⟩ := cob_ok hq
  obtain ⟨c0, hK⟩ := c_and p5
  obtain ⟨c1, c0⟩ := c_and c0
  obtain ⟨c2, c0⟩ := c_and c0
  have c1 : s < S.2.1 := Nat.ble_eq.mp c1
  have c2 := Nat.eq_of_beq_eq_true c2
  obtain ⟨c3, c0⟩ : cond (Nat.beq ro 0) true (cond (Nat.ble 30 ro) (Nat.ble ro 33) (Nat.beq ro 12)) = false ∧ _ := by
    cases hh : cond (Nat.beq ro 0) true (cond (Nat.ble 30 ro) (Nat.ble ro 33) (Nat.beq ro 12)) with
    | true => rw [hh] at c0; cases c0
    | false => rw [hh] at c0; exact ⟨rfl, c0⟩
  obtain ⟨c4, c0⟩ := c_and (show cond (cond (Nat.ble kd 40) (cef Θ.2.1 (1000 + kd) 0) false) _ false = true from c0)
  obtain ⟨k40, c4⟩ := c_and c4
  have k40 := Nat.ble_eq.mp k40
  obtain ⟨R, r1, c0⟩ := cop_ok c0
  obtain ⟨c5, c0⟩ := c_and c0
  obtain ⟨c6, c0⟩ := c_and c0
  obtain ⟨c7, c8⟩ := c_and c0
  have c5 := Nat.eq_of_beq_eq_true c5
  have hA := hR.at.1
  have c6 := cpos_ok hA.1 hA.2.1 c6
  have c7 := cpos_ok hA.1 hA.2.1 c7
  obtain ⟨a, a1, a2, a3, a4, a5⟩ := hR.cell p1 p3
  rw [p2] at a1
  rw [cpl_ev, ← a5] at c6
  rw [cpl_ev, csc_ev, ← a5] at c7
  rw [c2] at a4
  have hro : ro ≠ 0 ∧ ¬ (30 ≤ ro ∧ ro ≤ 33) := by
    refine ⟨fun z => by (rw [z] at c3; cases c3), fun z => ?_⟩
    rw [show Nat.ble 30 ro = true from Nat.ble_eq.mpr z.1, show Nat.ble ro 33 = true from Nat.ble_eq.mpr z.2] at c3
    cases hh : Nat.beq ro 0 <;> rw [hh] at c3 <;> cases c3
  have n12 : ro ≠ 12 := fun z => by rw [z] at c3; cases c3
  have gne : ∀ b, g b ≠ 0 → b ≠ a := fun b hb e => hb (by rw [e]; exact a4)
  have hsl := cslo_ok hR a1 R.2.2.2 0 c8
  obtain ⟨h1, h2, h3⟩ := hG
  refine ⟨_, cup g a ro, hK, ⟨fun b hb => ?_, ⟨fun j hj => ?_, fun b hb => ?_, fun b hb => ?_, fun b hb => ?_⟩, fun b hb => ?_⟩, ?_, rfl⟩
  · by_cases e : b = a
    · subst e
      rw [cup_at]
      refine ⟨R, r1, by rw [a2, p4, c5], by rw [c5, ← p4]; exact a3, ⟨by omega, by omega⟩, fun i => ⟨(hsl i (Nat.zero_le _)).1, fun z => ?_⟩, fun k41 => by omega, fun e12 => absurd (by rw [cup_at] at e12; exact e12) n12, fun e12 => absurd e12 n12⟩
      rcases (hsl i (Nat.zero_le _)).2 z with w | ⟨k, k1, k2, k3⟩
      · exact Or.inl w
      · exact Or.inr ⟨k, k1, by rw [cup_ne (gne k k3)]; exact k2, by rw [cup_ne (gne k k3)]; exact k3⟩
    · rw [cup_ne e] at hb ⊢
      obtain ⟨R', q1, q2, q3, q4, q5, q6, q7, q8⟩ := h1 b hb
      refine ⟨R', q1, q2, q3, q4, fun i => ⟨(q5 i).1, fun z => ?_⟩, q6, fun e12 => q7 (by rw [cup_ne e] at e12; exact e12), q8⟩
      rcases (q5 i).2 z with w | ⟨k, k1, k2, k3⟩
      · exact Or.inl w
      · exact Or.inr ⟨k, k1, by rw [cup_ne (gne k k3)]; exact k2, by rw [cup_ne (gne k k3)]; exact k3⟩
  · have e := h2.1 j hj
    rw [cup_ne (gne _ (by rw [e]; exact crk_ne j))]
    exact e
  · by_cases e : b = a
    · subst e
      rw [cup_at] at hb
      exact absurd ⟨by omega, by omega⟩ hro.2
    · rw [cup_ne e] at hb
      exact h2.2.1 b hb
  · by_cases e : b = a
    · subst e
      rw [cup_at] at hb
      exact absurd ⟨by omega, by omega⟩ hro.2
    · rw [cup_ne e] at hb
      exact h2.2.2.1 b hb
  · by_cases e : b = a
    · subst e
      rw [cup_at] at hb
      exact absurd ⟨by omega, by omega⟩ hro.2
    · rw [cup_ne e] at hb
      exact h2.2.2.2 b hb
  · obtain ⟨x1, x2, x3, x4⟩ := h3 b hb
    refine ⟨x1, x2, ?_, x4⟩
    by_cases e : b = a
    · subst e
      right
      refine ⟨?_, by rw [← x1, a2, p4]; exact c4⟩
      rcases x3 with x3 | x3
      · rw [← x3]; exact a4
      · exact x3.1
    · rw [cup_ne e]; exact x3
  · obtain ⟨n, m, A, nc, ns⟩ := S
    refine hR.map fun ρ' σ' hag k1 k2 => ⟨⟨k1.1, k1.2.1, fun p hp => ?_, k1.2.2.2⟩, k2⟩
    rcases List.mem_cons.mp hp with rfl | hp
    · rcases k1.2.2.1 q p1 with ⟨z, -⟩ | ⟨b, x1, x2, x3, x4, x5⟩
      · rw [p3] at z; cases z
      · have eb : b = a := by
          have := hag.2.2 s c1
          rw [p2, this, a1] at x1
          cases x1; rfl
        subst eb
        exact Or.inr ⟨b, by rw [← p2]; exact x1, by rw [x2]; exact p4, by rw [← p4]; exact x3, cup_at _ _ _, x5⟩
    · obtain ⟨m1, m2⟩ := cfil_ok hp
      rcases k1.2.2.1 p m1 with z | ⟨b, x1, x2, x3, x4, x5⟩
      · exact Or.inl z
      · have e : b ≠ a := by
          intro e
          subst e
          rw [a4] at x4
          rw [a2, p4] at x2
          rw [← x4, ← x2] at m2
          rw [show Nat.beq kd kd = true from Nat.beq_refl kd] at m2
          cases m2
        exact Or.inr ⟨b, x1, x2, x3, by rw [cup_ne e]; exact x4, x5⟩
end CROLE
