/-! ===== the checker: fields that are written ===== -/
/-- facts that stay when slots l to u of a cell of a kind are written -/
noncomputable def ckeep (rf : List cRf) (kd l u : Nat) (q : cFt) : Bool := cond (Nat.blt q.2.1 l) true (cond (Nat.blt u q.2.1) true (@Option.rec cRf (fun _ => Bool) false (fun p => not (Nat.beq p.2.1 kd)) (cfi rf q.1)))
noncomputable def cfil {α : Type} (f : α → Bool) (l : List α) : List α := @List.rec α (fun _ => List α) [] (fun q _ ih => cond (f q) (q :: ih) ih) l
theorem cfil_ok {α : Type} {f : α → Bool} {l : List α} {q : α} (h : q ∈ cfil f l) : q ∈ l ∧ f q = true := by
  induction l with
  | nil => cases h
  | cons p r ih =>
    change q ∈ cond (f p) (p :: cfil f r) (cfil f r) at h
    cases hp : f p with
    | true =>
      rw [hp] at h
      rcases List.mem_cons.mp h with rfl | h
      · exact ⟨List.mem_cons_self, hp⟩
      · exact ⟨List.mem_cons_of_mem _ (ih h).1, (ih h).2⟩
    | false => rw [hp] at h; exact ⟨List.mem_cons_of_mem _ (ih h).1, (ih h).2⟩
noncomputable def ckl (kd l u : Nat) (S : cZ) : cZ := (S.1, S.2.1, (S.2.2.1.1, S.2.2.1.2.1, S.2.2.1.2.2.1, cfil (ckeep S.2.2.1.2.2.1 kd l u) S.2.2.1.2.2.2), S.2.2.2)
section CWR
variable {Θ : cTh} {γ : bG} {y : bY} {d b1 b2 pc : Nat} {sq : cQ} {S : cZ} {ρ : Nat → Int} {σ : Nat → Option Nat} {g : Nat → Nat} {τ : bt} {h : bh} {lo st : List cV} {lo' : List (Option Value)} {st' : List Value}
/-- slots l to u of the cell a are otherwise -/
def cch (h h' : bh) (a l u : Nat) : Prop := ∀ b i, (b ≠ a ∨ i < l ∨ u < i) → h'.1 b i = h.1 b i ∧ h'.2 b i = h.2 b i
theorem cRl.wr {h' : bh} {a l u : Nat} (hR : cRl Θ S ρ σ g τ h lo st lo' st') (hc : cch h h' a l u) : cRl Θ (ckl (τ.1 a) l u S) ρ σ g τ h' lo st lo' st' := by
  obtain ⟨n, m, A, nc, ns⟩ := S
  refine hR.map fun ρ' σ' ha k1 k2 => ⟨⟨k1.1, k1.2.1, k1.2.2.1, fun q hq => ?_⟩, k2⟩
  obtain ⟨q1, q2⟩ := cfil_ok hq
  obtain ⟨b, e1, e2⟩ := k1.2.2.2 q q1
  have key : b ≠ a ∨ q.2.1 < l ∨ u < q.2.1 := by
    unfold ckeep at q2
    rcases c_or q2 with z | z
    · exact Or.inr (Or.inl (Nat.ble_eq.mp z))
    · rcases c_or z with z | z
      · exact Or.inr (Or.inr (Nat.ble_eq.mp z))
      · left
        intro e
        subst e
        cases hf : cfi A.2.2.1 q.1 with
        | none => rw [show cfi (n, m, A, nc, ns).2.2.1.2.2.1 q.1 = cfi A.2.2.1 q.1 from rfl, hf] at z; cases z
        | some p =>
          rw [show cfi (n, m, A, nc, ns).2.2.1.2.2.1 q.1 = cfi A.2.2.1 q.1 from rfl, hf] at z
          obtain ⟨m1, m2⟩ := cfi_ok hf
          rcases k1.2.2.1 p m1 with ⟨-, x⟩ | ⟨b', x1, x2, -⟩
          · rw [m2, e1] at x; cases x
          · rw [m2, e1] at x1
            cases x1
            change (!Nat.beq p.2.1 (τ.1 b)) = true at z
            rw [x2] at z
            have : Nat.beq p.2.1 p.2.1 = true := Nat.beq_refl _
            rw [this] at z
            cases z
  obtain ⟨c1, c2⟩ := hc b q.2.1 key
  exact ⟨b, e1, fun z => by rw [c1]; exact e2.1 z, fun z => by rw [c2]; exact e2.2.1 z, fun z => by rw [c2]; exact e2.2.2 z⟩
theorem cGd.wr {ι : bI} {h' : bh} {a l u : Nat} (hG : cGd ι Θ g τ h) (hc : cch h h' a l u) (hty : g a ≠ 0 → ∀ i, l ≤ i → i ≤ u → cok g h' a i (cslt Θ.1 (g a) i)) (he : ∀ i, l ≤ i → i ≤ u → cef Θ.2.1 (τ.1 a) i = true) (hrg : g a ≠ 0 → 41 ≤ τ.1 a → ∀ R, cfR Θ.1 (g a) = some R → ∀ q ∈ R.2.2.2, q.2.1 = 3 → creg q.2.2.1 q.2.2.2.1.toNat (h.1 a) → creg q.2.2.1 q.2.2.2.1.toNat (h'.1 a)) (hke : g a ≠ 63 ∧ g a ≠ 68 ∧ (g a = 12 → (16 < l ∨ u < 16) ∧ (23 < l ∨ u < 23))) : cGd ι Θ g τ h' := by
  obtain ⟨h1, h2, h3⟩ := hG
  refine ⟨fun b hb => ?_, h2, fun b hb => ?_⟩
  · obtain ⟨R, r1, r2, r3, r4, r5, r6, r7, r8⟩ := h1 b hb
    refine ⟨R, r1, r2, r3, r4, fun i => ?_, fun k41 q hq q3 => ?_, fun e12 B K hB hK k hk hm => ?_, r8⟩
    case refine_3 =>
      have s1 : h'.2 b 23 = h.2 b 23 := (hc b 23 (by
        by_cases e : b = a
        · subst e; have := (hke.2.2 e12).2; omega
        · exact Or.inl e)).2
      have s2 : h'.2 b 16 = h.2 b 16 := (hc b 16 (by
        by_cases e : b = a
        · subst e; have := (hke.2.2 e12).1; omega
        · exact Or.inl e)).2
      rw [s1] at hB
      rw [s2] at hK
      obtain ⟨w1, w2, w3, w4⟩ := r8 e12
      have gB : g B = 68 := by
        rcases (r5 23).2 w1 with ⟨-, z⟩ | ⟨c, c1, c2, -⟩
        · rw [hB] at z; cases z
        · rw [hB] at c1; cases c1; rw [c2, w2]
      have gK : g K = 63 := by
        rcases (r5 16).2 w3 with ⟨-, z⟩ | ⟨c, c1, c2, -⟩
        · rw [hK] at z; cases z
        · rw [hK] at c1; cases c1; rw [c2, w4]
      have nB : B ≠ a := fun e => hke.2.1 (by rw [← e]; exact gB)
      have nK : K ≠ a := fun e => hke.1 (by rw [← e]; exact gK)
      have kk := r7 e12 B K hB hK k hk (by rw [← (hc B k (Or.inl nB)).1]; exact hm)
      unfold chdk at *
      rw [(hc K _ (Or.inl nK)).1, (hc K _ (Or.inl nK)).1, (hc K _ (Or.inl nK)).1]
      exact kk
    case refine_2 =>
      by_cases e : b = a
      · subst e
        exact hrg hb (by rw [r2]; exact k41) R r1 q hq q3 (r6 k41 q hq q3)
      · exact creg_eq (fun i _ => (hc b i (Or.inl e)).1) (r6 k41 q hq q3)
    by_cases hk : b ≠ a ∨ i < l ∨ u < i
    · obtain ⟨c1, c2⟩ := hc b i hk
      obtain ⟨x1, x2⟩ := r5 i
      exact ⟨fun z => by rw [c1]; exact x1 z, fun z => by rw [c2]; exact x2 z⟩
    · have e : b = a := Classical.byContradiction fun z => hk (Or.inl z)
      subst e
      have := hty hb i (by omega) (by omega)
      have e2 : cslt Θ.1 (g b) i = cseg R.2.2.2 i := by unfold cslt; rw [r1]
      rw [e2] at this
      exact this
  · obtain ⟨x1, x2, x3, x4⟩ := h3 b hb
    refine ⟨x1, x2, x3, fun i hi => ?_⟩
    have hk : b ≠ a ∨ i < l ∨ u < i := by
      refine Classical.byContradiction fun z => ?_
      have e : b = a := Classical.byContradiction fun w => z (Or.inl w)
      subst e
      have := he i (by omega) (by omega)
      rw [x1, hi] at this
      cases this
    obtain ⟨c1, c2⟩ := hc b i hk
    rw [c1, c2]
    exact x4 i hi
theorem cch_I {a k : Nat} {z : Int} : cch h (bsetI h a k z) a k k := by
  intro b i hb
  have : ¬ (b = a ∧ i = k) := by omega
  exact ⟨by unfold bsetI; simp only [this, if_false], rfl⟩
theorem cch_R {a k : Nat} {o : Option Nat} : cch h (bsetR h a k o) a k k := by
  intro b i hb
  have : ¬ (b = a ∧ i = k) := by omega
  exact ⟨rfl, by unfold bsetR; simp only [this, if_false]⟩
theorem bsetI_at (a k : Nat) (z : Int) : (bsetI h a k z).1 a k = z := by unfold bsetI; simp
theorem bsetR_at (a k : Nat) (o : Option Nat) : (bsetR h a k o).2 a k = o := by unfold bsetR; simp
/-- an int suits a slot's word -/
noncomputable def csui (S : cZ) (t : cS) (e : cL) : Bool := cond (Nat.beq t.1 0) (cond (cpos S.2.2.1.1 S.2.2.1.2.1 (cpl (-t.2.1) e)) (cpos S.2.2.1.1 S.2.2.1.2.1 (cpl t.2.2.1 (csc (-1) e))) false) true
theorem csui_ok {t : cS} {e : cL} {z : Int} (hq : csui S t e = true) (hR : cRl Θ S ρ σ g τ h lo st lo' st') (hz : z = cE ρ e) (h0 : t.1 = 0) : t.2.1 ≤ z ∧ z ≤ t.2.2.1 := by
  unfold csui at hq
  rw [show Nat.beq t.1 0 = true by rw [h0]; rfl] at hq
  obtain ⟨q1, q2⟩ := c_and hq
  have hA := hR.at.1
  have q1 := cpos_ok hA.1 hA.2.1 q1
  have q2 := cpos_ok hA.1 hA.2.1 q2
  rw [cpl_ev, ← hz] at q1
  rw [cpl_ev, csc_ev, ← hz] at q2
  omega
/-- is it none of those slots that what is kept depends on -/
noncomputable def cke (ro k : Nat) : Bool := cond (cond (Nat.beq ro 63) true (Nat.beq ro 68)) false (cond (Nat.beq ro 12) (cond (Nat.beq k 16) false (not (Nat.beq k 23))) true)
theorem cke_ok {ro k : Nat} {b : Bool} (h : cond (Nat.beq ro 0) true (cond (cke ro k) b false) = true) : ro ≠ 63 ∧ ro ≠ 68 ∧ (ro = 12 → (16 < k ∨ k < 16) ∧ (23 < k ∨ k < 23)) := by
  rcases c_or h with h | h
  · have := Nat.eq_of_beq_eq_true h
    omega
  · obtain ⟨h1, -⟩ := c_and h
    unfold cke at h1
    have hn : ∀ {n : Nat}, ro = n → Nat.beq ro n = true := fun e => by rw [e]; exact Nat.beq_refl _
    refine ⟨fun e => ?_, fun e => ?_, fun e => ?_⟩
    · rw [hn e] at h1; cases h1
    · rw [hn e] at h1; cases h2 : Nat.beq ro 63 <;> rw [h2] at h1 <;> cases h1
    · rw [show Nat.beq ro 63 = false by rw [e]; rfl, show Nat.beq ro 68 = false by rw [e]; rfl, hn e] at h1
      have k16 : k ≠ 16 := fun z => by rw [z] at h1; cases h1
      have k23 : k ≠ 23 := fun z => by rw [z] at h1; cases h1
      omega
theorem cke_and {ro k : Nat} {b : Bool} (h : cond (Nat.beq ro 0) true (cond (cke ro k) b false) = true) : cond (Nat.beq ro 0) true b = true := by
  rcases c_or h with h | h
  · rw [h]; rfl
  · rw [(c_and h).2]; cases Nat.beq ro 0 <;> rfl
noncomputable def cq_putI (Z : Bool) (T : cTb) (E : cEf) (ci k : Nat) (sq : cQ) : cQ := fun S lo st => cpv 0 st (fun x r => cpv 1 r (fun v r => cob v.2.1 (ci + 1) S (fun q => cond (cef E (ci + 1) k) (cond (cond Z (csui S (0, 0, 1, 0, false) x.2.2) true) (cond (cond (Nat.beq q.2.2.1 0) true (cond (cke q.2.2.1 k) (csui S (cslt T q.2.2.1 k) x.2.2) false)) (sq (caddF (v.2.1, k, cI x.2.2) (ckl (ci + 1) k k S)) lo r) false) false) false)))
theorem cs_putI {Z : Bool} {k ci idx : Nat} {q : vw_C} {ty : FieldType} (C : bC γ y d b1 b2) (hq : vwCl[ci]? = some q) (hk : k < q.2.2) (hci : ci ≤ 19) (hlink : blinkW y idx q k) (hd : decode y.2.1 pc = .ok (.putfield idx, 3)) (hpd : parseFieldDescriptor (q.2.1 k).2.2.1 = some ty) (hty : (Z = false ∧ bfk ci k = 0) ∨ (Z = true ∧ bfk ci k = 1)) (kk : cSn Θ γ (pc + 3) sq) : cSn Θ γ pc (cq_putI Z Θ.1 Θ.2.1 ci k sq) := by
  intro S lo st hq2 ρ σ g τ h lo' st' hG hR
  obtain ⟨x, r, rfl, hx, hq3⟩ := cpv_ok hq2
  obtain ⟨v, r, rfl, hv, hq4⟩ := cpv_ok hq3
  obtain ⟨z, s1, rfl, gz, ez, e, hR1⟩ := hR.popI hx
  obtain ⟨s2, rfl, ev, hR2⟩ := hR1.popP hv
  obtain ⟨p, p1, p2, p3, p4, p5⟩ := cob_ok hq4
  obtain ⟨w1, p5⟩ := c_and p5
  obtain ⟨w2, p5⟩ := c_and p5
  obtain ⟨w3, p5⟩ := c_and p5
  obtain ⟨a, a1, a2, a3, a4, a5⟩ := hR2.cell p1 p3
  rw [p2] at a1
  rw [p4] at a2
  rw [a1]
  have hke := cke_ok w3
  rw [← a4] at hke
  have w3 := cke_and w3
  have G' : cGd γ.1 Θ g τ (bsetI h a k z) := by
    refine hG.wr cch_I (fun g0 i i1 i2 => ?_) (fun i i1 i2 => ?_) (fun _ k41 => by omega) hke
    · have e : i = k := by omega
      subst e
      rw [show Nat.beq p.2.2.1 0 = false by rw [← a4]; cases hh : Nat.beq (g a) 0 with | true => exact absurd (Nat.eq_of_beq_eq_true hh) g0 | false => rfl] at w3
      rw [← a4] at w3
      refine ⟨fun h0 => ?_, fun h1 => ?_⟩
      · rw [bsetI_at]
        exact csui_ok w3 hR2 ez h0
      · exact (cslt_ok (k := i) hG.1 g0).2 h1
    · have e : i = k := by omega
      subst e
      rw [a2]
      exact w1
  have R' : cRl Θ (ckl (ci + 1) k k S) ρ σ g τ (bsetI h a k z) lo r lo' s2 := by
    have := hR2.wr (cch_I (h := h) (a := a) (k := k) (z := z))
    rwa [a2] at this
  have fin := kk _ _ _ p5 _ _ _ _ _ _ _ G' (R'.addF (q := (v.2.1, k, cI x.2.2)) fun ρ' σ' hag => ⟨a, by rw [va_rf_inj (ev ρ' σ' hag), a1], cfv_I (by show (bsetI h a k z).1 a k = _; rw [bsetI_at, e ρ' σ' hag])⟩)
  rcases hty with ⟨rfl, hty⟩ | ⟨rfl, hty⟩
  · exact b_putI C hq hk hci hlink hd hpd hty gz a2 fin
  · have := csui_ok (t := (0, 0, 1, 0, false)) (show csui S (0, 0, 1, 0, false) x.2.2 = true from w2) hR2 ez rfl
    have h01 : z = 0 ∨ z = 1 := by
      have l1 : (0 : Int) ≤ z := this.1
      have l2 : z ≤ (1 : Int) := this.2
      omega
    exact b_putZ C hq hk hci hlink hd hpd hty h01 a2 fin
/-- a reference suits a slot's word -/
noncomputable def csuR (S : cZ) (t : cS) (x : cV) : Bool := cond (Nat.beq t.1 1) (cond (Nat.beq x.1 2) t.2.2.2.2 (cop (cfi S.2.2.1.2.2.1 x.2.1) (fun p => cond (Nat.beq p.2.2.1 t.2.2.2.1) (cond (Nat.beq p.2.2.1 0) false (cond p.2.2.2.1 t.2.2.2.2 true)) false))) true
theorem csuR_ok {t : cS} {x : cV} {o : Option Nat} (hq : csuR S t x = true) (hR : cRl Θ S ρ σ g τ h lo st lo' st') (hx : crq x = true) (hv : cv ρ σ x (va_rf o)) (h1 : t.1 = 1) : crt g t o := by
  unfold csuR at hq
  rw [show Nat.beq t.1 1 = true by rw [h1]; rfl] at hq
  change cond (Nat.beq x.1 2) t.2.2.2.2 (cop (cfi S.2.2.1.2.2.1 x.2.1) (fun p => cond (Nat.beq p.2.2.1 t.2.2.2.1) (cond (Nat.beq p.2.2.1 0) false (cond p.2.2.2.1 t.2.2.2.2 true)) false)) = true at hq
  rcases hv with ⟨z, -⟩ | ⟨z, e⟩ | ⟨z, e⟩ | ⟨z, -⟩
  · rcases crq_ok hx with w | w <;> omega
  · rw [show Nat.beq x.1 2 = false by rw [z]; rfl] at hq
    obtain ⟨p, hf, hq⟩ := cop_ok hq
    obtain ⟨m1, m2⟩ := cfi_ok hf
    obtain ⟨q1, hq⟩ := c_and hq
    obtain ⟨q2, hq⟩ := c_nb hq
    have e := va_rf_inj e
    rcases hR.at.1.2.2.1 p m1 with ⟨x1, x2⟩ | ⟨b, x1, x2, x3, x4, x5⟩
    · rw [x1] at hq
      rw [m2] at x2
      exact Or.inl ⟨hq, by rw [e, x2]⟩
    · rw [m2] at x1
      exact Or.inr ⟨b, by rw [e, x1], by rw [x4]; exact Nat.eq_of_beq_eq_true q1, by rw [x4]; exact q2⟩
  · rw [show Nat.beq x.1 2 = true by rw [z]; rfl] at hq
    exact Or.inl ⟨hq, va_rf_inj e⟩
  · rcases crq_ok hx with w | w <;> omega
noncomputable def cq_putR (T : cTb) (E : cEf) (ci k : Nat) (sq : cQ) : cQ := fun S lo st => cpx st (fun x r => cond (crq x) (cpv 1 r (fun v r => cob v.2.1 (ci + 1) S (fun q => cond (cef E (ci + 1) k) (cond (cond (Nat.beq q.2.2.1 0) true (cond (cke q.2.2.1 k) (csuR S (cslt T q.2.2.1 k) x) false)) (sq (caddF (v.2.1, k, x) (ckl (ci + 1) k k S)) lo r) false) false))) false)
theorem cs_putR {k ci idx : Nat} {q : vw_C} {ty : FieldType} (C : bC γ y d b1 b2) (hq : vwCl[ci]? = some q) (hk : k < q.2.2) (hci : ci ≤ 19) (hlink : blinkW y idx q k) (hd : decode y.2.1 pc = .ok (.putfield idx, 3)) (hpd : parseFieldDescriptor (q.2.1 k).2.2.1 = some ty) (hty : bfk ci k = 2) (hty2 : (∃ C, ty = .object C) ∨ ∃ t, ty = .array t) (kk : cSn Θ γ (pc + 3) sq) : cSn Θ γ pc (cq_putR Θ.1 Θ.2.1 ci k sq) := by
  intro S lo st hq2 ρ σ g τ h lo' st' hG hR
  obtain ⟨x, r, rfl, hq3⟩ := cpx_ok hq2
  obtain ⟨hx, hq3⟩ := c_and hq3
  obtain ⟨v, r, rfl, hv, hq4⟩ := cpv_ok hq3
  obtain ⟨o, s1, rfl, e, hR1⟩ := hR.popA hx
  obtain ⟨s2, rfl, ev, hR2⟩ := hR1.popP hv
  obtain ⟨p, p1, p2, p3, p4, p5⟩ := cob_ok hq4
  obtain ⟨w1, p5⟩ := c_and p5
  obtain ⟨w3, p5⟩ := c_and p5
  obtain ⟨a, a1, a2, a3, a4, a5⟩ := hR2.cell p1 p3
  rw [p2] at a1
  rw [p4] at a2
  rw [a1]
  refine b_putR C hq hk hci hlink hd hpd hty hty2 a2 ?_
  have hke := cke_ok w3
  rw [← a4] at hke
  have w3 := cke_and w3
  have G' : cGd γ.1 Θ g τ (bsetR h a k o) := by
    refine hG.wr cch_R (fun g0 i i1 i2 => ?_) (fun i i1 i2 => ?_) (fun _ k41 => by omega) hke
    · have e' : i = k := by omega
      subst e'
      rw [show Nat.beq p.2.2.1 0 = false by rw [← a4]; cases hh : Nat.beq (g a) 0 with | true => exact absurd (Nat.eq_of_beq_eq_true hh) g0 | false => rfl] at w3
      rw [← a4] at w3
      refine ⟨fun h0 => (cslt_ok (k := i) hG.1 g0).1 h0, fun h1 => ?_⟩
      rw [bsetR_at]
      exact csuR_ok w3 hR2 hx (e ρ σ (cag.rf hR.1)) h1
    · have e' : i = k := by omega
      subst e'
      rw [a2]
      exact w1
  have R' : cRl Θ (ckl (ci + 1) k k S) ρ σ g τ (bsetR h a k o) lo r lo' s2 := by
    have := hR2.wr (cch_R (h := h) (a := a) (k := k) (o := o))
    rwa [a2] at this
  refine kk _ _ _ p5 _ _ _ _ _ _ _ G' (R'.addF (q := (v.2.1, k, x)) fun ρ' σ' hag => ⟨a, by rw [va_rf_inj (ev ρ' σ' hag), a1], ?_⟩)
  show cfv ρ' σ' (bsetR h a k o) a k x
  rcases e ρ' σ' hag with ⟨z, -⟩ | ⟨z, e2⟩ | ⟨z, e2⟩ | ⟨z, -⟩
  · rcases crq_ok hx with w | w <;> omega
  · exact ⟨fun w => by omega, fun _ => by rw [bsetR_at]; exact va_rf_inj e2, fun w => by omega⟩
  · exact ⟨fun w => by omega, fun w => by omega, fun _ => by rw [bsetR_at]; exact va_rf_inj e2⟩
  · rcases crq_ok hx with w | w <;> omega
noncomputable def cq_putL (ci : Nat) (sq : cQ) : cQ := fun S lo st => cpv 3 st (fun _ r => cpv 1 r (fun v r => cob v.2.1 (ci + 1) S (fun _ => sq S lo r)))
theorem cs_putL {k ci idx : Nat} {q : vw_C} {ty : FieldType} (C : bC γ y d b1 b2) (hq : vwCl[ci]? = some q) (hk : k < q.2.2) (hci : ci ≤ 19) (hlink : blinkW y idx q k) (hd : decode y.2.1 pc = .ok (.putfield idx, 3)) (hpd : parseFieldDescriptor (q.2.1 k).2.2.1 = some ty) (hty : bfk ci k = 3) (kk : cSn Θ γ (pc + 3) sq) : cSn Θ γ pc (cq_putL ci sq) := by
  intro S lo st hq2 ρ σ g τ h lo' st' hG hR
  obtain ⟨x, r, rfl, hx, hq3⟩ := cpv_ok hq2
  obtain ⟨v, r, rfl, hv, hq4⟩ := cpv_ok hq3
  obtain ⟨w, s1, rfl, hR1⟩ := hR.popL hx
  obtain ⟨s2, rfl, ev, hR2⟩ := hR1.popP hv
  obtain ⟨p, p1, p2, p3, p4, p5⟩ := cob_ok hq4
  obtain ⟨a, a1, a2, a3, a4, a5⟩ := hR2.cell p1 p3
  rw [p2] at a1
  rw [p4] at a2
  rw [a1]
  exact b_putL C hq hk hci hlink hd hpd hty a2 (kk _ _ _ p5 _ _ _ _ _ _ _ hG hR2)
end CWR
