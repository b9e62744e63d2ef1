/-! ===== the checker: arrays that are written ===== -/
/-- the words on the slots from l to u -/
noncomputable def cfit (segs : List (Nat × cS)) (l u : Int) (f : cS → Bool) : Bool := @List.rec (Nat × cS) (fun _ => Bool) true (fun q _ ih => cond (cge ((q.1 : Int) - u - 1)) (f q.2) (cond (cge (l - (q.1 : Int))) ih (cond (f q.2) ih false))) segs
theorem cfit_ok {i : Nat} {l u : Int} {f : cS → Bool} (hl : l ≤ i) (hu : (i : Int) ≤ u) : ∀ (segs : List (Nat × cS)), cfit segs l u f = true → f (cseg segs i) = true ∨ (cseg segs i).1 = 2 := by
  intro segs
  induction segs with
  | nil => intro _; exact Or.inr rfl
  | cons q r ih =>
    intro hc
    change cond (cge ((q.1 : Int) - u - 1)) (f q.2) (cond (cge (l - (q.1 : Int))) (cfit r l u f) (cond (f q.2) (cfit r l u f) false)) = true at hc
    show f (cond (Nat.blt i q.1) q.2 (cseg r i)) = true ∨ (cond (Nat.blt i q.1) q.2 (cseg r i)).1 = 2
    cases h1 : cge ((q.1 : Int) - u - 1) with
    | true =>
      rw [h1] at hc
      have h1 := cge_iff.mp h1
      rw [show Nat.blt i q.1 = true from Nat.ble_eq.mpr (by omega)]
      exact Or.inl hc
    | false =>
      rw [h1] at hc
      cases h2 : cge (l - (q.1 : Int)) with
      | true =>
        rw [h2] at hc
        have h2 := cge_iff.mp h2
        have : Nat.blt i q.1 = false := by
          cases hh : Nat.blt i q.1 with
          | false => rfl
          | true => have := Nat.ble_eq.mp hh; omega
        rw [this]
        exact ih hc
      | false =>
        rw [h2] at hc
        obtain ⟨c1, c2⟩ := c_and hc
        cases hh : Nat.blt i q.1 with
        | true => exact Or.inl c1
        | false => exact ih c2
noncomputable def cefR (E : cEf) (kd l u : Nat) : Bool := cany (fun q => cond (Nat.beq q.1 kd) (cond (Nat.ble q.2.1 l) (Nat.ble u q.2.2) false) false) E
theorem cany_of {α : Type} {f : α → Bool} {l : List α} {q : α} (hm : q ∈ l) (hf : f q = true) : cany f l = true := by
  induction l with
  | nil => cases hm
  | cons p r ih =>
    show cond (f p) true (cany f r) = true
    cases hp : f p with
    | true => rfl
    | false =>
      rcases List.mem_cons.mp hm with rfl | hm
      · rw [hf] at hp; cases hp
      · exact ih hm
theorem cefR_ok {E : cEf} {kd l u i : Nat} (h : cefR E kd l u = true) (h1 : l ≤ i) (h2 : i ≤ u) : cef E kd i = true := by
  obtain ⟨q, hm, hf⟩ := cany_iff h
  obtain ⟨f1, hf⟩ := c_and hf
  obtain ⟨f2, f3⟩ := c_and hf
  have f2 := Nat.ble_eq.mp f2
  have f3 := Nat.ble_eq.mp f3
  refine cany_of hm ?_
  show cond (Nat.beq q.1 kd) (cond (Nat.ble q.2.1 i) (Nat.ble i q.2.2) false) false = true
  rw [f1, show Nat.ble q.2.1 i = true from Nat.ble_eq.mpr (by omega), show Nat.ble i q.2.2 = true from Nat.ble_eq.mpr (by omega)]
  rfl
/-- bounds of a place, as numbers -/
noncomputable def cjl (S : cZ) (j : cV) : Nat := (cmin S.2.2.1.1 j.2.2).toNat
noncomputable def cju (S : cZ) (j : cV) : Nat := (cmax S.2.2.1.1 j.2.2).toNat
/-- beside the stretches with a shape -/
noncomputable def crgq (S : cZ) (s : Nat) (R : cR) (l u : Nat) : Bool := cond (Nat.ble 41 R.1) (call (fun q => cond (Nat.beq q.2.1 3) (cond (cdj q.2.2.1 q.2.2.2.1.toNat l u) true (cond (cdj 1 q.2.2.2.1.toNat l u) (cond (Nat.blt u 5000) (cop (cff S.2.2.1.2.2.2 s 5000) (fun v => cond (Nat.beq v.1 0) (cond (cpos S.2.2.1.1 S.2.2.1.2.1 (cpl (-40) v.2.2)) (cz (q.2.2.1 - 5)) false) false)) false) false)) true) R.2.2.2) true
theorem crgq_ok {Θ : cTh} {S : cZ} {ρ : Nat → Int} {σ : Nat → Option Nat} {g : Nat → Nat} {τ : bt} {h h' : bh} {lo st : List cV} {lo' : List (Option Value)} {st' : List Value} {R : cR} {a s l u : Nat} (hq0 : crgq S s R l u = true) (hR : cRl Θ S ρ σ g τ h lo st lo' st') (ha : σ s = some a) (h41 : 41 ≤ R.1) (q : Nat × cS) (hq : q ∈ R.2.2.2) (h3 : q.2.1 = 3) (hch : ∀ i, (i < l ∨ u < i) → h'.1 a i = h.1 a i) (hc : creg q.2.2.1 q.2.2.2.1.toNat (h.1 a)) : creg q.2.2.1 q.2.2.2.1.toNat (h'.1 a) := by
  unfold crgq at hq0
  rw [show Nat.ble 41 R.1 = true from Nat.ble_eq.mpr h41] at hq0
  have := call_iff.mp hq0 q hq
  rw [h3] at this
  rcases c_or (show cond (cdj q.2.2.1 q.2.2.2.1.toNat l u) true _ = true from this) with this | this
  · refine creg_eq (fun i hi => hch i ?_) hc
    refine Classical.byContradiction fun z => ?_
    exact cdj_ok this i (by omega) (by omega) hi
  · obtain ⟨d1, this⟩ := c_and this
    obtain ⟨d2, this⟩ := c_and this
    obtain ⟨v, d3, this⟩ := cop_ok this
    obtain ⟨d4, this⟩ := c_and this
    obtain ⟨d5, d6⟩ := c_and this
    have d2 := Nat.blt_eq.mp d2
    have d6 : q.2.2.1 - 5 = 0 := of_decide_eq_true d6
    have d5 := cpos_ok hR.at.1.1 hR.at.1.2.1 d5
    obtain ⟨a', e1, e2, -⟩ := hR.at.1.2.2.2 _ (cff_ok d3)
    rw [show (s, 5000, v).1 = s from rfl, ha] at e1
    cases e1
    have e3 : h.1 a 5000 = cE ρ v.2.2 := e2 (Nat.eq_of_beq_eq_true d4)
    rw [cpl_ev, ← e3] at d5
    have e5 : q.2.2.1 = 5 := by omega
    rw [e5] at hc ⊢
    have h1 : creg 1 q.2.2.2.1.toNat (h.1 a) := ⟨fun _ => hc.1 (Or.inr rfl), fun z => by omega, fun z => by omega, fun z => by omega⟩
    have h2 : creg 1 q.2.2.2.1.toNat (h'.1 a) := by
      refine creg_eq (fun i hi => hch i ?_) h1
      refine Classical.byContradiction fun z => ?_
      exact cdj_ok d1 i (by omega) (by omega) hi
    refine ⟨fun _ => h2.1 (Or.inl rfl), fun z => by omega, fun z => by omega, fun _ w hw _ hw2 => ?_⟩
    have e6 : h'.1 a 5000 = h.1 a 5000 := hch 5000 (by omega)
    rw [e6] at hw
    omega
/-- a role that what is kept does not depend on -/
noncomputable def ckr2 (ro : Nat) : Bool := not (cond (Nat.beq ro 63) true (cond (Nat.beq ro 68) true (Nat.beq ro 12)))
theorem ckr2_ok {ro : Nat} (h : ckr2 ro = true) : ro ≠ 63 ∧ ro ≠ 68 ∧ ro ≠ 12 := by
  unfold ckr2 at h
  refine ⟨fun e => ?_, fun e => ?_, fun e => ?_⟩ <;> rw [e] at h <;> cases h
/-- may it be written there: effects, the words of its role -/
noncomputable def cwok (T : cTb) (E : cEf) (S : cZ) (q : cRf) (j : cV) (f : cS → Bool) : Bool := cond (cefR E q.2.1 (cjl S j) (cju S j)) (cond (Nat.beq q.2.2.1 0) true (cop (cfR T q.2.2.1) (fun R => cond (cfit R.2.2.2 (cmin S.2.2.1.1 j.2.2) (cmax S.2.2.1.1 j.2.2) f) (cond (crgq S q.1 R (cjl S j) (cju S j)) (ckr2 q.2.2.1) false) false))) false
section CST
variable {Θ : cTh} {γ : bG} {y : bY} {d b1 b2 pc : Nat} {sq : cQ} {S : cZ} {ρ : Nat → Int} {σ : Nat → Option Nat} {g : Nat → Nat} {τ : bt} {h : bh} {lo st : List cV} {lo' : List (Option Value)} {st' : List Value}
theorem cwok_ok {q : cRf} {j : cV} {f : cS → Bool} {z : Int} {a : Nat} (hq : cwok Θ.1 Θ.2.1 S q j f = true) (hw : cWT Θ.1 g τ h) (hR : cRl Θ S ρ σ g τ h lo st lo' st') (hz : z = cE ρ j.2.2) (h0 : 0 ≤ z) (hk : τ.1 a = q.2.1) (hr : g a = q.2.2.1) (hsa : σ q.1 = some a) : cjl S j ≤ z.toNat ∧ z.toNat ≤ cju S j ∧ cef Θ.2.1 (τ.1 a) z.toNat = true ∧ (g a ≠ 0 → f (cslt Θ.1 (g a) z.toNat) = true ∨ (cslt Θ.1 (g a) z.toNat).1 = 2) ∧ (g a ≠ 0 → 41 ≤ τ.1 a → ∀ R, cfR Θ.1 (g a) = some R → ∀ q ∈ R.2.2.2, q.2.1 = 3 → ∀ h' : bh, (∀ i, i ≠ z.toNat → h'.1 a i = h.1 a i) → creg q.2.2.1 q.2.2.2.1.toNat (h.1 a) → creg q.2.2.1 q.2.2.2.1.toNat (h'.1 a)) ∧ (g a ≠ 63 ∧ g a ≠ 68 ∧ (g a = 12 → (16 < z.toNat ∨ z.toNat < 16) ∧ (23 < z.toNat ∨ z.toNat < 23))) := by
  obtain ⟨q1, q2⟩ := c_and hq
  have hA := hR.at.1
  have e1 := cmin_le hA.1 j.2.2
  have e2 := le_cmax hA.1 j.2.2
  have l1 : cjl S j ≤ z.toNat := by unfold cjl; omega
  have l2 : z.toNat ≤ cju S j := by unfold cju; omega
  refine ⟨l1, l2, by rw [hk]; exact cefR_ok q1 l1 l2, fun g0 => ?_, fun g0 k41 R hR' p hp p3 h' hh hc => ?_, ?_⟩
  case refine_3 =>
    rcases c_or q2 with q2 | q2
    · have := Nat.eq_of_beq_eq_true q2
      omega
    · obtain ⟨R', r1, q2⟩ := cop_ok q2
      have := ckr2_ok (c_and (c_and q2).2).2
      omega
  case refine_2 =>
    rw [show Nat.beq q.2.2.1 0 = false by rw [← hr]; cases hh : Nat.beq (g a) 0 with | true => exact absurd (Nat.eq_of_beq_eq_true hh) g0 | false => rfl] at q2
    obtain ⟨R', r1, q2⟩ := cop_ok q2
    rw [hr, r1] at hR'
    cases hR'
    obtain ⟨R2, w1, w2, -⟩ := hw a g0
    rw [hr, r1] at w1
    cases w1
    exact crgq_ok (c_and (c_and q2).2).1 hR hsa (by rw [← w2]; exact k41) p hp p3 (fun i hi => hh i (by omega)) hc
  rw [show Nat.beq q.2.2.1 0 = false by rw [← hr]; cases hh : Nat.beq (g a) 0 with | true => exact absurd (Nat.eq_of_beq_eq_true hh) g0 | false => rfl] at q2
  obtain ⟨R, r1, q2⟩ := cop_ok q2
  have e3 : cslt Θ.1 (g a) z.toNat = cseg R.2.2.2 z.toNat := by unfold cslt; rw [hr, r1]
  rw [e3]
  exact cfit_ok (by omega) (by omega) _ (c_and q2).1
theorem cch.mono {h' : bh} {a l u l' u' : Nat} (hc : cch h h' a l u) (h1 : l' ≤ l) (h2 : u ≤ u') : cch h h' a l' u' := fun b i hb => hc b i (by omega)
/-- behind an int's store -/
noncomputable def casf (S : cZ) (kd : Nat) (j v x : cV) : cZ := cond (Nat.beq (cjl S j) (cju S j)) (caddF (v.2.1, cjl S j, cI x.2.2) (ckl kd (cjl S j) (cju S j) S)) (ckl kd (cjl S j) (cju S j) S)
noncomputable def cq_ast (ok Z : Nat → Bool) (T : cTb) (E : cEf) (sq : cQ) : cQ := fun S lo st => cpv 0 st (fun x r => cpv 0 r (fun j r => cpv 1 r (fun v r => carr S j v (fun q => cond (ok q.2.1) (cond (cond (Z q.2.1) (csui S (0, 0, 1, 0, false) x.2.2) true) (cond (cwok T E S q j (fun t => csui S t x.2.2)) (sq (casf S q.2.1 j v x) lo r) false) false) false))))
theorem casf_ns (S : cZ) (kd : Nat) (j v x : cV) : (casf S kd j v x).2.2.2 = S.2.2.2 := by
  unfold casf
  cases Nat.beq (cjl S j) (cju S j) <;> rfl
theorem cs_ast {ok Z : Nat → Bool} (kk : cSn Θ γ (pc + 1) sq) (row : ∀ (lo' : List (Option Value)) (τ : bt) (h : bh) (nc ns : Nat) (a : Nat) (j z : Int) (r : List Value), ok (τ.1 a) = true → (Z (τ.1 a) = true → z = 0 ∨ z = 1) → 0 ≤ j → j < τ.2 a → brg z → bJ γ (pc + 1) lo' r τ (bsetI h a j.toNat z) nc ns → bJ γ pc lo' (.int (bz z) :: .int (bz j) :: .ref a :: r) τ h nc ns) : cSn Θ γ pc (cq_ast ok Z Θ.1 Θ.2.1 sq) := by
  intro S lo st hq ρ σ g τ h lo' st' hG hR
  obtain ⟨x, r, rfl, hx, hq0⟩ := cpv_ok hq
  obtain ⟨j, r, rfl, hj, hq1⟩ := cpv_ok hq0
  obtain ⟨v, r, rfl, hv, hq2⟩ := cpv_ok hq1
  obtain ⟨zx, s0, rfl, gx, ex, ee, hR0⟩ := hR.popI hx
  obtain ⟨z, s1, rfl, gz, ez, e, hR1⟩ := hR0.popI hj
  obtain ⟨s2, rfl, ev, hR2⟩ := hR1.popP hv
  obtain ⟨q, a, p1, p2, p3, p4, p5, p6, p7, p8, p9⟩ := carr_ok hq2 hR2 ez
  obtain ⟨w0, p1⟩ := c_and p1
  obtain ⟨w1, p1⟩ := c_and p1
  obtain ⟨w2, p1⟩ := c_and p1
  obtain ⟨x1, x2, x3, x4, x5, x6⟩ := cwok_ok w2 hG.1 hR2 ez p8 p6 p7 (by rw [p3]; exact p5)
  rw [p5]
  refine row _ _ _ _ _ a z zx s2 (by rw [p6]; exact w0) (fun hZ => ?_) p8 p9 gx ?_
  · rw [p6] at hZ
    rw [hZ] at w1
    have := csui_ok (t := (0, 0, 1, 0, false)) (show csui S (0, 0, 1, 0, false) x.2.2 = true from w1) hR2 ex rfl
    have l1 : (0 : Int) ≤ zx := this.1
    have l2 : zx ≤ (1 : Int) := this.2
    omega
  · have G' : cGd γ.1 Θ g τ (bsetI h a z.toNat zx) := by
      refine hG.wr cch_I (fun g0 i i1 i2 => ?_) (fun i i1 i2 => ?_) (fun g0 k41 R hR' p hp p3 hc => x5 g0 k41 R hR' p hp p3 _ (fun i hi => by first | exact (cch_I a i (Or.inr (by omega))).1 | exact (cch_R a i (Or.inr (by omega))).1) hc) x6
      · have e' : i = z.toNat := by omega
        subst e'
        refine ⟨fun h0 => ?_, fun h1 => (cslt_ok (k := z.toNat) hG.1 g0).2 h1⟩
        rw [bsetI_at]
        rcases x4 g0 with y1 | y1
        · exact csui_ok y1 hR2 ex h0
        · omega
      · have e' : i = z.toNat := by omega
        subst e'
        exact x3
    have R' : cRl Θ (ckl q.2.1 (cjl S j) (cju S j) S) ρ σ g τ (bsetI h a z.toNat zx) lo r lo' s2 := by
      have := hR2.wr ((cch_I (h := h) (a := a) (k := z.toNat) (z := zx)).mono x1 x2)
      rwa [p6] at this
    have R2 : cRl Θ (casf S q.2.1 j v x) ρ σ g τ (bsetI h a z.toNat zx) lo r lo' s2 := by
      unfold casf
      cases hc : Nat.beq (cjl S j) (cju S j) with
      | false => exact R'
      | true =>
        refine R'.addF (q := (v.2.1, cjl S j, cI x.2.2)) fun ρ' σ' hag => ⟨a, by rw [va_rf_inj (ev ρ' σ' hag), p5], cfv_I ?_⟩
        have ej : z.toNat = cjl S j := by have := Nat.eq_of_beq_eq_true hc; omega
        show (bsetI h a z.toNat zx).1 a (cjl S j) = _
        rw [← ej, bsetI_at, ee ρ' σ' hag]
    have := kk _ _ _ p1 _ _ _ _ _ _ _ G' R2
    rwa [casf_ns] at this
def cfls (_ : Nat) : Bool := false
theorem cs_iast (C : bC γ y d b1 b2) (hd : decode y.2.1 pc = .ok (.iastore, 1)) (kk : cSn Θ γ (pc + 1) sq) : cSn Θ γ pc (cq_ast cokI cfls Θ.1 Θ.2.1 sq) := cs_ast kk fun _ _ _ _ _ _ _ _ _ ho _ h1 h2 hz k => b_iast C hd (cokI_ok ho) h1 h2 hz k
/-- bytes, booleans -/
noncomputable def cq_bst (T : cTb) (E : cEf) (sq : cQ) : cQ := fun S lo st => cpv 0 st (fun x r => cpv 0 r (fun j r => cpv 1 r (fun v r => carr S j v (fun q => cond (Nat.beq q.2.1 22) (cond (cwok T E S q j (fun t => cond (Nat.beq t.1 0) (cond (cge (-128 - t.2.1)) (cge (t.2.2.1 - 127)) false) true)) (sq (ckl q.2.1 (cjl S j) (cju S j) S) lo r) false) (cond (cond (Nat.beq q.2.1 23) true (Nat.beq q.2.1 43)) (cond (csui S (0, 0, 1, 0, false) x.2.2) (cond (cwok T E S q j (fun t => csui S t x.2.2)) (sq (casf S q.2.1 j v x) lo r) false) false) false)))))
theorem cs_bst (C : bC γ y d b1 b2) (hd : decode y.2.1 pc = .ok (.bastore, 1)) (kk : cSn Θ γ (pc + 1) sq) : cSn Θ γ pc (cq_bst Θ.1 Θ.2.1 sq) := by
  intro S lo st hq ρ σ g τ h lo' st' hG hR
  have hall := hq
  obtain ⟨x, r, rfl, hx, hq0⟩ := cpv_ok hq
  obtain ⟨j, r, rfl, hj, hq1⟩ := cpv_ok hq0
  obtain ⟨v, r, rfl, hv, hq2⟩ := cpv_ok hq1
  obtain ⟨zx, s0, rfl, gx, ex, ee, hR0⟩ := hR.popI hx
  obtain ⟨z, s1, rfl, gz, ez, e, hR1⟩ := hR0.popI hj
  obtain ⟨s2, rfl, ev, hR2⟩ := hR1.popP hv
  obtain ⟨q, a, p1, p2, p3, p4, p5, p6, p7, p8, p9⟩ := carr_ok hq2 hR2 ez
  rw [p5]
  cases hk : Nat.beq q.2.1 22 with
  | true =>
    rw [hk] at p1
    obtain ⟨w2, p1⟩ := c_and p1
    obtain ⟨x1, x2, x3, x4, x5, x6⟩ := cwok_ok w2 hG.1 hR2 ez p8 p6 p7 (by rw [p3]; exact p5)
    refine b_bast C hd (by rw [p6]; exact Nat.eq_of_beq_eq_true hk) p8 p9 gx fun u u1 u2 _ => ?_
    have G' : cGd γ.1 Θ g τ (bsetI h a z.toNat u) := by
      refine hG.wr cch_I (fun g0 i i1 i2 => ?_) (fun i i1 i2 => ?_) (fun g0 k41 R hR' p hp p3 hc => x5 g0 k41 R hR' p hp p3 _ (fun i hi => by first | exact (cch_I a i (Or.inr (by omega))).1 | exact (cch_R a i (Or.inr (by omega))).1) hc) x6
      · have e' : i = z.toNat := by omega
        subst e'
        refine ⟨fun h0 => ?_, fun h1 => (cslt_ok (k := z.toNat) hG.1 g0).2 h1⟩
        rw [bsetI_at]
        rcases x4 g0 with y1 | y1
        · rw [h0] at y1
          obtain ⟨y2, y3⟩ := c_and (show cond (cge (-128 - (cslt Θ.1 (g a) z.toNat).2.1)) (cge ((cslt Θ.1 (g a) z.toNat).2.2.1 - 127)) false = true from y1)
          have y2 := cge_iff.mp y2
          have y3 := cge_iff.mp y3
          omega
        · omega
      · have e' : i = z.toNat := by omega
        subst e'
        exact x3
    have R' := hR2.wr ((cch_I (h := h) (a := a) (k := z.toNat) (z := u)).mono x1 x2)
    rw [p6] at R'
    exact kk _ _ _ p1 _ _ _ _ _ _ _ G' R'
  | false =>
    rw [hk] at p1
    obtain ⟨w0, p1⟩ := c_and p1
    obtain ⟨w1, p1⟩ := c_and p1
    obtain ⟨w2, p1⟩ := c_and p1
    obtain ⟨x1, x2, x3, x4, x5, x6⟩ := cwok_ok w2 hG.1 hR2 ez p8 p6 p7 (by rw [p3]; exact p5)
    have hk2 : τ.1 a = 23 ∨ τ.1 a = 43 := by
      rw [p6]
      rcases c_or w0 with w | w
      · exact Or.inl (Nat.eq_of_beq_eq_true w)
      · exact Or.inr (Nat.eq_of_beq_eq_true w)
    have h01 : zx = 0 ∨ zx = 1 := by
      have := csui_ok (t := (0, 0, 1, 0, false)) w1 hR2 ex rfl
      have l1 : (0 : Int) ≤ zx := this.1
      have l2 : zx ≤ (1 : Int) := this.2
      omega
    refine b_zast C hd hk2 p8 p9 h01 ?_
    have G' : cGd γ.1 Θ g τ (bsetI h a z.toNat zx) := by
      refine hG.wr cch_I (fun g0 i i1 i2 => ?_) (fun i i1 i2 => ?_) (fun g0 k41 R hR' p hp p3 hc => x5 g0 k41 R hR' p hp p3 _ (fun i hi => by first | exact (cch_I a i (Or.inr (by omega))).1 | exact (cch_R a i (Or.inr (by omega))).1) hc) x6
      · have e' : i = z.toNat := by omega
        subst e'
        refine ⟨fun h0 => ?_, fun h1 => (cslt_ok (k := z.toNat) hG.1 g0).2 h1⟩
        rw [bsetI_at]
        rcases x4 g0 with y1 | y1
        · exact csui_ok y1 hR2 ex h0
        · omega
      · have e' : i = z.toNat := by omega
        subst e'
        exact x3
    have R' : cRl Θ (ckl q.2.1 (cjl S j) (cju S j) S) ρ σ g τ (bsetI h a z.toNat zx) lo r lo' s2 := by
      have := hR2.wr ((cch_I (h := h) (a := a) (k := z.toNat) (z := zx)).mono x1 x2)
      rwa [p6] at this
    have R2 : cRl Θ (casf S q.2.1 j v x) ρ σ g τ (bsetI h a z.toNat zx) lo r lo' s2 := by
      unfold casf
      cases hc : Nat.beq (cjl S j) (cju S j) with
      | false => exact R'
      | true =>
        refine R'.addF (q := (v.2.1, cjl S j, cI x.2.2)) fun ρ' σ' hag => ⟨a, by rw [va_rf_inj (ev ρ' σ' hag), p5], cfv_I ?_⟩
        have ej : z.toNat = cjl S j := by have := Nat.eq_of_beq_eq_true hc; omega
        show (bsetI h a z.toNat zx).1 a (cjl S j) = _
        rw [← ej, bsetI_at, ee ρ' σ' hag]
    have := kk _ _ _ p1 _ _ _ _ _ _ _ G' R2
    rwa [casf_ns] at this
noncomputable def cq_last (sq : cQ) : cQ := fun S lo st => cpv 3 st (fun _ r => cpv 0 r (fun j r => cpv 1 r (fun v r => carr S j v (fun q => cond (cond (Nat.beq q.2.1 24) true (Nat.beq q.2.1 44)) (sq S lo r) false))))
theorem cs_last (C : bC γ y d b1 b2) (hd : decode y.2.1 pc = .ok (.lastore, 1)) (kk : cSn Θ γ (pc + 1) sq) : cSn Θ γ pc (cq_last sq) := by
  intro S lo st hq ρ σ g τ h lo' st' hG hR
  obtain ⟨x, r, rfl, hx, hq0⟩ := cpv_ok hq
  obtain ⟨j, r, rfl, hj, hq1⟩ := cpv_ok hq0
  obtain ⟨v, r, rfl, hv, hq2⟩ := cpv_ok hq1
  obtain ⟨w, s0, rfl, hR0⟩ := hR.popL hx
  obtain ⟨z, s1, rfl, gz, ez, e, hR1⟩ := hR0.popI hj
  obtain ⟨s2, rfl, ev, hR2⟩ := hR1.popP hv
  obtain ⟨q, a, p1, p2, p3, p4, p5, p6, p7, p8, p9⟩ := carr_ok hq2 hR2 ez
  obtain ⟨w0, p1⟩ := c_and p1
  rw [p5]
  refine b_last C hd ?_ p8 p9 (kk _ _ _ p1 _ _ _ _ _ _ _ hG hR2)
  rw [p6]
  rcases c_or w0 with w | w
  · exact Or.inl (Nat.eq_of_beq_eq_true w)
  · exact Or.inr (Nat.eq_of_beq_eq_true w)
/-- behind a reference's store -/
noncomputable def casr (S : cZ) (kd : Nat) (j v x : cV) : cZ := cond (ccst j.2.2) (caddF (v.2.1, j.2.2.1.toNat, x) (ckl kd (cjl S j) (cju S j) S)) (ckl kd (cjl S j) (cju S j) S)
theorem casr_ns (S : cZ) (kd : Nat) (j v x : cV) : (casr S kd j v x).2.2.2 = S.2.2.2 := by
  unfold casr
  cases ccst j.2.2 <;> rfl
/-- Words into Word[], Worlds into World[] -/
noncomputable def cq_aast (T : cTb) (E : cEf) (sq : cQ) : cQ := fun S lo st => cpv 1 st (fun x r => cpv 0 r (fun j r => cpv 1 r (fun v r => carr S j v (fun q => cop (cfi S.2.2.1.2.2.1 x.2.1) (fun p => cond p.2.2.2.1 false (cond (cond (Nat.beq q.2.1 25) (Nat.beq p.2.1 30) (cond (Nat.beq q.2.1 26) (Nat.beq p.2.1 10) false)) (cond (cwok T E S q j (fun t => csuR S t x)) (sq (casr S q.2.1 j v x) lo r) false) false))))))
theorem cs_aast (C : bC γ y d b1 b2) (hd : decode y.2.1 pc = .ok (.aastore, 1)) (kk : cSn Θ γ (pc + 1) sq) : cSn Θ γ pc (cq_aast Θ.1 Θ.2.1 sq) := by
  intro S lo st hq ρ σ g τ h lo' st' hG hR
  obtain ⟨x, r, rfl, hx, hq0⟩ := cpv_ok hq
  obtain ⟨j, r, rfl, hj, hq1⟩ := cpv_ok hq0
  obtain ⟨v, r, rfl, hv, hq2⟩ := cpv_ok hq1
  obtain ⟨s0, rfl, ee, hR0⟩ := hR.popP hx
  obtain ⟨z, s1, rfl, gz, ez, e, hR1⟩ := hR0.popI hj
  obtain ⟨s2, rfl, ev, hR2⟩ := hR1.popP hv
  obtain ⟨q, a, p1, p2, p3, p4, p5, p6, p7, p8, p9⟩ := carr_ok hq2 hR2 ez
  obtain ⟨p, hf, p1⟩ := cop_ok p1
  obtain ⟨m1, m2⟩ := cfi_ok hf
  cases hn : p.2.2.2.1 with
  | true => rw [hn] at p1; cases p1
  | false =>
    rw [hn] at p1
    obtain ⟨w0, p1⟩ := c_and p1
    obtain ⟨w2, p1⟩ := c_and p1
    obtain ⟨b, c1, c2, c3, c4, c5⟩ := hR2.cell m1 hn
    rw [m2] at c1
    obtain ⟨x1, x2, x3, x4, x5, x6⟩ := cwok_ok w2 hG.1 hR2 ez p8 p6 p7 (by rw [p3]; exact p5)
    rw [p5, c1]
    have G' : cGd γ.1 Θ g τ (bsetR h a z.toNat (some b)) := by
      refine hG.wr cch_R (fun g0 i i1 i2 => ?_) (fun i i1 i2 => ?_) (fun g0 k41 R hR' p hp p3 hc => x5 g0 k41 R hR' p hp p3 _ (fun i hi => by first | exact (cch_I a i (Or.inr (by omega))).1 | exact (cch_R a i (Or.inr (by omega))).1) hc) x6
      · have e' : i = z.toNat := by omega
        subst e'
        refine ⟨fun h0 => (cslt_ok (k := z.toNat) hG.1 g0).1 h0, fun h1 => ?_⟩
        rw [bsetR_at]
        rcases x4 g0 with y1 | y1
        · exact csuR_ok y1 hR2 (by unfold crq; rw [hx]; rfl) (Or.inr (Or.inl ⟨hx, by rw [c1]⟩)) h1
        · omega
      · have e' : i = z.toNat := by omega
        subst e'
        exact x3
    have R' := hR2.wr ((cch_R (h := h) (a := a) (k := z.toNat) (o := some b)).mono x1 x2)
    rw [p6] at R'
    have R2 : cRl Θ (casr S q.2.1 j v x) ρ σ g τ (bsetR h a z.toNat (some b)) lo r lo' s2 := by
      unfold casr
      cases hcc : ccst j.2.2 with
      | false => exact R'
      | true =>
        refine R'.addF fun ρ' σ' ha => ⟨a, ?_, ?_⟩
        · have := va_rf_inj (ev ρ' σ' ha)
          show σ' v.2.1 = some a
          rw [this, p5]
        · have e3 := va_rf_inj (ee ρ' σ' ha)
          have e4 : z.toNat = j.2.2.1.toNat := by rw [ez, ccst_ok hcc ρ]
          refine ⟨fun w => absurd (hx.symm.trans w) (by decide), fun _ => ?_, fun w => absurd (hx.symm.trans w) (by decide)⟩
          show (bsetR h a z.toNat (some b)).2 a j.2.2.1.toNat = σ' x.2.1
          rw [← e4, bsetR_at, e3, c1]
    have fin := kk _ _ _ p1 _ _ _ _ _ _ _ G' R2
    rw [casr_ns] at fin
    cases h25 : Nat.beq q.2.1 25 with
    | true =>
      rw [h25] at w0
      exact b_aastE C hd (by rw [p6]; exact Nat.eq_of_beq_eq_true h25) (by rw [c2]; exact Nat.eq_of_beq_eq_true w0) p8 p9 fin
    | false =>
      rw [h25] at w0
      obtain ⟨h26, w0⟩ := c_and w0
      exact b_aastW C hd (by rw [p6]; exact Nat.eq_of_beq_eq_true h26) (by rw [c2]; exact Nat.eq_of_beq_eq_true w0) p8 p9 fin
end CST
