/-! ===== the checker: a state beside another one with symbols of its own ===== -/
noncomputable def clk {α : Type} (l : List (Nat × α)) (s : Nat) (n : α) : α := @List.rec (Nat × α) (fun _ => α) n (fun q _ ih => cond (Nat.beq q.1 s) q.2 ih) l
theorem clk_mem {α : Type} (l : List (Nat × α)) (s : Nat) (n : α) : clk l s n = n ∨ ∃ q ∈ l, clk l s n = q.2 := by
  induction l with
  | nil => exact Or.inl rfl
  | cons q r ih =>
    show cond (Nat.beq q.1 s) q.2 (clk r s n) = n ∨ ∃ p ∈ q :: r, cond (Nat.beq q.1 s) q.2 (clk r s n) = p.2
    cases Nat.beq q.1 s with
    | true => exact Or.inr ⟨q, List.mem_cons_self, rfl⟩
    | false =>
      rcases ih with h | ⟨p, h1, h2⟩
      · exact Or.inl h
      · exact Or.inr ⟨p, List.mem_cons_of_mem _ h1, h2⟩
/-- what a symbol of the other stands for -/
noncomputable def csb (θ : List (Nat × cL)) (s : Nat) : cL := clk θ s (cK 0)
noncomputable def crb (θr : List (Nat × cV)) (s : Nat) : cV := clk θr s cNl
noncomputable def csE (θ : List (Nat × cL)) (e : cL) : cL := @List.rec (Nat × Int) (fun _ => cL) (cK e.1) (fun q _ ih => cadd ih (csc q.2 (csb θ q.1))) e.2
noncomputable def cρ (θ : List (Nat × cL)) (ρ : Nat → Int) : Nat → Int := fun s => cE ρ (csb θ s)
noncomputable def cσ (θr : List (Nat × cV)) (σ : Nat → Option Nat) : Nat → Option Nat := fun s => cvo σ (crb θr s)
theorem csE_ev (θ : List (Nat × cL)) (ρ : Nat → Int) (e : cL) : cE ρ (csE θ e) = cE (cρ θ ρ) e := by
  obtain ⟨c, l⟩ := e
  have : cE ρ (@List.rec (Nat × Int) (fun _ => cL) (cK c) (fun q _ ih => cadd ih (csc q.2 (csb θ q.1))) l) = c + cev (cρ θ ρ) l := by
    induction l with
    | nil => rw [cev_nil]; show cE ρ (cK c) = _; rw [cK_ev]; omega
    | cons q r ih =>
      show cE ρ (cadd _ (csc q.2 (csb θ q.1))) = _
      rw [cadd_ev, ih, csc_ev, cev_cons]
      show _ = c + (q.2 * cE ρ (csb θ q.1) + _)
      omega
  exact this
/-- is it 0 -/
noncomputable def cz0 (e : cL) : Bool := cond (cz e.1) (call (fun q => cz q.2) e.2) false
theorem cev_zero (ρ : Nat → Int) (l : List (Nat × Int)) (h : ∀ q ∈ l, q.2 = 0) : cev ρ l = 0 := by
  induction l with
  | nil => rfl
  | cons q r ih =>
    rw [cev_cons, h q List.mem_cons_self, ih fun p hp => h p (List.mem_cons_of_mem _ hp)]
    omega
theorem cz0_ok {e : cL} (h : cz0 e = true) (ρ : Nat → Int) : cE ρ e = 0 := by
  obtain ⟨c, l⟩ := e
  obtain ⟨h1, h2⟩ := c_and h
  have h1 : c = 0 := of_decide_eq_true h1
  have h2 : ∀ q ∈ l, q.2 = 0 := fun q hq => of_decide_eq_true (call_iff.mp h2 q hq)
  have := cev_zero ρ l h2
  show c + cev ρ l = 0
  omega
/-- a value of the other (t) beside one of this (v) -/
noncomputable def cmv (θ : List (Nat × cL)) (θr : List (Nat × cV)) (t v : cV) : Bool := cond (Nat.beq t.1 0) (cond (Nat.beq v.1 0) (cz0 (csub (csE θ t.2.2) v.2.2)) false) (cond (Nat.beq t.1 1) (cond (Nat.beq v.1 1) (cond (Nat.beq (crb θr t.2.1).1 1) (Nat.beq (crb θr t.2.1).2.1 v.2.1) false) (cond (Nat.beq v.1 2) (Nat.beq (crb θr t.2.1).1 2) false)) (cond (Nat.beq t.1 2) (Nat.beq v.1 2) (cond (Nat.beq t.1 3) (Nat.beq v.1 3) false)))
/-- what cmv says -/
theorem cmv_ok {θ : List (Nat × cL)} {θr : List (Nat × cV)} {t v : cV} (h : cmv θ θr t v = true) (ρ : Nat → Int) (σ : Nat → Option Nat) : (t.1 = 0 ∧ v.1 = 0 ∧ cE (cρ θ ρ) t.2.2 = cE ρ v.2.2) ∨ (t.1 = 1 ∧ ((v.1 = 1 ∧ cσ θr σ t.2.1 = σ v.2.1) ∨ (v.1 = 2 ∧ cσ θr σ t.2.1 = none))) ∨ (t.1 = 2 ∧ v.1 = 2) ∨ (t.1 = 3 ∧ v.1 = 3) := by
  unfold cmv at h
  cases h0 : Nat.beq t.1 0 with
  | true =>
    rw [h0] at h
    obtain ⟨h1, h2⟩ := c_and h
    refine Or.inl ⟨Nat.eq_of_beq_eq_true h0, Nat.eq_of_beq_eq_true h1, ?_⟩
    have := cz0_ok h2 ρ
    rw [csub_ev, csE_ev] at this
    omega
  | false =>
    rw [h0] at h
    cases h1 : Nat.beq t.1 1 with
    | true =>
      rw [h1] at h
      refine Or.inr (Or.inl ⟨Nat.eq_of_beq_eq_true h1, ?_⟩)
      cases h2 : Nat.beq v.1 1 with
      | true =>
        rw [h2] at h
        obtain ⟨h3, h4⟩ := c_and h
        refine Or.inl ⟨Nat.eq_of_beq_eq_true h2, ?_⟩
        show cond (Nat.beq (crb θr t.2.1).1 1) (σ (crb θr t.2.1).2.1) none = _
        rw [h3, Nat.eq_of_beq_eq_true h4]
        rfl
      | false =>
        rw [h2] at h
        obtain ⟨h3, h4⟩ := c_and h
        refine Or.inr ⟨Nat.eq_of_beq_eq_true h3, ?_⟩
        show cond (Nat.beq (crb θr t.2.1).1 1) (σ (crb θr t.2.1).2.1) none = _
        rw [Nat.eq_of_beq_eq_true h4]
        rfl
    | false =>
      rw [h1] at h
      cases h2 : Nat.beq t.1 2 with
      | true => rw [h2] at h; exact Or.inr (Or.inr (Or.inl ⟨Nat.eq_of_beq_eq_true h2, Nat.eq_of_beq_eq_true h⟩))
      | false =>
        rw [h2] at h
        obtain ⟨h3, h4⟩ := c_and h
        exact Or.inr (Or.inr (Or.inr ⟨Nat.eq_of_beq_eq_true h3, Nat.eq_of_beq_eq_true h4⟩))
theorem cmv_cv {θ : List (Nat × cL)} {θr : List (Nat × cV)} {t v : cV} {ρ : Nat → Int} {σ : Nat → Option Nat} {x : Value} (h : cmv θ θr t v = true) (hv : cv ρ σ v x) : cv (cρ θ ρ) (cσ θr σ) t x := by
  rcases cmv_ok h ρ σ with ⟨h1, h2, h3⟩ | ⟨h1, ⟨h2, h3⟩ | ⟨h2, h3⟩⟩ | ⟨h1, h2⟩ | ⟨h1, h2⟩
  · obtain ⟨e1, e2⟩ := cv_int h2 rfl hv
    exact Or.inl ⟨h1, by rw [h3]; exact e1, by rw [h3]; exact e2⟩
  · rcases hv with ⟨z, -⟩ | ⟨-, z⟩ | ⟨z, -⟩ | ⟨z, -⟩
    · omega
    · exact Or.inr (Or.inl ⟨h1, by rw [h3]; exact z⟩)
    · omega
    · omega
  · rcases hv with ⟨z, -⟩ | ⟨z, -⟩ | ⟨-, z⟩ | ⟨z, -⟩
    · omega
    · omega
    · exact Or.inr (Or.inl ⟨h1, by rw [h3]; exact z⟩)
    · omega
  · rcases hv with ⟨z, -⟩ | ⟨z, -⟩ | ⟨-, z⟩ | ⟨z, -⟩
    · omega
    · omega
    · exact Or.inr (Or.inr (Or.inl ⟨h1, z⟩))
    · omega
  · rcases hv with ⟨z, -⟩ | ⟨z, -⟩ | ⟨z, -⟩ | ⟨-, z⟩
    · omega
    · omega
    · omega
    · exact Or.inr (Or.inr (Or.inr ⟨h1, z⟩))
/-- all that the other says is so here -/
noncomputable def cmA (θ : List (Nat × cL)) (θr : List (Nat × cV)) (A T : cA) : Bool :=
  cond (call (fun q => cond (cpos A.1 A.2.1 (cpl 2147483648 q.2)) (cpos A.1 A.2.1 (cpl 2147483647 (csc (-1) q.2))) false) θ)
  (cond (call (fun q => cond (cpos A.1 A.2.1 (cpl (-q.2.1) (csb θ q.1))) (cpos A.1 A.2.1 (cpl q.2.2 (csc (-1) (csb θ q.1)))) false) T.1)
  (cond (call (fun e => cpos A.1 A.2.1 (csE θ e)) T.2.1)
  (cond (call (fun q => cond (Nat.beq (crb θr q.1).1 2) q.2.2.2.1 (cond (Nat.beq (crb θr q.1).1 1) (cop (cfi A.2.2.1 (crb θr q.1).2.1) (fun p => cond (Nat.beq p.2.1 q.2.1) (cond (Nat.beq p.2.2.1 q.2.2.1) (cond (cond p.2.2.2.1 q.2.2.2.1 true) (cz0 (csub (csE θ q.2.2.2.2) p.2.2.2.2)) false) false) false)) false)) T.2.2.1)
  (call (fun q => cond (Nat.beq (crb θr q.1).1 1) (cop (cff A.2.2.2 (crb θr q.1).2.1 q.2.1) (fun w => cmv θ θr q.2.2 w)) false) T.2.2.2) false) false) false) false
theorem cmA_ok {θ : List (Nat × cL)} {θr : List (Nat × cV)} {A T : cA} {ρ : Nat → Int} {σ : Nat → Option Nat} {g : Nat → Nat} {τ : bt} {h : bh} (hm : cmA θ θr A T = true) (hA : cst ρ σ g τ h A) : cst (cρ θ ρ) (cσ θr σ) g τ h T ∧ ∀ s, brg (cρ θ ρ s) := by
  obtain ⟨m0, hm⟩ := c_and hm
  obtain ⟨m1, hm⟩ := c_and hm
  obtain ⟨m2, hm⟩ := c_and hm
  obtain ⟨m3, m4⟩ := c_and hm
  have hbr : ∀ s, brg (cρ θ ρ s) := by
    intro s
    show brg (cE ρ (csb θ s))
    rcases clk_mem θ s (cK 0) with z | ⟨q, z1, z2⟩
    · rw [show csb θ s = cK 0 from z, cK_ev]; exact brg0
    · rw [show csb θ s = q.2 from z2]
      obtain ⟨c1, c2⟩ := c_and (call_iff.mp m0 q z1)
      have c1 := cpos_ok hA.1 hA.2.1 c1
      have c2 := cpos_ok hA.1 hA.2.1 c2
      rw [cpl_ev] at c1
      rw [cpl_ev, csc_ev] at c2
      exact ⟨by omega, by omega⟩
  refine ⟨⟨⟨hbr, fun q hq => ?_⟩, fun e he => ?_, fun q hq => ?_, fun q hq => ?_⟩, hbr⟩
  · obtain ⟨c1, c2⟩ := c_and (call_iff.mp m1 q hq)
    have c1 := cpos_ok hA.1 hA.2.1 c1
    have c2 := cpos_ok hA.1 hA.2.1 c2
    rw [cpl_ev] at c1
    rw [cpl_ev, csc_ev] at c2
    show q.2.1 ≤ cE ρ (csb θ q.1) ∧ cE ρ (csb θ q.1) ≤ q.2.2
    omega
  · have := cpos_ok hA.1 hA.2.1 (call_iff.mp m2 e he)
    rw [csE_ev] at this
    exact this
  · have c := call_iff.mp m3 q hq
    have es : cσ θr σ q.1 = cond (Nat.beq (crb θr q.1).1 1) (σ (crb θr q.1).2.1) none := rfl
    cases h2 : Nat.beq (crb θr q.1).1 2 with
    | true =>
      rw [h2] at c
      exact Or.inl ⟨c, by rw [es, Nat.eq_of_beq_eq_true h2]; rfl⟩
    | false =>
      rw [h2] at c
      obtain ⟨c1, c⟩ := c_and c
      obtain ⟨p, p1, c⟩ := cop_ok c
      obtain ⟨c2, c⟩ := c_and c
      obtain ⟨c3, c⟩ := c_and c
      obtain ⟨c4, c5⟩ := c_and c
      obtain ⟨n1, n2⟩ := cfi_ok p1
      rw [c1] at es
      rcases hA.2.2.1 p n1 with ⟨x1, x2⟩ | ⟨a, x1, x2, x3, x4, x5⟩
      · rw [x1] at c4
        exact Or.inl ⟨c4, by rw [es]; rw [n2] at x2; exact x2⟩
      · rw [n2] at x1
        have c2 := Nat.eq_of_beq_eq_true c2
        have c3 := Nat.eq_of_beq_eq_true c3
        have c5 := cz0_ok c5 ρ
        rw [csub_ev, csE_ev] at c5
        exact Or.inr ⟨a, by rw [es]; exact x1, by rw [← c2]; exact x2, by rw [← c2]; exact x3, by rw [← c3]; exact x4, by omega⟩
  · have c := call_iff.mp m4 q hq
    have es : cσ θr σ q.1 = cond (Nat.beq (crb θr q.1).1 1) (σ (crb θr q.1).2.1) none := rfl
    obtain ⟨c1, c⟩ := c_and c
    obtain ⟨w, w1, c⟩ := cop_ok c
    rw [c1] at es
    obtain ⟨a, e1, f1, f2, f3⟩ := hA.2.2.2 _ (cff_ok w1)
    refine ⟨a, by rw [es]; exact e1, ?_⟩
    rcases cmv_ok c ρ σ with ⟨h1, h2, h3⟩ | ⟨h1, ⟨h2, h3⟩ | ⟨h2, h3⟩⟩ | ⟨h1, h2⟩ | ⟨h1, h2⟩
    · exact ⟨fun _ => by rw [h3]; exact f1 h2, fun z => by omega, fun z => by omega⟩
    · exact ⟨fun z => by omega, fun _ => by rw [h3]; exact f2 h2, fun z => by omega⟩
    · exact ⟨fun z => by omega, fun _ => by rw [h3]; exact f3 h2, fun z => by omega⟩
    · exact ⟨fun z => by omega, fun z => by omega, fun _ => f3 h2⟩
    · exact ⟨fun z => by omega, fun z => by omega, fun z => by omega⟩
