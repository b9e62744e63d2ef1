/-! ===== behind a call: what was known and stays, what the contract says ===== -/
noncomputable def csF (f : Nat → cL) (e : cL) : cL := @List.rec (Nat × Int) (fun _ => cL) (cK e.1) (fun q _ ih => cadd ih (csc q.2 (f q.1))) e.2
theorem csF_ev (f : Nat → cL) (ρ : Nat → Int) (e : cL) : cE ρ (csF f e) = cE (fun s => cE ρ (f s)) e := by
  obtain ⟨c, l⟩ := e
  have : cE ρ (@List.rec (Nat × Int) (fun _ => cL) (cK c) (fun q _ ih => cadd ih (csc q.2 (f q.1))) l) = c + cev (fun s => cE ρ (f s)) l := by
    induction l with
    | nil => rw [cev_nil]; show cE ρ (cK c) = _; rw [cK_ev]; omega
    | cons q r ih =>
      show cE ρ (cadd _ (csc q.2 (f q.1))) = _
      rw [cadd_ev, ih, csc_ev, cev_cons]
      show _ = c + (q.2 * cE ρ (f q.1) + _)
      omega
  exact this
noncomputable def cf2 (θ : List (Nat × cL)) (n N : Nat) (s : Nat) : cL := cond (Nat.blt s n) (csb θ s) (cX (N + (s - n)))
noncomputable def cr2 (θr : List (Nat × cV)) (m M : Nat) (s : Nat) : cV := cond (Nat.blt s m) (crb θr s) (cP (M + (s - m)))
noncomputable def cmp2 (f : Nat → cL) (fr : Nat → cV) (v : cV) : cV := cond (Nat.beq v.1 0) (cI (csF f v.2.2)) (cond (Nat.beq v.1 1) (fr v.2.1) v)
theorem cmp2_ok {f : Nat → cL} {fr : Nat → cV} {ρ : Nat → Int} {σ : Nat → Option Nat} {v : cV} {x : Value} (hfr : ∀ s, (fr s).1 = 1 ∨ (fr s).1 = 2) (hv : cv (fun s => cE ρ (f s)) (fun s => cvo σ (fr s)) v x) : cv ρ σ (cmp2 f fr v) x := by
  unfold cmp2
  rcases hv with ⟨z, x1, x2⟩ | ⟨z, x1⟩ | ⟨z, x1⟩ | ⟨z, x1⟩
  · rw [z]
    rw [← csF_ev] at x1 x2
    exact Or.inl ⟨rfl, x1, x2⟩
  · rw [z]
    show cv ρ σ (fr v.2.1) x
    rcases hfr v.2.1 with w | w
    · refine Or.inr (Or.inl ⟨w, ?_⟩)
      rw [x1]
      show va_rf (cond (Nat.beq (fr v.2.1).1 1) (σ (fr v.2.1).2.1) none) = _
      rw [w]
      rfl
    · refine Or.inr (Or.inr (Or.inl ⟨w, ?_⟩))
      rw [x1]
      show va_rf (cond (Nat.beq (fr v.2.1).1 1) (σ (fr v.2.1).2.1) none) = _
      rw [w]
      rfl
  · rw [z]; exact Or.inr (Or.inr (Or.inl ⟨z, x1⟩))
  · rw [z]; exact Or.inr (Or.inr (Or.inr ⟨z, x1⟩))
/-- references that stay; facts that stay -/
noncomputable def crkp (E : cEf) (q : cRf) : Bool := cond (Nat.beq q.2.2.1 0) (not (cef E (1000 + q.2.1) 0)) true
noncomputable def cfkp (E : cEf) (rf : List cRf) (q : cFt) : Bool := @Option.rec cRf (fun _ => Bool) false (fun p => not (cef E p.2.1 q.2.1)) (cfi rf q.1)
/-- the old, behind a call -/
theorem cst_kept {E : cEf} {ρ : Nat → Int} {σ : Nat → Option Nat} {g g' : Nat → Nat} {τ τ' : bt} {h h' : bh} {A : cA} (hA : cst ρ σ g τ h A) (hH : cHi E g τ h g' τ' h') : cst ρ σ g' τ' h' (A.1, A.2.1, cfil (crkp E) A.2.2.1, cfil (cfkp E A.2.2.1) A.2.2.2) := by
  refine ⟨hA.1, hA.2.1, fun q hq => ?_, fun q hq => ?_⟩
  · obtain ⟨q1, q2⟩ := cfil_ok hq
    rcases hA.2.2.1 q q1 with z | ⟨a, x1, x2, x3, x4, x5⟩
    · exact Or.inl z
    · obtain ⟨y1, y2, y3, -⟩ := hH a (by rw [x2]; exact x3)
      refine Or.inr ⟨a, x1, by rw [y1]; exact x2, x3, ?_, by rw [y2]; exact x5⟩
      rcases y3 with y3 | ⟨y3, y4⟩
      · rw [y3]; exact x4
      · unfold crkp at q2
        rw [x4] at y3
        rw [y3] at q2
        rw [x2] at y4
        rw [y4] at q2
        cases q2
  · obtain ⟨q1, q2⟩ := cfil_ok hq
    obtain ⟨a, e1, e2⟩ := hA.2.2.2 q q1
    unfold cfkp at q2
    cases hf : cfi A.2.2.1 q.1 with
    | none => rw [hf] at q2; cases q2
    | some p =>
      rw [hf] at q2
      change (!cef E p.2.1 q.2.1) = true at q2
      obtain ⟨n1, n2⟩ := cfi_ok hf
      rcases hA.2.2.1 p n1 with ⟨-, x⟩ | ⟨b, x1, x2, x3, -⟩
      · rw [n2, e1] at x; cases x
      · rw [n2, e1] at x1
        cases x1
        obtain ⟨-, -, -, y4⟩ := hH a (by rw [x2]; exact x3)
        obtain ⟨z1, z2⟩ := y4 q.2.1 (by rw [x2]; cases hh : cef E p.2.1 q.2.1 with | false => rfl | true => rw [hh] at q2; cases q2)
        exact ⟨a, e1, fun w => by rw [z1]; exact e2.1 w, fun w => by rw [z2]; exact e2.2.1 w, fun w => by rw [z2]; exact e2.2.2 w⟩
/-- the new, in this state's symbols -/
noncomputable def cnwB (n N : Nat) (l : cB) : cB := @List.rec (Nat × Int × Int) (fun _ => cB) [] (fun q _ ih => cond (Nat.blt q.1 n) ih ((N + (q.1 - n), q.2) :: ih)) l
noncomputable def cnwC (f : Nat → cL) (l : List cL) : List cL := @List.rec cL (fun _ => List cL) [] (fun e _ ih => csF f e :: ih) l
noncomputable def cnwR (f : Nat → cL) (fr : Nat → cV) (l : List cRf) : List cRf := @List.rec cRf (fun _ => List cRf) [] (fun q _ ih => cond (Nat.beq (fr q.1).1 1) (((fr q.1).2.1, q.2.1, q.2.2.1, q.2.2.2.1, csF f q.2.2.2.2) :: ih) ih) l
noncomputable def cnwF (f : Nat → cL) (fr : Nat → cV) (l : List cFt) : List cFt := @List.rec cFt (fun _ => List cFt) [] (fun q _ ih => cond (Nat.beq (fr q.1).1 1) (((fr q.1).2.1, q.2.1, cmp2 f fr q.2.2) :: ih) ih) l
theorem cnwB_ok {n N : Nat} {ρ ρQ : Nat → Int} (hρ : ∀ s, n ≤ s → ρ (N + (s - n)) = ρQ s) : ∀ (l : cB), (∀ q ∈ l, q.2.1 ≤ ρQ q.1 ∧ ρQ q.1 ≤ q.2.2) → ∀ q ∈ cnwB n N l, q.2.1 ≤ ρ q.1 ∧ ρ q.1 ≤ q.2.2 := by
  intro l
  induction l with
  | nil => intro _ q hq; cases hq
  | cons p r ih =>
    intro h q hq
    have hr := ih fun q hq => h q (List.mem_cons_of_mem _ hq)
    change q ∈ cond (Nat.blt p.1 n) (cnwB n N r) ((N + (p.1 - n), p.2) :: cnwB n N r) at hq
    cases hb : Nat.blt p.1 n with
    | true => rw [hb] at hq; exact hr q hq
    | false =>
      rw [hb] at hq
      rcases List.mem_cons.mp hq with rfl | hq
      · have hge : n ≤ p.1 := by
          refine Classical.byContradiction fun z => ?_
          rw [show Nat.blt p.1 n = true from Nat.ble_eq.mpr (by omega)] at hb
          cases hb
        show p.2.1 ≤ ρ (N + (p.1 - n)) ∧ ρ (N + (p.1 - n)) ≤ p.2.2
        rw [hρ p.1 hge]
        exact h p List.mem_cons_self
      · exact hr q hq
theorem cnwC_ok {f : Nat → cL} {ρ : Nat → Int} : ∀ (l : List cL), cCo (fun s => cE ρ (f s)) l → cCo ρ (cnwC f l) := by
  intro l
  induction l with
  | nil => intro _ q hq; cases hq
  | cons p r ih =>
    intro h q hq
    rcases List.mem_cons.mp (show q ∈ csF f p :: cnwC f r from hq) with rfl | hq
    · rw [csF_ev]; exact h p List.mem_cons_self
    · exact ih (fun q hq => h q (List.mem_cons_of_mem _ hq)) q hq
theorem cnwR_ok {f : Nat → cL} {fr : Nat → cV} {ρ : Nat → Int} {σ : Nat → Option Nat} {g : Nat → Nat} {τ : bt} : ∀ (l : List cRf), (∀ q ∈ l, crf (fun s => cE ρ (f s)) (fun s => cvo σ (fr s)) g τ q) → ∀ q ∈ cnwR f fr l, crf ρ σ g τ q := by
  intro l
  induction l with
  | nil => intro _ q hq; cases hq
  | cons p r ih =>
    intro h q hq
    have hr := ih fun q hq => h q (List.mem_cons_of_mem _ hq)
    change q ∈ cond (Nat.beq (fr p.1).1 1) (((fr p.1).2.1, p.2.1, p.2.2.1, p.2.2.2.1, csF f p.2.2.2.2) :: cnwR f fr r) (cnwR f fr r) at hq
    cases hb : Nat.beq (fr p.1).1 1 with
    | false => rw [hb] at hq; exact hr q hq
    | true =>
      rw [hb] at hq
      have es : cvo σ (fr p.1) = σ (fr p.1).2.1 := by unfold cvo; rw [hb]; rfl
      rcases List.mem_cons.mp hq with rfl | hq
      · rcases h p List.mem_cons_self with ⟨z1, z2⟩ | ⟨a, x1, x2, x3, x4, x5⟩
        · exact Or.inl ⟨z1, by rw [← es]; exact z2⟩
        · exact Or.inr ⟨a, by rw [← es]; exact x1, x2, x3, x4, by show _ = cE ρ (csF f p.2.2.2.2); rw [csF_ev]; exact x5⟩
      · exact hr q hq
theorem cnwF_ok {f : Nat → cL} {fr : Nat → cV} {ρ : Nat → Int} {σ : Nat → Option Nat} {h : bh} (hfr : ∀ s, (fr s).1 = 1 ∨ (fr s).1 = 2) : ∀ (l : List cFt), (∀ q ∈ l, cft (fun s => cE ρ (f s)) (fun s => cvo σ (fr s)) h q) → ∀ q ∈ cnwF f fr l, cft ρ σ h q := by
  intro l
  induction l with
  | nil => intro _ q hq; cases hq
  | cons p r ih =>
    intro hl q hq
    have hr := ih fun q hq => hl q (List.mem_cons_of_mem _ hq)
    change q ∈ cond (Nat.beq (fr p.1).1 1) (((fr p.1).2.1, p.2.1, cmp2 f fr p.2.2) :: cnwF f fr r) (cnwF f fr r) at hq
    cases hb : Nat.beq (fr p.1).1 1 with
    | false => rw [hb] at hq; exact hr q hq
    | true =>
      rw [hb] at hq
      have es : cvo σ (fr p.1) = σ (fr p.1).2.1 := by unfold cvo; rw [hb]; rfl
      rcases List.mem_cons.mp hq with rfl | hq
      · obtain ⟨a, x1, x2, x3, x4⟩ := hl p List.mem_cons_self
        refine ⟨a, by rw [← es]; exact x1, ?_⟩
        show cfv ρ σ h a p.2.1 (cmp2 f fr p.2.2)
        unfold cmp2
        cases h0 : Nat.beq p.2.2.1 0 with
        | true => exact cfv_I (by rw [csF_ev]; exact x2 (Nat.eq_of_beq_eq_true h0))
        | false =>
          cases h1 : Nat.beq p.2.2.1 1 with
          | true =>
            have e := x3 (Nat.eq_of_beq_eq_true h1)
            show cfv ρ σ h a p.2.1 (fr p.2.2.2.1)
            rcases hfr p.2.2.2.1 with w | w
            · exact ⟨fun z => by omega, fun _ => by rw [e]; show cvo σ (fr p.2.2.2.1) = _; unfold cvo; rw [w]; rfl, fun z => by omega⟩
            · exact ⟨fun z => by omega, fun z => by omega, fun _ => by rw [e]; show cvo σ (fr p.2.2.2.1) = _; unfold cvo; rw [w]; rfl⟩
          | false => exact ⟨fun z => absurd z (Nat.ne_of_beq_eq_false h0), fun z => absurd z (Nat.ne_of_beq_eq_false h1), fun z => x4 z⟩
      · exact hr q hq
