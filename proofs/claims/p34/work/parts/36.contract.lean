/-! ===== contracts as data ===== -/
/-- what is asked: symbols of ints, of references, what is known, arguments; what is so then: symbols, what is known, answer; what may be written -/
abbrev cCn : Type := (Nat × Nat × cA × List cV) × (Nat × Nat × cA × List cV) × cEf
def cPr (T : cTb) (c : cCn) (ι : bI) (avs : List Value) (τ : bt) (h : bh) (g : Nat → Nat) (ρ : Nat → Int) (σ : Nat → Option Nat) : Prop := cWT T g τ h ∧ cKt ι g ∧ (∀ s, brg (ρ s)) ∧ cst ρ σ g τ h c.1.2.2.1 ∧ c2 (cv ρ σ) c.1.2.2.2 avs
def cPst (T : cTb) (c : cCn) (g : Nat → Nat) (ρ : Nat → Int) (σ : Nat → Option Nat) : bPost := fun ι _ τ h v τ' h' => ∃ g' ρ' σ', cWT T g' τ' h' ∧ cKt ι g' ∧ cHi c.2.2 g τ h g' τ' h' ∧ cag c.1.1 c.1.2.1 ρ σ ρ' σ' ∧ cst ρ' σ' g' τ' h' c.2.1.2.2.1 ∧ c2 (cv ρ' σ') c.2.1.2.2.2 v.toList
/-- a method keeps its contract -/
def cOk (T : cTb) (y : bY) (nL d0 b1 b2 : Nat) (c : cCn) : Prop := ∀ g ρ σ, bOk y nL d0 b1 b2 (fun ι avs τ h => cPr T c ι avs τ h g ρ σ) (cPst T c g ρ σ)
/-- one list of effects within another -/
noncomputable def cesub (E' E : cEf) : Bool := call (fun q => cefR E q.1 q.2.1 q.2.2) E'
theorem cesub_ok {E' E : cEf} (h : cesub E' E = true) {k i : Nat} (hc : cef E' k i = true) : cef E k i = true := by
  obtain ⟨q, hm, hf⟩ := cany_iff hc
  obtain ⟨f1, hf⟩ := c_and hf
  obtain ⟨f2, f3⟩ := c_and hf
  have := call_iff.mp h q hm
  rw [Nat.eq_of_beq_eq_true f1] at this
  exact cefR_ok this (Nat.ble_eq.mp f2) (Nat.ble_eq.mp f3)
/-- what has been since the beginning, and then by a call -/
theorem cHi.trans {E E' : cEf} {g0 g g' : Nat → Nat} {τ0 τ τ' : bt} {h0 h h' : bh} (hs : cesub E' E = true) (h1 : cHi E g0 τ0 h0 g τ h) (h2 : cHi E' g τ h g' τ' h') : cHi E g0 τ0 h0 g' τ' h' := by
  intro a ha
  obtain ⟨x1, x2, x3, x4⟩ := h1 a ha
  obtain ⟨y1, y2, y3, y4⟩ := h2 a (by rw [x1]; exact ha)
  refine ⟨by rw [y1, x1], by rw [y2, x2], ?_, fun i hi => ?_⟩
  · rcases y3 with y3 | ⟨y3, y5⟩
    · rcases x3 with x3 | x3
      · exact Or.inl (by rw [y3, x3])
      · exact Or.inr x3
    · rcases x3 with x3 | x3
      · exact Or.inr ⟨by rw [← x3]; exact y3, by rw [← x1]; exact cesub_ok hs y5⟩
      · exact Or.inr x3
  · have e : cef E' (τ.1 a) i = false := by
      cases hh : cef E' (τ.1 a) i with
      | false => rfl
      | true => have := cesub_ok hs hh; rw [x1, hi] at this; cases this
    obtain ⟨z1, z2⟩ := y4 i e
    obtain ⟨w1, w2⟩ := x4 i hi
    exact ⟨by rw [z1, w1], by rw [z2, w2]⟩
