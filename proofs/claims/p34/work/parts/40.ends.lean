/-! ===== the checker: ends ===== -/
noncomputable def cki (θ : List (Nat × cL)) (ks : List cL) : Nat → Bool := @List.rec cL (fun _ => Nat → Bool) (fun _ => true) (fun e _ ih i => cond (cz0 (csub (csb θ i) e)) (ih (i + 1)) false) ks
theorem cki_ok {θ : List (Nat × cL)} (ρ : Nat → Int) : ∀ (ks : List cL) (i : Nat), cki θ ks i = true → ∀ (j : Nat) (e : cL), ks[j]? = some e → cE ρ (csb θ (i + j)) = cE ρ e := by
  intro ks
  induction ks with
  | nil => intro i _ j e he; cases he
  | cons k ks ih =>
    intro i h j e he
    obtain ⟨h1, h2⟩ := c_and (show cond (cz0 (csub (csb θ i) k)) (cki θ ks (i + 1)) false = true from h)
    cases j with
    | zero =>
      cases he
      have := cz0_ok h1 ρ
      rw [csub_ev] at this
      rw [Nat.add_zero]
      omega
    | succ j =>
      have := ih (i + 1) h2 j e he
      rwa [show i + 1 + j = i + (j + 1) by omega] at this
noncomputable def ckr (θr : List (Nat × cV)) (vs : List cV) : Nat → Bool := @List.rec cV (fun _ => Nat → Bool) (fun _ => true) (fun v _ ih i => cond (cond (Nat.beq (crb θr i).1 v.1) (Nat.beq (crb θr i).2.1 v.2.1) false) (ih (i + 1)) false) vs
theorem ckr_ok {θr : List (Nat × cV)} (σ : Nat → Option Nat) : ∀ (vs : List cV) (i : Nat), ckr θr vs i = true → ∀ (j : Nat) (v : cV), vs[j]? = some v → cvo σ (crb θr (i + j)) = cvo σ v := by
  intro vs
  induction vs with
  | nil => intro i _ j e he; cases he
  | cons k ks ih =>
    intro i h j e he
    obtain ⟨h1, h2⟩ := c_and (show cond (cond (Nat.beq (crb θr i).1 k.1) (Nat.beq (crb θr i).2.1 k.2.1) false) (ckr θr ks (i + 1)) false = true from h)
    cases j with
    | zero =>
      cases he
      obtain ⟨h3, h4⟩ := c_and h1
      rw [Nat.add_zero]
      unfold cvo
      rw [Nat.eq_of_beq_eq_true h3, Nat.eq_of_beq_eq_true h4]
    | succ j =>
      have := ih (i + 1) h2 j e he
      rwa [show i + 1 + j = i + (j + 1) by omega] at this
/-- all that a contract says at the end is so -/
noncomputable def cend (θ : List (Nat × cL)) (θr : List (Nat × cV)) (c : cCn) (S : cZ) (st : List cV) (ks : List cL) (vs : List cV) : Bool := cond (cki θ ks 0) (cond (ckr θr vs 0) (cond (cmA θ θr S.2.2.1 c.2.1.2.2.1) (cmS2 θ θr c.2.1.2.2.2 st) false) false) false
theorem cs_end {ι : bI} {Θ : cTh} {S : cZ} {ρ ρ0 : Nat → Int} {σ σ0 : Nat → Option Nat} {g : Nat → Nat} {τ : bt} {h : bh} {lo st : List cV} {lo' : List (Option Value)} {st' : List Value} {c : cCn} {θ : List (Nat × cL)} {θr : List (Nat × cV)} {rk : cL} {ks : List cL} {vs : List cV} (hR : cRl Θ S ρ σ g τ h lo st lo' st') (hG : cGd ι Θ g τ h) (hE : Θ.2.1 = c.2.2) (hk : Θ.2.2.2.2.2.1 = (rk :: ks, vs)) (hμ1 : Θ.2.2.2.2.2.2.1.tail = (List.range c.1.1).map ρ0) (hμ2 : Θ.2.2.2.2.2.2.2 = (List.range c.1.2.1).map σ0) (hq : cend θ θr c S st ks vs = true) : ∃ g' ρ' σ', cWT Θ.1 g' τ h ∧ cKt ι g' ∧ cHi c.2.2 Θ.2.2.1 Θ.2.2.2.1 Θ.2.2.2.2.1 g' τ h ∧ cag c.1.1 c.1.2.1 ρ0 σ0 ρ' σ' ∧ cst ρ' σ' g' τ h c.2.1.2.2.1 ∧ c2 (cv ρ' σ') c.2.1.2.2.2 st' := by
  obtain ⟨q1, hq⟩ := c_and hq
  obtain ⟨q2, hq⟩ := c_and hq
  obtain ⟨q3, q4⟩ := c_and hq
  obtain ⟨k1, -, k3, k4⟩ := hR.at
  obtain ⟨a1, a2⟩ := cmA_ok q3 k1
  rw [hk] at k4
  have e1 : ks.map (cE ρ) = (List.range c.1.1).map ρ0 := by
    rw [← hμ1, ← k4]
    rfl
  have e2 : vs.map (cvo σ) = (List.range c.1.2.1).map σ0 := by
    rw [← hμ2, ← k4]
    rfl
  refine ⟨g, cρ θ ρ, cσ θr σ, hG.1, hG.2.1, by rw [← hE]; exact hG.2.2, ⟨a2, fun s hs => ?_, fun s hs => ?_⟩, a1, cmS2_ok _ _ _ q4 k3⟩
  · have l : (ks.map (cE ρ))[s]? = some (ρ0 s) := by rw [e1, List.getElem?_map, List.getElem?_range hs]; rfl
    rw [List.getElem?_map] at l
    cases hh : ks[s]? with
    | none => rw [hh] at l; cases l
    | some e =>
      rw [hh] at l
      have := cki_ok ρ ks 0 q1 s e hh
      rw [Nat.zero_add] at this
      show cE ρ (csb θ s) = ρ0 s
      rw [this]
      exact Option.some.inj l
  · have l : (vs.map (cvo σ))[s]? = some (σ0 s) := by rw [e2, List.getElem?_map, List.getElem?_range hs]; rfl
    rw [List.getElem?_map] at l
    cases hh : vs[s]? with
    | none => rw [hh] at l; cases l
    | some e =>
      rw [hh] at l
      have := ckr_ok σ vs 0 q2 s e hh
      rw [Nat.zero_add] at this
      show cvo σ (crb θr s) = σ0 s
      rw [this]
      exact Option.some.inj l
