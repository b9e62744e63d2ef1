/-! ===== the checker: switches ===== -/
noncomputable def ctb (pc : Nat) (e : cL) (jm : Nat → cQ) (S : cZ) (lo r : List cV) (l : List Int) : Int → Bool := @List.rec Int (fun _ => Int → Bool) (fun _ => true) (fun off _ ih i => cond (cge ((pc : Int) + off)) (cond (cbr 0 (cpl (-i) e) (jm ((pc : Int) + off).toNat) S lo r) (ih (i + 1)) false) false) l
theorem ctb_ok {pc : Nat} {e : cL} {jm : Nat → cQ} {S : cZ} {lo r : List cV} {l : List Int} {i : Int} (h : ctb pc e jm S lo r l i = true) : ∀ (j : Nat) (off : Int), l[j]? = some off → 0 ≤ (pc : Int) + off ∧ cbr 0 (cpl (-(i + j)) e) (jm ((pc : Int) + off).toNat) S lo r = true := by
  induction l generalizing i with
  | nil => intro j off h; cases h
  | cons o l ih =>
    change cond (cge ((pc : Int) + o)) (cond (cbr 0 (cpl (-i) e) (jm ((pc : Int) + o).toNat) S lo r) (ctb pc e jm S lo r l (i + 1)) false) false = true at h
    obtain ⟨h1, h⟩ := c_and h
    obtain ⟨h2, h⟩ := c_and h
    intro j off hj
    cases j with
    | zero =>
      cases hj
      refine ⟨cge_iff.mp h1, ?_⟩
      have : i + ((0 : Nat) : Int) = i := by omega
      rw [this]
      exact h2
    | succ j =>
      have := ih h j off hj
      rw [show i + ((j + 1 : Nat) : Int) = i + 1 + (j : Int) by omega]
      exact this
noncomputable def cq_tsw (pc : Nat) (df l0 hi0 : Int) (offs : List Int) (jm : Nat → cQ) : cQ := fun S lo st => cpv 0 st (fun a r => cond (ctb pc a.2.2 jm S lo r offs l0) (cond (cge ((pc : Int) + df)) (cond (cbr 2 (cpl (-l0) a.2.2) (jm ((pc : Int) + df).toNat) S lo r) (cbr 4 (cpl (-hi0) a.2.2) (jm ((pc : Int) + df).toNat) S lo r) false) false) false)
noncomputable def cq_lsw (pc : Nat) (df : Int) (ps : List (Int × Int)) (jm : Nat → cQ) : cQ := fun S lo st => cpv 0 st (fun a r => cond (call (fun p => cond (cge ((pc : Int) + p.2)) (cbr 0 (cpl (-p.1) a.2.2) (jm ((pc : Int) + p.2).toNat) S lo r) false) ps) (cond (cge ((pc : Int) + df)) (jm ((pc : Int) + df).toNat S lo r) false) false)
theorem c_off (ps : List (Int × Int)) (df k : Int) : Op.lookupswitch.offset ps df k = df ∨ ∃ p ∈ ps, p.1 = k ∧ Op.lookupswitch.offset ps df k = p.2 := by
  induction ps with
  | nil => exact Or.inl rfl
  | cons p r ih =>
    obtain ⟨a, o⟩ := p
    rw [Op.lookupswitch.offset_cons]
    by_cases h : a = k
    · rw [if_pos h]; exact Or.inr ⟨(a, o), List.mem_cons_self, h, rfl⟩
    · rw [if_neg h]
      rcases ih with ih | ⟨p, h1, h2⟩
      · exact Or.inl ih
      · exact Or.inr ⟨p, List.mem_cons_of_mem _ h1, h2⟩
section CSW
variable {Θ : cTh} {γ : bG} {y : bY} {d b1 b2 pc : Nat} {jm : Nat → cQ}
theorem cs_tsw {df l0 hi0 : Int} {offs : Array Int} {len : Nat} (C : bC γ y d b1 b2) (hd : decode y.2.1 pc = .ok (.tableswitch df l0 hi0 offs, len)) (hsz : (offs.size : Int) = hi0 - l0 + 1) (k : ∀ t, cSn Θ γ t (jm t)) : cSn Θ γ pc (cq_tsw pc df l0 hi0 offs.toList jm) := by
  intro S lo st hq ρ σ g τ h lo' st' hG hR
  obtain ⟨a, r, rfl, ha, hq⟩ := cpv_ok hq
  obtain ⟨q1, hq⟩ := c_and hq
  obtain ⟨q2, hq⟩ := c_and hq
  obtain ⟨q3, q4⟩ := c_and hq
  obtain ⟨z, s1, rfl, gz, -, e, hR1⟩ := hR.popI ha
  have q2 := cge_iff.mp q2
  by_cases hin : l0 ≤ z ∧ z ≤ hi0
  · have hlt : (z - l0).toNat < offs.size := by omega
    have hg : offs.toList[(z - l0).toNat]? = some offs[(z - l0).toNat] := by rw [Array.getElem?_toList, Array.getElem?_eq_getElem hlt]
    obtain ⟨t1, t2⟩ := ctb_ok q1 _ _ hg
    refine b_tableIn C hd gz hin (Array.getElem?_eq_getElem hlt) (t := ((pc : Int) + offs[(z - l0).toNat]).toNat) (by omega) ?_
    exact cs_br (k _) (by omega) t2 hG hR1 (z := 0) (fun ρ' σ' h => by rw [cpl_ev, e ρ' σ' h]; omega) rfl
  · by_cases h1 : z < l0
    · refine b_tableOut C hd gz (Or.inl h1) (t := ((pc : Int) + df).toNat) (by omega) ?_
      exact cs_br (k _) (by omega) q3 hG hR1 (fun ρ' σ' h => by rw [cpl_ev, e ρ' σ' h]) (show z + -l0 < 0 by omega)
    · refine b_tableOut C hd gz (Or.inr (by omega)) (t := ((pc : Int) + df).toNat) (by omega) ?_
      exact cs_br (k _) (by omega) q4 hG hR1 (fun ρ' σ' h => by rw [cpl_ev, e ρ' σ' h]) (show 0 < z + -hi0 by omega)
theorem cs_lsw {df : Int} {ps : Array (Int × Int)} {len : Nat} (C : bC γ y d b1 b2) (hd : decode y.2.1 pc = .ok (.lookupswitch df ps, len)) (hp : (ps.toList.zip (ps.toList.drop 1)).all (fun (a, next) => a.1 < next.1) = true) (k : ∀ t, cSn Θ γ t (jm t)) : cSn Θ γ pc (cq_lsw pc df ps.toList jm) := by
  intro S lo st hq ρ σ g τ h lo' st' hG hR
  obtain ⟨a, r, rfl, ha, hq⟩ := cpv_ok hq
  obtain ⟨q1, hq⟩ := c_and hq
  obtain ⟨q2, q3⟩ := c_and hq
  obtain ⟨z, s1, rfl, gz, -, e, hR1⟩ := hR.popI ha
  have q2 := cge_iff.mp q2
  rcases c_off ps.toList df z with h1 | ⟨p, h1, h2, h3⟩
  · exact b_lookup C hd hp gz h1 (t := ((pc : Int) + df).toNat) (by omega) (k _ _ _ _ q3 _ _ _ _ _ _ _ hG hR1)
  · obtain ⟨t1, t2⟩ := c_and (call_iff.mp q1 p h1)
    have t1 := cge_iff.mp t1
    refine b_lookup C hd hp gz h3 (t := ((pc : Int) + p.2).toNat) (by omega) ?_
    exact cs_br (k _) (by omega) t2 hG hR1 (z := 0) (fun ρ' σ' h => by rw [cpl_ev, e ρ' σ' h]; omega) rfl
end CSW
