/-! ===== the checker: returns ===== -/
/-- how the contract's symbols are found at an end -/
abbrev cFd : Type := cZ → List cV → List (Nat × cL) × List (Nat × cV)
/-- what Theta must be in a method with a contract -/
def cOf (T : cTb) (c : cCn) (g0 : Nat → Nat) (ρ0 : Nat → Int) (σ0 : Nat → Option Nat) (τ0 : bt) (h0 : bh) (ks : List cL) (vs : List cV) (Θ : cTh) : Prop := Θ.1 = T ∧ Θ.2.1 = c.2.2 ∧ Θ.2.2.1 = g0 ∧ Θ.2.2.2.1 = τ0 ∧ Θ.2.2.2.2.1 = h0 ∧ (∃ rk, Θ.2.2.2.2.2.1 = (rk :: ks, vs)) ∧ Θ.2.2.2.2.2.2.1.tail = (List.range c.1.1).map ρ0 ∧ Θ.2.2.2.2.2.2.2 = (List.range c.1.2.1).map σ0
noncomputable def cq_end (b1 b2 : Nat) (D : cFd) (c : cCn) (ks : List cL) (vs : List cV) : cQ := fun S _ st => cond (Nat.ble S.2.2.2.1 b1) (cond (Nat.ble S.2.2.2.2 b2) (cend (D S st).1 (D S st).2 c S st ks vs) false) false
section CRET
variable {Θ : cTh} {γ : bG} {y : bY} {d b1 b2 pc nL : Nat} {T : cTb} {c : cCn} {g0 : Nat → Nat} {ρ0 : Nat → Int} {σ0 : Nat → Option Nat} {τ0 : bt} {h0 : bh} {ks : List cL} {vs : List cV} {D : cFd} {ι : bI} {avs : List Value}
theorem cs_fin {S : cZ} {ρ : Nat → Int} {σ : Nat → Option Nat} {g : Nat → Nat} {τ : bt} {h : bh} {lo st : List cV} {lo' : List (Option Value)} {st' : List Value} {v : Option Value} (O : cOf T c g0 ρ0 σ0 τ0 h0 ks vs Θ) (hq : cq_end b1 b2 D c ks vs S lo st = true) (hG : cGd ι Θ g τ h) (hR : cRl Θ S ρ σ g τ h lo st lo' st') (hv : v.toList = st') : S.2.2.2.1 ≤ b1 ∧ S.2.2.2.2 ≤ b2 ∧ cPst T c g0 ρ0 σ0 ι avs τ0 h0 v τ h := by
  obtain ⟨o1, o2, o3, o4, o5, ⟨rk, o6⟩, o7, o8⟩ := O
  obtain ⟨q1, hq⟩ := c_and hq
  obtain ⟨q2, q3⟩ := c_and hq
  obtain ⟨g', ρ', σ', x1, x2, x3, x4, x5, x6⟩ := cs_end hR hG o2 o6 o7 o8 q3
  exact ⟨Nat.ble_eq.mp q1, Nat.ble_eq.mp q2, g', ρ', σ', by rw [← o1]; exact x1, x2, by rw [← o3, ← o4, ← o5]; exact x3, x4, x5, by rw [hv]; exact x6⟩
noncomputable def cq_iret (Z : Bool) (b1 b2 : Nat) (D : cFd) (c : cCn) (ks : List cL) (vs : List cV) : cQ := fun S lo st => cpv 0 st (fun x r => cond r.isEmpty (cond (cond Z (csui S (0, 0, 1, 0, false) x.2.2) true) (cq_end b1 b2 D c ks vs S lo st) false) false)
theorem cs_iret {Z : Bool} (C : bC γ y d b1 b2) (Bg : bBeg ι τ0 h0 avs (cPst T c g0 ρ0 σ0) nL b1 b2 γ) (O : cOf T c g0 ρ0 σ0 τ0 h0 ks vs Θ) (hd : decode y.2.1 pc = .ok (.ireturn, 1)) (hty : (Z = false ∧ y.2.2 = some .int) ∨ (Z = true ∧ y.2.2 = some .boolean)) : cSn Θ γ pc (cq_iret Z b1 b2 D c ks vs) := by
  intro S lo st hq ρ σ g τ h lo' st' hG hR
  have eι : γ.1 = ι := Bg.1
  obtain ⟨x, r, rfl, hx, hq1⟩ := cpv_ok hq
  obtain ⟨r0, hq1⟩ := c_and hq1
  obtain ⟨hZ, hq1⟩ := c_and hq1
  cases r with
  | cons => cases r0
  | nil =>
    obtain ⟨z, s1, rfl, gz, ez, e, hR1⟩ := hR.popI hx
    have es : s1 = [] := by
      have := hR1.at.2.2.1
      cases s1 with
      | nil => rfl
      | cons => exact this.elim
    subst es
    rw [eι] at hG
    obtain ⟨f1, f2, f3⟩ := cs_fin (avs := avs) (v := some (.int (bz z))) O hq1 hG hR rfl
    refine b_iret C Bg hd ?_ f1 f2 f3
    rcases hty with ⟨rfl, h1⟩ | ⟨rfl, h1⟩
    · exact Or.inl h1
    · have := csui_ok (t := (0, 0, 1, 0, false)) (show csui S (0, 0, 1, 0, false) x.2.2 = true from hZ) hR ez rfl
      have l1 : (0 : Int) ≤ z := this.1
      have l2 : z ≤ (1 : Int) := this.2
      exact Or.inr ⟨h1, by omega⟩
noncomputable def cq_aret (b1 b2 : Nat) (D : cFd) (c : cCn) (ks : List cL) (vs : List cV) : cQ := fun S lo st => cpx st (fun x r => cond (crq x) (cond r.isEmpty (cq_end b1 b2 D c ks vs S lo st) false) false)
theorem cs_aret {ty : FieldType} (C : bC γ y d b1 b2) (Bg : bBeg ι τ0 h0 avs (cPst T c g0 ρ0 σ0) nL b1 b2 γ) (O : cOf T c g0 ρ0 σ0 τ0 h0 ks vs Θ) (hd : decode y.2.1 pc = .ok (.areturn, 1)) (hty : y.2.2 = some ty) (hty2 : (∃ n, ty = .object n) ∨ ∃ t, ty = .array t) : cSn Θ γ pc (cq_aret b1 b2 D c ks vs) := by
  intro S lo st hq ρ σ g τ h lo' st' hG hR
  have eι : γ.1 = ι := Bg.1
  obtain ⟨x, r, rfl, hq1⟩ := cpx_ok hq
  obtain ⟨hx, hq1⟩ := c_and hq1
  obtain ⟨r0, hq1⟩ := c_and hq1
  cases r with
  | cons => cases r0
  | nil =>
    obtain ⟨o, s1, rfl, e, hR1⟩ := hR.popA hx
    have es : s1 = [] := by
      have := hR1.at.2.2.1
      cases s1 with
      | nil => rfl
      | cons => exact this.elim
    subst es
    rw [eι] at hG
    obtain ⟨f1, f2, f3⟩ := cs_fin (avs := avs) (v := some (va_rf o)) O hq1 hG hR rfl
    exact b_aret C Bg hd hty hty2 f1 f2 f3
noncomputable def cq_vret (b1 b2 : Nat) (D : cFd) (c : cCn) (ks : List cL) (vs : List cV) : cQ := fun S lo st => cond st.isEmpty (cq_end b1 b2 D c ks vs S lo st) false
theorem cs_vret (C : bC γ y d b1 b2) (Bg : bBeg ι τ0 h0 avs (cPst T c g0 ρ0 σ0) nL b1 b2 γ) (O : cOf T c g0 ρ0 σ0 τ0 h0 ks vs Θ) (hd : decode y.2.1 pc = .ok (.return_, 1)) (hty : y.2.2 = none) : cSn Θ γ pc (cq_vret b1 b2 D c ks vs) := by
  intro S lo st hq ρ σ g τ h lo' st' hG hR
  have eι : γ.1 = ι := Bg.1
  obtain ⟨r0, hq1⟩ := c_and hq
  cases st with
  | cons => cases r0
  | nil =>
    have es : st' = [] := by
      have := hR.at.2.2.1
      cases st' with
      | nil => rfl
      | cons => exact this.elim
    subst es
    rw [eι] at hG
    obtain ⟨f1, f2, f3⟩ := cs_fin (avs := avs) (v := none) O hq1 hG hR rfl
    exact b_vret C Bg hd hty f1 f2 f3
/-- a constructor's end: its object gets its role -/
noncomputable def cq_rret (b1 b2 : Nat) (D : cFd) (c : cCn) (ks : List cL) (vs : List cV) (T : cTb) (E : cEf) (s kd ro : Nat) : cQ := fun S lo st => cob s kd S (fun q => cond (cupq T E S s kd ro q) (cq_vret b1 b2 D c ks vs (cupS s kd ro q.2.2.2.2 S) lo st) false)
theorem cs_rret {s kd ro : Nat} (C : bC γ y d b1 b2) (Bg : bBeg ι τ0 h0 avs (cPst T c g0 ρ0 σ0) nL b1 b2 γ) (O : cOf T c g0 ρ0 σ0 τ0 h0 ks vs Θ) (hd : decode y.2.1 pc = .ok (.return_, 1)) (hty : y.2.2 = none) : cSn Θ γ pc (cq_rret b1 b2 D c ks vs Θ.1 Θ.2.1 s kd ro) := by
  intro S lo st hq ρ σ g τ h lo' st' hG hR
  obtain ⟨S2, g', k1, k2, k3, k4⟩ := cs_role (K := fun S2 => cq_vret b1 b2 D c ks vs S2 lo st) hq hR hG
  have := cs_vret (D := D) C Bg O hd hty S2 lo st k1 ρ σ g' τ h lo' st' k2 k3
  rwa [k4] at this
end CRET
