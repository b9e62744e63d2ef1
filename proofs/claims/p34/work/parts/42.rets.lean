/-! ===== the checker: returns ===== -/
/-- how the contract's symbols are found at an end -/
abbrev cFd : Type := cZ → List cV → List (Nat × cL) × List (Nat × cV)
/-- what Theta must be in a method with a contract -/
def cOf (T : cTb) (c : cCn) (g0 : Nat → Nat) (ρ0 : Nat → Int) (σ0 : Nat → Option Nat) (τ0 : bt) (h0 : bh) (ks : List cL) (vs : List cV) (Θ : cTh) : Prop := Θ.1 = T ∧ Θ.2.1 = c.2.2 ∧ Θ.2.2.1 = g0 ∧ Θ.2.2.2.1 = τ0 ∧ Θ.2.2.2.2.1 = h0 ∧ (∃ rk, Θ.2.2.2.2.2.1 = (rk :: ks, vs)) ∧ Θ.2.2.2.2.2.2.1.tail = (List.range c.1.1).map ρ0 ∧ Θ.2.2.2.2.2.2.2 = (List.range c.1.2.1).map σ0
/-- what is not known of a slot, but by its role -/
noncomputable def cgr1 (T : cTb) (s k : Nat) (K : cZ → Bool) (S : cZ) : Bool := @Option.rec cV (fun _ => Bool) (@Option.rec cRf (fun _ => Bool) (K S) (fun q => cond (cond q.2.2.2.1 false (cond (Nat.beq q.2.2.1 0) false (cond (Nat.blt s S.2.1) (cond (Nat.beq (cslt T q.2.2.1 k).1 0) (cond (cge ((cslt T q.2.2.1 k).2.1 + 2147483648)) (cge (2147483647 - (cslt T q.2.2.1 k).2.2.1)) false) false) false))) (K (caddF (s, k, cI (cX S.1)) (cnew (cslt T q.2.2.1 k).2.1 (cslt T q.2.2.1 k).2.2.1 S))) (K S)) (cfi S.2.2.1.2.2.1 s)) (fun _ => K S) (cff S.2.2.1.2.2.2 s k)
noncomputable def cgrd (T : cTb) (gs : List (Nat × Nat)) (K : cZ → Bool) : cZ → Bool := @List.rec (Nat × Nat) (fun _ => cZ → Bool) K (fun q _ ih S => cgr1 T q.1 q.2 ih S) gs
/-- slots of the beginning's references that the end speaks of -/
noncomputable def cgs (m : Nat) (vs : List cV) (l : List cFt) : List (Nat × Nat) := @List.rec cFt (fun _ => List (Nat × Nat)) [] (fun q _ ih => cond (Nat.blt q.1 m) (@Option.rec cV (fun _ => List (Nat × Nat)) ih (fun v => (v.2.1, q.2.1) :: ih) (cnth vs q.1)) ih) l
noncomputable def cq_end (T : cTb) (b1 b2 : Nat) (D : cFd) (c : cCn) (ks : List cL) (vs : List cV) : cQ := fun S _ st => cgrd T (cgs c.1.2.1 vs c.2.1.2.2.1.2.2.2) (fun S => cond (Nat.ble S.2.2.2.1 b1) (cond (Nat.ble S.2.2.2.2 b2) (cend (D S st).1 (D S st).2 c S st ks vs) false) false) S
theorem cgr1_ok {Θ : cTh} {S : cZ} {ρ : Nat → Int} {σ : Nat → Option Nat} {g : Nat → Nat} {τ : bt} {h : bh} {lo st : List cV} {lo' : List (Option Value)} {st' : List Value} {s k : Nat} {K : cZ → Bool} (hq : cgr1 Θ.1 s k K S = true) (hw : cWT Θ.1 g τ h) (hR : cRl Θ S ρ σ g τ h lo st lo' st') : ∃ S2 ρ2, K S2 = true ∧ cRl Θ S2 ρ2 σ g τ h lo st lo' st' ∧ S2.2.2.2 = S.2.2.2 := by
  unfold cgr1 at hq
  cases hf : cff S.2.2.1.2.2.2 s k with
  | some v => rw [hf] at hq; exact ⟨S, ρ, hq, hR, rfl⟩
  | none =>
    rw [hf] at hq
    cases hi : cfi S.2.2.1.2.2.1 s with
    | none => rw [hi] at hq; exact ⟨S, ρ, hq, hR, rfl⟩
    | some q =>
      rw [hi] at hq
      dsimp only at hq
      cases hc : cond q.2.2.2.1 false (cond (Nat.beq q.2.2.1 0) false (cond (Nat.blt s S.2.1) (cond (Nat.beq (cslt Θ.1 q.2.2.1 k).1 0) (cond (cge ((cslt Θ.1 q.2.2.1 k).2.1 + 2147483648)) (cge (2147483647 - (cslt Θ.1 q.2.2.1 k).2.2.1)) false) false) false)) with
      | false => rw [hc] at hq; exact ⟨S, ρ, hq, hR, rfl⟩
      | true =>
        rw [hc] at hq
        have nb : ∀ {b q : Bool}, cond b false q = true → b = false ∧ q = true := by intro b q h; cases b <;> simp_all
        obtain ⟨n1, hc⟩ := nb hc
        obtain ⟨n2, hc⟩ := nb hc
        obtain ⟨n3, hc⟩ := c_and hc
        obtain ⟨n4, hc⟩ := c_and hc
        obtain ⟨n5, n6⟩ := c_and hc
        have n3 : s < S.2.1 := Nat.blt_eq.mp n3
        have n4 := Nat.eq_of_beq_eq_true n4
        have n5 := cge_iff.mp n5
        have n6 := cge_iff.mp n6
        obtain ⟨m1, e1⟩ := cfi_ok hi
        obtain ⟨a, a1, a2, a3, a4, a5⟩ := hR.cell m1 n1
        rw [e1] at a1
        have hz : g a ≠ 0 := by
          rw [a4]
          intro e
          rw [e] at n2
          cases n2
        have hk := (cslt_ok (k := k) hw hz).1
        rw [a4] at hk
        obtain ⟨k1, k2⟩ := hk n4
        obtain ⟨r1, r2⟩ := hR.fresh (l := (cslt Θ.1 q.2.2.1 k).2.1) (u := (cslt Θ.1 q.2.2.1 k).2.2.1) (z := h.1 a k) ⟨by omega, by omega⟩ k1 k2
        refine ⟨_, _, hq, r1.addF (q := (s, k, cI (cX S.1))) fun ρ' σ' ha => ⟨a, ?_, cfv_I ?_⟩, rfl⟩
        · show σ' s = some a
          rw [ha.2.2 s n3, a1]
        · rw [cX_ev]
          exact (r2 ρ' σ' ha).symm
theorem cgrd_ok {Θ : cTh} {σ : Nat → Option Nat} {g : Nat → Nat} {τ : bt} {h : bh} {lo st : List cV} {lo' : List (Option Value)} {st' : List Value} {K : cZ → Bool} (hw : cWT Θ.1 g τ h) : ∀ (gs : List (Nat × Nat)) (S : cZ) (ρ : Nat → Int), cgrd Θ.1 gs K S = true → cRl Θ S ρ σ g τ h lo st lo' st' → ∃ S2 ρ2, K S2 = true ∧ cRl Θ S2 ρ2 σ g τ h lo st lo' st' ∧ S2.2.2.2 = S.2.2.2 := by
  intro gs
  induction gs with
  | nil => intro S ρ hq hR; exact ⟨S, ρ, hq, hR, rfl⟩
  | cons q r ih =>
    intro S ρ hq hR
    obtain ⟨S2, ρ2, k1, k2, k3⟩ := cgr1_ok (K := cgrd Θ.1 r K) hq hw hR
    obtain ⟨S3, ρ3, j1, j2, j3⟩ := ih S2 ρ2 k1 k2
    exact ⟨S3, ρ3, j1, j2, j3.trans k3⟩
section CRET
variable {Θ : cTh} {γ : bG} {y : bY} {d b1 b2 pc nL : Nat} {T : cTb} {c : cCn} {g0 : Nat → Nat} {ρ0 : Nat → Int} {σ0 : Nat → Option Nat} {τ0 : bt} {h0 : bh} {ks : List cL} {vs : List cV} {D : cFd} {ι : bI} {avs : List Value}
theorem cs_fin {S : cZ} {ρ : Nat → Int} {σ : Nat → Option Nat} {g : Nat → Nat} {τ : bt} {h : bh} {lo st : List cV} {lo' : List (Option Value)} {st' : List Value} {v : Option Value} (O : cOf T c g0 ρ0 σ0 τ0 h0 ks vs Θ) (hq : cq_end T b1 b2 D c ks vs S lo st = true) (hG : cGd ι Θ g τ h) (hR : cRl Θ S ρ σ g τ h lo st lo' st') (hv : v.toList = st') : S.2.2.2.1 ≤ b1 ∧ S.2.2.2.2 ≤ b2 ∧ cPst T c g0 ρ0 σ0 ι avs τ0 h0 v τ h := by
  obtain ⟨o1, o2, o3, o4, o5, ⟨rk, o6⟩, o7, o8⟩ := O
  unfold cq_end at hq
  rw [← o1] at hq
  obtain ⟨S2, ρ2, hq, hR, hS⟩ := cgrd_ok hG.1 _ _ _ hq hR
  obtain ⟨q1, hq⟩ := c_and hq
  obtain ⟨q2, q3⟩ := c_and hq
  obtain ⟨g', ρ', σ', x1, x2, x3, x4, x5, x6⟩ := cs_end hR hG o2 o6 o7 o8 q3
  rw [← hS]
  exact ⟨Nat.ble_eq.mp q1, Nat.ble_eq.mp q2, g', ρ', σ', by rw [← o1]; exact x1, x2, by rw [← o3, ← o4, ← o5]; exact x3, x4, x5, by rw [hv]; exact x6⟩
noncomputable def cq_iret (Z : Bool) (T : cTb) (b1 b2 : Nat) (D : cFd) (c : cCn) (ks : List cL) (vs : List cV) : cQ := fun S lo st => cpv 0 st (fun x r => cond r.isEmpty (cond (cond Z (csui S (0, 0, 1, 0, false) x.2.2) true) (cq_end T b1 b2 D c ks vs S lo st) false) false)
theorem cs_iret {Z : Bool} (C : bC γ y d b1 b2) (Bg : bBeg ι τ0 h0 avs (cPst T c g0 ρ0 σ0) nL b1 b2 γ) (O : cOf T c g0 ρ0 σ0 τ0 h0 ks vs Θ) (hd : decode y.2.1 pc = .ok (.ireturn, 1)) (hty : (Z = false ∧ y.2.2 = some .int) ∨ (Z = true ∧ y.2.2 = some .boolean)) : cSn Θ γ pc (cq_iret Z T b1 b2 D c ks vs) := by
  intro S lo st hq ρ σ g τ h lo' st' hG hR
  have eι : γ.1 = ι := Bg.1
  obtain ⟨x, r, rfl, hx, hq1⟩ := cpv_ok hq
  obtain ⟨r0, hq1⟩ := c_and hq1
  obtain ⟨hZ, hq1⟩ := c_and hq1
  cases r with
  | cons => cases r0
  | nil =>
    obtain ⟨z, s1, rfl, gz, ez, e, hR1⟩ := hR.popI hx
    have es : s1 = [] := by
      have := hR1.at.2.2.1
      cases s1 with
      | nil => rfl
      | cons => exact this.elim
    subst es
    rw [eι] at hG
    obtain ⟨f1, f2, f3⟩ := cs_fin (avs := avs) (v := some (.int (bz z))) O hq1 hG hR rfl
    refine b_iret C Bg hd ?_ f1 f2 f3
    rcases hty with ⟨rfl, h1⟩ | ⟨rfl, h1⟩
    · exact Or.inl h1
    · have := csui_ok (t := (0, 0, 1, 0, false)) (show csui S (0, 0, 1, 0, false) x.2.2 = true from hZ) hR ez rfl
      have l1 : (0 : Int) ≤ z := this.1
      have l2 : z ≤ (1 : Int) := this.2
      exact Or.inr ⟨h1, by omega⟩
noncomputable def cq_aret (T : cTb) (b1 b2 : Nat) (D : cFd) (c : cCn) (ks : List cL) (vs : List cV) : cQ := fun S lo st => cpx st (fun x r => cond (crq x) (cond r.isEmpty (cq_end T b1 b2 D c ks vs S lo st) false) false)
theorem cs_aret {ty : FieldType} (C : bC γ y d b1 b2) (Bg : bBeg ι τ0 h0 avs (cPst T c g0 ρ0 σ0) nL b1 b2 γ) (O : cOf T c g0 ρ0 σ0 τ0 h0 ks vs Θ) (hd : decode y.2.1 pc = .ok (.areturn, 1)) (hty : y.2.2 = some ty) (hty2 : (∃ n, ty = .object n) ∨ ∃ t, ty = .array t) : cSn Θ γ pc (cq_aret T b1 b2 D c ks vs) := by
  intro S lo st hq ρ σ g τ h lo' st' hG hR
  have eι : γ.1 = ι := Bg.1
  obtain ⟨x, r, rfl, hq1⟩ := cpx_ok hq
  obtain ⟨hx, hq1⟩ := c_and hq1
  obtain ⟨r0, hq1⟩ := c_and hq1
  cases r with
  | cons => cases r0
  | nil =>
    obtain ⟨o, s1, rfl, e, hR1⟩ := hR.popA hx
    have es : s1 = [] := by
      have := hR1.at.2.2.1
      cases s1 with
      | nil => rfl
      | cons => exact this.elim
    subst es
    rw [eι] at hG
    obtain ⟨f1, f2, f3⟩ := cs_fin (avs := avs) (v := some (va_rf o)) O hq1 hG hR rfl
    exact b_aret C Bg hd hty hty2 f1 f2 f3
noncomputable def cq_vret (T : cTb) (b1 b2 : Nat) (D : cFd) (c : cCn) (ks : List cL) (vs : List cV) : cQ := fun S lo st => cond st.isEmpty (cq_end T b1 b2 D c ks vs S lo st) false
theorem cs_vret (C : bC γ y d b1 b2) (Bg : bBeg ι τ0 h0 avs (cPst T c g0 ρ0 σ0) nL b1 b2 γ) (O : cOf T c g0 ρ0 σ0 τ0 h0 ks vs Θ) (hd : decode y.2.1 pc = .ok (.return_, 1)) (hty : y.2.2 = none) : cSn Θ γ pc (cq_vret T b1 b2 D c ks vs) := by
  intro S lo st hq ρ σ g τ h lo' st' hG hR
  have eι : γ.1 = ι := Bg.1
  obtain ⟨r0, hq1⟩ := c_and hq
  cases st with
  | cons => cases r0
  | nil =>
    have es : st' = [] := by
      have := hR.at.2.2.1
      cases st' with
      | nil => rfl
      | cons => exact this.elim
    subst es
    rw [eι] at hG
    obtain ⟨f1, f2, f3⟩ := cs_fin (avs := avs) (v := none) O hq1 hG hR rfl
    exact b_vret C Bg hd hty f1 f2 f3
/-- cells get their roles, one after the other: number, kind, role -/
noncomputable def crol (T : cTb) (E : cEf) (l : List (Nat × Nat × Nat)) (K : cZ → Bool) : cZ → Bool := @List.rec (Nat × Nat × Nat) (fun _ => cZ → Bool) K (fun p _ ih S => cob p.1 p.2.1 S (fun q => cond (cupq T E S p.1 p.2.1 p.2.2 q) (ih (cupS p.1 p.2.1 p.2.2 q.2.2.2.2 S)) false)) l
theorem crol_ok {ι : bI} {τ : bt} {h : bh} {lo st : List cV} {lo' : List (Option Value)} {st' : List Value} {ρ : Nat → Int} {σ : Nat → Option Nat} {K : cZ → Bool} : ∀ (l : List (Nat × Nat × Nat)) (S : cZ) (g : Nat → Nat), crol Θ.1 Θ.2.1 l K S = true → cRl Θ S ρ σ g τ h lo st lo' st' → cGd ι Θ g τ h → ∃ S2 g', K S2 = true ∧ cGd ι Θ g' τ h ∧ cRl Θ S2 ρ σ g' τ h lo st lo' st' ∧ S2.2.2.2 = S.2.2.2 := by
  intro l
  induction l with
  | nil => intro S g hq hR hG; exact ⟨S, g, hq, hG, hR, rfl⟩
  | cons p r ih =>
    intro S g hq hR hG
    obtain ⟨S2, g2, k1, k2, k3, k4⟩ := cs_role (K := crol Θ.1 Θ.2.1 r K) hq hR hG
    obtain ⟨S3, g3, j1, j2, j3, j4⟩ := ih S2 g2 k1 k3 k2
    exact ⟨S3, g3, j1, j2, j3, j4.trans k4⟩
/-- a constructor's end: its object gets its role -/
noncomputable def cq_rret (b1 b2 : Nat) (D : cFd) (c : cCn) (ks : List cL) (vs : List cV) (T : cTb) (E : cEf) (l : List (Nat × Nat × Nat)) : cQ := fun S lo st => crol T E l (fun S2 => cq_vret T b1 b2 D c ks vs S2 lo st) S
theorem cs_rret {l : List (Nat × Nat × Nat)} (C : bC γ y d b1 b2) (Bg : bBeg ι τ0 h0 avs (cPst T c g0 ρ0 σ0) nL b1 b2 γ) (O : cOf T c g0 ρ0 σ0 τ0 h0 ks vs Θ) (hd : decode y.2.1 pc = .ok (.return_, 1)) (hty : y.2.2 = none) : cSn Θ γ pc (cq_rret b1 b2 D c ks vs Θ.1 Θ.2.1 l) := by
  intro S lo st hq ρ σ g τ h lo' st' hG hR
  rw [O.1] at hq
  unfold cq_rret at hq
  rw [← O.1] at hq
  obtain ⟨S2, g', k1, k2, k3, k4⟩ := crol_ok l S g hq hR hG
  rw [O.1] at k1
  have := cs_vret (D := D) C Bg O hd hty S2 lo st k1 ρ σ g' τ h lo' st' k2 k3
  rwa [k4] at this
end CRET
