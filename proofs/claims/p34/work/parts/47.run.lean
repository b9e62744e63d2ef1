/-! ===== the checker: a method from its beginning, from place to place ===== -/
/-- a place and its state -/
abbrev cPl : Type := Nat × cCt
noncomputable def chd (l : List cL) : cL := @List.rec cL (fun _ => cL) (cK 0) (fun e _ _ => e) l
/-- what is kept in mind has the same values -/
noncomputable def ckq (θ : List (Nat × cL)) (ks' : List cL) : List cL → Bool := @List.rec cL (fun _ => List cL → Bool) (fun ks => ks.isEmpty) (fun k' _ ih ks => @List.rec cL (fun _ => Bool) false (fun k r _ => cond (cz0 (csub (csE θ k') k)) (ih r) false) ks) ks'
theorem ckq_ok {θ : List (Nat × cL)} (ρ : Nat → Int) : ∀ (ks' ks : List cL), ckq θ ks' ks = true → ks'.map (cE (cρ θ ρ)) = ks.map (cE ρ) := by
  intro ks'
  induction ks' with
  | nil => intro ks h; cases ks with
    | nil => rfl
    | cons => cases h
  | cons k' r' ih =>
    intro ks h
    cases ks with
    | nil => cases h
    | cons k r =>
      obtain ⟨h1, h2⟩ := c_and (show cond (cz0 (csub (csE θ k') k)) (ckq θ r' r) false = true from h)
      have h3 := cz0_ok h1 ρ
      rw [csub_ev, csE_ev] at h3
      rw [List.map_cons, List.map_cons, ih r h2]
      congr 1
      omega
noncomputable def cvq (θr : List (Nat × cV)) (vs' : List cV) : List cV → Bool := @List.rec cV (fun _ => List cV → Bool) (fun vs => vs.isEmpty) (fun v' _ ih vs => @List.rec cV (fun _ => Bool) false (fun v r _ => cond (cond (Nat.beq v'.1 1) (cond (Nat.beq (crb θr v'.2.1).1 v.1) (Nat.beq (crb θr v'.2.1).2.1 v.2.1) false) false) (ih r) false) vs) vs'
theorem cvo_eq {σ : Nat → Option Nat} {v w : cV} (h1 : v.1 = w.1) (h2 : v.2.1 = w.2.1) : cvo σ v = cvo σ w := by unfold cvo; rw [h1, h2]
theorem cvq_ok {θr : List (Nat × cV)} (σ : Nat → Option Nat) : ∀ (vs' vs : List cV), cvq θr vs' vs = true → vs'.map (cvo (cσ θr σ)) = vs.map (cvo σ) := by
  intro vs'
  induction vs' with
  | nil => intro ks h; cases ks with
    | nil => rfl
    | cons => cases h
  | cons k' r' ih =>
    intro ks h
    cases ks with
    | nil => cases h
    | cons k r =>
      obtain ⟨h1, h2⟩ := c_and (show cond (cond (Nat.beq k'.1 1) (cond (Nat.beq (crb θr k'.2.1).1 k.1) (Nat.beq (crb θr k'.2.1).2.1 k.2.1) false) false) (cvq θr r' r) false = true from h)
      obtain ⟨h3, h4⟩ := c_and h1
      obtain ⟨h5, h6⟩ := c_and h4
      rw [List.map_cons, List.map_cons, ih r h2]
      congr 1
      have e1 : cvo (cσ θr σ) k' = cvo σ (crb θr k'.2.1) := by
        show cond (Nat.beq k'.1 1) (cσ θr σ k'.2.1) none = _
        rw [h3]; rfl
      rw [e1]
      exact cvo_eq (Nat.eq_of_beq_eq_true h5) (Nat.eq_of_beq_eq_true h6)
/-- may one go on at a place (fr: from the beginning; idx: from the place with that number) -/
noncomputable def cjn (fr : Bool) (R : cKp) (idx j : Nat) (κ : cCt) (θ : List (Nat × cL)) (θr : List (Nat × cV)) (S : cZ) (lo st : List cV) : Bool :=
  cond (cmC θ θr κ S lo st) (cond (ckq θ κ.2.2.2.1.tail R.1.tail) (cond (cvq θr κ.2.2.2.2 R.2) (cond (cpos S.2.2.1.1 S.2.2.1.2.1 (csE θ (chd κ.2.2.2.1))) (cond fr true (cond (Nat.blt idx j) (cpos S.2.2.1.1 S.2.2.1.2.1 (csub (chd R.1) (csE θ (chd κ.2.2.2.1)))) (cpos S.2.2.1.1 S.2.2.1.2.1 (csub (cpl (-1) (chd R.1)) (csE θ (chd κ.2.2.2.1)))))) false) false) false) false
noncomputable def chas (ps : List cPl) (pc : Nat) : Bool := cany (fun q => Nat.beq q.1 pc) ps
noncomputable def cplc (fr : Bool) (R : cKp) (idx : Nat) (pc : Nat) (S : cZ) (lo st : List cV) (ps : List cPl) : Nat → Bool := @List.rec cPl (fun _ => Nat → Bool) (fun _ => false) (fun q _ ih j => cond (cond (Nat.beq q.1 pc) (cjn fr R idx j q.2 (cB4 q.2 R S lo st).1 (cB4 q.2 R S lo st).2 S lo st) false) true (ih (j + 1))) ps
theorem cplc_ok {fr : Bool} {R : cKp} {idx pc : Nat} {S : cZ} {lo st : List cV} : ∀ (ps : List cPl) (i : Nat), cplc fr R idx pc S lo st ps i = true → ∃ j q θ θr, ps[j]? = some q ∧ q.1 = pc ∧ cjn fr R idx (i + j) q.2 θ θr S lo st = true := by
  intro ps
  induction ps with
  | nil => intro i h; cases h
  | cons q r ih =>
    intro i h
    rcases c_or (show cond (cond (Nat.beq q.1 pc) (cjn fr R idx i q.2 (cB4 q.2 R S lo st).1 (cB4 q.2 R S lo st).2 S lo st) false) true (cplc fr R idx pc S lo st r (i + 1)) = true from h) with h1 | h1
    · obtain ⟨h2, h3⟩ := c_and h1
      exact ⟨0, q, _, _, rfl, Nat.eq_of_beq_eq_true h2, h3⟩
    · obtain ⟨j, p, θ, θr, e1, e2, e3⟩ := ih (i + 1) h1
      exact ⟨j + 1, p, θ, θr, e1, e2, by rw [show i + (j + 1) = i + 1 + j by omega]; exact e3⟩
noncomputable def cfind (t : Nat) (l : List cN) : List cN := @List.rec cN (fun _ => List cN) [] (fun e r ih => cond (Nat.beq e.1 t) (e :: r) ih) l
theorem cfind_sub {t : Nat} {l : List cN} : ∀ e ∈ cfind t l, e ∈ l := by
  induction l with
  | nil => intro e he; exact he
  | cons a r ih =>
    intro e he
    change e ∈ cond (Nat.beq a.1 t) (a :: r) (cfind t r) at he
    cases hb : Nat.beq a.1 t with
    | true => rw [hb] at he; exact he
    | false => rw [hb] at he; exact List.mem_cons_of_mem _ (ih e he)
noncomputable def crun (stp : cN → cQ → (Nat → cQ) → cQ) (code : List cN) (ps : List cPl) (fr : Bool) (R : cKp) (idx : Nat) (fuel : Nat) : Nat → List cN → cQ := @Nat.rec (fun _ => Nat → List cN → cQ) (fun _ _ => cno) (fun _ ih pc l => cond (chas ps pc) (fun S lo st => cplc fr R idx pc S lo st ps 0) (@List.rec cN (fun _ => cQ) cno (fun e rest _ => cond (Nat.beq e.1 pc) (stp e (ih (pc + e.2.2.1) rest) (fun t => ih t (cfind t code))) cno) l)) fuel
/-- from a place on -/
noncomputable def cseg1 (stp : cN → cQ → (Nat → cQ) → cQ) (code : List cN) (ps : List cPl) (fr : Bool) (R : cKp) (idx : Nat) (fuel pc : Nat) : cQ := @List.rec cN (fun _ => cQ) cno (fun e rest _ => cond (Nat.beq e.1 pc) (stp e (crun stp code ps fr R idx fuel (pc + e.2.2.1) rest) (fun t => crun stp code ps fr R idx fuel t (cfind t code))) cno) (cfind pc code)
section CRUN
variable {γ : bG} {y : bY} {d b1 b2 nL : Nat} {T : cTb} {c : cCn} {Ga : List (List (Nat × Nat × cCn))} {Γ : List (bY × Nat)} {cr : List (Nat × Nat × Nat)} {g0 : Nat → Nat} {ρ0 : Nat → Int} {σ0 : Nat → Option Nat} {τ0 : bt} {h0 : bh} {ι : bI} {avs : List Value} {code : List cN} {ps : List cPl}
theorem chd_map (f : cL → Int) (l : List cL) (hl : l ≠ []) : (l.map f).headD 0 = f (chd l) := by
  cases l with
  | nil => exact absurd rfl hl
  | cons => rfl
/-- what is said of a place -/
def cAt (γ : bG) (T : cTb) (c : cCn) (g0 : Nat → Nat) (ρ0 : Nat → Int) (σ0 : Nat → Option Nat) (τ0 : bt) (h0 : bh) (q : cPl) (Θ : cTh) : Prop := cOf T c g0 ρ0 σ0 τ0 h0 q.2.2.2.2.1.tail q.2.2.2.2.2 Θ → Θ.2.2.2.2.2.1 = q.2.2.2.2 → cJ Θ γ q.1 q.2.1 q.2.2.1 q.2.2.2.1
theorem cplc_sn {Θ : cTh} {fr : Bool} {R : cKp} {idx pc : Nat} (hR0 : Θ.2.2.2.2.2.1 = R) (hne : R.1 ≠ []) (O : cOf T c g0 ρ0 σ0 τ0 h0 R.1.tail R.2 Θ) (hw : ∀ q ∈ ps, cwC q.2 = true ∧ q.2.2.2.2.1 ≠ []) (ih : ∀ (j : Nat) (q : cPl) (Θ' : cTh), ps[j]? = some q → 0 ≤ Θ'.2.2.2.2.2.2.1.headD 0 → (fr = true ∨ Θ'.2.2.2.2.2.2.1.headD 0 < Θ.2.2.2.2.2.2.1.headD 0 ∨ (Θ'.2.2.2.2.2.2.1.headD 0 ≤ Θ.2.2.2.2.2.2.1.headD 0 ∧ idx < j)) → cAt γ T c g0 ρ0 σ0 τ0 h0 q Θ') : cSn Θ γ pc (fun S lo st => cplc fr R idx pc S lo st ps 0) := by
  intro S lo st hq0 ρ σ g τ h lo' st' hG hR
  obtain ⟨j, q, θ, θr, e1, rfl, hq⟩ := cplc_ok ps 0 hq0
  clear hq0
  rw [Nat.zero_add] at hq
  obtain ⟨w1, w2⟩ := hw q (List.mem_of_getElem? e1)
  unfold cjn at hq
  obtain ⟨m1, hq⟩ := c_and hq
  obtain ⟨m2, hq⟩ := c_and hq
  obtain ⟨m3, hq⟩ := c_and hq
  obtain ⟨m4, hq⟩ := c_and hq
  obtain ⟨lo2, hR2, hf, n1, n2⟩ := cs_cut w1 m1 hR
  obtain ⟨k1, k2, k3, k4⟩ := hR.at
  rw [hR0] at k4
  have r0 := cpos_ok k1.1 k1.2.1 m4
  rw [csE_ev] at r0
  have v1 : Θ.2.2.2.2.2.2.1 = R.1.map (cE ρ) := by rw [← k4]; rfl
  have v2 : Θ.2.2.2.2.2.2.2 = R.2.map (cvo σ) := by rw [← k4]; rfl
  have hJ := ih j q (Θ.1, Θ.2.1, Θ.2.2.1, Θ.2.2.2.1, Θ.2.2.2.2.1, q.2.2.2.2, ckv (cρ θ ρ) (cσ θr σ) q.2.2.2.2) e1 (by
    show 0 ≤ (q.2.2.2.2.1.map (cE (cρ θ ρ))).headD 0
    rw [chd_map _ _ w2]; exact r0) (by
    show fr = true ∨ (q.2.2.2.2.1.map (cE (cρ θ ρ))).headD 0 < Θ.2.2.2.2.2.2.1.headD 0 ∨ ((q.2.2.2.2.1.map (cE (cρ θ ρ))).headD 0 ≤ Θ.2.2.2.2.2.2.1.headD 0 ∧ idx < j)
    rw [chd_map _ _ w2, v1, chd_map _ _ hne]
    rcases c_or hq with h1 | h1
    · exact Or.inl h1
    · right
      cases hb : Nat.blt idx j with
      | true =>
        rw [hb] at h1
        have := cpos_ok k1.1 k1.2.1 h1
        rw [csub_ev, csE_ev] at this
        exact Or.inr ⟨by omega, Nat.blt_eq.mp hb⟩
      | false =>
        rw [hb] at h1
        have := cpos_ok k1.1 k1.2.1 h1
        rw [csub_ev, cpl_ev, csE_ev] at this
        exact Or.inl (by omega)) ⟨O.1, O.2.1, O.2.2.1, O.2.2.2.1, O.2.2.2.2.1, (by
      show ∃ rk, q.2.2.2.2 = (rk :: q.2.2.2.2.1.tail, q.2.2.2.2.2)
      cases hq1 : q.2.2.2.2.1 with
      | nil => exact absurd hq1 w2
      | cons a r => exact ⟨a, Prod.ext hq1 rfl⟩), (by
      show (q.2.2.2.2.1.map (cE (cρ θ ρ))).tail = _
      rw [← List.map_tail, ckq_ok ρ _ _ m2, List.map_tail, ← v1]; exact O.2.2.2.2.2.2.1), (by
      show q.2.2.2.2.2.map (cvo (cσ θr σ)) = _
      rw [cvq_ok σ _ _ m3, ← v2]; exact O.2.2.2.2.2.2.2)⟩ rfl
  exact bJ.less hf (bJ.wide n1 n2 (hJ _ _ g τ h lo2 st' hG hR2))
theorem crun_sn {Θ : cTh} {fr : Bool} {R : cKp} {idx : Nat} (C : bC γ y (d + 1) b1 b2) (X : bX γ) (hn : γ.2.2.1 = nL) (Bg : bBeg ι τ0 h0 avs (cPst T c g0 ρ0 σ0) nL b1 b2 γ) (hE : ∀ e ∈ code, dk_ok y Γ e) (hA : cCal T d Γ Ga) (O : cOf T c g0 ρ0 σ0 τ0 h0 R.1.tail R.2 Θ) (hp : ∀ pc, cSn Θ γ pc (fun S lo st => cplc fr R idx pc S lo st ps 0)) : ∀ (fuel pc : Nat) (l : List cN), (∀ e ∈ l, e ∈ code) → cSn Θ γ pc (crun (cstp T nL b1 b2 c R Ga cr) code ps fr R idx fuel pc l) := by
  intro fuel
  induction fuel with
  | zero => intro pc l _; exact cno_ok
  | succ n ih =>
    intro pc l hl
    show cSn Θ γ pc (cond (chas ps pc) (fun S lo st => cplc fr R idx pc S lo st ps 0) (@List.rec cN (fun _ => cQ) cno (fun e rest _ => cond (Nat.beq e.1 pc) (cstp T nL b1 b2 c R Ga cr e (crun (cstp T nL b1 b2 c R Ga cr) code ps fr R idx n (pc + e.2.2.1) rest) (fun t => crun (cstp T nL b1 b2 c R Ga cr) code ps fr R idx n t (cfind t code))) cno) l))
    cases chas ps pc with
    | true => exact hp pc
    | false =>
      cases l with
      | nil => exact cno_ok
      | cons e rest =>
        show cSn Θ γ pc (cond (Nat.beq e.1 pc) _ cno)
        cases hb : Nat.beq e.1 pc with
        | false => exact cno_ok
        | true =>
          obtain rfl := Nat.eq_of_beq_eq_true hb
          exact cstp_ok C X hn Bg O (hE e (hl e List.mem_cons_self)) hA (ih _ rest (fun e' he' => hl e' (List.mem_cons_of_mem _ he'))) (fun t => ih t _ (fun e' he' => cfind_sub e' he'))
theorem cseg1_sn {Θ : cTh} {fr : Bool} {R : cKp} {idx fuel : Nat} (C : bC γ y (d + 1) b1 b2) (X : bX γ) (hn : γ.2.2.1 = nL) (Bg : bBeg ι τ0 h0 avs (cPst T c g0 ρ0 σ0) nL b1 b2 γ) (hE : ∀ e ∈ code, dk_ok y Γ e) (hA : cCal T d Γ Ga) (O : cOf T c g0 ρ0 σ0 τ0 h0 R.1.tail R.2 Θ) (hp : ∀ pc, cSn Θ γ pc (fun S lo st => cplc fr R idx pc S lo st ps 0)) (pc : Nat) : cSn Θ γ pc (cseg1 (cstp T nL b1 b2 c R Ga cr) code ps fr R idx fuel pc) := by
  unfold cseg1
  cases hf : cfind pc code with
  | nil => exact cno_ok
  | cons e rest =>
    show cSn Θ γ pc (cond (Nat.beq e.1 pc) _ cno)
    have hs : ∀ e' ∈ e :: rest, e' ∈ code := fun e' he' => cfind_sub e' (by rw [hf]; exact he')
    cases hb : Nat.beq e.1 pc with
    | false => exact cno_ok
    | true =>
      obtain rfl := Nat.eq_of_beq_eq_true hb
      have run := crun_sn (cr := cr) C X hn Bg hE hA O hp
      exact cstp_ok C X hn Bg O (hE e (hs e List.mem_cons_self)) hA (run _ _ rest (fun e' he' => hs e' (List.mem_cons_of_mem _ he'))) (fun t => run _ t _ (fun e' he' => cfind_sub e' he'))
/-- all places -/
noncomputable def cpls (stp : cKp → cN → cQ → (Nat → cQ) → cQ) (code : List cN) (ps : List cPl) (fuel : Nat) (l : List cPl) : Nat → Bool := @List.rec cPl (fun _ => Nat → Bool) (fun _ => true) (fun q _ ih j => cond (cond (cwC q.2) (cond q.2.2.2.2.1.isEmpty false (cseg1 (stp q.2.2.2.2) code ps false q.2.2.2.2 j fuel q.1 q.2.1 q.2.2.1 q.2.2.2.1)) false) (ih (j + 1)) false) l
theorem cpls_ok {stp : cKp → cN → cQ → (Nat → cQ) → cQ} {fuel : Nat} : ∀ (l : List cPl) (i : Nat), cpls stp code ps fuel l i = true → ∀ (j : Nat) (q : cPl), l[j]? = some q → cwC q.2 = true ∧ q.2.2.2.2.1 ≠ [] ∧ cseg1 (stp q.2.2.2.2) code ps false q.2.2.2.2 (i + j) fuel q.1 q.2.1 q.2.2.1 q.2.2.2.1 = true := by
  intro l
  induction l with
  | nil => intro i _ j q h; simp at h
  | cons a r ih =>
    intro i h j q hj
    obtain ⟨h1, h2⟩ := c_and (show cond (cond (cwC a.2) (cond a.2.2.2.2.1.isEmpty false (cseg1 (stp a.2.2.2.2) code ps false a.2.2.2.2 i fuel a.1 a.2.1 a.2.2.1 a.2.2.2.1)) false) (cpls stp code ps fuel r (i + 1)) false = true from h)
    cases j with
    | zero =>
      cases hj
      obtain ⟨h3, h4⟩ := c_and h1
      refine ⟨h3, ?_, ?_⟩
      · intro e; rw [e] at h4; cases h4
      · cases he : a.2.2.2.2.1.isEmpty with
        | true => rw [he] at h4; cases h4
        | false => rw [he] at h4; exact h4
    | succ j =>
      have := ih (i + 1) h2 j q hj
      rw [show i + (j + 1) = i + 1 + j by omega]
      exact this
theorem cpls_sn {fuel : Nat} (C : bC γ y (d + 1) b1 b2) (X : bX γ) (hn : γ.2.2.1 = nL) (Bg : bBeg ι τ0 h0 avs (cPst T c g0 ρ0 σ0) nL b1 b2 γ) (hE : ∀ e ∈ code, dk_ok y Γ e) (hA : cCal T d Γ Ga) (hq : cpls (fun R => cstp T nL b1 b2 c R Ga cr) code ps fuel ps 0 = true) : ∀ (n : Nat) (j : Nat) (q : cPl) (Θ : cTh), ps[j]? = some q → 0 ≤ Θ.2.2.2.2.2.2.1.headD 0 → (Θ.2.2.2.2.2.2.1.headD 0).toNat * (ps.length + 1) + (ps.length - j) < n → cAt γ T c g0 ρ0 σ0 τ0 h0 q Θ := by
  have hall := fun j q hj => cpls_ok ps 0 hq j q hj
  have hw : ∀ q ∈ ps, cwC q.2 = true ∧ q.2.2.2.2.1 ≠ [] := by
    intro q hm
    obtain ⟨j, hj⟩ := List.getElem?_of_mem hm
    exact ⟨(hall j q hj).1, (hall j q hj).2.1⟩
  intro n
  induction n with
  | zero => intro j q Θ _ _ h; omega
  | succ n ih =>
    intro j q Θ hj h0' hlt O hR
    obtain ⟨-, hne, hs⟩ := hall j q hj
    rw [Nat.zero_add] at hs
    have hjl : j < ps.length := (List.getElem?_eq_some_iff.mp hj).1
    refine cseg1_sn (cr := cr) C X hn Bg hE hA O (fun pc => cplc_sn hR hne O hw (fun j' q' Θ' hj' p0 hd => ?_)) q.1 _ _ _ hs
    have hjl' : j' < ps.length := (List.getElem?_eq_some_iff.mp hj').1
    refine ih j' q' Θ' hj' p0 ?_
    rcases hd with hd | hd | ⟨hd1, hd2⟩
    · cases hd
    · have h1 : (Θ'.2.2.2.2.2.2.1.headD 0).toNat + 1 ≤ (Θ.2.2.2.2.2.2.1.headD 0).toNat := by omega
      have h2 := Nat.mul_le_mul_right (ps.length + 1) h1
      rw [Nat.add_mul] at h2
      omega
    · have h1 : (Θ'.2.2.2.2.2.2.1.headD 0).toNat ≤ (Θ.2.2.2.2.2.2.1.headD 0).toNat := by omega
      have h2 := Nat.mul_le_mul_right (ps.length + 1) h1
      omega
end CRUN
/-! the beginning -/
noncomputable def clv (args : List cV) : List cV := @List.rec cV (fun _ => List cV) [] (fun v _ ih => cond (Nat.beq v.1 3) (v :: cNo :: ih) (v :: ih)) args
theorem clv_ok {ρ : Nat → Int} {σ : Nat → Option Nat} : ∀ (args : List cV) (avs : List Value), c2 (cv ρ σ) args avs → c2 (cvO ρ σ) (clv args) (blv avs)
  | [], [], _ => trivial
  | v :: args, x :: avs, h => by
    have e : blv (x :: avs) = if x.category = 2 then some x :: none :: blv avs else some x :: blv avs := rfl
    rw [e]
    show c2 (cvO ρ σ) (cond (Nat.beq v.1 3) (v :: cNo :: clv args) (v :: clv args)) _
    have ih := clv_ok args avs h.2
    cases hb : Nat.beq v.1 3 with
    | true =>
      have h3 := Nat.eq_of_beq_eq_true hb
      have hx : x.category = 2 := by
        rcases h.1 with ⟨a, -⟩ | ⟨a, -⟩ | ⟨a, -⟩ | ⟨-, w, rfl⟩
        · omega
        · omega
        · omega
        · rfl
      rw [if_pos hx]
      exact ⟨Or.inr ⟨x, rfl, h.1⟩, Or.inl ⟨rfl, rfl⟩, ih⟩
    | false =>
      have h3 : v.1 ≠ 3 := fun e => by rw [e] at hb; cases hb
      rw [if_neg (by rw [cv_cat h.1 h3]; omega)]
      exact ⟨Or.inr ⟨x, rfl, h.1⟩, ih⟩
  | [], _ :: _, h => h.elim
  | _ :: _, [], h => h.elim
noncomputable def crep (k : Nat) : List cV := @Nat.rec (fun _ => List cV) [] (fun _ ih => cNo :: ih) k
theorem crep_ok {ρ : Nat → Int} {σ : Nat → Option Nat} (k : Nat) : c2 (cvO ρ σ) (crep k) (List.replicate k none) := by
  induction k with
  | zero => exact trivial
  | succ k ih => exact ⟨Or.inl ⟨rfl, rfl⟩, ih⟩
/-- symbols 0 to n -/
noncomputable def cxs (n : Nat) : Nat → List cL := @Nat.rec (fun _ => Nat → List cL) (fun _ => []) (fun _ ih i => cX i :: ih (i + 1)) n
noncomputable def cps (n : Nat) : Nat → List cV := @Nat.rec (fun _ => Nat → List cV) (fun _ => []) (fun _ ih i => cP i :: ih (i + 1)) n
theorem cxs_ok (ρ : Nat → Int) (n i : Nat) : (cxs n i).map (cE ρ) = (List.range' i n).map ρ := by
  induction n generalizing i with
  | zero => rfl
  | succ n ih => rw [List.range'_succ, List.map_cons, ← ih (i + 1)]; show cE ρ (cX i) :: _ = _; rw [cX_ev]; rfl
theorem cps_ok (σ : Nat → Option Nat) (n i : Nat) : (cps n i).map (cvo σ) = (List.range' i n).map σ := by
  induction n generalizing i with
  | zero => rfl
  | succ n ih => rw [List.range'_succ, List.map_cons, ← ih (i + 1)]; rfl
noncomputable def cR0 (c : cCn) : cKp := (cK 0 :: cxs c.1.1 0, cps c.1.2.1 0)
/-- a method keeps its contract: the whole check -/
noncomputable def cchk (T : cTb) (nL b1 b2 : Nat) (c : cCn) (Ga : List (List (Nat × Nat × cCn))) (cr : List (Nat × Nat × Nat)) (code : List cN) (ps : List cPl) (fuel : Nat) : Bool :=
  cond (cwA c.1.1 c.1.2.1 c.1.2.2.1) (cond (call (cwX c.1.1 c.1.2.1) c.1.2.2.2) (cond (Nat.ble (clv c.1.2.2.2).length nL) (cond (cseg1 (cstp T nL b1 b2 c (cR0 c) Ga cr) code ps true (cR0 c) 0 fuel 0 (c.1.1, c.1.2.1, c.1.2.2.1, 0, 0) (capp (clv c.1.2.2.2) (crep (nL - (clv c.1.2.2.2).length))) []) (cpls (fun R => cstp T nL b1 b2 c R Ga cr) code ps fuel ps 0) false) false) false) false
theorem cOk.mono {T : cTb} {y : bY} {nL d0 d1 b1 b2 : Nat} {c : cCn} (h : cOk T y nL d0 b1 b2 c) (hd : d0 ≤ d1) : cOk T y nL d1 b1 b2 c := fun g ρ σ l hl d h1 => h g ρ σ l hl d (Nat.le_trans hd h1)
theorem cCal.mono {T : cTb} {d0 d1 : Nat} {Γ : List (bY × Nat)} {Ga : List (List (Nat × Nat × cCn))} (h : cCal T d0 Γ Ga) (hd : d0 ≤ d1) : cCal T d1 Γ Ga := fun i q al h1 h2 a ha => ⟨(h i q al h1 h2 a ha).1.mono hd, (h i q al h1 h2 a ha).2⟩
theorem c_ok {T : cTb} {y : bY} {nL d b1 b2 : Nat} {c : cCn} {Ga : List (List (Nat × Nat × cCn))} {Γ : List (bY × Nat)} {cr : List (Nat × Nat × Nat)} {code : List cN} {ps : List cPl} {fuel : Nat} (hpl : plainFor y.1 = true) (hE : ∀ e ∈ code, dk_ok y Γ e) (hA : cCal T d Γ Ga) (hq : cchk T nL b1 b2 c Ga cr code ps fuel = true) : cOk T y nL (d + 1) b1 b2 c := by
  unfold cchk at hq
  obtain ⟨q1, hq⟩ := c_and hq
  obtain ⟨q2, hq⟩ := c_and hq
  obtain ⟨q3, hq⟩ := c_and hq
  obtain ⟨q4, q5⟩ := c_and hq
  have q3 := Nat.ble_eq.mp q3
  intro g ρ σ
  refine bOk_of hpl (fun ι avs τ h hp => ?_) ?_
  · have := (clv_ok _ _ hp.2.2.2.2).len
    omega
  · intro γ ι τ h avs d' hd hp Bg C
    obtain ⟨d2, rfl⟩ : ∃ d2, d' = d2 + 1 := ⟨d' - 1, by omega⟩
    have hA2 := hA.mono (show d ≤ d2 by omega)
    obtain ⟨p1, p2, p3, p4, p5⟩ := hp
    have hn : γ.2.2.1 = nL := Bg.2.1
    have eι : γ.1 = ι := Bg.1
    have hw : ∀ q ∈ ps, cwC q.2 = true ∧ q.2.2.2.2.1 ≠ [] := by
      intro q hm
      obtain ⟨j, hj⟩ := List.getElem?_of_mem hm
      exact ⟨(cpls_ok ps 0 q5 j q hj).1, (cpls_ok ps 0 q5 j q hj).2.1⟩
    have O : cOf T c g ρ σ τ h (cR0 c).1.tail (cR0 c).2 (T, c.2.2, g, τ, h, cR0 c, ckv ρ σ (cR0 c)) := by
      refine ⟨rfl, rfl, rfl, rfl, rfl, ⟨cK 0, rfl⟩, ?_, ?_⟩
      · show (cxs c.1.1 0).map (cE ρ) = _
        rw [cxs_ok, List.range_eq_range']
      · show (cps c.1.2.1 0).map (cvo σ) = _
        rw [cps_ok, List.range_eq_range']
    have hs := cseg1_sn (cr := cr) (fuel := fuel) (fr := true) (idx := 0) C Bg.x hn Bg hE hA2 O (fun pc => cplc_sn (γ := γ) rfl (by intro e; cases e) O hw (fun j q Θ' hj p0 _ => cpls_sn (cr := cr) C Bg.x hn Bg hE hA2 q5 _ j q Θ' hj p0 (Nat.lt_succ_self _))) 0
    have hlen := (clv_ok _ _ p5).len
    refine hs _ _ _ q4 ρ σ g τ h _ _ ⟨p1, by rw [eι]; exact p2, fun a ha => ⟨rfl, rfl, Or.inl rfl, fun i _ => ⟨rfl, rfl⟩⟩⟩ ⟨p3, fun ρ' σ' ha => ⟨cwA_ok q1 ha p4, ?_, trivial, ?_⟩⟩
    · rw [capp_eq, ← hlen]
      exact c2_app (clv_ok _ _ (c2_ag ha _ _ q2 p5)) (crep_ok _)
    · show ckv ρ' σ' (cR0 c) = ckv ρ σ (cR0 c)
      have e1 : (cxs c.1.1 0).map (cE ρ') = (cxs c.1.1 0).map (cE ρ) := by
        rw [cxs_ok, cxs_ok]
        refine List.map_congr_left fun s hs => ha.2.1 s ?_
        have := List.mem_range'_1.mp hs
        show s < c.1.1
        omega
      have e2 : (cps c.1.2.1 0).map (cvo σ') = (cps c.1.2.1 0).map (cvo σ) := by
        rw [cps_ok, cps_ok]
        refine List.map_congr_left fun s hs => ha.2.2 s ?_
        have := List.mem_range'_1.mp hs
        show s < c.1.2.1
        omega
      show ((cK 0 :: cxs c.1.1 0).map (cE ρ'), (cps c.1.2.1 0).map (cvo σ')) = ((cK 0 :: cxs c.1.1 0).map (cE ρ), (cps c.1.2.1 0).map (cvo σ))
      rw [List.map_cons, List.map_cons, e1, e2, cK_ev, cK_ev]
