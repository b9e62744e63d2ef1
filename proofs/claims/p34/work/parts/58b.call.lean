/-! ===== the law: from call to call ===== -/
def lI (ι : bI) (x m u : Nat) (g : Nat → Nat) (τ : bt) (h : bh) : Prop := cWT cT0 g τ h ∧ cKt ι g ∧ (τ.1 x = 11 ∧ g x = 11 ∧ τ.2 x = 0) ∧ (τ.1 m = 12 ∧ g m = 12 ∧ τ.2 m = 0) ∧ τ.1 u = 44 ∧ τ.2 u = 1
def lA : Nat → Nat → List cV
  | _, 0 => []
  | k, n + 1 => (0, 0, (0, [(k, 1)])) :: lA (k + 1) n
theorem lA_ok {ρ : Nat → Int} {σ : Nat → Option Nat} : ∀ (zs : List Int) (k : Nat), (∀ z ∈ zs, brg z) → (∀ i, i < zs.length → ρ (k + i) = zs.getD i 0) → c2 (cv ρ σ) (lA k zs.length) (zs.map (fun z => Value.int (bz z)))
  | [], _, _, _ => trivial
  | z :: zs, k, hz, h => by
    have h0 : ρ k = z := h 0 (Nat.zero_lt_succ _)
    refine ⟨cv_I (e := (0, [(k, 1)])) (hz z List.mem_cons_self) ?_, lA_ok zs (k + 1) (fun y hy => hz y (List.mem_cons_of_mem _ hy)) (fun i hi => ?_)⟩
    · show 0 + (1 * ρ k + 0) = z
      omega
    · have := h (i + 1) (Nat.succ_lt_succ hi)
      rw [show k + 1 + i = k + (i + 1) by omega, this]
      rfl
theorem brg_getD {zs : List Int} (hz : ∀ z ∈ zs, brg z) (i : Nat) : brg (zs.getD i 0) := by
  rw [List.getD_eq_getElem?_getD]
  cases e : zs[i]? with
  | none => exact ⟨by decide, by decide⟩
  | some z => exact hz z (List.mem_of_getElem? e)
section LI
variable {ι : bI} {x m u : Nat} {g g' : Nat → Nat} {τ τ' : bt} {h h' : bh} {E : cEf}
theorem lI.step (F : lI ι x m u g τ h) (hw : cWT cT0 g' τ' h') (hk : cKt ι g') (hH : cHi E g τ h g' τ' h') : lI ι x m u g' τ' h' := by
  obtain ⟨-, -, ⟨x1, x2, x3⟩, ⟨m1, m2, m3⟩, u1, u2⟩ := F
  obtain ⟨a1, a2, a3, -⟩ := hH x (by omega)
  obtain ⟨b1, b2, b3, -⟩ := hH m (by omega)
  obtain ⟨c1, c2, -, -⟩ := hH u (by omega)
  refine ⟨hw, hk, ⟨by omega, ?_, by omega⟩, ⟨by omega, ?_, by omega⟩, by omega, by omega⟩
  · rcases a3 with a3 | ⟨a3, -⟩ <;> omega
  · rcases b3 with b3 | ⟨b3, -⟩ <;> omega
end LI
section LC
variable {γ : bG} {y : bY} {d b1 b2 pc : Nat} {lo : List (Option Value)} {nc ns : Nat} {Γ : List (bY × Nat)} {g : Nat → Nat} {τ : bt} {h : bh} {x m u : Nat}
theorem b_lc {mid k mode r4 ci idx a d0 c1 c2' ro : Nat} {q : bY × Nat} {zs : List Int} {rest : List Value} {c : cCn} {e : cL} (C : bC γ y (d + 1) b1 b2) (X : bX γ) (hE : dk_ok y Γ (pc, .invokevirtual idx, 3, mid, k, mode, r4, ci)) (hm : mode ≤ 1) (hq : Γ[mid]? = some q) (K : cOk cT0 q.1 q.2 d0 c1 c2' c) (hd0 : d0 ≤ d) (h1 : c.1.2.2.1.2 = ([], [(0, ci + 1, ro, false, (0, []))], [])) (h2 : c.1.2.2.2 = (1, 0, (0, [])) :: lA 0 zs.length) (h3 : c.2.1.2.2.2 = [(0, 0, e)]) (hb : ∀ p ∈ c.1.2.2.1.1, p.2.1 ≤ zs.getD p.1 0 ∧ zs.getD p.1 0 ≤ p.2.2) (hk : zs.length + 1 = k) (F : lI γ.1 x m u g τ h) (ha : τ.1 a = ci + 1 ∧ g a = ro ∧ τ.2 a = 0) (hz : ∀ z ∈ zs, brg z) (hsum : (rest.map fun v => v.category).sum ≤ 8) (hc : nc + c1 ≤ b1) (hs : ns + c2' ≤ b2) (kk : ∀ (z : Int) (g' : Nat → Nat) (τ' : bt) (h' : bh), brg z → (∃ ρ' : Nat → Int, cBo ρ' c.2.1.2.2.1.1 ∧ cE ρ' e = z) → lI γ.1 x m u g' τ' h' → bJ γ (pc + 3) lo (.int (bz z) :: rest) τ' h' (nc + c1) (ns + c2')) : bJ γ pc lo ((zs.map (fun z => Value.int (bz z))).reverse ++ (.ref a :: rest)) τ h nc ns := by
  have hρ : ∀ s, brg ((fun i => zs.getD i 0) s) := fun s => brg_getD hz s
  refine b_inv C X hE hm hq (K g (fun i => zs.getD i 0) (fun _ => some a)) hd0 (by rw [List.length_map]; exact hk) ha.1 ⟨F.1, F.2.1, hρ, ⟨⟨hρ, hb⟩, ?_, ?_, ?_⟩, ?_⟩ hsum hc hs ?_
  · rw [h1]
    exact fun q hq => absurd hq List.not_mem_nil
  · rw [h1]
    intro q hq
    obtain rfl := List.mem_singleton.mp hq
    refine Or.inr ⟨a, rfl, ha.1, Nat.succ_ne_zero _, ha.2.1, ?_⟩
    show (τ.2 a : Int) = 0 + 0
    rw [ha.2.2]
    rfl
  · rw [h1]
    exact fun q hq => absurd hq List.not_mem_nil
  · rw [h2]
    exact ⟨cv_P rfl, lA_ok zs 0 hz (fun i _ => by rw [Nat.zero_add])⟩
  · rintro v τ' h' ⟨g', ρ', σ', hw', hk', hH', -, hst, hv⟩
    rw [h3] at hv
    cases v with
    | none => exact hv.elim
    | some v =>
      obtain ⟨rfl, hr⟩ := cv_int (e := e) rfl rfl hv.1
      exact kk _ g' τ' h' hr ⟨ρ', hst.1, rfl⟩ (F.step hw' hk' hH')
/-- a constructor is called -/
theorem b_isp {mid k mode r4 ci idx a d0 c1 c2 : Nat} {q : bY × Nat} {As rest : List Value} {Pre : bI → List Value → bt → bh → Prop} {Post : bPost} (C : bC γ y (d + 1) b1 b2) (X : bX γ) (hE : dk_ok y Γ (pc, .invokespecial idx, 3, mid, k, mode, r4, ci)) (hm : 2 ≤ mode ∧ mode ≤ 3) (hq : Γ[mid]? = some q) (K : bOk q.1 q.2 d0 c1 c2 Pre Post) (hd0 : d0 ≤ d) (hlen : As.length + 1 = k) (hp : Pre γ.1 (.ref a :: As) τ h) (hsum : (rest.map fun v => v.category).sum ≤ 8) (hc : nc + c1 ≤ b1) (hs : ns + c2 ≤ b2) (kk : ∀ (v : Option Value) (τ' : bt) (h' : bh), Post γ.1 (.ref a :: As) τ h v τ' h' → bJ γ (pc + 3) lo (v.toList ++ rest) τ' h' (nc + c1) (ns + c2)) : bJ γ pc lo (As.reverse ++ (.ref a :: rest)) τ h nc ns := by
  obtain ⟨hd, -, hl⟩ := hE
  rcases hl with ⟨h6, hci, ⟨q', hq', hy, hmd, hk⟩, hop⟩ | ⟨h7, -⟩ | ⟨h7, -⟩ | ⟨h7, -⟩
  · rw [hq] at hq'
    cases hq'
    have := b_call (avs := .ref a :: As) (rest := rest) (lo := lo) C X K hd0 hy hmd hk (Or.inr (Or.inl ⟨hm.1, hm.2, hd⟩)) (by simpa using hlen) (fun _ => ⟨a, As, rfl, fun z => by omega⟩) hp hsum hc hs kk
    rw [List.reverse_cons, List.append_assoc] at this
    exact this
  · have h7 : mode = 7 := h7
    omega
  · have h7 : mode = 8 := h7
    omega
  · have h7 : mode = 9 := h7
    omega
theorem b_nO {idx r1 r2 r3 r4 r5 : Nat} {st : List Value} (C : bC γ y d b1 b2) (hE : dk_ok y Γ (pc, .new idx, 3, r1, r2, r3, r4, r5)) (hc1 : nc + 1 ≤ b1) (hc2 : ns + r2 ≤ b2) (kk : ∀ a, τ.1 a = 0 → bJ γ (pc + 3) lo (.ref a :: st) (bnT τ a (r1 + 1) 0) (bnH h a) (nc + 1) (ns + r2)) : bJ γ pc lo st τ h nc ns := by
  obtain ⟨hd, -, q, h1, h2, h3, h4⟩ := hE
  have h3 : r2 = q.2.2 := h3
  subst h3
  exact b_new C h1 h2 h4 hd hc1 hc2 kk
end LC
/-! one object of the reference's role -/
def g12 (g : Nat → Nat) (m b : Nat) : Nat := if g b = 12 ∧ b ≠ m then 0 else g b
theorem t12 : ∀ q ∈ cT0, ∀ s ∈ q.2.2.2.2, s.2.1 = 1 → s.2.2.2.2.1 ≠ 12 := by decide +kernel
theorem cfR_mem {T : cTb} {r : Nat} {R : cR} (h : cfR T r = some R) : ∃ q ∈ T, q.2 = R := by
  induction T with
  | nil => cases h
  | cons p T ih =>
    have h : cond (Nat.beq p.1 r) (some p.2) (cfR T r) = some R := h
    cases e : Nat.beq p.1 r with
    | true =>
      rw [e] at h
      cases h
      exact ⟨p, List.mem_cons_self, rfl⟩
    | false =>
      rw [e] at h
      obtain ⟨q, q1, q2⟩ := ih h
      exact ⟨q, List.mem_cons_of_mem _ q1, q2⟩
section G12
variable {g : Nat → Nat} {τ : bt} {h : bh} {m : Nat} {ι : bI}
theorem g12_ne {b : Nat} (hb : g12 g m b ≠ 0) : g12 g m b = g b ∧ g b ≠ 0 := by
  unfold g12 at hb ⊢
  by_cases e : g b = 12 ∧ b ≠ m
  · rw [if_pos e] at hb; exact absurd rfl hb
  · rw [if_neg e] at hb ⊢; exact ⟨rfl, hb⟩
theorem g12_eq {b : Nat} (hb : g b ≠ 12) : g12 g m b = g b := if_neg (fun e => hb e.1)
theorem g12_m : g12 g m m = g m := if_neg (fun e => e.2 rfl)
theorem g12_wt (hw : cWT cT0 g τ h) : cWT cT0 (g12 g m) τ h := by
  intro b hb
  obtain ⟨e, hb'⟩ := g12_ne hb
  obtain ⟨R, r1, r2, r3, r4, r5, r6, r7, r8⟩ := hw b hb'
  rw [e]
  refine ⟨R, r1, r2, r3, r4, fun i => ⟨(r5 i).1, fun z => ?_⟩, r6, fun e12 => r7 (by rw [e] at e12; exact e12), r8⟩
  rcases (r5 i).2 z with w | ⟨c, c1, c2, c3⟩
  · exact Or.inl w
  · have n12 : (cseg R.2.2.2 i).2.2.2.1 ≠ 12 := by
      obtain ⟨q, q1, rfl⟩ := cfR_mem r1
      rcases cseg_mem q.2.2.2.2 i with w | ⟨s, s1, s2⟩
      · omega
      · rw [s2] at z ⊢
        exact t12 q q1 s s1 z
    have : g12 g m c = g c := g12_eq (by rw [c2]; exact n12)
    exact Or.inr ⟨c, c1, by rw [this]; exact c2, by rw [this]; exact c3⟩
theorem g12_kt (hk : cKt ι g) : cKt ι (g12 g m) := by
  have key : ∀ {b k : Nat}, k ≠ 12 → k ≠ 0 → g12 g m b = k → g b = k := fun {b k} h1 h2 h => by
    have e := (g12_ne (g := g) (m := m) (b := b) (by rw [h]; exact h2)).1
    rw [← e]; exact h
  refine ⟨fun j hj => ?_, fun a ha => hk.2.1 a (key (by decide) (by decide) ha), fun a ha => hk.2.2.1 a (key (by decide) (by decide) ha), fun a ha => hk.2.2.2 a (key (by decide) (by decide) ha)⟩
  have e := hk.1 j hj
  rw [g12_eq (by rw [e]; unfold crk; split <;> (try split) <;> (try split) <;> (try split) <;> omega)]
  exact e
theorem g12_uq {a b : Nat} (ha : g12 g m a = 12) (hb : g12 g m b = 12) : a = b := by
  have key : ∀ {b}, g12 g m b = 12 → b = m := fun {b} h => Classical.byContradiction fun z => by
    have e := (g12_ne (by rw [h]; decide)).1
    rw [h] at e
    unfold g12 at h
    rw [if_pos ⟨e.symm, z⟩] at h
    cases h
  rw [key ha, key hb]
theorem g12_li {x u : Nat} (F : lI ι x m u g τ h) : lI ι x m u (g12 g m) τ h := ⟨g12_wt F.1, g12_kt F.2.1, ⟨F.2.2.1.1, by rw [g12_eq (by rw [F.2.2.1.2.1]; decide)]; exact F.2.2.1.2.1, F.2.2.1.2.2⟩, ⟨F.2.2.2.1.1, by rw [g12_m]; exact F.2.2.2.1.2.1, F.2.2.2.1.2.2⟩, F.2.2.2.2⟩
end G12
/-- the reference's image -/
theorem b_lim {γ : bG} {y : bY} {d b1 b2 pc : Nat} {lo : List (Option Value)} {nc ns : Nat} {Γ : List (bY × Nat)} {g : Nat → Nat} {τ : bt} {h : bh} {x m u : Nat} {mid k mode r4 idx : Nat} {z : Int} {rest : List Value} (C : bC γ y (d + 1) b1 b2) (X : bX γ) (hE : dk_ok y Γ (pc, .invokevirtual idx, 3, mid, k, mode, r4, 11)) (hm : mode ≤ 1) (hq : Γ[mid]? = some (ey297, 3)) (hd0 : 3 ≤ d) (hk : 2 = k) (F : lI γ.1 x m u g τ h) (hz : brg z) (hsum : (rest.map fun v => v.category).sum ≤ 8) (hc : nc ≤ b1) (hs : ns ≤ b2) (kk : ∀ (v : Int) (g' : Nat → Nat) (τ' : bt) (h' : bh), ((v = 1 ∧ 0 ≤ z ∧ z ≤ 1) ∨ (v = 0 ∧ ¬ (0 ≤ z ∧ z ≤ 1))) → lI γ.1 x m u g' τ' h' → bJ γ (pc + 3) lo (.int (bz v) :: rest) τ' h' nc ns) : bJ γ pc lo (.int (bz z) :: .ref m :: rest) τ h nc ns := by
  have F := g12_li F
  have hρ : ∀ s : Nat, brg ((fun _ : Nat => z) s) := fun _ => hz
  refine b_inv (As := [.int (bz z)]) (rest := rest) C X hE hm hq (eim (g12 g m) (fun _ => z) (fun _ => some m)) hd0 hk F.2.2.2.1.1 ⟨⟨F.1, F.2.1, hρ, ⟨⟨hρ, fun q hq => absurd hq List.not_mem_nil⟩, fun q hq => absurd hq List.not_mem_nil, fun q hq => ?_, fun q hq => absurd hq List.not_mem_nil⟩, ⟨cv_P rfl, cv_I (e := (0, [(0, 1)])) hz (by show 0 + (1 * z + 0) = z; omega), trivial⟩⟩, fun a b ha hb => g12_uq ha hb⟩ hsum hc hs ?_
  · obtain rfl := List.mem_singleton.mp hq
    refine Or.inr ⟨m, rfl, F.2.2.2.1.1, by decide, F.2.2.2.1.2.1, ?_⟩
    show (τ.2 m : Int) = 0 + 0
    rw [F.2.2.2.1.2.2]
    rfl
  · rintro v τ' h' ⟨⟨g', ρ', σ', hw', hk', hH', -, -, -⟩, hv⟩
    rcases hv with ⟨rfl, e⟩ | ⟨rfl, e⟩
    · exact kk 1 g' τ' h' (Or.inl ⟨rfl, e⟩) (F.step hw' hk' hH')
    · exact kk 0 g' τ' h' (Or.inr ⟨rfl, e⟩) (F.step hw' hk' hH')
