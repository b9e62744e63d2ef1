/-! ===== the checker: calls ===== -/
noncomputable def ctk (f : List cV → List cV → Bool) (k : Nat) : List cV → List cV → Bool := @Nat.rec (fun _ => List cV → List cV → Bool) (fun acc st => f acc st) (fun _ ih acc st => @List.rec cV (fun _ => Bool) false (fun v r _ => ih (v :: acc) r) st) k
theorem ctk_ok {f : List cV → List cV → Bool} : ∀ (k : Nat) (acc st : List cV), ctk f k acc st = true → ∃ tk r, st = tk ++ r ∧ tk.length = k ∧ f (tk.reverse ++ acc) r = true
  | 0, acc, st, h => ⟨[], st, rfl, rfl, h⟩
  | k + 1, acc, [], h => by cases h
  | k + 1, acc, v :: r, h => by
    obtain ⟨tk, r', e1, e2, e3⟩ := ctk_ok k (v :: acc) r h
    refine ⟨v :: tk, r', by rw [e1]; rfl, by simp [e2], ?_⟩
    rw [List.reverse_cons, List.append_assoc]
    exact e3
theorem c2_split {α β : Type} {P : α → β → Prop} : ∀ (l k : List α) (xs : List β), c2 P (l ++ k) xs → ∃ x1 x2, xs = x1 ++ x2 ∧ c2 P l x1 ∧ c2 P k x2
  | [], k, xs, h => ⟨[], xs, rfl, trivial, h⟩
  | a :: l, k, x :: xs, h => by
    obtain ⟨x1, x2, e1, e2, e3⟩ := c2_split l k xs h.2
    exact ⟨x :: x1, x2, by rw [e1]; rfl, ⟨h.1, e2⟩, e3⟩
  | _ :: _, _, [], h => h.elim
theorem c2_app {α β : Type} {P : α → β → Prop} : ∀ {l k : List α} {xs ys : List β}, c2 P l xs → c2 P k ys → c2 P (l ++ k) (xs ++ ys)
  | [], _, [], _, _, h => h
  | _ :: _, _, _ :: _, _, h1, h => ⟨h1.1, c2_app h1.2 h⟩
  | [], _, _ :: _, _, h, _ => h.elim
  | _ :: _, _, [], _, h, _ => h.elim
theorem c2_rev {α β : Type} {P : α → β → Prop} : ∀ {l : List α} {xs : List β}, c2 P l xs → c2 P l.reverse xs.reverse
  | [], [], _ => trivial
  | a :: l, x :: xs, h => by
    rw [List.reverse_cons, List.reverse_cons]
    exact c2_app (c2_rev h.2) ⟨h.1, trivial⟩
  | [], _ :: _, h => h.elim
  | _ :: _, [], h => h.elim
theorem cRl.drop {Θ : cTh} {S : cZ} {ρ : Nat → Int} {σ : Nat → Option Nat} {g : Nat → Nat} {τ : bt} {h : bh} {lo : List cV} {lo' : List (Option Value)} : ∀ (tk : List cV) {r : List cV} {st' : List Value}, cRl Θ S ρ σ g τ h lo (tk ++ r) lo' st' → ∃ x1 x2, st' = x1 ++ x2 ∧ x1.length = tk.length ∧ cRl Θ S ρ σ g τ h lo r lo' x2
  | [], _, st', hR => ⟨[], st', rfl, rfl, hR⟩
  | v :: tk, r, st', hR => by
    obtain ⟨x, s1, e1, -, hR1⟩ := cRl.pop (v := v) (st := tk ++ r) hR
    obtain ⟨x1, x2, e2, e3, hR2⟩ := cRl.drop tk hR1
    exact ⟨x :: x1, x2, by rw [e1, e2]; rfl, by simp [e3], hR2⟩
/-- the one that is asked: not null, of a kind -/
noncomputable def crcv (mode ci : Nat) (S : cZ) (args : List cV) : Bool := cond (Nat.ble mode 3) (@List.rec cV (fun _ => Bool) false (fun v _ _ => cond (Nat.beq v.1 1) (cop (cfi S.2.2.1.2.2.1 v.2.1) (fun q => cond q.2.2.2.1 false (cond (Nat.ble mode 1) (Nat.beq q.2.1 (ci + 1)) true))) false) args) true
noncomputable def cq_call (B : cCn → List cV → cZ → List (Nat × cL) × List (Nat × cV)) (E : cEf) (b1 b2 mode ci k c1 c2 : Nat) (c : cCn) (sq : cQ) : cQ := fun S lo st => ctk (fun args r => cond (crcv mode ci S args) (cond (Nat.ble r.length 4) (cond (Nat.ble (S.2.2.2.1 + c1) b1) (cond (Nat.ble (S.2.2.2.2 + c2) b2) (cond (cesub c.2.2 E) (cond (cwθ S.1 S.2.1 (B c args S).1 (B c args S).2) (cond (cmA (B c args S).1 (B c args S).2 S.2.2.1 c.1.2.2.1) (cond (cmS2 (B c args S).1 (B c args S).2 c.1.2.2.2 args) (sq (caft (B c args S).1 (B c args S).2 c c1 c2 S) lo (capp (cmpl (cf2 (B c args S).1 c.1.1 S.1) (cr2 (B c args S).2 c.1.2.1 S.2.1) c.2.1.2.2.2) r)) false) false) false) false) false) false) false) false) k [] st
theorem cs_call {Θ : cTh} {γ : bG} {y : bY} {d b1 b2 pc : Nat} {sq : cQ} {B : cCn → List cV → cZ → List (Nat × cL) × List (Nat × cV)} {mode idx ci k nL' d0 c1 c2' : Nat} {y' : bY} {c : cCn} (C : bC γ y (d + 1) b1 b2) (X : bX γ) (K : cOk Θ.1 y' nL' d0 c1 c2' c) (hw : cwCn c = true) (hd0 : d0 ≤ d) (hy : bym y' nL') (hmd : bmd mode y.1.cls idx y'.1 ci) (hci : ci ≤ 19) (hk : (parseMethodDescriptor y'.1.desc).map (fun d => d.parameters.length) = some (if mode ≤ 3 then k - 1 else k)) (hdec : (mode ≤ 1 ∧ decode y.2.1 pc = .ok (.invokevirtual idx, 3)) ∨ (2 ≤ mode ∧ mode ≤ 3 ∧ decode y.2.1 pc = .ok (.invokespecial idx, 3)) ∨ (4 ≤ mode ∧ decode y.2.1 pc = .ok (.invokestatic idx, 3))) (kk : cSn Θ γ (pc + 3) sq) : cSn Θ γ pc (cq_call B Θ.2.1 b1 b2 mode ci k c1 c2' c sq) := by
  intro S lo st hq ρ σ g τ h lo' st' hG hR
  obtain ⟨tk, r, rfl, hlen, hq⟩ := ctk_ok k [] st hq
  rw [List.append_nil] at hq
  obtain ⟨p1, hq⟩ := c_and hq
  obtain ⟨p2, hq⟩ := c_and hq
  obtain ⟨p3, hq⟩ := c_and hq
  obtain ⟨p4, hq⟩ := c_and hq
  obtain ⟨p5, hq⟩ := c_and hq
  obtain ⟨p6, hq⟩ := c_and hq
  obtain ⟨p7, hq⟩ := c_and hq
  obtain ⟨p8, hq⟩ := c_and hq
  generalize hθ : (B c tk.reverse S).1 = θ at *
  generalize hθr : (B c tk.reverse S).2 = θr at *
  obtain ⟨x1, x2, rfl, hl2, hR2⟩ := hR.drop tk
  obtain ⟨k1, k2, k3, k4⟩ := hR.at
  obtain ⟨y1, y2, e1, e2, e3⟩ := c2_split tk r _ k3
  have ey : y1 = x1 := by
    have l1 := e2.len
    have := List.append_inj e1.symm (by rw [← l1, hl2])
    exact this.1
  subst ey
  have hargs : c2 (cv ρ σ) tk.reverse y1.reverse := c2_rev e2
  have hav := cmS2_ok _ _ _ p8 hargs
  obtain ⟨a1, a2⟩ := cmA_ok p7 k1
  have hp : cPr Θ.1 c γ.1 y1.reverse τ h g (cρ θ ρ) (cσ θr σ) := ⟨hG.1, hG.2.1, a2, a1, hav⟩
  have p2 : r.length ≤ 4 := Nat.ble_eq.mp p2
  have hsum : (x2.map fun v => v.category).sum ≤ 8 := Nat.le_trans (c2_sum hR2.at.2.2.1) (by omega)
  have hrc : mode ≤ 3 → ∃ (a : Nat) (As : List Value), y1.reverse = .ref a :: As ∧ (mode ≤ 1 → τ.1 a = ci + 1 ∧ ci ≤ 19) := by
    intro hm
    unfold crcv at p1
    rw [show Nat.ble mode 3 = true from Nat.ble_eq.mpr hm] at p1
    generalize htk : tk.reverse = rv at p1 hargs
    cases rv with
    | nil => cases p1
    | cons v rv =>
      obtain ⟨x, As, ex, hx, -⟩ := hargs.cons
      obtain ⟨v1, p1⟩ := c_and (show cond (Nat.beq v.1 1) (cop (cfi S.2.2.1.2.2.1 v.2.1) (fun q => cond q.2.2.2.1 false (cond (Nat.ble mode 1) (Nat.beq q.2.1 (ci + 1)) true))) false = true from p1)
      have v1 := Nat.eq_of_beq_eq_true v1
      obtain ⟨q, hf, p1⟩ := cop_ok p1
      obtain ⟨n1, n2⟩ := cfi_ok hf
      cases hb : q.2.2.2.1 with
      | true => rw [hb] at p1; cases p1
      | false =>
        rw [hb] at p1
        obtain ⟨a, z1, z2, z3, -⟩ := hR.cell n1 hb
        rw [n2] at z1
        have ex2 : x = .ref a := by
          rcases hx with ⟨w, -⟩ | ⟨-, w⟩ | ⟨w, -⟩ | ⟨w, -⟩
          · omega
          · rw [w, z1]; rfl
          · omega
          · omega
        refine ⟨a, As, by rw [ex, ex2], fun hm1 => ⟨?_, hci⟩⟩
        have p1 : cond (Nat.ble mode 1) (Nat.beq q.2.1 (ci + 1)) true = true := p1
        rw [show Nat.ble mode 1 = true from Nat.ble_eq.mpr hm1] at p1
        rw [z2]
        exact Nat.eq_of_beq_eq_true p1
  have main := b_call (avs := y1.reverse) (rest := x2) (lo := lo') (τ := τ) (h := h) (nc := S.2.2.2.1) (ns := S.2.2.2.2) C X (K g (cρ θ ρ) (cσ θr σ)) hd0 hy hmd hk hdec (by rw [List.length_reverse, hl2, hlen]) hrc hp hsum (Nat.ble_eq.mp p3) (Nat.ble_eq.mp p4) fun v τ' h' hpost => by
    obtain ⟨g', ρ', σ', o1, o2, o3, o4, o5, o6⟩ := hpost
    obtain ⟨ρ2, σ2, hR3⟩ := hR2.after (c1 := c1) (c2' := c2') hw p6 o3 o4 o5 o6
    exact kk _ _ _ hq _ _ _ _ _ _ _ ⟨o1, o2, hG.2.2.trans p5 o3⟩ hR3
  rw [List.reverse_reverse] at main
  exact main
