/-! ===== the checker: things that are made ===== -/
noncomputable def cini (l : List Nat) : Nat → List (Nat × cV) := @List.rec Nat (fun _ => Nat → List (Nat × cV)) (fun _ => []) (fun c _ ih i => (i, cond (Nat.beq c 2) cNl (cI (cK 0))) :: ih (i + 1)) l
theorem cini_ok (l : List Nat) (i : Nat) : ∀ q ∈ cini l i, q.2 = cI (cK 0) ∨ q.2 = cNl := by
  induction l generalizing i with
  | nil => intro q hq; cases hq
  | cons c r ih =>
    intro q hq
    change q ∈ (i, cond (Nat.beq c 2) cNl (cI (cK 0))) :: cini r (i + 1) at hq
    rcases List.mem_cons.mp hq with rfl | hq
    · show cond (Nat.beq c 2) cNl (cI (cK 0)) = _ ∨ cond (Nat.beq c 2) cNl (cI (cK 0)) = _
      cases Nat.beq c 2
      · exact Or.inl rfl
      · exact Or.inr rfl
    · exact ih (i + 1) q hq
section CMK
variable {Θ : cTh} {γ : bG} {y : bY} {d b1 b2 pc : Nat} {sq : cQ} {S : cZ} {ρ : Nat → Int} {σ : Nat → Option Nat} {g : Nat → Nat} {τ : bt} {h : bh} {lo st : List cV} {lo' : List (Option Value)} {st' : List Value}
theorem cRl.mk {a kd ro n ns : Nat} {len : cL} {fs : List (Nat × cV)} (hR : cRl Θ S ρ σ g τ h lo st lo' st') (ha : τ.1 a = 0) (hkd : kd ≠ 0) (hfs : ∀ q ∈ fs, q.2 = cI (cK 0) ∨ q.2 = cNl) (hn : ∀ ρ' σ', cag S.1 S.2.1 ρ σ ρ' σ' → (n : Int) = cE ρ' len) : cRl Θ (cmk kd ro len fs ns S) ρ (cup σ S.2.1 (some a)) (cup g a ro) (bnT τ a kd n) (bnH h a) lo st lo' st' ∧ ∀ ρ' σ', cag S.1 (S.2.1 + 1) ρ (cup σ S.2.1 (some a)) ρ' σ' → σ' S.2.1 = some a := by
  obtain ⟨N, m, A, nc, ns0⟩ := S
  have key : ∀ ρ' σ', cag N (m + 1) ρ (cup σ m (some a)) ρ' σ' → σ' m = some a ∧ cag N m ρ σ ρ' σ' := fun ρ' σ' ha => ⟨by rw [ha.2.2 m (Nat.lt_succ_self m), cup_at], ha.1, ha.2.1, fun s hs => by rw [ha.2.2 s (Nat.lt_succ_of_lt hs), cup_ne (by omega)]⟩
  refine ⟨(hR.newR (some a)).map fun ρ' σ' hag k1 k2 => ⟨⟨k1.1, k1.2.1, fun p hp => ?_, ?_⟩, k2⟩, fun ρ' σ' hag => (key ρ' σ' hag).1⟩
  · rcases List.mem_cons.mp hp with rfl | hp
    · exact Or.inr ⟨a, (key ρ' σ' hag).1, by show (if a = a then kd else _) = kd; rw [if_pos rfl], hkd, cup_at _ _ _, by show ((if a = a then n else _ : Nat) : Int) = _; rw [if_pos rfl]; exact hn ρ' σ' (key ρ' σ' hag).2⟩
    · rcases k1.2.2.1 p hp with z | ⟨b, x1, x2, x3, x4, x5⟩
      · exact Or.inl z
      · have e : b ≠ a := fun e => x3 (by rw [← x2, e]; exact ha)
        exact Or.inr ⟨b, x1, by show (if b = a then kd else _) = _; rw [if_neg e]; exact x2, x3, by rw [cup_ne e]; exact x4, by show ((if b = a then n else _ : Nat) : Int) = _; rw [if_neg e]; exact x5⟩
  · show ∀ q ∈ (@List.rec (Nat × cV) (fun _ => List cFt) (ckf (N, m, A, nc, ns0)) (fun q _ ih => (m, q.1, q.2) :: ih) fs), cft ρ' σ' (bnH h a) q
    induction fs with
    | nil =>
      intro q hq
      obtain ⟨q1, q2⟩ := cfil_ok (show q ∈ cfil (fun q => @Option.rec cRf (fun _ => Bool) false (fun _ => true) (cfi A.2.2.1 q.1)) A.2.2.2 from hq)
      obtain ⟨b, e1, e2⟩ := k1.2.2.2 q q1
      cases hf : cfi A.2.2.1 q.1 with
      | none => rw [hf] at q2; cases q2
      | some p =>
        obtain ⟨m1, m2⟩ := cfi_ok hf
        have e : b ≠ a := by
          rcases k1.2.2.1 p m1 with ⟨-, x⟩ | ⟨b', x1, x2, x3, -⟩
          · rw [m2, e1] at x; cases x
          · rw [m2, e1] at x1
            cases x1
            exact fun e => x3 (by rw [← x2, e]; exact ha)
        have z1 : (bnH h a).1 b q.2.1 = h.1 b q.2.1 := by show (if b = a then (0 : Int) else _) = _; rw [if_neg e]
        have z2 : (bnH h a).2 b q.2.1 = h.2 b q.2.1 := by show (if b = a then none else _) = _; rw [if_neg e]
        exact ⟨b, e1, fun w => by rw [z1]; exact e2.1 w, fun w => by rw [z2]; exact e2.2.1 w, fun w => by rw [z2]; exact e2.2.2 w⟩
    | cons f r ih =>
      intro q hq
      rcases List.mem_cons.mp (show q ∈ (m, f.1, f.2) :: (@List.rec (Nat × cV) (fun _ => List cFt) (ckf (N, m, A, nc, ns0)) (fun q _ ih => (m, q.1, q.2) :: ih) r) from hq) with rfl | hq
      · refine ⟨a, (key ρ' σ' hag).1, ?_⟩
        have z1 : (bnH h a).1 a f.1 = 0 := by show (if a = a then (0 : Int) else _) = _; rw [if_pos rfl]
        have z2 : (bnH h a).2 a f.1 = none := by show (if a = a then none else _) = _; rw [if_pos rfl]
        show cfv ρ' σ' (bnH h a) a f.1 f.2
        rcases hfs f List.mem_cons_self with e | e
        · rw [e]; exact cfv_I (by rw [z1, cK_ev])
        · rw [e]; exact cfv_N z2
      · exact ih (fun q hq => hfs q (List.mem_cons_of_mem _ hq)) q hq
noncomputable def cq_new (b1 b2 ci nsl : Nat) (codes : List Nat) (sq : cQ) : cQ := fun S lo st => cond (Nat.ble (S.2.2.2.1 + 1) b1) (cond (Nat.ble (S.2.2.2.2 + nsl) b2) (sq (cmk (ci + 1) 0 (cK 0) (cini codes 0) nsl S) lo (cP S.2.1 :: st)) false) false
theorem cs_new {ci idx : Nat} {q : vw_C} {codes : List Nat} (C : bC γ y d b1 b2) (hq : vwCl[ci]? = some q) (hci : ci ≤ 19) (hcl : Cond.classLink y.1.cls idx q.1 ∈ bW) (hd : decode y.2.1 pc = .ok (.new idx, 3)) (kk : cSn Θ γ (pc + 3) sq) : cSn Θ γ pc (cq_new b1 b2 ci q.2.2 codes sq) := by
  intro S lo st hq2 ρ σ g τ h lo' st' hG hR
  obtain ⟨c1, hq2⟩ := c_and hq2
  obtain ⟨c2, hq2⟩ := c_and hq2
  refine b_new C hq hci hcl hd (Nat.ble_eq.mp c1) (Nat.ble_eq.mp c2) fun a ha => ?_
  have hn : ∀ ρ' σ', cag S.1 S.2.1 ρ σ ρ' σ' → ((0 : Nat) : Int) = cE ρ' (cK 0) := fun ρ' _ _ => by rw [cK_ev]; rfl
  obtain ⟨r1, r2⟩ := hR.mk (ro := 0) (ns := q.2.2) (len := cK 0) ha (show ci + 1 ≠ 0 by omega) (cini_ok codes 0) hn
  have G' : cGd γ.1 Θ (cup g a 0) (bnT τ a (ci + 1) 0) (bnH h a) := hG.mk (len := cK 0) hR ha (by omega) rfl (hn ρ σ (cag.rf hR.1))
  exact kk _ _ _ hq2 _ _ _ _ _ _ _ G' (r1.pushZ (x := va_rf (some a)) fun ρ' σ' hag => cv_P (r2 ρ' σ' hag))
/-- arrays: kind, role -/
noncomputable def cq_newa (b1 b2 : Nat) (T : cTb) (kd ro : Nat) (sq : cQ) : cQ := fun S lo st => cpv 0 st (fun x r => cond (cpos S.2.2.1.1 S.2.2.1.2.1 x.2.2) (cond (cpos S.2.2.1.1 S.2.2.1.2.1 (cpl 30000 (csc (-1) x.2.2))) (cond (Nat.ble (S.2.2.2.1 + 1) b1) (cond (Nat.ble (S.2.2.2.2 + (cmax S.2.2.1.1 x.2.2).toNat) b2) (cond (cnro T kd ro S x.2.2) (sq (cmk kd ro x.2.2 [] (cmax S.2.2.1.1 x.2.2).toNat S) lo (cP S.2.1 :: r)) false) false) false) false) false)
theorem cs_mka {kd ro : Nat} {p2 : Nat} (hkd : kd ≠ 0) (kk : cSn Θ γ p2 sq) (row : ∀ (lo' : List (Option Value)) (τ : bt) (h : bh) (nc ns : Nat) (n : Int) (r : List Value), 0 ≤ n → n ≤ 30000 → nc + 1 ≤ b1 → ns + n.toNat ≤ b2 → (∀ a, τ.1 a = 0 → bJ γ p2 lo' (.ref a :: r) (bnT τ a kd n.toNat) (bnH h a) (nc + 1) (ns + n.toNat)) → bJ γ pc lo' (.int (bz n) :: r) τ h nc ns) : cSn Θ γ pc (cq_newa b1 b2 Θ.1 kd ro sq) := by
  intro S lo st hq2 ρ σ g τ h lo' st' hG hR
  obtain ⟨x, r, rfl, hx, hq3⟩ := cpv_ok hq2
  obtain ⟨z, s1, rfl, gz, ez, e, hR1⟩ := hR.popI hx
  obtain ⟨c1, hq3⟩ := c_and hq3
  obtain ⟨c2, hq3⟩ := c_and hq3
  obtain ⟨c3, hq3⟩ := c_and hq3
  obtain ⟨c4, hq3⟩ := c_and hq3
  obtain ⟨c5, hq3⟩ := c_and hq3
  have hA := hR.at.1
  have c1 := cpos_ok hA.1 hA.2.1 c1
  have c2 := cpos_ok hA.1 hA.2.1 c2
  rw [cpl_ev, csc_ev, ← ez] at c2
  rw [← ez] at c1
  have c3 := Nat.ble_eq.mp c3
  have c4 := Nat.ble_eq.mp c4
  have e2 := le_cmax hA.1 x.2.2
  rw [← ez] at e2
  refine row _ _ _ _ _ z s1 c1 (by omega) c3 (by omega) fun a ha => ?_
  have hn : ∀ ρ' σ', cag S.1 S.2.1 ρ σ ρ' σ' → ((z.toNat : Nat) : Int) = cE ρ' x.2.2 := fun ρ' σ' hag => by rw [e ρ' σ' hag]; omega
  obtain ⟨r1, r2⟩ := hR1.mk (ro := ro) (fs := []) (ns := (cmax S.2.2.1.1 x.2.2).toNat) ha hkd (fun q hq => by cases hq) hn
  have G' := hG.mk hR1 ha hkd c5 (hn ρ σ (cag.rf hR.1))
  have := kk _ _ _ hq3 _ _ _ _ _ _ _ G' (r1.pushZ (x := va_rf (some a)) fun ρ' σ' hag => cv_P (r2 ρ' σ' hag))
  exact this.wide (Nat.le_refl _) (by show S.2.2.2.2 + z.toNat ≤ S.2.2.2.2 + (cmax S.2.2.1.1 x.2.2).toNat; omega)
theorem cs_newa {kd ro : Nat} {at_ : ArrayType} (C : bC γ y d b1 b2) (hkd : (kd % 20 = 1 ∧ at_ = .int) ∨ (kd % 20 = 2 ∧ at_ = .byte) ∨ (kd % 20 = 3 ∧ at_ = .boolean) ∨ (kd % 20 = 4 ∧ at_ = .long)) (ht : 21 ≤ kd) (harr : Cond.arrayClass (newarray.typeOf at_) ∈ bW) (hd : decode y.2.1 pc = .ok (.newarray at_, 2)) (kk : cSn Θ γ (pc + 2) sq) : cSn Θ γ pc (cq_newa b1 b2 Θ.1 kd ro sq) := cs_mka (by omega) kk fun _ _ _ _ _ _ _ h1 h2 h3 h4 k => b_newa C hkd ht harr hd h1 h2 h3 h4 k
theorem cs_anewa {kd ro idx : Nat} {Cn : String} (C : bC γ y d b1 b2) (hkd : (kd = 25 ∧ Cn = "SpanCopier$Word") ∨ (kd = 26 ∧ Cn = "SpanCopier$World")) (hcl : Cond.classLink y.1.cls idx Cn ∈ bW) (hd : decode y.2.1 pc = .ok (.anewarray idx, 3)) (kk : cSn Θ γ (pc + 3) sq) : cSn Θ γ pc (cq_newa b1 b2 Θ.1 kd ro sq) := cs_mka (by omega) kk fun _ _ _ _ _ _ _ h1 h2 h3 h4 k => b_anewa C hkd hcl hd h1 h2 h3 h4 k
/-! the topmost constructor -/
noncomputable def cq_obj (sq : cQ) : cQ := fun S lo st => cpv 1 st (fun v r => cop (cfi S.2.2.1.2.2.1 v.2.1) (fun q => cond q.2.2.2.1 false (cond (Nat.ble r.length 4) (sq S lo r) false)))
theorem c2_sum : ∀ {l : List cV} {k : List Value}, c2 (cv ρ σ) l k → (k.map fun v => v.category).sum ≤ 2 * l.length
  | [], [], _ => Nat.le_refl _
  | v :: l, x :: k, h => by
    have := c2_sum h.2
    have hx : x.category ≤ 2 := by cases x <;> simp [Value.category]
    simp only [List.map_cons, List.sum_cons, List.length_cons]
    omega
  | [], _ :: _, h => h.elim
  | _ :: _, [], h => h.elim
theorem cs_obj {idx : Nat} (C : bC γ y d b1 b2) (hlink : Cond.methodLink y.1.cls idx Lib.objectInit ∈ bW) (hin : Cond.instanceMethod Lib.objectInit ∈ bW) (hcode : Cond.code Lib.objectInit ⟨#[0xb1]⟩ 1 none ∈ bW) (hd : decode y.2.1 pc = .ok (.invokespecial idx, 3)) (kk : cSn Θ γ (pc + 3) sq) : cSn Θ γ pc (cq_obj sq) := by
  intro S lo st hq2 ρ σ g τ h lo' st' hG hR
  obtain ⟨v, r, rfl, hv, hq3⟩ := cpv_ok hq2
  obtain ⟨s1, rfl, e1, hR1⟩ := hR.popP hv
  obtain ⟨p, p1, hq4⟩ := cop_ok hq3
  obtain ⟨m1, m2⟩ := cfi_ok p1
  cases hb : p.2.2.2.1 with
  | true => rw [hb] at hq4; cases hq4
  | false =>
    rw [hb] at hq4
    obtain ⟨l1, hq5⟩ := c_and hq4
    have l1 := Nat.ble_eq.mp l1
    obtain ⟨a, a1, -⟩ := hR.cell m1 hb
    rw [m2] at a1
    rw [a1]
    exact b_obj C hlink hin hcode hd (Nat.le_trans (c2_sum hR1.at.2.2.1) (by omega)) (kk _ _ _ hq5 _ _ _ _ _ _ _ hG hR1)
end CMK
