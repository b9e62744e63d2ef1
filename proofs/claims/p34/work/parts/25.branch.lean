/-! ===== the checker: branches ===== -/
/-- c and a times s and what is at most m is not below 0: bounds of s -/
noncomputable def ctg (c a : Int) (s : Nat) (m : Int) (bd : cB) (S : cZ) : cZ := cond (cz (a + 1)) (cond (cge (c + m - (cbd bd s).2)) S (cbnd s (cbd bd s).1 (c + m) S)) (cond (cz (a - 1)) (cond (cge ((cbd bd s).1 + c + m)) S (cbnd s (-(c + m)) (cbd bd s).2 S)) S)
noncomputable def cub (bd : cB) (q : Nat × Int) : Int := cond (cge q.2) (q.2 * (cbd bd q.1).2) (q.2 * (cbd bd q.1).1)
theorem cub_ok {ρ : Nat → Int} {bd : cB} (h : cBo ρ bd) (q : Nat × Int) : q.2 * ρ q.1 ≤ cub bd q := by
  obtain ⟨b1, b2⟩ := cbd_ok h q.1
  unfold cub
  cases hc : cge q.2 with
  | true => exact Int.mul_le_mul_of_nonneg_left b2 (cge_iff.mp hc)
  | false =>
    have hq : q.2 ≤ 0 := by
      have : ¬ 0 ≤ q.2 := fun z => by rw [cge_iff.mpr z] at hc; cases hc
      omega
    exact Int.mul_le_mul_of_nonpos_left hq b1
noncomputable def cadj (e : cL) (S : cZ) : cZ := @List.rec (Nat × Int) (fun _ => cZ) S (fun q r _ => @List.rec (Nat × Int) (fun _ => cZ) (cond (cz (q.2 - 1)) (cond (cge ((cbd S.2.2.1.1 q.1).1 + e.1)) S (cbnd q.1 (-e.1) (cbd S.2.2.1.1 q.1).2 S)) (cond (cz (q.2 + 1)) (cond (cge (e.1 - (cbd S.2.2.1.1 q.1).2)) S (cbnd q.1 (cbd S.2.2.1.1 q.1).1 e.1 S)) (cknw e S))) (fun p r2 _ => @List.rec (Nat × Int) (fun _ => cZ) (ctg e.1 q.2 q.1 (cub S.2.2.1.1 p) S.2.2.1.1 (ctg e.1 p.2 p.1 (cub S.2.2.1.1 q) S.2.2.1.1 (cknw e S))) (fun _ _ _ => cknw e S) r2) r) e.2
noncomputable def casm (e : cL) (q : cQ) : cQ := fun S lo st => cond (cge (cmax S.2.2.1.1 e)) (q (cadj e S) lo st) true
section CBR
variable {Θ : cTh} {γ : bG} {y : bY} {d b1 b2 pc : Nat} {sq : cQ} {S : cZ} {ρ : Nat → Int} {σ : Nat → Option Nat} {g : Nat → Nat} {τ : bt} {h : bh} {lo st : List cV} {lo' : List (Option Value)} {st' : List Value}
theorem ctg_ns (c a : Int) (s : Nat) (m : Int) (bd : cB) (S : cZ) : (ctg c a s m bd S).2.2.2 = S.2.2.2 ∧ (ctg c a s m bd S).1 = S.1 ∧ (ctg c a s m bd S).2.1 = S.2.1 := by
  unfold ctg
  cases cz (a + 1) <;> cases cz (a - 1) <;> cases cge (c + m - (cbd bd s).2) <;> cases cge ((cbd bd s).1 + c + m) <;> exact ⟨rfl, rfl, rfl⟩
theorem cRl.tg {c a m : Int} {s : Nat} {bd : cB} (hR : cRl Θ S ρ σ g τ h lo st lo' st') (he : ∀ ρ' σ', cag S.1 S.2.1 ρ σ ρ' σ' → cBo ρ' bd ∧ 0 ≤ c + a * ρ' s + m) : cRl Θ (ctg c a s m bd S) ρ σ g τ h lo st lo' st' := by
  unfold ctg
  cases h1 : cz (a + 1) with
  | true =>
    have h1 : a + 1 = 0 := of_decide_eq_true h1
    have h1 : a = -1 := by omega
    cases cge (c + m - (cbd bd s).2) with
    | true => exact hR
    | false =>
      refine hR.bnd fun ρ' σ' ha => ?_
      obtain ⟨a1, a2⟩ := he ρ' σ' ha
      have a3 := cbd_ok a1 s
      rw [h1] at a2
      omega
  | false =>
    cases h2 : cz (a - 1) with
    | true =>
      have h2 : a - 1 = 0 := of_decide_eq_true h2
      have h2 : a = 1 := by omega
      cases cge ((cbd bd s).1 + c + m) with
      | true => exact hR
      | false =>
        refine hR.bnd fun ρ' σ' ha => ?_
        obtain ⟨a1, a2⟩ := he ρ' σ' ha
        have a3 := cbd_ok a1 s
        rw [h2] at a2
        omega
    | false => exact hR
theorem cadj_ns (e : cL) (S : cZ) : (cadj e S).2.2.2 = S.2.2.2 ∧ (cadj e S).1 = S.1 ∧ (cadj e S).2.1 = S.2.1 := by
  obtain ⟨c, l⟩ := e
  unfold cadj
  cases l with
  | nil => exact ⟨rfl, rfl, rfl⟩
  | cons q r =>
    cases r with
    | cons p r2 =>
      cases r2 with
      | cons => exact ⟨rfl, rfl, rfl⟩
      | nil =>
        show (ctg c q.2 q.1 (cub S.2.2.1.1 p) S.2.2.1.1 (ctg c p.2 p.1 (cub S.2.2.1.1 q) S.2.2.1.1 (cknw (c, [q, p]) S))).2.2.2 = _ ∧ (ctg c q.2 q.1 (cub S.2.2.1.1 p) S.2.2.1.1 (ctg c p.2 p.1 (cub S.2.2.1.1 q) S.2.2.1.1 (cknw (c, [q, p]) S))).1 = _ ∧ (ctg c q.2 q.1 (cub S.2.2.1.1 p) S.2.2.1.1 (ctg c p.2 p.1 (cub S.2.2.1.1 q) S.2.2.1.1 (cknw (c, [q, p]) S))).2.1 = _
        obtain ⟨x1, x2, x3⟩ := ctg_ns c q.2 q.1 (cub S.2.2.1.1 p) S.2.2.1.1 (ctg c p.2 p.1 (cub S.2.2.1.1 q) S.2.2.1.1 (cknw (c, [q, p]) S))
        obtain ⟨y1, y2, y3⟩ := ctg_ns c p.2 p.1 (cub S.2.2.1.1 q) S.2.2.1.1 (cknw (c, [q, p]) S)
        exact ⟨x1.trans y1, x2.trans y2, x3.trans y3⟩
    | nil =>
      show (cond (cz (q.2 - 1)) (cond (cge ((cbd S.2.2.1.1 q.1).1 + c)) S (cbnd q.1 (-c) (cbd S.2.2.1.1 q.1).2 S)) (cond (cz (q.2 + 1)) (cond (cge (c - (cbd S.2.2.1.1 q.1).2)) S (cbnd q.1 (cbd S.2.2.1.1 q.1).1 c S)) (cknw (c, [q]) S))).2.2.2 = _ ∧ (cond (cz (q.2 - 1)) (cond (cge ((cbd S.2.2.1.1 q.1).1 + c)) S (cbnd q.1 (-c) (cbd S.2.2.1.1 q.1).2 S)) (cond (cz (q.2 + 1)) (cond (cge (c - (cbd S.2.2.1.1 q.1).2)) S (cbnd q.1 (cbd S.2.2.1.1 q.1).1 c S)) (cknw (c, [q]) S))).1 = _ ∧ (cond (cz (q.2 - 1)) (cond (cge ((cbd S.2.2.1.1 q.1).1 + c)) S (cbnd q.1 (-c) (cbd S.2.2.1.1 q.1).2 S)) (cond (cz (q.2 + 1)) (cond (cge (c - (cbd S.2.2.1.1 q.1).2)) S (cbnd q.1 (cbd S.2.2.1.1 q.1).1 c S)) (cknw (c, [q]) S))).2.1 = _
      cases cz (q.2 - 1) <;> cases cz (q.2 + 1) <;> cases cge ((cbd S.2.2.1.1 q.1).1 + c) <;> cases cge (c - (cbd S.2.2.1.1 q.1).2) <;> exact ⟨rfl, rfl, rfl⟩
theorem cRl.adj {e : cL} (hR : cRl Θ S ρ σ g τ h lo st lo' st') (he : ∀ ρ' σ', cag S.1 S.2.1 ρ σ ρ' σ' → 0 ≤ cE ρ' e) : cRl Θ (cadj e S) ρ σ g τ h lo st lo' st' := by
  obtain ⟨c, l⟩ := e
  unfold cadj
  cases l with
  | nil => exact hR
  | cons q r =>
    cases r with
    | cons p r2 =>
      cases r2 with
      | cons => exact hR.knw he
      | nil =>
        have ev : ∀ ρ' : Nat → Int, cE ρ' (c, [q, p]) = c + q.2 * ρ' q.1 + p.2 * ρ' p.1 := fun ρ' => by show c + cev ρ' [q, p] = _; rw [cev_cons, cev_cons, cev_nil]; omega
        have h1 : cRl Θ (ctg c p.2 p.1 (cub S.2.2.1.1 q) S.2.2.1.1 (cknw (c, [q, p]) S)) ρ σ g τ h lo st lo' st' := (hR.knw he).tg fun ρ' σ' ha => by
          have a1 := he ρ' σ' ha
          have a2 := (hR.2 ρ' σ' ha).1.1
          have a3 := cub_ok a2 q
          rw [ev] at a1
          exact ⟨a2, by omega⟩
        refine h1.tg fun ρ' σ' ha => ?_
        obtain ⟨y1, y2, y3⟩ := ctg_ns c p.2 p.1 (cub S.2.2.1.1 q) S.2.2.1.1 (cknw (c, [q, p]) S)
        rw [y2, y3] at ha
        have a1 := he ρ' σ' ha
        have a2 := (hR.2 ρ' σ' ha).1.1
        have a3 := cub_ok a2 p
        rw [ev] at a1
        exact ⟨a2, by omega⟩
    | nil =>
      have ev : ∀ ρ' : Nat → Int, cE ρ' (c, [q]) = c + q.2 * ρ' q.1 := fun ρ' => by show c + cev ρ' [q] = _; rw [cev_cons, cev_nil]; omega
      show cRl Θ (cond (cz (q.2 - 1)) (cond (cge ((cbd S.2.2.1.1 q.1).1 + c)) S (cbnd q.1 (-c) (cbd S.2.2.1.1 q.1).2 S)) (cond (cz (q.2 + 1)) (cond (cge (c - (cbd S.2.2.1.1 q.1).2)) S (cbnd q.1 (cbd S.2.2.1.1 q.1).1 c S)) (cknw (c, [q]) S))) ρ σ g τ h lo st lo' st'
      cases h1 : cz (q.2 - 1) with
      | true =>
        have h1 : q.2 - 1 = 0 := of_decide_eq_true h1
        have h1 : q.2 = 1 := by omega
        cases cge ((cbd S.2.2.1.1 q.1).1 + c) with
        | true => exact hR
        | false =>
          refine hR.bnd fun ρ' σ' ha => ?_
          have a1 := he ρ' σ' ha
          have a2 := cbd_ok (hR.2 ρ' σ' ha).1.1 q.1
          rw [ev, h1] at a1
          omega
      | false =>
        cases h2 : cz (q.2 + 1) with
        | true =>
          have h2 : q.2 + 1 = 0 := of_decide_eq_true h2
          have h2 : q.2 = -1 := by omega
          cases cge (c - (cbd S.2.2.1.1 q.1).2) with
          | true => exact hR
          | false =>
            refine hR.bnd fun ρ' σ' ha => ?_
            have a1 := he ρ' σ' ha
            have a2 := cbd_ok (hR.2 ρ' σ' ha).1.1 q.1
            rw [ev, h2] at a1
            omega
        | false => exact hR.knw he
theorem cs_asm {e : cL} {q : cQ} {s2 : List Value} (k : ∀ S2 : cZ, q S2 lo st = true → S2.1 = S.1 → S2.2.1 = S.2.1 → cRl Θ S2 ρ σ g τ h lo st lo' st' → bJ γ pc lo' s2 τ h S2.2.2.2.1 S2.2.2.2.2) (hq : casm e q S lo st = true) (hR : cRl Θ S ρ σ g τ h lo st lo' st') (he : ∀ ρ' σ', cag S.1 S.2.1 ρ σ ρ' σ' → 0 ≤ cE ρ' e) : bJ γ pc lo' s2 τ h S.2.2.2.1 S.2.2.2.2 := by
  unfold casm at hq
  have e1 := le_cmax hR.at.1.1 e
  have e2 := he ρ σ (cag.rf hR.1)
  rw [cge_iff.mpr (show 0 ≤ cmax S.2.2.1.1 e by omega)] at hq
  have := k _ hq (cadj_ns e S).2.1 (cadj_ns e S).2.2 (hR.adj he)
  rwa [(cadj_ns e S).1] at this
/-- where e is so: 0 eq, 1 ne, 2 lt, 3 ge, 4 gt, 5 le -/
noncomputable def cbr (o : Nat) (e : cL) (q : cQ) : cQ :=
  cond (Nat.beq o 0) (casm e (casm (csc (-1) e) q)) (cond (Nat.beq o 1) (fun S lo st => cond (cge (cmin S.2.2.1.1 e)) (casm (cpl (-1) e) q S lo st) (cond (cge (- cmax S.2.2.1.1 e)) (casm (cpl (-1) (csc (-1) e)) q S lo st) (q S lo st))) (cond (Nat.beq o 2) (casm (cpl (-1) (csc (-1) e)) q) (cond (Nat.beq o 3) (casm e q) (cond (Nat.beq o 4) (casm (cpl (-1) e) q) (casm (csc (-1) e) q)))))
def chl (o : Nat) (z : Int) : Prop := if o = 0 then z = 0 else if o = 1 then z ≠ 0 else if o = 2 then z < 0 else if o = 3 then 0 ≤ z else if o = 4 then 0 < z else z ≤ 0
theorem cs_br {o : Nat} {e : cL} {z : Int} {q : cQ} (k : cSn Θ γ pc q) (ho : o ≤ 5) (hq : cbr o e q S lo st = true) (hG : cGd γ.1 Θ g τ h) (hR : cRl Θ S ρ σ g τ h lo st lo' st') (hz : ∀ ρ' σ', cag S.1 S.2.1 ρ σ ρ' σ' → cE ρ' e = z) (hh : chl o z) : bJ γ pc lo' st' τ h S.2.2.2.1 S.2.2.2.2 := by
  have K : ∀ S2 : cZ, q S2 lo st = true → S2.1 = S.1 → S2.2.1 = S.2.1 → cRl Θ S2 ρ σ g τ h lo st lo' st' → bJ γ pc lo' st' τ h S2.2.2.2.1 S2.2.2.2.2 := fun S2 h1 _ _ h2 => k S2 lo st h1 _ _ _ _ _ _ _ hG h2
  match o, ho with
  | 0, _ =>
    have hh : z = 0 := hh
    refine cs_asm (q := casm (csc (-1) e) q) (fun S' q1 s1 s2 r1 => ?_) hq hR fun ρ' σ' ha => by rw [hz ρ' σ' ha]; omega
    refine cs_asm (fun S2 h1 _ _ h2 => k S2 lo st h1 _ _ _ _ _ _ _ hG h2) q1 r1 fun ρ' σ' ha => ?_
    rw [s1, s2] at ha
    rw [csc_ev, hz ρ' σ' ha]
    omega
  | 1, _ =>
    have hh : z ≠ 0 := hh
    change cond (cge (cmin S.2.2.1.1 e)) (casm (cpl (-1) e) q S lo st) (cond (cge (- cmax S.2.2.1.1 e)) (casm (cpl (-1) (csc (-1) e)) q S lo st) (q S lo st)) = true at hq
    have e1 := cmin_le hR.at.1.1 e
    have e2 := le_cmax hR.at.1.1 e
    rw [hz ρ σ (cag.rf hR.1)] at e1 e2
    cases c1 : cge (cmin S.2.2.1.1 e) with
    | true =>
      rw [c1] at hq
      have c1 := cge_iff.mp c1
      exact cs_asm K hq hR fun ρ' σ' ha => by rw [cpl_ev, hz ρ' σ' ha]; omega
    | false =>
      rw [c1] at hq
      cases c2 : cge (- cmax S.2.2.1.1 e) with
      | true =>
        rw [c2] at hq
        have c2 := cge_iff.mp c2
        exact cs_asm K hq hR fun ρ' σ' ha => by rw [cpl_ev, csc_ev, hz ρ' σ' ha]; omega
      | false =>
        rw [c2] at hq
        exact K S hq rfl rfl hR
  | 2, _ =>
    have hh : z < 0 := hh
    exact cs_asm K hq hR fun ρ' σ' ha => by rw [cpl_ev, csc_ev, hz ρ' σ' ha]; omega
  | 3, _ =>
    have hh : 0 ≤ z := hh
    exact cs_asm K hq hR fun ρ' σ' ha => by rw [hz ρ' σ' ha]; omega
  | 4, _ =>
    have hh : 0 < z := hh
    exact cs_asm K hq hR fun ρ' σ' ha => by rw [cpl_ev, hz ρ' σ' ha]; omega
  | 5, _ =>
    have hh : z ≤ 0 := hh
    exact cs_asm K hq hR fun ρ' σ' ha => by rw [csc_ev, hz ρ' σ' ha]; omega
/-- two ints beside one another; t where it is so, f where not -/
noncomputable def cq_icmp (o n : Nat) (t f : cQ) : cQ := fun S lo st => cpv 0 st (fun b r => cpv 0 r (fun a r => cond (cbr o (csub a.2.2 b.2.2) t S lo r) (cbr n (csub a.2.2 b.2.2) f S lo r) false))
theorem cs_icmp {o n : Nat} {t : Nat} {tq fq : cQ} (ho : o ≤ 5) (hn : n ≤ 5) (kt : cSn Θ γ t tq) (kf : cSn Θ γ (pc + 3) fq) (row : ∀ (lo' : List (Option Value)) (τ : bt) (h : bh) (nc ns : Nat) (a b : Int) (r : List Value), brg a → brg b → (chl o (a - b) → bJ γ t lo' r τ h nc ns) → (chl n (a - b) → bJ γ (pc + 3) lo' r τ h nc ns) → bJ γ pc lo' (.int (bz b) :: .int (bz a) :: r) τ h nc ns) : cSn Θ γ pc (cq_icmp o n tq fq) := by
  intro S lo st hq ρ σ g τ h lo' st' hG hR
  obtain ⟨b, r, rfl, hb, hq⟩ := cpv_ok hq
  obtain ⟨a, r, rfl, ha, hq⟩ := cpv_ok hq
  obtain ⟨zb, s1, rfl, gb, -, e1, hR1⟩ := hR.popI hb
  obtain ⟨za, s2, rfl, ga, -, e2, hR2⟩ := hR1.popI ha
  obtain ⟨q1, q2⟩ := c_and hq
  have ee : ∀ ρ' σ', cag S.1 S.2.1 ρ σ ρ' σ' → cE ρ' (csub a.2.2 b.2.2) = za - zb := fun ρ' σ' h => by rw [csub_ev, e1 ρ' σ' h, e2 ρ' σ' h]
  exact row _ _ _ _ _ _ _ _ ga gb (fun hh => cs_br kt ho q1 hG hR2 ee hh) (fun hh => cs_br kf hn q2 hG hR2 ee hh)
noncomputable def cq_if (o n : Nat) (t f : cQ) : cQ := fun S lo st => cpv 0 st (fun a r => cond (cbr o a.2.2 t S lo r) (cbr n a.2.2 f S lo r) false)
theorem cs_if {o n : Nat} {t : Nat} {tq fq : cQ} (ho : o ≤ 5) (hn : n ≤ 5) (kt : cSn Θ γ t tq) (kf : cSn Θ γ (pc + 3) fq) (row : ∀ (lo' : List (Option Value)) (τ : bt) (h : bh) (nc ns : Nat) (a : Int) (r : List Value), brg a → (chl o a → bJ γ t lo' r τ h nc ns) → (chl n a → bJ γ (pc + 3) lo' r τ h nc ns) → bJ γ pc lo' (.int (bz a) :: r) τ h nc ns) : cSn Θ γ pc (cq_if o n tq fq) := by
  intro S lo st hq ρ σ g τ h lo' st' hG hR
  obtain ⟨a, r, rfl, ha, hq⟩ := cpv_ok hq
  obtain ⟨za, s2, rfl, ga, -, e2, hR2⟩ := hR.popI ha
  obtain ⟨q1, q2⟩ := c_and hq
  exact row _ _ _ _ _ _ _ ga (fun hh => cs_br kt ho q1 hG hR2 e2 hh) (fun hh => cs_br kf hn q2 hG hR2 e2 hh)
theorem cs_icmp_eq {off : Int} {t : Nat} {tq fq : cQ} (C : bC γ y d b1 b2) (hd : decode y.2.1 pc = .ok (.if_icmp .eq off, 3)) (ht : (pc : Int) + off = (t : Int)) (kt : cSn Θ γ t tq) (kf : cSn Θ γ (pc + 3) fq) : cSn Θ γ pc (cq_icmp 0 1 tq fq) := cs_icmp (by omega) (by omega) kt kf fun lo' τ h nc ns a b r ga gb k1 k2 => b_icmp_eq C hd ht ga gb (fun z => k1 (show (a - b) = 0 by omega)) (fun z => k2 (show (a - b) ≠ 0 by omega))
theorem cs_if_eq {off : Int} {t : Nat} {tq fq : cQ} (C : bC γ y d b1 b2) (hd : decode y.2.1 pc = .ok (.ifCond .eq off, 3)) (ht : (pc : Int) + off = (t : Int)) (kt : cSn Θ γ t tq) (kf : cSn Θ γ (pc + 3) fq) : cSn Θ γ pc (cq_if 0 1 tq fq) := cs_if (by omega) (by omega) kt kf fun lo' τ h nc ns a r ga k1 k2 => b_if_eq C hd ht ga (fun z => k1 (show a = 0 by omega)) (fun z => k2 (show a ≠ 0 by omega))
theorem cs_icmp_ne {off : Int} {t : Nat} {tq fq : cQ} (C : bC γ y d b1 b2) (hd : decode y.2.1 pc = .ok (.if_icmp .ne off, 3)) (ht : (pc : Int) + off = (t : Int)) (kt : cSn Θ γ t tq) (kf : cSn Θ γ (pc + 3) fq) : cSn Θ γ pc (cq_icmp 1 0 tq fq) := cs_icmp (by omega) (by omega) kt kf fun lo' τ h nc ns a b r ga gb k1 k2 => b_icmp_ne C hd ht ga gb (fun z => k1 (show (a - b) ≠ 0 by omega)) (fun z => k2 (show (a - b) = 0 by omega))
theorem cs_if_ne {off : Int} {t : Nat} {tq fq : cQ} (C : bC γ y d b1 b2) (hd : decode y.2.1 pc = .ok (.ifCond .ne off, 3)) (ht : (pc : Int) + off = (t : Int)) (kt : cSn Θ γ t tq) (kf : cSn Θ γ (pc + 3) fq) : cSn Θ γ pc (cq_if 1 0 tq fq) := cs_if (by omega) (by omega) kt kf fun lo' τ h nc ns a r ga k1 k2 => b_if_ne C hd ht ga (fun z => k1 (show a ≠ 0 by omega)) (fun z => k2 (show a = 0 by omega))
theorem cs_icmp_lt {off : Int} {t : Nat} {tq fq : cQ} (C : bC γ y d b1 b2) (hd : decode y.2.1 pc = .ok (.if_icmp .lt off, 3)) (ht : (pc : Int) + off = (t : Int)) (kt : cSn Θ γ t tq) (kf : cSn Θ γ (pc + 3) fq) : cSn Θ γ pc (cq_icmp 2 3 tq fq) := cs_icmp (by omega) (by omega) kt kf fun lo' τ h nc ns a b r ga gb k1 k2 => b_icmp_lt C hd ht ga gb (fun z => k1 (show (a - b) < 0 by omega)) (fun z => k2 (show 0 ≤ a - b by omega))
theorem cs_if_lt {off : Int} {t : Nat} {tq fq : cQ} (C : bC γ y d b1 b2) (hd : decode y.2.1 pc = .ok (.ifCond .lt off, 3)) (ht : (pc : Int) + off = (t : Int)) (kt : cSn Θ γ t tq) (kf : cSn Θ γ (pc + 3) fq) : cSn Θ γ pc (cq_if 2 3 tq fq) := cs_if (by omega) (by omega) kt kf fun lo' τ h nc ns a r ga k1 k2 => b_if_lt C hd ht ga (fun z => k1 (show a < 0 by omega)) (fun z => k2 (show 0 ≤ a by omega))
theorem cs_icmp_ge {off : Int} {t : Nat} {tq fq : cQ} (C : bC γ y d b1 b2) (hd : decode y.2.1 pc = .ok (.if_icmp .ge off, 3)) (ht : (pc : Int) + off = (t : Int)) (kt : cSn Θ γ t tq) (kf : cSn Θ γ (pc + 3) fq) : cSn Θ γ pc (cq_icmp 3 2 tq fq) := cs_icmp (by omega) (by omega) kt kf fun lo' τ h nc ns a b r ga gb k1 k2 => b_icmp_ge C hd ht ga gb (fun z => k1 (show 0 ≤ a - b by omega)) (fun z => k2 (show (a - b) < 0 by omega))
theorem cs_if_ge {off : Int} {t : Nat} {tq fq : cQ} (C : bC γ y d b1 b2) (hd : decode y.2.1 pc = .ok (.ifCond .ge off, 3)) (ht : (pc : Int) + off = (t : Int)) (kt : cSn Θ γ t tq) (kf : cSn Θ γ (pc + 3) fq) : cSn Θ γ pc (cq_if 3 2 tq fq) := cs_if (by omega) (by omega) kt kf fun lo' τ h nc ns a r ga k1 k2 => b_if_ge C hd ht ga (fun z => k1 (show 0 ≤ a by omega)) (fun z => k2 (show a < 0 by omega))
theorem cs_icmp_gt {off : Int} {t : Nat} {tq fq : cQ} (C : bC γ y d b1 b2) (hd : decode y.2.1 pc = .ok (.if_icmp .gt off, 3)) (ht : (pc : Int) + off = (t : Int)) (kt : cSn Θ γ t tq) (kf : cSn Θ γ (pc + 3) fq) : cSn Θ γ pc (cq_icmp 4 5 tq fq) := cs_icmp (by omega) (by omega) kt kf fun lo' τ h nc ns a b r ga gb k1 k2 => b_icmp_gt C hd ht ga gb (fun z => k1 (show 0 < a - b by omega)) (fun z => k2 (show (a - b) ≤ 0 by omega))
theorem cs_if_gt {off : Int} {t : Nat} {tq fq : cQ} (C : bC γ y d b1 b2) (hd : decode y.2.1 pc = .ok (.ifCond .gt off, 3)) (ht : (pc : Int) + off = (t : Int)) (kt : cSn Θ γ t tq) (kf : cSn Θ γ (pc + 3) fq) : cSn Θ γ pc (cq_if 4 5 tq fq) := cs_if (by omega) (by omega) kt kf fun lo' τ h nc ns a r ga k1 k2 => b_if_gt C hd ht ga (fun z => k1 (show 0 < a by omega)) (fun z => k2 (show a ≤ 0 by omega))
theorem cs_icmp_le {off : Int} {t : Nat} {tq fq : cQ} (C : bC γ y d b1 b2) (hd : decode y.2.1 pc = .ok (.if_icmp .le off, 3)) (ht : (pc : Int) + off = (t : Int)) (kt : cSn Θ γ t tq) (kf : cSn Θ γ (pc + 3) fq) : cSn Θ γ pc (cq_icmp 5 4 tq fq) := cs_icmp (by omega) (by omega) kt kf fun lo' τ h nc ns a b r ga gb k1 k2 => b_icmp_le C hd ht ga gb (fun z => k1 (show (a - b) ≤ 0 by omega)) (fun z => k2 (show 0 < a - b by omega))
theorem cs_if_le {off : Int} {t : Nat} {tq fq : cQ} (C : bC γ y d b1 b2) (hd : decode y.2.1 pc = .ok (.ifCond .le off, 3)) (ht : (pc : Int) + off = (t : Int)) (kt : cSn Θ γ t tq) (kf : cSn Θ γ (pc + 3) fq) : cSn Θ γ pc (cq_if 5 4 tq fq) := cs_if (by omega) (by omega) kt kf fun lo' τ h nc ns a r ga k1 k2 => b_if_le C hd ht ga (fun z => k1 (show a ≤ 0 by omega)) (fun z => k2 (show 0 < a by omega))
theorem cs_goto {off : Int} {t : Nat} {tq : cQ} (C : bC γ y d b1 b2) (hd : decode y.2.1 pc = .ok (.goto off, 3)) (ht : (pc : Int) + off = (t : Int)) (kt : cSn Θ γ t tq) : cSn Θ γ pc tq := fun S lo st hq ρ σ g τ h lo' st' hG hR => b_goto C hd ht (kt S lo st hq ρ σ g τ h lo' st' hG hR)
/-! two references -/
theorem cRl.popA {v : cV} (h0 : crq v = true) (hR : cRl Θ S ρ σ g τ h lo (v :: st) lo' st') : ∃ o r, st' = va_rf o :: r ∧ (∀ ρ' σ', cag S.1 S.2.1 ρ σ ρ' σ' → cv ρ' σ' v (va_rf o)) ∧ cRl Θ S ρ σ g τ h lo st lo' r := by
  obtain ⟨x, r, h1, h2, h3⟩ := hR.pop
  obtain ⟨o, rfl⟩ := cv_ref (crq_ok h0) (h2 ρ σ (cag.rf hR.1))
  exact ⟨o, r, h1, h2, h3⟩
noncomputable def cq_acmp (t f : cQ) : cQ := fun S lo st => cpx st (fun b r => cond (crq b) (cpx r (fun a r => cond (crq a) (cond (t S lo r) (f S lo r) false) false)) false)
theorem cs_acmp {t : Nat} {tq fq : cQ} (kt : cSn Θ γ t tq) (kf : cSn Θ γ (pc + 3) fq) (row : ∀ (lo' : List (Option Value)) (τ : bt) (h : bh) (nc ns : Nat) (o q : Option Nat) (r : List Value), bJ γ t lo' r τ h nc ns → bJ γ (pc + 3) lo' r τ h nc ns → bJ γ pc lo' (va_rf q :: va_rf o :: r) τ h nc ns) : cSn Θ γ pc (cq_acmp tq fq) := by
  intro S lo st hq ρ σ g τ h lo' st' hG hR
  obtain ⟨b, r, rfl, hq⟩ := cpx_ok hq
  obtain ⟨hb, hq⟩ := c_and hq
  obtain ⟨a, r, rfl, hq⟩ := cpx_ok hq
  obtain ⟨ha, hq⟩ := c_and hq
  obtain ⟨q1, q2⟩ := c_and hq
  obtain ⟨ob, s1, rfl, -, hR1⟩ := hR.popA hb
  obtain ⟨oa, s2, rfl, -, hR2⟩ := hR1.popA ha
  exact row _ _ _ _ _ _ _ _ (kt _ _ _ q1 _ _ _ _ _ _ _ hG hR2) (kf _ _ _ q2 _ _ _ _ _ _ _ hG hR2)
theorem cs_acmp_eq {off : Int} {t : Nat} {tq fq : cQ} (C : bC γ y d b1 b2) (hd : decode y.2.1 pc = .ok (.if_acmp .eq off, 3)) (ht : (pc : Int) + off = (t : Int)) (kt : cSn Θ γ t tq) (kf : cSn Θ γ (pc + 3) fq) : cSn Θ γ pc (cq_acmp tq fq) := cs_acmp kt kf fun _ _ _ _ _ _ _ _ k1 k2 => b_acmp_eq C hd ht (fun _ => k1) (fun _ => k2)
theorem cs_acmp_ne {off : Int} {t : Nat} {tq fq : cQ} (C : bC γ y d b1 b2) (hd : decode y.2.1 pc = .ok (.if_acmp .ne off, 3)) (ht : (pc : Int) + off = (t : Int)) (kt : cSn Θ γ t tq) (kf : cSn Θ γ (pc + 3) fq) : cSn Θ γ pc (cq_acmp tq fq) := cs_acmp kt kf fun _ _ _ _ _ _ _ _ k1 k2 => b_acmp_ne C hd ht (fun _ => k1) (fun _ => k2)
/-! null or not -/
/-- what is known of a reference -/
noncomputable def cfi (l : List cRf) (s : Nat) : Option cRf := @List.rec cRf (fun _ => Option cRf) none (fun q _ ih => cond (Nat.beq q.1 s) (some q) ih) l
theorem cfi_ok {l : List cRf} {s : Nat} {q : cRf} (h : cfi l s = some q) : q ∈ l ∧ q.1 = s := by
  induction l with
  | nil => cases h
  | cons p r ih =>
    change cond (Nat.beq p.1 s) (some p) (cfi r s) = some q at h
    cases hb : Nat.beq p.1 s with
    | true => rw [hb] at h; cases h; exact ⟨List.mem_cons_self, Nat.eq_of_beq_eq_true hb⟩
    | false => rw [hb] at h; obtain ⟨h1, h2⟩ := ih h; exact ⟨List.mem_cons_of_mem _ h1, h2⟩
def caddR (q : cRf) (S : cZ) : cZ := (S.1, S.2.1, (S.2.2.1.1, S.2.2.1.2.1, q :: S.2.2.1.2.2.1, S.2.2.1.2.2.2), S.2.2.2)
theorem cRl.addR {q : cRf} (hR : cRl Θ S ρ σ g τ h lo st lo' st') (hq : ∀ ρ' σ', cag S.1 S.2.1 ρ σ ρ' σ' → crf ρ' σ' g τ q) : cRl Θ (caddR q S) ρ σ g τ h lo st lo' st' := by
  obtain ⟨n, m, A, nc, ns⟩ := S
  refine hR.map fun ρ' σ' ha h1 h2 => ⟨⟨h1.1, h1.2.1, fun p hp => ?_, h1.2.2.2⟩, h2⟩
  rcases List.mem_cons.mp hp with rfl | hp
  · exact hq ρ' σ' ha
  · exact h1.2.2.1 p hp
noncomputable def cq_nul (t f : cQ) : cQ := fun S lo st => cpx st (fun v r => cond (Nat.beq v.1 2) (t S lo r) (cond (Nat.beq v.1 1) (cop (cfi S.2.2.1.2.2.1 v.2.1) (fun q => cond (cond q.2.2.2.1 (t S lo r) true) (f (caddR (q.1, q.2.1, q.2.2.1, false, q.2.2.2.2) S) lo r) false)) false))
theorem cs_nul {tn tf : Nat} {tq fq : cQ} (kt : cSn Θ γ tn tq) (kf : cSn Θ γ tf fq) (row : ∀ (lo' : List (Option Value)) (τ : bt) (h : bh) (nc ns : Nat) (o : Option Nat) (r : List Value), (o = none → bJ γ tn lo' r τ h nc ns) → (∀ a, o = some a → bJ γ tf lo' r τ h nc ns) → bJ γ pc lo' (va_rf o :: r) τ h nc ns) : cSn Θ γ pc (cq_nul tq fq) := by
  intro S lo st hq ρ σ g τ h lo' st' hG hR
  obtain ⟨v, r, rfl, hq2⟩ := cpx_ok hq
  clear hq
  have hq := hq2
  clear hq2
  cases h2 : Nat.beq v.1 2 with
  | true =>
    rw [h2] at hq
    have h2 := Nat.eq_of_beq_eq_true h2
    obtain ⟨x, s1, rfl, e1, hR1⟩ := hR.pop
    rcases e1 ρ σ (cag.rf hR.1) with ⟨h, -⟩ | ⟨h, -⟩ | ⟨-, rfl⟩ | ⟨h, -⟩
    · omega
    · omega
    · exact row _ _ _ _ _ _ _ (fun _ => kt _ _ _ hq _ _ _ _ _ _ _ hG hR1) (fun a ha => by cases ha)
    · omega
  | false =>
    rw [h2] at hq
    obtain ⟨h1, hq⟩ := c_and hq
    have h1 := Nat.eq_of_beq_eq_true h1
    obtain ⟨q, hf, hq⟩ := cop_ok hq
    obtain ⟨q1, q2⟩ := c_and hq
    obtain ⟨hm, hs⟩ := cfi_ok hf
    obtain ⟨s1, rfl, e1, hR1⟩ := hR.popP h1
    refine row _ _ _ _ _ _ _ (fun hn => ?_) (fun a ha => ?_)
    · cases hb : q.2.2.2.1 with
      | true => rw [hb] at q1; exact kt _ _ _ q1 _ _ _ _ _ _ _ hG hR1
      | false =>
        rcases hR.at.1.2.2.1 q hm with ⟨h, -⟩ | ⟨a, h, -⟩
        · rw [hb] at h; cases h
        · rw [hs, hn] at h; cases h
    · refine kf _ _ _ q2 _ _ _ _ _ _ _ hG (hR1.addR fun ρ' σ' hag => ?_)
      have e := va_rf_inj (e1 ρ' σ' hag)
      rcases (hR.2 ρ' σ' hag).1.2.2.1 q hm with ⟨-, h⟩ | h
      · rw [hs, e, ha] at h; cases h
      · exact Or.inr h
theorem cs_ifnull {off : Int} {t : Nat} {tq fq : cQ} (C : bC γ y d b1 b2) (hd : decode y.2.1 pc = .ok (.ifnull off, 3)) (ht : (pc : Int) + off = (t : Int)) (kt : cSn Θ γ t tq) (kf : cSn Θ γ (pc + 3) fq) : cSn Θ γ pc (cq_nul tq fq) := cs_nul kt kf fun _ _ _ _ _ _ _ k1 k2 => b_ifnull C hd ht k1 k2
theorem cs_ifnonnull {off : Int} {t : Nat} {tq fq : cQ} (C : bC γ y d b1 b2) (hd : decode y.2.1 pc = .ok (.ifnonnull off, 3)) (ht : (pc : Int) + off = (t : Int)) (kt : cSn Θ γ t tq) (kf : cSn Θ γ (pc + 3) fq) : cSn Θ γ pc (cq_nul fq tq) := cs_nul kf kt fun _ _ _ _ _ _ _ k1 k2 => b_ifnonnull C hd ht k2 k1
end CBR
