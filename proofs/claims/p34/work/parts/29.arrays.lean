/-! ===== the checker: arrays that are read ===== -/
def cmn (a b : Int) : Int := cond (cge (b - a)) a b
def cmx (a b : Int) : Int := cond (cge (b - a)) b a
theorem cmn_ok (a b : Int) : cmn a b ≤ a ∧ cmn a b ≤ b := by
  unfold cmn
  cases h : cge (b - a) with
  | true => have := cge_iff.mp h; exact ⟨Int.le_refl _, by show a ≤ b; omega⟩
  | false => have : ¬ 0 ≤ b - a := fun z => by rw [cge_iff.mpr z] at h; cases h
             exact ⟨by show b ≤ a; omega, Int.le_refl _⟩
theorem cmx_ok (a b : Int) : a ≤ cmx a b ∧ b ≤ cmx a b := by
  unfold cmx
  cases h : cge (b - a) with
  | true => have := cge_iff.mp h; exact ⟨by show a ≤ b; omega, Int.le_refl _⟩
  | false => have : ¬ 0 ≤ b - a := fun z => by rw [cge_iff.mpr z] at h; cases h
             exact ⟨Int.le_refl _, by show b ≤ a; omega⟩
def crng (t : cS) : Int × Int := cond (Nat.beq t.1 0) (t.2.1, t.2.2.1) (cmL, cmH)
theorem crng_ok {g : Nat → Nat} {h : bh} {a i : Nat} {t : cS} (hc : cok g h a i t) (hb : brg (h.1 a i)) : (crng t).1 ≤ h.1 a i ∧ h.1 a i ≤ (crng t).2 := by
  unfold crng
  cases h0 : Nat.beq t.1 0 with
  | true => exact hc.1 (Nat.eq_of_beq_eq_true h0)
  | false => exact hb
/-- what ints the slots from l to u may hold -/
noncomputable def chul (segs : List (Nat × cS)) (l u : Int) : Int × Int := @List.rec (Nat × cS) (fun _ => Int × Int) (cmL, cmH) (fun q _ ih => cond (cge ((q.1 : Int) - u - 1)) (crng q.2) (cond (cge (l - (q.1 : Int))) ih (cmn (crng q.2).1 ih.1, cmx (crng q.2).2 ih.2))) segs
theorem chul_ok {g : Nat → Nat} {h : bh} {a i : Nat} {l u : Int} (hl : l ≤ i) (hu : (i : Int) ≤ u) (hb : brg (h.1 a i)) : ∀ (segs : List (Nat × cS)), cok g h a i (cseg segs i) → (chul segs l u).1 ≤ h.1 a i ∧ h.1 a i ≤ (chul segs l u).2 := by
  intro segs
  induction segs with
  | nil => intro _; exact hb
  | cons q r ih =>
    intro hc
    change cok g h a i (cond (Nat.blt i q.1) q.2 (cseg r i)) at hc
    show (cond (cge ((q.1 : Int) - u - 1)) (crng q.2) (cond (cge (l - (q.1 : Int))) (chul r l u) (cmn (crng q.2).1 (chul r l u).1, cmx (crng q.2).2 (chul r l u).2))).1 ≤ _ ∧ _ ≤ (cond (cge ((q.1 : Int) - u - 1)) (crng q.2) (cond (cge (l - (q.1 : Int))) (chul r l u) (cmn (crng q.2).1 (chul r l u).1, cmx (crng q.2).2 (chul r l u).2))).2
    cases h1 : cge ((q.1 : Int) - u - 1) with
    | true =>
      have h1 := cge_iff.mp h1
      rw [show Nat.blt i q.1 = true from Nat.ble_eq.mpr (by omega)] at hc
      exact crng_ok hc hb
    | false =>
      cases h2 : cge (l - (q.1 : Int)) with
      | true =>
        have h2 := cge_iff.mp h2
        have : Nat.blt i q.1 = false := by
          cases hh : Nat.blt i q.1 with
          | false => rfl
          | true => have := Nat.ble_eq.mp hh; omega
        rw [this] at hc
        exact ih hc
      | false =>
        have m1 := cmn_ok (crng q.2).1 (chul r l u).1
        have m2 := cmx_ok (crng q.2).2 (chul r l u).2
        show cmn (crng q.2).1 (chul r l u).1 ≤ _ ∧ _ ≤ cmx (crng q.2).2 (chul r l u).2
        cases hh : Nat.blt i q.1 with
        | true =>
          rw [hh] at hc
          have := crng_ok (show cok g h a i q.2 from hc) hb
          omega
        | false =>
          rw [hh] at hc
          have := ih hc
          omega
/-- an array and a place in it: the reference's word, not null -/
noncomputable def carr (S : cZ) (j v : cV) (f : cRf → Bool) : Bool := cop (cfi S.2.2.1.2.2.1 v.2.1) (fun q => cond q.2.2.2.1 false (cond (cpos S.2.2.1.1 S.2.2.1.2.1 j.2.2) (cond (cpos S.2.2.1.1 S.2.2.1.2.1 (csub (cpl (-1) q.2.2.2.2) j.2.2)) (f q) false) false))
/-- some int of an array -/
noncomputable def ca3 (T : cTb) (q : cRf) (j v : cV) (S : cZ) : Bool := cond (cis3 T q.2.2.1) (cond (Nat.beq (ck3 S v.2.1) 2) (cond (cge (cmin S.2.2.1.1 j.2.2 - 6)) (cge (37 - cmax S.2.2.1.1 j.2.2)) false) false) false
noncomputable def cael (T : cTb) (q : cRf) (j v : cV) (sq : cQ) : cQ := fun S lo r => cond (ccst j.2.2) (crdI T q.2.2.1 v.2.1 j.2.2.1.toNat sq S lo r) (cond (Nat.beq q.2.2.1 0) (cfr cmL cmH sq S lo r) (@Option.rec cR (fun _ => Bool) (cfr cmL cmH sq S lo r) (fun R => cond (ca3 T q j v S) (cfr (-1) 240 sq S lo r) (cfr (chul R.2.2.2 (cmin S.2.2.1.1 j.2.2) (cmax S.2.2.1.1 j.2.2)).1 (chul R.2.2.2 (cmin S.2.2.1.1 j.2.2) (cmax S.2.2.1.1 j.2.2)).2 sq S lo r)) (cfR T q.2.2.1)))
noncomputable def cq_ald (ok : Nat → Bool) (T : cTb) (sq : cQ) : cQ := fun S lo st => cpv 0 st (fun j r => cpv 1 r (fun v r => carr S j v (fun q => cond (ok q.2.1) (cael T q j v sq S lo r) false)))
section CAR
variable {Θ : cTh} {γ : bG} {y : bY} {d b1 b2 pc : Nat} {sq : cQ} {S : cZ} {ρ : Nat → Int} {σ : Nat → Option Nat} {g : Nat → Nat} {τ : bt} {h : bh} {lo st : List cV} {lo' : List (Option Value)} {st' : List Value}
theorem carr_ok {j v : cV} {f : cRf → Bool} {z : Int} (hq : carr S j v f = true) (hR : cRl Θ S ρ σ g τ h lo st lo' st') (hz : z = cE ρ j.2.2) : ∃ q a, f q = true ∧ q ∈ S.2.2.1.2.2.1 ∧ q.1 = v.2.1 ∧ q.2.2.2.1 = false ∧ σ v.2.1 = some a ∧ τ.1 a = q.2.1 ∧ g a = q.2.2.1 ∧ 0 ≤ z ∧ z < τ.2 a := by
  obtain ⟨q, hf, hq⟩ := cop_ok hq
  obtain ⟨m1, m2⟩ := cfi_ok hf
  cases hb : q.2.2.2.1 with
  | true => rw [hb] at hq; cases hq
  | false =>
    rw [hb] at hq
    obtain ⟨p1, hq⟩ := c_and hq
    obtain ⟨p2, hq⟩ := c_and hq
    have hA := hR.at.1
    have p1 := cpos_ok hA.1 hA.2.1 p1
    have p2 := cpos_ok hA.1 hA.2.1 p2
    obtain ⟨a, a1, a2, a3, a4, a5⟩ := hR.cell m1 hb
    rw [csub_ev, cpl_ev, ← a5] at p2
    exact ⟨q, a, hq, m1, m2, hb, by rw [← m2]; exact a1, a2, a4, by omega, by omega⟩
theorem cs_ael {q : cRf} {j v : cV} {z : Int} {a : Nat} (kk : cSn Θ γ pc sq) (hq : cael Θ.1 q j v sq S lo st = true) (hG : cGd γ.1 Θ g τ h) (hR : cRl Θ S ρ σ g τ h lo st lo' st') (ha : ∀ ρ' σ', cag S.1 S.2.1 ρ σ ρ' σ' → σ' v.2.1 = some a) (hr : g a = q.2.2.1) (hz : z = cE ρ j.2.2) (h0 : 0 ≤ z) (hb : brg (h.1 a z.toNat)) : bJ γ pc lo' (.int (bz (h.1 a z.toNat)) :: st') τ h S.2.2.2.1 S.2.2.2.2 := by
  unfold cael at hq
  cases hc : ccst j.2.2 with
  | true =>
    rw [hc] at hq
    rw [hz, ccst_ok hc] at hb ⊢
    rw [← hr] at hq
    exact cs_rdI kk hq hG hR ha hb
  | false =>
    rw [hc] at hq
    cases h00 : Nat.beq q.2.2.1 0 with
    | true => rw [h00] at hq; exact cs_fr kk hq hG hR hb hb.1 hb.2
    | false =>
      rw [h00] at hq
      have g0 : g a ≠ 0 := by rw [hr]; exact Nat.ne_of_beq_eq_false h00
      obtain ⟨R, r1, r2, r3, r4, r5, -⟩ := hG.1 a g0
      rw [hr] at r1
      rw [r1] at hq
      have hA := hR.at.1
      have e1 := cmin_le hA.1 j.2.2
      have e2 := le_cmax hA.1 j.2.2
      cases h3 : ca3 Θ.1 q j v S with
      | true =>
        rw [h3] at hq
        unfold ca3 at h3
        obtain ⟨w1, h3⟩ := c_and h3
        obtain ⟨w2, h3⟩ := c_and h3
        obtain ⟨w3, w4⟩ := c_and h3
        have w3 := cge_iff.mp w3
        have w4 := cge_iff.mp w4
        have hu := cis3_ok (a := a) hG.1 g0 (by rw [hr]; exact w1)
        have k2 := (ck3_ok hR ha).2.2 (Nat.eq_of_beq_eq_true w2)
        have := (hu.2.2.2 k2).2.2.2 (z.toNat - 6) (by omega)
        rw [show 0 + 6 + (z.toNat - 6) = z.toNat by omega] at this
        exact cs_fr kk hq hG hR hb this.1 this.2
      | false =>
      rw [h3] at hq
      have := chul_ok (l := cmin S.2.2.1.1 j.2.2) (u := cmax S.2.2.1.1 j.2.2) (by omega) (by omega) hb R.2.2.2 (r5 z.toNat)
      exact cs_fr kk hq hG hR hb this.1 this.2
/-- ints of an array -/
theorem cs_ald {ok : Nat → Bool} (kk : cSn Θ γ (pc + 1) sq) (row : ∀ (lo' : List (Option Value)) (τ : bt) (h : bh) (nc ns : Nat) (a : Nat) (j : Int) (r : List Value), ok (τ.1 a) = true → 0 ≤ j → j < τ.2 a → (brg (h.1 a j.toNat) → bJ γ (pc + 1) lo' (.int (bz (h.1 a j.toNat)) :: r) τ h nc ns) → bJ γ pc lo' (.int (bz j) :: .ref a :: r) τ h nc ns) : cSn Θ γ pc (cq_ald ok Θ.1 sq) := by
  intro S lo st hq ρ σ g τ h lo' st' hG hR
  obtain ⟨j, r, rfl, hj, hq1⟩ := cpv_ok hq
  obtain ⟨v, r, rfl, hv, hq2⟩ := cpv_ok hq1
  obtain ⟨z, s1, rfl, gz, ez, e, hR1⟩ := hR.popI hj
  obtain ⟨s2, rfl, ev, hR2⟩ := hR1.popP hv
  obtain ⟨q, a, p1, p2, p3, p4, p5, p6, p7, p8, p9⟩ := carr_ok hq2 hR2 ez
  obtain ⟨p0, p1⟩ := c_and p1
  rw [p5]
  refine row _ _ _ _ _ a z s2 (by rw [p6]; exact p0) p8 p9 fun hb => ?_
  exact cs_ael kk p1 hG hR2 (fun ρ' σ' hag => by rw [va_rf_inj (ev ρ' σ' hag), p5]) p7 ez p8 hb
def cokI (k : Nat) : Bool := Nat.beq k 21 || Nat.beq k 41
def cokB (k : Nat) : Bool := Nat.beq k 22 || (Nat.beq k 23 || Nat.beq k 43)
theorem cokI_ok {k : Nat} (h : cokI k = true) : k = 21 ∨ k = 41 := by
  rcases (Bool.or_eq_true _ _).mp h with h | h
  · exact Or.inl (Nat.eq_of_beq_eq_true h)
  · exact Or.inr (Nat.eq_of_beq_eq_true h)
theorem cokB_ok {k : Nat} (h : cokB k = true) : k = 22 ∨ k = 23 ∨ k = 43 := by
  rcases (Bool.or_eq_true _ _).mp h with h | h
  · exact Or.inl (Nat.eq_of_beq_eq_true h)
  · rcases (Bool.or_eq_true _ _).mp h with h | h
    · exact Or.inr (Or.inl (Nat.eq_of_beq_eq_true h))
    · exact Or.inr (Or.inr (Nat.eq_of_beq_eq_true h))
theorem cs_bald (C : bC γ y d b1 b2) (hd : decode y.2.1 pc = .ok (.baload, 1)) (kk : cSn Θ γ (pc + 1) sq) : cSn Θ γ pc (cq_ald cokB Θ.1 sq) := cs_ald kk fun _ _ _ _ _ _ _ _ ho h1 h2 k => b_bald C hd (cokB_ok ho) h1 h2 k
/-- constant arrays by their role: which, lowest, highest -/
def ccb (ro : Nat) : Nat × Int × Int := cond (Nat.beq ro 31) (40, 1, 12) (cond (Nat.beq ro 32) (41, 2, 60) (43, 0, 35))
theorem ccb_40 : ∀ j, j < 6 → (1 : Int) ≤ (([8, 1, 2, 12, 3, 1] : List Nat).getD j 0 : Nat) ∧ ((([8, 1, 2, 12, 3, 1] : List Nat).getD j 0 : Nat) : Int) ≤ 12 := by decide
theorem ccb_41 : ∀ j, j < 6 → (2 : Int) ≤ (([32, 2, 9, 60, 9, 60] : List Nat).getD j 0 : Nat) ∧ ((([32, 2, 9, 60, 9, 60] : List Nat).getD j 0 : Nat) : Int) ≤ 60 := by decide
theorem ccb_43 : ∀ j, j < b_sw.length → (0 : Int) ≤ (b_sw.getD j 0 : Nat) ∧ ((b_sw.getD j 0 : Nat) : Int) ≤ 35 := by decide +kernel
/-- an int array's place, or a constant array's -/
noncomputable def cq_iald (T : cTb) (sq : cQ) : cQ := fun S lo st => cpv 0 st (fun j r => cpv 1 r (fun v r => carr S j v (fun q => cond (cokI q.2.1) (cael T q j v sq S lo r) (cond (cond (Nat.ble 31 q.2.2.1) (Nat.ble q.2.2.1 33) false) (cond (cpos S.2.2.1.1 S.2.2.1.2.1 (cpl (cond (Nat.beq q.2.2.1 33) 37 5) (csc (-1) j.2.2))) (cfr (ccb q.2.2.1).2.1 (ccb q.2.2.1).2.2 sq S lo r) false) false))))
theorem b_sw_len : b_sw.length = 38 := by decide +kernel
theorem cs_iald (C : bC γ y d b1 b2) (hd : decode y.2.1 pc = .ok (.iaload, 1)) (kk : cSn Θ γ (pc + 1) sq) : cSn Θ γ pc (cq_iald Θ.1 sq) := by
  intro S lo st hq ρ σ g τ h lo' st' hG hR
  obtain ⟨j, r, rfl, hj, hq1⟩ := cpv_ok hq
  obtain ⟨v, r, rfl, hv, hq2⟩ := cpv_ok hq1
  obtain ⟨z, s1, rfl, gz, ez, e, hR1⟩ := hR.popI hj
  obtain ⟨s2, rfl, ev, hR2⟩ := hR1.popP hv
  obtain ⟨q, a, p1, p2, p3, p4, p5, p6, p7, p8, p9⟩ := carr_ok hq2 hR2 ez
  rw [p5]
  cases hk : cokI q.2.1 with
  | true =>
    rw [hk] at p1
    refine b_iald C hd (by rw [p6]; exact cokI_ok hk) p8 p9 fun hb => ?_
    exact cs_ael kk p1 hG hR2 (fun ρ' σ' hag => by rw [va_rf_inj (ev ρ' σ' hag), p5]) p7 ez p8 hb
  | false =>
    rw [hk] at p1
    obtain ⟨u1, u2⟩ := c_and p1
    obtain ⟨u3, u4⟩ := c_and u1
    obtain ⟨u5, u6⟩ := c_and u2
    have u3 := Nat.ble_eq.mp u3
    have u4 := Nat.ble_eq.mp u4
    have hA := hR2.at.1
    have u5 := cpos_ok hA.1 hA.2.1 u5
    rw [cpl_ev, csc_ev, ← ez] at u5
    have big : ∀ n : Nat, n ≤ 60 → brg (n : Int) := fun n hn => ⟨by omega, by omega⟩
    have h3 : q.2.2.1 = 31 ∨ q.2.2.1 = 32 ∨ q.2.2.1 = 33 := by omega
    rcases h3 with h3 | h3 | h3
    · rw [h3] at u5 u6
      have u5 : z ≤ 5 := by
        have : (cond (Nat.beq 31 33) 37 5 : Int) = 5 := rfl
        omega
      have c := ccb_40 z.toNat (by omega)
      exact b_ialdC (l := [8, 1, 2, 12, 3, 1]) C hd rfl (hG.2.1.2.1 a (by rw [p7, h3])) p8 (by show z < 6; omega) (cs_fr kk u6 hG hR2 (big _ (by omega)) c.1 c.2)
    · rw [h3] at u5 u6
      have u5 : z ≤ 5 := by
        have : (cond (Nat.beq 32 33) 37 5 : Int) = 5 := rfl
        omega
      have c := ccb_41 z.toNat (by omega)
      exact b_ialdC (l := [32, 2, 9, 60, 9, 60]) C hd rfl (hG.2.1.2.2.1 a (by rw [p7, h3])) p8 (by show z < 6; omega) (cs_fr kk u6 hG hR2 (big _ (by omega)) c.1 c.2)
    · rw [h3] at u5 u6
      have u5 : z ≤ 37 := by
        have : (cond (Nat.beq 33 33) 37 5 : Int) = 37 := rfl
        omega
      have hl := b_sw_len
      have c := ccb_43 z.toNat (by omega)
      exact b_ialdC (l := b_sw) C hd rfl (hG.2.1.2.2.2 a (by rw [p7, h3])) p8 (by omega) (cs_fr kk u6 hG hR2 (big _ (by omega)) c.1 c.2)
noncomputable def cq_lald (sq : cQ) : cQ := fun S lo st => cpv 0 st (fun j r => cpv 1 r (fun v r => carr S j v (fun q => cond (cond (Nat.beq q.2.1 24) true (Nat.beq q.2.1 44)) (cq_lg sq S lo r) false)))
theorem cs_lald (C : bC γ y d b1 b2) (hd : decode y.2.1 pc = .ok (.laload, 1)) (kk : cSn Θ γ (pc + 1) sq) : cSn Θ γ pc (cq_lald sq) := by
  intro S lo st hq ρ σ g τ h lo' st' hG hR
  obtain ⟨j, r, rfl, hj, hq1⟩ := cpv_ok hq
  obtain ⟨v, r, rfl, hv, hq2⟩ := cpv_ok hq1
  obtain ⟨z, s1, rfl, gz, ez, e, hR1⟩ := hR.popI hj
  obtain ⟨s2, rfl, ev, hR2⟩ := hR1.popP hv
  obtain ⟨q, a, p1, p2, p3, p4, p5, p6, p7, p8, p9⟩ := carr_ok hq2 hR2 ez
  obtain ⟨p0, p1⟩ := c_and p1
  rw [p5]
  refine b_lald C hd ?_ p8 p9 fun w => cs_lg kk p1 hG hR2
  rw [p6]
  rcases c_or p0 with z | z
  · exact Or.inl (Nat.eq_of_beq_eq_true z)
  · exact Or.inr (Nat.eq_of_beq_eq_true z)
/-- the word on all slots up to u -/
noncomputable def chT (segs : List (Nat × cS)) (u : Int) : cS := @List.rec (Nat × cS) (fun _ => cS) (2, 0, 0, 0, false) (fun q _ _ => cond (cge ((q.1 : Int) - u - 1)) q.2 (2, 0, 0, 0, false)) segs
theorem chT_ok {segs : List (Nat × cS)} {u : Int} {i : Nat} (h1 : (chT segs u).1 = 1) (hu : (i : Int) ≤ u) : cseg segs i = chT segs u := by
  cases segs with
  | nil => exact absurd (show (2 : Nat) = 1 from h1) (by decide)
  | cons q r =>
    change (cond (cge ((q.1 : Int) - u - 1)) q.2 (2, 0, 0, 0, false)).1 = 1 at h1
    show cond (Nat.blt i q.1) q.2 (cseg r i) = cond (cge ((q.1 : Int) - u - 1)) q.2 (2, 0, 0, 0, false)
    cases h2 : cge ((q.1 : Int) - u - 1) with
    | true =>
      have h2 := cge_iff.mp h2
      rw [show Nat.blt i q.1 = true from Nat.ble_eq.mpr (by omega)]
      rfl
    | false => rw [h2] at h1; exact absurd (show (2 : Nat) = 1 from h1) (by decide)
noncomputable def cq_aald (T : cTb) (sq : cQ) : cQ := fun S lo st => cpv 0 st (fun j r => cpv 1 r (fun v r => carr S j v (fun q => cond (cond (Nat.beq q.2.1 25) true (Nat.beq q.2.1 26)) (cond (Nat.beq q.2.2.1 0) false (cop (cfR T q.2.2.1) (fun R => cnR T (chT R.2.2.2 (cmax S.2.2.1.1 j.2.2)) (fun S2 v => sq S2 lo (v :: r)) S))) false)))
theorem cs_aald (C : bC γ y d b1 b2) (hd : decode y.2.1 pc = .ok (.aaload, 1)) (kk : cSn Θ γ (pc + 1) sq) : cSn Θ γ pc (cq_aald Θ.1 sq) := by
  intro S lo st hq ρ σ g τ h lo' st' hG hR
  obtain ⟨j, r, rfl, hj, hq1⟩ := cpv_ok hq
  obtain ⟨v, r, rfl, hv, hq2⟩ := cpv_ok hq1
  obtain ⟨z, s1, rfl, gz, ez, e, hR1⟩ := hR.popI hj
  obtain ⟨s2, rfl, ev, hR2⟩ := hR1.popP hv
  obtain ⟨q, a, p1, p2, p3, p4, p5, p6, p7, p8, p9⟩ := carr_ok hq2 hR2 ez
  obtain ⟨p0, p1⟩ := c_and p1
  obtain ⟨g0, p1⟩ := c_nb p1
  obtain ⟨R, r1, p1⟩ := cop_ok p1
  rw [p5]
  refine b_aald C hd (by rw [p6]; rcases c_or p0 with z | z; exact Or.inl (Nat.eq_of_beq_eq_true z); exact Or.inr (Nat.eq_of_beq_eq_true z)) p8 p9 ?_
  obtain ⟨R', x1, x2, x3, x4, x5, -⟩ := hG.1 a (by rw [p7]; exact g0)
  rw [p7, r1] at x1
  cases x1
  have e2 := le_cmax hR2.at.1.1 j.2.2
  obtain ⟨S2, ρ2, σ2, q1, q2, q3, q4⟩ := cs_nR (o := h.2 a z.toNat) p1 hG.1 hR2 fun h1 => by
    have := x5 z.toNat
    rw [chT_ok h1 (by omega)] at this
    exact this.2 h1
  have := kk _ _ _ q1 _ _ _ _ _ _ _ hG (q2.pushZ (x := va_rf (h.2 a z.toNat)) fun ρ' σ' hag => cv_P (q3 ρ' σ' hag).1)
  rwa [q4] at this
end CAR
