/-! ===== the checker: more instructions without cells ===== -/
theorem bz_and {x : Int32} {c : Int} (h0 : 0 ≤ c) (h1 : c ≤ 2147483647) : 0 ≤ (x &&& bz c).toInt ∧ (x &&& bz c).toInt ≤ c := by
  have e1 : (bz c).toInt = c := bz_toInt ⟨by omega, h1⟩
  have e2 : (bz c).toBitVec.toInt = c := e1
  rw [BitVec.toInt_eq_toNat_cond] at e2
  have hlt := (bz c).toBitVec.isLt
  have e3 : ((bz c).toBitVec.toNat : Int) = c := by
    split at e2
    · exact e2
    · simp at e2; omega
  have e4 : (x &&& bz c).toBitVec.toNat ≤ (bz c).toBitVec.toNat := by
    rw [Int32.toBitVec_and, BitVec.toNat_and]
    exact Nat.and_le_right
  have e5 : (x &&& bz c).toInt = (x &&& bz c).toBitVec.toInt := rfl
  rw [e5, BitVec.toInt_eq_toNat_cond]
  split
  · omega
  · rename_i hh
    omega
theorem bz_and' {x : Int32} {c : Int} (h0 : 0 ≤ c) (h1 : c ≤ 2147483647) : 0 ≤ (bz c &&& x).toInt ∧ (bz c &&& x).toInt ≤ c := by
  rw [show bz c &&& x = x &&& bz c from by apply Int32.toBitVec_inj.mp; rw [Int32.toBitVec_and, Int32.toBitVec_and, BitVec.and_comm]]
  exact bz_and h0 h1
theorem bz_ushr {x w : Int32} (hw : 1 ≤ w.toInt ∧ w.toInt ≤ 31) : 0 ≤ (x.toUInt32 >>> (w.toUInt32 &&& Int32.toUInt32 31)).toInt32.toInt := by
  have e0 : w.toBitVec.toInt = w.toInt := rfl
  rw [BitVec.toInt_eq_toNat_cond] at e0
  have hlt := w.toBitVec.isLt
  have e1 : 1 ≤ w.toBitVec.toNat ∧ w.toBitVec.toNat ≤ 31 := by
    split at e0
    · omega
    · simp at e0; omega
  have e2 : (w.toUInt32 &&& Int32.toUInt32 31).toNat = w.toBitVec.toNat := by
    rw [UInt32.toNat_and]
    show w.toBitVec.toNat &&& 31 = _
    rw [show (31 : Nat) = 2 ^ 5 - 1 from rfl, Nat.and_two_pow_sub_one_eq_mod, Nat.mod_eq_of_lt (by omega)]
  have e3 : (x.toUInt32 >>> (w.toUInt32 &&& Int32.toUInt32 31)).toNat < 2147483648 := by
    rw [UInt32.toNat_shiftRight, e2, Nat.mod_eq_of_lt (by omega), Nat.shiftRight_eq_div_pow]
    have hx := x.toUInt32.toNat_lt
    refine Nat.div_lt_of_lt_mul ?_
    have : 2 ^ 1 ≤ 2 ^ w.toBitVec.toNat := Nat.pow_le_pow_right (by omega) e1.1
    omega
  have e4 : (x.toUInt32 >>> (w.toUInt32 &&& Int32.toUInt32 31)).toInt32.toInt = (x.toUInt32 >>> (w.toUInt32 &&& Int32.toUInt32 31)).toBitVec.toInt := rfl
  rw [e4, BitVec.toInt_eq_toNat_cond]
  have e5 : (x.toUInt32 >>> (w.toUInt32 &&& Int32.toUInt32 31)).toBitVec.toNat = (x.toUInt32 >>> (w.toUInt32 &&& Int32.toUInt32 31)).toNat := rfl
  split
  · omega
  · rename_i hh
    simp only [e5] at hh
    omega
section CPLAIN
variable {Θ : cTh} {γ : bG} {y : bY} {d b1 b2 pc : Nat} {sq : cQ} {S : cZ} {ρ : Nat → Int} {σ : Nat → Option Nat} {g : Nat → Nat} {τ : bt} {h : bh} {lo st : List cV} {lo' : List (Option Value)} {st' : List Value}
noncomputable def cq_and (sq : cQ) : cQ := fun S lo st => cpv 0 st (fun b r => cpv 0 r (fun a r => cond (cond (ccst b.2.2) (cge b.2.2.1) false) (cfr 0 b.2.2.1 sq S lo r) (cond (cond (ccst a.2.2) (cge a.2.2.1) false) (cfr 0 a.2.2.1 sq S lo r) (cfr cmL cmH sq S lo r))))
theorem cs_iand (C : bC γ y d b1 b2) (hd : decode y.2.1 pc = .ok (.iand, 1)) (k : cSn Θ γ (pc + 1) sq) : cSn Θ γ pc (cq_and sq) := by
  intro S lo st hq ρ σ g τ h lo' st' hG hR
  obtain ⟨b, r, rfl, hb, hq⟩ := cpv_ok hq
  obtain ⟨a, r, rfl, ha, hq⟩ := cpv_ok hq
  obtain ⟨zb, s1, rfl, gb, eb, e1, hR1⟩ := hR.popI hb
  obtain ⟨za, s2, rfl, ga, ea, e2, hR2⟩ := hR1.popI ha
  refine b_iand C hd ?_
  cases c1 : cond (ccst b.2.2) (cge b.2.2.1) false with
  | true =>
    rw [c1] at hq
    obtain ⟨c2, c3⟩ := c_and c1
    have c3 := cge_iff.mp c3
    have ec : zb = b.2.2.1 := by rw [eb, ccst_ok c2 ρ]
    subst ec
    obtain ⟨u1, u2⟩ := bz_and (x := bz za) c3 gb.2
    rw [bz_of (bz za &&& bz b.2.2.1)]
    exact cs_fr k hq hG hR2 (brg_of _) u1 u2
  | false =>
    rw [c1] at hq
    cases c4 : cond (ccst a.2.2) (cge a.2.2.1) false with
    | true =>
      rw [c4] at hq
      obtain ⟨c2, c3⟩ := c_and c4
      have c3 := cge_iff.mp c3
      have ec : za = a.2.2.1 := by rw [ea, ccst_ok c2 ρ]
      subst ec
      obtain ⟨u1, u2⟩ := bz_and' (x := bz zb) c3 ga.2
      rw [bz_of (bz a.2.2.1 &&& bz zb)]
      exact cs_fr k hq hG hR2 (brg_of _) u1 u2
    | false =>
      rw [c4] at hq
      exact cs_any k hq hG hR2
noncomputable def cq_ushr (sq : cQ) : cQ := fun S lo st => cpv 0 st (fun b r => cpv 0 r (fun _ r => cond (cond (ccst b.2.2) (cond (cge (b.2.2.1 - 1)) (cge (31 - b.2.2.1)) false) false) (cfr 0 cmH sq S lo r) (cfr cmL cmH sq S lo r)))
theorem cs_iushr (C : bC γ y d b1 b2) (hd : decode y.2.1 pc = .ok (.iushr, 1)) (k : cSn Θ γ (pc + 1) sq) : cSn Θ γ pc (cq_ushr sq) := by
  intro S lo st hq ρ σ g τ h lo' st' hG hR
  obtain ⟨b, r, rfl, hb, hq⟩ := cpv_ok hq
  obtain ⟨a, r, rfl, ha, hq⟩ := cpv_ok hq
  obtain ⟨zb, s1, rfl, gb, eb, e1, hR1⟩ := hR.popI hb
  obtain ⟨za, s2, rfl, ga, ea, e2, hR2⟩ := hR1.popI ha
  refine b_iushr C hd ?_
  cases c1 : cond (ccst b.2.2) (cond (cge (b.2.2.1 - 1)) (cge (31 - b.2.2.1)) false) false with
  | true =>
    rw [c1] at hq
    obtain ⟨c2, c3⟩ := c_and c1
    obtain ⟨c3, c4⟩ := c_and c3
    have c3 := cge_iff.mp c3
    have c4 := cge_iff.mp c4
    have ec : zb = b.2.2.1 := by rw [eb, ccst_ok c2 ρ]
    have u1 := bz_ushr (x := bz za) (w := bz zb) (by rw [bz_toInt gb]; omega)
    rw [bz_of ((bz za).toUInt32 >>> ((bz zb).toUInt32 &&& Int32.toUInt32 31)).toInt32]
    exact cs_fr k hq hG hR2 (brg_of _) u1 (brg_of _).2
  | false =>
    rw [c1] at hq
    exact cs_any k hq hG hR2
/-- what is left of a division: by one above 0 -/
noncomputable def cq_rem (sq : cQ) : cQ := fun S lo st => cpv 0 st (fun b r => cpv 0 r (fun a r => cond (cpos S.2.2.1.1 S.2.2.1.2.1 (cpl (-1) b.2.2)) (cond (cpos S.2.2.1.1 S.2.2.1.2.1 a.2.2) (sq (cknw (csub (cpl (-1) b.2.2) (cX S.1)) (cnew 0 (cmax S.2.2.1.1 b.2.2 - 1) S)) lo (cI (cX S.1) :: r)) (cfr (1 - cmax S.2.2.1.1 b.2.2) (cmax S.2.2.1.1 b.2.2 - 1) sq S lo r)) false))
theorem cs_irem (C : bC γ y d b1 b2) (hd : decode y.2.1 pc = .ok (.irem, 1)) (k : cSn Θ γ (pc + 1) sq) : cSn Θ γ pc (cq_rem sq) := by
  intro S lo st hq ρ σ g τ h lo' st' hG hR
  obtain ⟨b, r, rfl, hb, hq⟩ := cpv_ok hq
  obtain ⟨a, r, rfl, ha, hq⟩ := cpv_ok hq
  obtain ⟨zb, s1, rfl, gb, eb, e1, hR1⟩ := hR.popI hb
  obtain ⟨za, s2, rfl, ga, ea, e2, hR2⟩ := hR1.popI ha
  obtain ⟨hp, hq⟩ := c_and hq
  have hA := hR2.at.1
  have hp := cpos_ok hA.1 hA.2.1 hp
  rw [cpl_ev, ← eb] at hp
  have hx := le_cmax hA.1 b.2.2
  rw [← eb] at hx
  refine b_irem C hd ga gb (by omega) fun z z1 z2 z3 => ?_
  have hz : brg z := ⟨by have := gb.2; omega, by have := gb.2; omega⟩
  cases c1 : cpos S.2.2.1.1 S.2.2.1.2.1 a.2.2 with
  | true =>
    rw [c1] at hq
    have c1 := cpos_ok hA.1 hA.2.1 c1
    rw [← ea] at c1
    have z4 := z3 c1
    have z5 := Int.emod_nonneg za (show zb ≠ 0 by omega)
    obtain ⟨r1, r2⟩ := hR2.fresh (l := 0) (u := cmax S.2.2.1.1 b.2.2 - 1) hz (by omega) (by omega)
    refine k _ _ _ hq _ _ _ _ _ _ _ hG ((r1.knw (e := csub (cpl (-1) b.2.2) (cX S.1)) fun ρ' σ' h => ?_).pushZ fun ρ' σ' h => cv_I hz (by rw [cX_ev]; exact r2 ρ' σ' h))
    have h' : cag S.1 S.2.1 ρ σ ρ' σ' := ⟨h.1, fun s hs => by rw [h.2.1 s (Nat.lt_succ_of_lt hs), cup_ne (by omega)], h.2.2⟩
    rw [csub_ev, cpl_ev, cX_ev, r2 ρ' σ' h, e1 ρ' σ' h']
    omega
  | false =>
    rw [c1] at hq
    exact cs_fr k hq hG hR2 hz (by omega) (by omega)
/-- how often: by one above 0 -/
noncomputable def cq_div (sq : cQ) : cQ := fun S lo st => cpv 0 st (fun b r => cpv 0 r (fun a r => cond (cpos S.2.2.1.1 S.2.2.1.2.1 (cpl (-1) b.2.2)) (cond (cpos S.2.2.1.1 S.2.2.1.2.1 a.2.2) (cfr 0 (cmax S.2.2.1.1 a.2.2) sq S lo r) (cfr cmL cmH sq S lo r)) false))
theorem cs_idiv (C : bC γ y d b1 b2) (hd : decode y.2.1 pc = .ok (.idiv, 1)) (k : cSn Θ γ (pc + 1) sq) : cSn Θ γ pc (cq_div sq) := by
  intro S lo st hq ρ σ g τ h lo' st' hG hR
  obtain ⟨b, r, rfl, hb, hq⟩ := cpv_ok hq
  obtain ⟨a, r, rfl, ha, hq⟩ := cpv_ok hq
  obtain ⟨zb, s1, rfl, gb, eb, e1, hR1⟩ := hR.popI hb
  obtain ⟨za, s2, rfl, ga, ea, e2, hR2⟩ := hR1.popI ha
  obtain ⟨hp, hq⟩ := c_and hq
  have hA := hR2.at.1
  have hp := cpos_ok hA.1 hA.2.1 hp
  rw [cpl_ev, ← eb] at hp
  have hx := le_cmax hA.1 a.2.2
  rw [← ea] at hx
  refine b_idiv C hd ga gb (by omega) fun z z3 => ?_
  cases c1 : cpos S.2.2.1.1 S.2.2.1.2.1 a.2.2 with
  | true =>
    rw [c1] at hq
    have c1 := cpos_ok hA.1 hA.2.1 c1
    rw [← ea] at c1
    have z4 := z3 c1
    have z5 : 0 ≤ za / zb := Int.ediv_nonneg c1 (by omega)
    have z6 : za / zb ≤ za := Int.ediv_le_self zb c1
    have hz : brg z := ⟨by omega, by have := ga.2; omega⟩
    exact cs_fr k hq hG hR2 hz (by omega) (by omega)
  | false =>
    rw [c1] at hq
    exact cs_any k hq hG hR2
noncomputable def cq_i2b (sq : cQ) : cQ := fun S lo st => cpv 0 st (fun _ r => cfr (-128) 127 sq S lo r)
theorem cs_i2b (C : bC γ y d b1 b2) (hd : decode y.2.1 pc = .ok (.i2b, 1)) (k : cSn Θ γ (pc + 1) sq) : cSn Θ γ pc (cq_i2b sq) := by
  intro S lo st hq ρ σ g τ h lo' st' hG hR
  obtain ⟨a, r, rfl, ha, hq⟩ := cpv_ok hq
  obtain ⟨za, s2, rfl, ga, ea, e2, hR1⟩ := hR.popI ha
  refine b_i2b C hd ?_
  have e : ((bz za).toInt8.toInt32).toInt = (bz za).toInt8.toInt := Int8.toInt_toInt32 _
  have l1 := Int8.le_toInt (bz za).toInt8
  have l2 := Int8.toInt_lt (bz za).toInt8
  rw [bz_of (bz za).toInt8.toInt32]
  exact cs_fr k hq hG hR1 (brg_of _) (by rw [e]; omega) (by rw [e]; omega)
/-- longs: how many come off, one goes on -/
noncomputable def cq_lg (sq : cQ) : cQ := fun S lo st => sq S lo (cLg :: st)
theorem cs_lg {w : Int64} (k : cSn Θ γ pc sq) (hq : cq_lg sq S lo st = true) (hG : cGd γ.1 Θ g τ h) (hR : cRl Θ S ρ σ g τ h lo st lo' st') : bJ γ pc lo' (.long w :: st') τ h S.2.2.2.1 S.2.2.2.2 := k _ _ _ hq _ _ _ _ _ _ _ hG (hR.pushZ fun _ _ _ => cv_L)
theorem cRl.popL {v : cV} (h0 : v.1 = 3) (hR : cRl Θ S ρ σ g τ h lo (v :: st) lo' st') : ∃ w r, st' = .long w :: r ∧ cRl Θ S ρ σ g τ h lo st lo' r := by
  obtain ⟨x, r, h1, h2, h3⟩ := hR.pop
  rcases h2 ρ σ (cag.rf hR.1) with ⟨h, -⟩ | ⟨h, -⟩ | ⟨h, -⟩ | ⟨-, w, hw⟩
  iterate 3 omega
  exact ⟨w, r, by rw [h1, hw], h3⟩
noncomputable def cq_i2l (sq : cQ) : cQ := fun S lo st => cpv 0 st (fun _ r => cq_lg sq S lo r)
theorem cs_i2l (C : bC γ y d b1 b2) (hd : decode y.2.1 pc = .ok (.i2l, 1)) (k : cSn Θ γ (pc + 1) sq) : cSn Θ γ pc (cq_i2l sq) := by
  intro S lo st hq ρ σ g τ h lo' st' hG hR
  obtain ⟨a, r, rfl, ha, hq⟩ := cpv_ok hq
  obtain ⟨za, s2, rfl, -, -, -, hR1⟩ := hR.popI ha
  exact b_i2l C hd fun w => cs_lg k hq hG hR1
noncomputable def cq_l2 (sq : cQ) : cQ := fun S lo st => cpv 3 st (fun _ r => cpv 3 r (fun _ r => cq_lg sq S lo r))
theorem cs_l2 (k : cSn Θ γ (pc + 1) sq) (row : ∀ (S : cZ) (lo' : List (Option Value)) (τ : bt) (h : bh) (x w : Int64) (s2 : List Value), (∀ z : Int64, bJ γ (pc + 1) lo' (.long z :: s2) τ h S.2.2.2.1 S.2.2.2.2) → bJ γ pc lo' (.long w :: .long x :: s2) τ h S.2.2.2.1 S.2.2.2.2) : cSn Θ γ pc (cq_l2 sq) := by
  intro S lo st hq ρ σ g τ h lo' st' hG hR
  obtain ⟨b, r, rfl, hb, hq⟩ := cpv_ok hq
  obtain ⟨a, r, rfl, ha, hq⟩ := cpv_ok hq
  obtain ⟨zb, s1, rfl, hR1⟩ := hR.popL hb
  obtain ⟨za, s2, rfl, hR2⟩ := hR1.popL ha
  exact row _ _ _ _ _ _ _ fun z => cs_lg k hq hG hR2
theorem cs_ladd (C : bC γ y d b1 b2) (hd : decode y.2.1 pc = .ok (.ladd, 1)) (k : cSn Θ γ (pc + 1) sq) : cSn Θ γ pc (cq_l2 sq) := cs_l2 k fun _ _ _ _ _ _ _ f => b_ladd C hd f
theorem cs_lsub (C : bC γ y d b1 b2) (hd : decode y.2.1 pc = .ok (.lsub, 1)) (k : cSn Θ γ (pc + 1) sq) : cSn Θ γ pc (cq_l2 sq) := cs_l2 k fun _ _ _ _ _ _ _ f => b_lsub C hd f
theorem cs_lmul (C : bC γ y d b1 b2) (hd : decode y.2.1 pc = .ok (.lmul, 1)) (k : cSn Θ γ (pc + 1) sq) : cSn Θ γ pc (cq_l2 sq) := cs_l2 k fun _ _ _ _ _ _ _ f => b_lmul C hd f
theorem cs_lor (C : bC γ y d b1 b2) (hd : decode y.2.1 pc = .ok (.lor, 1)) (k : cSn Θ γ (pc + 1) sq) : cSn Θ γ pc (cq_l2 sq) := cs_l2 k fun _ _ _ _ _ _ _ f => b_lor C hd f
noncomputable def cq_lshl (sq : cQ) : cQ := fun S lo st => cpv 0 st (fun _ r => cpv 3 r (fun _ r => cq_lg sq S lo r))
theorem cs_lshl (C : bC γ y d b1 b2) (hd : decode y.2.1 pc = .ok (.lshl, 1)) (k : cSn Θ γ (pc + 1) sq) : cSn Θ γ pc (cq_lshl sq) := by
  intro S lo st hq ρ σ g τ h lo' st' hG hR
  obtain ⟨b, r, rfl, hb, hq⟩ := cpv_ok hq
  obtain ⟨a, r, rfl, ha, hq⟩ := cpv_ok hq
  obtain ⟨zb, s1, rfl, -, -, -, hR1⟩ := hR.popI hb
  obtain ⟨za, s2, rfl, hR2⟩ := hR1.popL ha
  exact b_lshl C hd fun w => cs_lg k hq hG hR2
noncomputable def cq_lcmp (sq : cQ) : cQ := fun S lo st => cpv 3 st (fun _ r => cpv 3 r (fun _ r => cfr cmL cmH sq S lo r))
theorem cs_lcmp (C : bC γ y d b1 b2) (hd : decode y.2.1 pc = .ok (.lcmp, 1)) (k : cSn Θ γ (pc + 1) sq) : cSn Θ γ pc (cq_lcmp sq) := by
  intro S lo st hq ρ σ g τ h lo' st' hG hR
  obtain ⟨b, r, rfl, hb, hq⟩ := cpv_ok hq
  obtain ⟨a, r, rfl, ha, hq⟩ := cpv_ok hq
  obtain ⟨zb, s1, rfl, hR1⟩ := hR.popL hb
  obtain ⟨za, s2, rfl, hR2⟩ := hR1.popL ha
  exact b_lcmp C hd fun u hu => cs_any k hq hG hR2
end CPLAIN
