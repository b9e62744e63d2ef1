/-! ===== the checker: stretches, a Word's number, long answers ===== -/
/-- a role without words on its slots -/
noncomputable def cfree (T : cTb) (ro : Nat) : Bool := cond (Nat.beq ro 0) true (cond (ckr2 ro) (cop (cfR T ro) (fun R => call (fun q => Nat.beq q.2.1 2) R.2.2.2)) false)
theorem cfree_ke {T : cTb} {ro l u : Nat} (hq : cfree T ro = true) : ro ≠ 63 ∧ ro ≠ 68 ∧ (ro = 12 → (16 < l ∨ u < 16) ∧ (23 < l ∨ u < 23)) := by
  unfold cfree at hq
  rcases c_or hq with hq | hq
  · have := Nat.eq_of_beq_eq_true hq
    omega
  · have := ckr2_ok (c_and hq).1
    omega
theorem cfree_ok {T : cTb} {g : Nat → Nat} {h : bh} {a i : Nat} (hq : cfree T (g a) = true) (hz : g a ≠ 0) : (cslt T (g a) i).1 = 2 := by
  unfold cfree at hq
  rw [show Nat.beq (g a) 0 = false from by cases e : Nat.beq (g a) 0 with | false => rfl | true => exact absurd (Nat.eq_of_beq_eq_true e) hz] at hq
  obtain ⟨R, hR, hc⟩ := cop_ok (c_and (show cond (ckr2 (g a)) (cop (cfR T (g a)) (fun R => call (fun q => Nat.beq q.2.1 2) R.2.2.2)) false = true from hq)).2
  unfold cslt
  rw [hR]
  show (cseg R.2.2.2 i).1 = 2
  rcases cseg_mem R.2.2.2 i with h1 | ⟨q, hm, he⟩
  · exact h1
  · rw [he]; exact Nat.eq_of_beq_eq_true (call_iff.mp hc q hm)
noncomputable def ccpT (S : cZ) (T : cTb) (E : cEf) (n dp a sp t : cV) (r : List cV) (qa qt : cRf) : Bool :=
  cond qa.2.2.2.1 false (cond qt.2.2.2.1 false (cond (Nat.ble r.length 4) (cond (cpos S.2.2.1.1 S.2.2.1.2.1 n.2.2) (cond (cpos S.2.2.1.1 S.2.2.1.2.1 dp.2.2) (cond (cpos S.2.2.1.1 S.2.2.1.2.1 sp.2.2)
  (cond (cpos S.2.2.1.1 S.2.2.1.2.1 (csub (csub qa.2.2.2.2 dp.2.2) n.2.2)) (cond (cpos S.2.2.1.1 S.2.2.1.2.1 (cpl (-1) qa.2.2.2.2)) (cond (cefR E qa.2.1 (cmin S.2.2.1.1 dp.2.2).toNat (cmax S.2.2.1.1 (cadd dp.2.2 n.2.2)).toNat) (cond (cfree T qa.2.2.1)
  (cond (Nat.beq qt.2.2.1 31) (cond (Nat.beq qa.2.1 21) (cpos S.2.2.1.1 S.2.2.1.2.1 (cpl 6 (csc (-1) (cadd sp.2.2 n.2.2)))) false) (cond (Nat.beq qt.2.1 qa.2.1) (cond (cond (Nat.beq qa.2.1 21) true (Nat.beq qa.2.1 22)) (cond (cpos S.2.2.1.1 S.2.2.1.2.1 (csub (csub qt.2.2.2.2 sp.2.2) n.2.2)) (cpos S.2.2.1.1 S.2.2.1.2.1 (cpl (-1) qt.2.2.2.2)) false) false) false))
  false) false) false) false) false) false) false) false))
noncomputable def cq_copy (T : cTb) (E : cEf) (sq : cQ) : cQ := fun S lo st => cpv 0 st (fun n r => cpv 0 r (fun dp r => cpv 1 r (fun a r => cpv 0 r (fun sp r => cpv 1 r (fun t r => cop (cfi S.2.2.1.2.2.1 a.2.1) (fun qa => cop (cfi S.2.2.1.2.2.1 t.2.1) (fun qt => cond (ccpT S T E n dp a sp t r qa qt) (sq (ckl qa.2.1 (cmin S.2.2.1.1 dp.2.2).toNat (cmax S.2.2.1.1 (cadd dp.2.2 n.2.2)).toNat S) lo r) false)))))))
section CMORE
variable {Θ : cTh} {γ : bG} {y : bY} {d b1 b2 pc : Nat} {sq : cQ}
theorem cs_copy {idx : Nat} (C : bC γ y d b1 b2) (hlink : Cond.methodLink y.1.cls idx arraycopyName ∈ bW) (hd : decode y.2.1 pc = .ok (.invokestatic idx, 3)) (kk : cSn Θ γ (pc + 3) sq) : cSn Θ γ pc (cq_copy Θ.1 Θ.2.1 sq) := by
  intro S lo st hq ρ σ g τ h lo' st' hG hR
  obtain ⟨n, r, rfl, hn, hq⟩ := cpv_ok hq
  obtain ⟨dp, r, rfl, hdp, hq⟩ := cpv_ok hq
  obtain ⟨a, r, rfl, ha, hq⟩ := cpv_ok hq
  obtain ⟨sp, r, rfl, hsp, hq⟩ := cpv_ok hq
  obtain ⟨t, r, rfl, ht, hq⟩ := cpv_ok hq
  obtain ⟨qa, fa, hq⟩ := cop_ok hq
  obtain ⟨qt, ft, hq⟩ := cop_ok hq
  obtain ⟨hc, hq⟩ := c_and hq
  obtain ⟨zn, s1, rfl, gn, en, -, hR⟩ := hR.popI hn
  obtain ⟨zd, s2, rfl, gd, ed, -, hR⟩ := hR.popI hdp
  obtain ⟨s3, rfl, -, hR⟩ := hR.popP ha
  obtain ⟨zs, s4, rfl, gs, es, -, hR⟩ := hR.popI hsp
  obtain ⟨s5, rfl, -, hR⟩ := hR.popP ht
  obtain ⟨ma, e1⟩ := cfi_ok fa
  obtain ⟨mt, e2⟩ := cfi_ok ft
  unfold ccpT at hc
  have nb : ∀ {b q : Bool}, cond b false q = true → b = false ∧ q = true := by intro b q h; cases b <;> simp_all
  obtain ⟨n1, hc⟩ := nb hc
  obtain ⟨n2, hc⟩ := nb hc
  obtain ⟨c1, hc⟩ := c_and hc
  obtain ⟨c2, hc⟩ := c_and hc
  obtain ⟨c3, hc⟩ := c_and hc
  obtain ⟨c4, hc⟩ := c_and hc
  obtain ⟨c5, hc⟩ := c_and hc
  obtain ⟨c6, hc⟩ := c_and hc
  obtain ⟨c7, hc⟩ := c_and hc
  obtain ⟨c8, hc⟩ := c_and hc
  obtain ⟨xa, a1, a2, a3, a4, a5⟩ := hR.cell ma n1
  obtain ⟨xt, t1, t2, t3, t4, t5⟩ := hR.cell mt n2
  have hst := hR.at.1
  have pn := cpos_ok hst.1 hst.2.1 c2
  have pd := cpos_ok hst.1 hst.2.1 c3
  have ps := cpos_ok hst.1 hst.2.1 c4
  have p5 := cpos_ok hst.1 hst.2.1 c5
  have p6 := cpos_ok hst.1 hst.2.1 c6
  rw [csub_ev, csub_ev] at p5
  rw [cpl_ev] at p6
  rw [← en] at pn
  rw [← ed] at pd
  rw [← es] at ps
  rw [← ed, ← en, ← a5] at p5
  rw [← a5] at p6
  have lmin := cmin_le hst.1 dp.2.2
  have lmax := le_cmax hst.1 (cadd dp.2.2 n.2.2)
  rw [cadd_ev, ← ed, ← en] at lmax
  rw [← ed] at lmin
  have hsum : (s5.map fun v => v.category).sum ≤ 8 := Nat.le_trans (c2_sum hR.at.2.2.1) (by have := Nat.ble_eq.mp c1; omega)
  have hk0 : qa.2.1 = 21 ∨ qa.2.1 = 22 := by
    cases h31 : Nat.beq qt.2.2.1 31 with
    | true => rw [h31] at hc; exact Or.inl (Nat.eq_of_beq_eq_true (c_and hc).1)
    | false =>
      rw [h31] at hc
      obtain ⟨-, hc⟩ := c_and hc
      rcases c_or (c_and hc).1 with h | h
      · exact Or.inl (Nat.eq_of_beq_eq_true h)
      · exact Or.inr (Nat.eq_of_beq_eq_true h)
  have key : ∀ h' : bh, (∀ b i, (b ≠ xa ∨ i < zd.toNat ∨ zd.toNat + zn.toNat ≤ i) → h'.1 b i = h.1 b i ∧ h'.2 b i = h.2 b i) → bJ γ (pc + 3) lo' s5 τ h' S.2.2.2.1 S.2.2.2.2 := by
    intro h' hh
    have hch : cch h h' xa (cmin S.2.2.1.1 dp.2.2).toNat (cmax S.2.2.1.1 (cadd dp.2.2 n.2.2)).toNat := fun b i hb => hh b i (by omega)
    have hR' := hR.wr hch
    rw [a2] at hR'
    refine kk _ _ _ hq ρ σ g τ h' lo' s5 (hG.wr hch (fun hz i _ _ => ?_) (fun i i1 i2 => ?_) (fun _ k41 => by omega) (cfree_ke (by rw [a4]; exact c8))) hR'
    · have h2 := cfree_ok (h := h) (i := i) (by rw [a4]; exact c8) hz
      exact ⟨fun e => by omega, fun e => by omega⟩
    · rw [a2]; exact cefR_ok c7 i1 i2
  rw [← e1, a1, ← e2, t1]
  cases h31 : Nat.beq qt.2.2.1 31 with
  | true =>
    rw [h31] at hc
    obtain ⟨k21, hc⟩ := c_and hc
    have k21 := Nat.eq_of_beq_eq_true k21
    have p7 := cpos_ok hst.1 hst.2.1 hc
    rw [cpl_ev, csc_ev, cadd_ev, ← es, ← en] at p7
    have hx := hG.2.1.2.1 xt (by rw [t4]; exact Nat.eq_of_beq_eq_true h31)
    subst hx
    refine b_copyT (j := 40) (ll := [8, 1, 2, 12, 3, 1]) C hlink hd rfl (fun i => ?_) (by omega) ps pd pn (by show zs + zn ≤ 6; omega) (by decide) (by omega) (by omega) hsum key
    match i with
    | 0 | 1 | 2 | 3 | 4 | 5 => simp
    | i + 6 => simp
  | false =>
    rw [h31] at hc
    obtain ⟨kk1, hc⟩ := c_and hc
    obtain ⟨-, hc⟩ := c_and hc
    obtain ⟨c9, c10⟩ := c_and hc
    have p9 := cpos_ok hst.1 hst.2.1 c9
    have p10 := cpos_ok hst.1 hst.2.1 c10
    rw [csub_ev, csub_ev, ← es, ← en, ← t5] at p9
    rw [cpl_ev, ← t5] at p10
    have kk1 := Nat.eq_of_beq_eq_true kk1
    exact b_copy C hlink hd (by omega) (by omega) ps pd pn (by omega) (by omega) (by omega) (by omega) hsum (key _ (fun b i hb => ⟨if_neg (by omega), rfl⟩))
noncomputable def cq_ord (b1 b2 : Nat) (sq : cQ) : cQ := fun S lo st => cpv 1 st (fun v r => cob v.2.1 30 S (fun _ => cond (Nat.ble r.length 4) (cond (Nat.ble S.2.2.2.1 b1) (cond (Nat.ble S.2.2.2.2 b2) (cfr 0 37 sq S lo r) false) false) false))
theorem cs_ord {idx : Nat} (C : bC γ y (d + 1) b1 b2) (X : bX γ) (hlink : Cond.methodLink y.1.cls idx ⟨"SpanCopier$Word", "ordinal", "()I"⟩ ∈ bW) (hd : decode y.2.1 pc = .ok (.invokevirtual idx, 3)) (kk : cSn Θ γ (pc + 3) sq) : cSn Θ γ pc (cq_ord b1 b2 sq) := by
  intro S lo st hq ρ σ g τ h lo' st' hG hR
  obtain ⟨v, r, rfl, hv, hq⟩ := cpv_ok hq
  obtain ⟨q, hm, e1, hn, hk, hq⟩ := cob_ok hq
  obtain ⟨q1, hq⟩ := c_and hq
  obtain ⟨q2, hq⟩ := c_and hq
  obtain ⟨q3, hq⟩ := c_and hq
  obtain ⟨s1, rfl, -, hR⟩ := hR.popP hv
  obtain ⟨a, a1, a2, a3, a4, a5⟩ := hR.cell hm hn
  have hsum : (s1.map fun v => v.category).sum ≤ 8 := Nat.le_trans (c2_sum hR.at.2.2.1) (by have := Nat.ble_eq.mp q1; omega)
  rw [← e1, a1]
  intro ws ls H locs hM
  obtain ⟨j, hj, ea⟩ : ∃ j : Nat, j < 38 ∧ a = γ.1.2.2.2 j := by
    have hc := hM.2.2.2.1 a (by omega)
    have e30 : τ.1 a = 30 := by omega
    rcases hc with ⟨h1, -⟩ | ⟨⟨-, h1, h2⟩, -⟩ | ⟨⟨-, h1⟩, -⟩ | ⟨⟨-, h1⟩, -⟩ | ⟨-, i, hi, he, -⟩ | ⟨h1, -⟩ | ⟨h1, -⟩
    · omega
    · omega
    · omega
    · omega
    · exact ⟨i, hi, he⟩
    · omega
    · omega
  subst ea
  exact b_ord C X hj hlink hd hsum (Nat.ble_eq.mp q2) (Nat.ble_eq.mp q3) (cs_fr kk hq hG hR ⟨by omega, by omega⟩ (by omega) (by omega)) ws ls H locs hM
noncomputable def cq_lret (T : cTb) (b1 b2 : Nat) (D : cFd) (c : cCn) (ks : List cL) (vs : List cV) : cQ := fun S lo st => cpv 3 st (fun _ r => cond r.isEmpty (cq_end T b1 b2 D c ks vs S lo st) false)
theorem cs_lret {nL : Nat} {T : cTb} {c : cCn} {g0 : Nat → Nat} {ρ0 : Nat → Int} {σ0 : Nat → Option Nat} {τ0 : bt} {h0 : bh} {ks : List cL} {vs : List cV} {D : cFd} {ι : bI} {avs : List Value} (C : bC γ y d b1 b2) (Bg : bBeg ι τ0 h0 avs (cPst T c g0 ρ0 σ0) nL b1 b2 γ) (O : cOf T c g0 ρ0 σ0 τ0 h0 ks vs Θ) (hd : decode y.2.1 pc = .ok (.lreturn, 1)) (hty : y.2.2 = some .long) : cSn Θ γ pc (cq_lret T b1 b2 D c ks vs) := by
  intro S lo st hq ρ σ g τ h lo' st' hG hR
  have eι : γ.1 = ι := Bg.1
  obtain ⟨x, r, rfl, hx, hq1⟩ := cpv_ok hq
  obtain ⟨r0, hq1⟩ := c_and hq1
  cases r with
  | cons => cases r0
  | nil =>
    obtain ⟨w, s1, rfl, hR1⟩ := hR.popL hx
    have es : s1 = [] := by
      have := hR1.at.2.2.1
      cases s1 with
      | nil => rfl
      | cons => exact this.elim
    subst es
    rw [eι] at hG
    obtain ⟨f1, f2, f3⟩ := cs_fin (avs := avs) (v := some (.long w)) O hq1 hG hR rfl
    exact b_lret C Bg hd hty f1 f2 f3
end CMORE
