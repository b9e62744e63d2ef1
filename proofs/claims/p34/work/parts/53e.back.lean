/-! ===== comeBack's contracts ===== -/
theorem cb_wt {g : Nat → Nat} {τ : bt} {h : bh} {a r F : Nat} {S' : List (Nat × cS)} (hw : cWT cT0 g τ h) (ga : g a = 61) (hne : r ≠ a) (hwr : cwr (cSg 61) S' 28 F 2996 = true) (hr : ∀ i, (cseg S' i).1 = 0 → (cseg S' i).2.1 ≤ h.1 r i ∧ h.1 r i ≤ (cseg S' i).2.2.1) (hc : creg 1 (F + 1476) (h.1 r)) : cWT cT0 g τ (bsetI (bcp h a 28 r F 2996) a 5000 40) := by
  obtain ⟨o1, o2, o3⟩ := o_now hw ga
  have ho : ∀ b i, (b ≠ a ∨ i < 28 ∨ 5000 < i) → (bsetI (bcp h a 28 r F 2996) a 5000 40).1 b i = h.1 b i := by
    intro b i hb
    show (if b = a ∧ i = 5000 then (40 : Int) else if b = a ∧ 28 ≤ i ∧ i < 28 + 2996 then _ else h.1 b i) = _
    rw [if_neg (by omega), if_neg (by omega)]
  have hin : ∀ k, k < 2996 → (bsetI (bcp h a 28 r F 2996) a 5000 40).1 a (28 + k) = h.1 r (F + k) := by
    intro k hk
    have e : (bsetI (bcp h a 28 r F 2996) a 5000 40).1 a (28 + k) = (bcp h a 28 r F 2996).1 a (28 + k) := if_neg (by omega)
    rw [e, bcp_at hk]
  have hout : ∀ i, 3024 ≤ i → i ≠ 5000 → (bsetI (bcp h a 28 r F 2996) a 5000 40).1 a i = h.1 a i := by
    intro i h1 h2
    show (if a = a ∧ i = 5000 then (40 : Int) else if a = a ∧ 28 ≤ i ∧ i < 28 + 2996 then _ else h.1 a i) = _
    rw [if_neg (by omega), if_neg (by omega)]
  refine w_now hw ga (l := 28) (u := 5000) rfl ho (fun i i1 i2 hi => ?_) (creg_51 (creg1_sh (c := F + 1476) (f := h.1 r) (fun i hi => ?_) hc (Or.inl rfl)) ?_) (creg_eq (fun i hi => hout i ?_ ?_) o3)
  · by_cases hl : i < 3024
    · obtain ⟨k, rfl⟩ : ∃ k, i = 28 + k := ⟨i - 28, by omega⟩
      rw [hin k (by omega)]
      exact cwr_ok 2996 hwr k (by omega) _ hi (hr (F + k))
    · by_cases h5 : i = 5000
      · subst h5
        have : (cseg (cSg 61) 5000).1 = 2 := by decide +kernel
        omega
      · rw [hout i (by omega) h5]
        exact o1 i hi
  · have e := hin (1476 + i) (by omega)
    rw [show 1504 + i = 28 + (1476 + i) by omega, e, show F + (1476 + i) = F + 1476 + i by omega]
  · show (40 : Int) ≤ if a = a ∧ (5000 : Nat) = 5000 then (40 : Int) else _
    rw [if_pos ⟨rfl, rfl⟩]
    exact Int.le_refl _
  · rcases hi with ⟨h1, -⟩ | ⟨h1, -⟩ <;> omega
  · rcases hi with ⟨h1, ⟨-, h2⟩ | ⟨h2, -⟩ | ⟨h2, -⟩⟩ | ⟨h1, -⟩ <;> omega
theorem cb_hi {E : cEf} {g : Nat → Nat} {τ : bt} {h : bh} {a r F : Nat} (ta : τ.1 a = 41) (hE : cesub [(41, 28, 3023), (41, 5000, 5000)] E = true) : cHi E g τ h g τ (bsetI (bcp h a 28 r F 2996) a 5000 40) := by
  intro b _
  refine ⟨rfl, rfl, Or.inl rfl, fun i hi => ⟨?_, rfl⟩⟩
  show (if b = a ∧ i = 5000 then (40 : Int) else if b = a ∧ 28 ≤ i ∧ i < 28 + 2996 then _ else h.1 b i) = _
  have key : cef [(41, 28, 3023), (41, 5000, 5000)] (τ.1 b) i = true → False := fun hc => by rw [cesub_ok hE hc] at hi; cases hi
  rw [if_neg, if_neg]
  · rintro ⟨rfl, h1, h2⟩
    refine key ?_
    rw [ta]
    exact cefR_ok (l := 28) (u := 3023) (by rfl) h1 (by omega)
  · rintro ⟨rfl, rfl⟩
    refine key ?_
    rw [ta]
    rfl
theorem eox15 : cOk cT0 ey243 4 2 0 0 enx15 := by
  refine (cOk_of2 cb_fun ?_ ?_).mono (by decide)
  · intro ι avs τ h g ρ σ hp
    obtain ⟨m, xs, rfl, -, m2, m3, hx⟩ := m_this hp rfl rfl
    obtain ⟨r, r1, r2, r3, r4⟩ := m_sec (n := 2996) hp rfl
    obtain ⟨a, a1, a2, a3, a4⟩ := m_now hp.1 m3
    rw [c2_3 r1 hx]
    exact ⟨m, a, r, 0, rfl, m2, a1, a3, a4, r2, by omega, by omega, fun e => by rw [e, a2] at r3; cases r3⟩
  · rintro ι avs τ h g ρ σ v τ' h' hp ⟨m, a, r, F, eav, ha, hF, rfl, rfl, rfl⟩
    obtain ⟨m', xs, e, -, -, m3, hx⟩ := m_this hp rfl rfl
    obtain ⟨r', r1, r2, r3, r4⟩ := m_sec (n := 2996) hp rfl
    rw [c2_3 r1 hx] at e
    rw [e] at eav
    injection eav with e1 e2
    injection e1 with e1
    injection e2 with e2 e3
    injection e2 with e2
    subst e1 e2
    obtain ⟨a', a1, a2, a3, a4⟩ := m_now hp.1 m3
    rw [ha] at a1
    cases a1
    have F0 : F = 0 := by omega
    subst F0
    obtain ⟨p1, p2⟩ := o_arr hp.1 r3 (by decide) cR65
    refine ⟨_, cPst_void hp rfl (cb_wt hp.1 a2 (fun e => by rw [e, a2] at r3; cases r3) cb_words p1 (p2 (by decide) _ g65a rfl)) (cb_hi a3 rfl), fun H => bHp_gh a3 (by omega)⟩
theorem cb_words8 : ∀ j : Nat, j < 8 → cwr (cSg 61) (cSg 64) 28 (2996 * j) 2996 = true
  | 0, _ => by decide +kernel
  | 1, _ => by decide +kernel
  | 2, _ => by decide +kernel
  | 3, _ => by decide +kernel
  | 4, _ => by decide +kernel
  | 5, _ => by decide +kernel
  | 6, _ => by decide +kernel
  | 7, _ => by decide +kernel
  | n + 8, h => absurd h (by omega)
theorem g64 : ∀ q ∈ cSg 64, q.2.1 = 3 → q.2.2.1 = 1 ∧ ∃ j, j < 8 ∧ q.2.2.2.1.toNat = 2996 * j + 1476 := by decide +kernel
theorem g64a : ∀ j, j < 8 → ∃ q ∈ cSg 64, q.2.1 = 3 ∧ q.2.2.1 = 1 ∧ q.2.2.2.1.toNat = 2996 * j + 1476 := by decide +kernel
theorem eox16 : cOk cT0 ey243 4 2 0 0 enx16 := by
  refine (cOk_of2 cb_fun ?_ ?_).mono (by decide)
  · intro ι avs τ h g ρ σ hp
    obtain ⟨m, xs, rfl, -, m2, m3, hx⟩ := m_this hp rfl rfl
    obtain ⟨r, r1, r2, r3, r4⟩ := m_sec (n := 23968) hp rfl
    obtain ⟨a, a1, a2, a3, a4⟩ := m_now hp.1 m3
    rw [c2_3 r1 hx]
    have hb := hp.2.2.2.1.1.2 (0, 0, 7) List.mem_cons_self
    have b1 : (0 : Int) ≤ ρ 0 := hb.1
    have b2 : ρ 0 ≤ (7 : Int) := hb.2
    refine ⟨m, a, r, (2996 * ρ 0).toNat, ?_, m2, a1, a3, a4, r2, by omega, by omega, fun e => by rw [e, a2] at r3; cases r3⟩
    have ev : cE ρ (0, [(0, 2996)]) = 2996 * ρ 0 := by show 0 + cev ρ [(0, 2996)] = _; rw [cev_cons, cev_nil]; show 0 + (2996 * ρ 0 + 0) = _; omega
    rw [ev, show (((2996 * ρ 0).toNat : Nat) : Int) = 2996 * ρ 0 by omega]
  · rintro ι avs τ h g ρ σ v τ' h' hp ⟨m, a, r, F, eav, ha, hF, rfl, rfl, rfl⟩
    obtain ⟨m', xs, e, -, -, m3, hx⟩ := m_this hp rfl rfl
    obtain ⟨r', r1, r2, r3, r4⟩ := m_sec (n := 23968) hp rfl
    rw [c2_3 r1 hx] at e
    rw [e] at eav
    injection eav with e1 e2
    injection e1 with e1
    injection e2 with e2 e3
    injection e2 with e2
    subst e1 e2
    injection e3 with e3
    injection e3 with e3
    have hb := hp.2.2.2.1.1.2 (0, 0, 7) List.mem_cons_self
    have b1 : (0 : Int) ≤ ρ 0 := hb.1
    have b2 : ρ 0 ≤ (7 : Int) := hb.2
    have ev : cE ρ (0, [(0, 2996)]) = 2996 * ρ 0 := by show 0 + cev ρ [(0, 2996)] = _; rw [cev_cons, cev_nil]; show 0 + (2996 * ρ 0 + 0) = _; omega
    rw [ev] at e3
    have e4 := (bz_eq ⟨by omega, by omega⟩ ⟨by omega, by omega⟩).mp e3
    obtain ⟨j, hj, rfl⟩ : ∃ j : Nat, j < 8 ∧ F = 2996 * j := ⟨(ρ 0).toNat, by omega, by omega⟩
    obtain ⟨a', a1, a2, a3, a4⟩ := m_now hp.1 m3
    rw [ha] at a1
    cases a1
    obtain ⟨p1, p2⟩ := o_arr hp.1 r3 (by decide) cR64
    obtain ⟨q, q1, q2, q3, q4⟩ := g64a j hj
    have hc := p2 (by decide) q q1 q2
    rw [q3, q4] at hc
    refine ⟨_, cPst_void hp rfl (cb_wt hp.1 a2 (fun e => by rw [e, a2] at r3; cases r3) (cb_words8 j hj) p1 hc) (cb_hi a3 rfl), fun H => bHp_gh a3 (by omega)⟩
