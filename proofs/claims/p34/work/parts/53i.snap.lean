/-! ===== snap's contracts ===== -/
theorem sh_words : ∀ j : Nat, j < 7 → cwr (cSg 64) (cSg 64) (2996 * j) (2996 * (j + 1)) 2996 = true
  | 0, _ => by decide +kernel
  | 1, _ => by decide +kernel
  | 2, _ => by decide +kernel
  | 3, _ => by decide +kernel
  | 4, _ => by decide +kernel
  | 5, _ => by decide +kernel
  | 6, _ => by decide +kernel
  | n + 7, h => absurd h (by omega)
theorem sv_words8 : ∀ j : Nat, j < 8 → cwr (cSg 64) (cSg 61) (2996 * j) 28 2996 = true
  | 0, _ => by decide +kernel
  | 1, _ => by decide +kernel
  | 2, _ => by decide +kernel
  | 3, _ => by decide +kernel
  | 4, _ => by decide +kernel
  | 5, _ => by decide +kernel
  | 6, _ => by decide +kernel
  | 7, _ => by decide +kernel
  | n + 8, h => absurd h (by omega)
section SNWT
variable {g : Nat → Nat} {τ : bt} {h : bh} {a s m : Nat}
theorem o_snap (hw : cWT cT0 g τ h) (gs : g s = 64) : (∀ i, (cseg (cSg 64) i).1 = 0 → (cseg (cSg 64) i).2.1 ≤ h.1 s i ∧ h.1 s i ≤ (cseg (cSg 64) i).2.2.1) ∧ ∀ j, j < 8 → creg 1 (2996 * j + 1476) (h.1 s) := by
  obtain ⟨p1, p2⟩ := o_arr hw gs (by decide) cR64
  refine ⟨p1, fun j hj => ?_⟩
  obtain ⟨q, q1, q2, q3, q4⟩ := g64a j hj
  have := p2 (by decide) q q1 q2
  rwa [q3, q4] at this
theorem sh_wt (hw : cWT cT0 g τ h) (gs : g s = 64) : cWT cT0 g τ (bcp h s 0 s 2996 20972) := by
  obtain ⟨p1, p2⟩ := o_snap hw gs
  have hin : ∀ k, k < 20972 → (bcp h s 0 s 2996 20972).1 s k = h.1 s (2996 + k) := by
    intro k hk
    have := bcp_at (h := h) (a := s) (d := 0) (t := s) (s := 2996) hk
    rwa [Nat.zero_add] at this
  have hout : ∀ i, 20972 ≤ i → (bcp h s 0 s 2996 20972).1 s i = h.1 s i := fun i hi => if_neg (by omega)
  refine cWT.upd hw (a := s) (by rw [gs]; exact cR64) (by omega) (by omega) (by omega) rfl (fun b hb i => if_neg (fun e => hb e.1)) (fun i hi => ?_) (fun _ q hq q3 => ?_)
  · by_cases hl : i < 20972
    · obtain ⟨j, k, hj, hk, rfl⟩ : ∃ j k, j < 7 ∧ k < 2996 ∧ i = 2996 * j + k := ⟨i / 2996, i % 2996, by omega, by omega, by omega⟩
      rw [hin _ hl, show 2996 + (2996 * j + k) = 2996 * (j + 1) + k by omega]
      exact cwr_ok 2996 (sh_words j hj) k hk _ hi (p1 _)
    · rw [hout i (by omega)]
      exact p1 i hi
  · obtain ⟨q1, j, hj, q2⟩ := g64 q hq q3
    rw [q1, q2]
    by_cases e : j = 7
    · subst e
      exact creg_eq (fun i hi => hout i (by rcases hi with ⟨h1, -⟩ | ⟨h1, -⟩ <;> omega)) (p2 7 (by omega))
    · refine creg1_sh (c := 2996 * (j + 1) + 1476) (f := h.1 s) (fun i hi => ?_) (p2 (j + 1) (by omega)) (Or.inl rfl)
      rw [hin _ (by omega), show 2996 + (2996 * j + 1476 + i) = 2996 * (j + 1) + 1476 + i by omega]
theorem sl_wt {N : Nat} (hw : cWT cT0 g τ h) (gs : g s = 64) (ga : g a = 61) (hN : N < 8) : cWT cT0 g τ (bcp h s (2996 * N) a 28 2996) := by
  obtain ⟨p1, p2⟩ := o_snap hw gs
  obtain ⟨o1, o2, o3⟩ := o_now hw ga
  have hin : ∀ k, k < 2996 → (bcp h s (2996 * N) a 28 2996).1 s (2996 * N + k) = h.1 a (28 + k) := fun k hk => bcp_at hk
  have hout : ∀ i, (i < 2996 * N ∨ 2996 * N + 2996 ≤ i) → (bcp h s (2996 * N) a 28 2996).1 s i = h.1 s i := fun i hi => if_neg (by omega)
  refine cWT.upd hw (a := s) (by rw [gs]; exact cR64) (by omega) (by omega) (by omega) rfl (fun b hb i => if_neg (fun e => hb e.1)) (fun i hi => ?_) (fun _ q hq q3 => ?_)
  · by_cases hl : 2996 * N ≤ i ∧ i < 2996 * N + 2996
    · obtain ⟨k, hk, rfl⟩ : ∃ k, k < 2996 ∧ i = 2996 * N + k := ⟨i - 2996 * N, by omega, by omega⟩
      rw [hin k hk]
      exact cwr_ok 2996 (sv_words8 N hN) k hk _ hi (o1 _)
    · rw [hout i (by omega)]
      exact p1 i hi
  · obtain ⟨q1, j, hj, q2⟩ := g64 q hq q3
    rw [q1, q2]
    by_cases e : j = N
    · subst e
      refine creg1_sh (c := 1504) (f := h.1 a) (fun i hi => ?_) o2 (Or.inr rfl)
      rw [show 2996 * j + 1476 + i = 2996 * j + (1476 + i) by omega, hin _ (by omega), show 28 + (1476 + i) = 1504 + i by omega]
    · refine creg_eq (fun i hi => hout i ?_) (p2 j hj)
      rcases hi with ⟨h1, ⟨h2, -⟩ | ⟨h2, -⟩ | ⟨-, -, h2⟩⟩ | ⟨h2, -⟩
      · omega
      · omega
      · omega
      · omega
theorem cR12 : cfR cT0 12 = some (12, 0, 0, cSg 12) := by rfl
theorem w25 : (cseg (cSg 12) 25) = (0, 0, 8, 0, false) := by rfl
theorem f25 {z : Int} (hw : cWT cT0 g τ h) (gm : g m = 12) (h0 : 0 ≤ z) (h8 : z ≤ 8) : cWT cT0 g τ (bsetI h m 25 z) := by
  refine cWT.fld hw (by rw [gm]; exact cR12) (by decide) (by omega) (by omega) (fun _ => ?_)
  show (cseg (cSg 12) 25).2.1 ≤ z ∧ z ≤ (cseg (cSg 12) 25).2.2.1
  rw [w25]
  exact ⟨h0, h8⟩
theorem m_snaps (hw : cWT cT0 g τ h) (gm : g m = 12) : ∃ s, h.2 m 17 = some s ∧ g s = 64 ∧ τ.1 s = 41 ∧ τ.2 s = 23968 := by
  obtain ⟨a, a1, a2, -, a4, a5, a6⟩ := m_arr hw (k := 17) (r := 64) gm (by decide) rfl cR64
  have a5 : (23968 : Int) ≤ τ.2 a := a5
  have a6 : (τ.2 a : Int) ≤ 23968 := a6
  exact ⟨a, a1, a2, a4, by omega⟩
theorem m_25 (hw : cWT cT0 g τ h) (gm : g m = 12) : 0 ≤ h.1 m 25 ∧ h.1 m 25 ≤ 8 := by
  have := (o_arr hw gm (by decide) cR12).1 25 (by rw [w25])
  rw [w25] at this
  exact this
end SNWT
/-- what snap leaves -/
theorem sn_end {g : Nat → Nat} {τ : bt} {h H1 h' : bh} {E : cEf} {a s m : Nat} (hw : cWT cT0 g τ h) (gm : g m = 12) (ga : g a = 61) (gs : g s = 64) (ts : τ.1 s = 41) (tm : τ.1 m = 12) (hE : cefR E 12 25 25 = true ∧ cefR E 41 0 23967 = true) (hq : (h.1 m 25 = 8 ∧ H1 = bsetI (bcp h s 0 s 2996 20972) m 25 7) ∨ (h.1 m 25 ≠ 8 ∧ H1 = h)) (hh : h' = bsetI (bcp H1 s (2996 * (H1.1 m 25).toNat) a 28 2996) m 25 (H1.1 m 25 + 1)) : cWT cT0 g τ h' ∧ cHi E g τ h g τ h' ∧ h'.2 = h.2 ∧ h'.1 a 45 = h.1 a 45 := by
  have b25 := m_25 hw gm
  have nma : a ≠ m := fun e => by rw [e, gm] at ga; cases ga
  have nsa : a ≠ s := fun e => by rw [e, gs] at ga; cases ga
  have H1w : cWT cT0 g τ H1 ∧ 0 ≤ H1.1 m 25 ∧ H1.1 m 25 ≤ 7 ∧ H1.2 = h.2 ∧ (∀ b i, (b ≠ s ∨ 23968 ≤ i) → (b ≠ m ∨ i ≠ 25) → H1.1 b i = h.1 b i) := by
    rcases hq with ⟨h8, rfl⟩ | ⟨h8, rfl⟩
    · refine ⟨f25 (sh_wt hw gs) gm (by decide) (by decide), by rw [bsetI_at]; decide, by rw [bsetI_at]; decide, rfl, fun b i h1 h2 => ?_⟩
      show (if b = m ∧ i = 25 then (7 : Int) else if b = s ∧ 0 ≤ i ∧ i < 0 + 20972 then _ else h.1 b i) = _
      rw [if_neg (by omega), if_neg (by omega)]
    · exact ⟨hw, b25.1, by omega, rfl, fun _ _ _ _ => rfl⟩
  obtain ⟨w1, n0, n7, e2, eo⟩ := H1w
  have hN : (H1.1 m 25).toNat < 8 := by omega
  have ho : ∀ b i, (b ≠ s ∨ 23968 ≤ i) → (b ≠ m ∨ i ≠ 25) → h'.1 b i = h.1 b i := by
    intro b i h1 h2
    rw [← eo b i h1 h2, hh]
    show (if b = m ∧ i = 25 then _ else if b = s ∧ 2996 * (H1.1 m 25).toNat ≤ i ∧ i < 2996 * (H1.1 m 25).toNat + 2996 then _ else H1.1 b i) = _
    rw [if_neg (by omega), if_neg (by omega)]
  refine ⟨?_, fun b _ => ⟨rfl, rfl, Or.inl rfl, fun i hi => ⟨ho b i ?_ ?_, by rw [hh, ← e2]; rfl⟩⟩, by rw [hh, ← e2]; rfl, ho a 45 (Or.inl nsa) (Or.inl nma)⟩
  · rw [hh]
    exact f25 (sl_wt w1 gs ga hN) gm (by omega) (by omega)
  · refine Classical.byContradiction fun z => ?_
    have e : b = s := Classical.byContradiction fun y => z (Or.inl y)
    subst e
    rw [ts, cefR_ok hE.2 (i := i) (by omega) (by omega)] at hi
    cases hi
  · refine Classical.byContradiction fun z => ?_
    have e : b = m := Classical.byContradiction fun y => z (Or.inl y)
    have e25 : i = 25 := Classical.byContradiction fun y => z (Or.inr y)
    subst e e25
    rw [tm, cefR_ok hE.1 (i := 25) (by omega) (by omega)] at hi
    cases hi
theorem sn_pre {c : cCn} {ι : bI} {avs : List Value} {τ : bt} {h : bh} {g : Nat → Nat} {ρ : Nat → Int} {σ : Nat → Option Nat} {rf : List cRf} (hp : cPr cT0 c ι avs τ h g ρ σ) (hr : c.1.2.2.1.2.2.1 = (0, 12, 12, false, (0, [])) :: rf) (ha : c.1.2.2.2 = [(1, 0, (0, []))]) : ∃ m a s, avs = [.ref m] ∧ σ 0 = some m ∧ τ.1 m = 12 ∧ g m = 12 ∧ h.2 m 14 = some a ∧ g a = 61 ∧ τ.1 a = 41 ∧ τ.2 a = 3266 ∧ h.2 m 17 = some s ∧ g s = 64 ∧ τ.1 s = 41 ∧ τ.2 s = 23968 ∧ s ≠ a ∧ 0 ≤ h.1 m 25 ∧ h.1 m 25 ≤ 8 := by
  obtain ⟨m, xs, rfl, m1, m2, m3, hx⟩ := m_this hp hr ha
  cases xs with
  | cons => exact hx.elim
  | nil =>
    obtain ⟨a, a1, a2, a3, a4⟩ := m_now hp.1 m3
    obtain ⟨s, s1, s2, s3, s4⟩ := m_snaps hp.1 m3
    have b25 := m_25 hp.1 m3
    exact ⟨m, a, s, rfl, m1, m2, m3, a1, a2, a3, a4, s1, s2, s3, s4, (fun e => by rw [e, a2] at s2; cases s2), b25.1, b25.2⟩
theorem eox18 : cOk cT0 ey244 2 4 0 0 enx18 := by
  refine (cOk_of sn_fun ?_ ?_).mono (by decide)
  · intro ι avs τ h g ρ σ hp
    obtain ⟨m, a, s, e1, -, e2, -, e3, -, e4, e5, e6, -, e7, e8, e9, e10, e11⟩ := sn_pre hp rfl rfl
    exact ⟨m, a, s, e1, e2, e3, e4, e5, e6, e7, e8, e9, e10, e11⟩
  · rintro ι avs τ h g ρ σ v τ' h' hp ⟨m, a, s, H1, rfl, ha, hs, rfl, rfl, hq, hh⟩
    obtain ⟨m', a', s', e1, -, e2, gm, e3, ga, e4, e5, e6, gs, e7, -⟩ := sn_pre hp rfl rfl
    cases e1
    rw [ha] at e3
    cases e3
    rw [hs] at e6
    cases e6
    obtain ⟨x1, x2, -, -⟩ := sn_end (E := enx18.2.2) hp.1 gm ga gs e7 e2 ⟨by rfl, by rfl⟩ hq hh
    exact cPst_void hp rfl x1 x2
theorem eox17 : cOk cT0 ey244 2 4 0 0 enx17 := by
  refine (cOk_of sn_fun ?_ ?_).mono (by decide)
  · intro ι avs τ h g ρ σ hp
    obtain ⟨m, a, s, e1, -, e2, -, e3, -, e4, e5, e6, -, e7, e8, e9, e10, e11⟩ := sn_pre hp rfl rfl
    exact ⟨m, a, s, e1, e2, e3, e4, e5, e6, e7, e8, e9, e10, e11⟩
  · rintro ι avs τ h g ρ σ v τ' h' hp ⟨m, a, s, H1, rfl, ha, hs, rfl, rfl, hq, hh⟩
    obtain ⟨m', a', s', e1, e0, e2, gm, e3, ga, e4, e5, e6, gs, e7, -⟩ := sn_pre hp rfl rfl
    cases e1
    rw [ha] at e3
    cases e3
    rw [hs] at e6
    cases e6
    obtain ⟨x1, x2, x3, x4⟩ := sn_end (E := enx17.2.2) hp.1 gm ga gs e7 e2 ⟨by rfl, by rfl⟩ hq hh
    have f1 := hp.2.2.2.1.2.2.2 (0, 14, (1, 1, (0, []))) List.mem_cons_self
    have f2 := hp.2.2.2.1.2.2.2 (1, 45, (0, 0, (0, [(0, 1)]))) (List.mem_cons_of_mem _ List.mem_cons_self)
    obtain ⟨y1, y2, -, y3, -⟩ := f1
    obtain ⟨z1, z2, z3, -⟩ := f2
    have y2 : σ 0 = some y1 := y2
    have z2 : σ 1 = some z1 := z2
    rw [e0] at y2
    cases y2
    have y3 : h.2 m 14 = σ 1 := y3 rfl
    have ea : z1 = a := by rw [ha, z2] at y3; exact (Option.some.inj y3).symm
    subst ea
    refine ⟨g, ρ, σ, x1, hp.2.1, x2, cag.rf hp.2.2.1, ⟨⟨hp.2.2.1, fun q hq => absurd hq List.not_mem_nil⟩, fun q hq => absurd hq List.not_mem_nil, fun q hq => absurd hq List.not_mem_nil, fun q hq => ?_⟩, trivial⟩
    rcases List.mem_cons.mp hq with rfl | hq
    · exact ⟨m, e0, fun w => absurd w (by decide), fun _ => by show h'.2 m 14 = σ 1; rw [x3]; exact y3, fun w => absurd w (by decide)⟩
    · obtain rfl := List.mem_singleton.mp hq
      exact ⟨z1, z2, fun _ => by show h'.1 z1 45 = _; rw [x4]; exact z3 rfl, fun w => absurd w (by decide), fun w => absurd w (by decide)⟩
