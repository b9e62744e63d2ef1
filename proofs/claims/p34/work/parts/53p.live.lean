/-! ===== live: lose, prompt, crash ===== -/
theorem ld_fun (x0 x1 x2 : Int) : bOk ey250 6 3 0 0 (fun _ avs τ h => brg x0 ∧ (x0 < 0 ∨ 4 < x0) ∧ ∃ m a, avs = [.ref m, .int (bz x0), .int (bz x1), .int (bz x2)] ∧ τ.1 m = 12 ∧ h.2 m 14 = some a ∧ τ.1 a = 41 ∧ τ.2 a = 3266) (fun _ avs τ h v τ' h' => ∃ m a, avs = [.ref m, .int (bz x0), .int (bz x1), .int (bz x2)] ∧ h.2 m 14 = some a ∧ v = none ∧ τ' = τ ∧ h' = bcp h a 46 a 535 489) := by
  refine bOk_of emp250.1.2.2.2.2.2.1 ?_ ?_
  · rintro ι avs τ h ⟨-, -, m, a,  rfl, -⟩
    exact Nat.le_of_ble_eq_true rfl
  · intro γ ι τ h avs d hd hp Bg C
    obtain ⟨hx0, hk, m, a, rfl, hm, ha, hta, hla⟩ := hp
    have hn : γ.2.2.1 = 6 := Bg.2.1
    obtain ⟨d, rfl⟩ : ∃ d', d = d' + 1 := ⟨d - 1, by omega⟩
    have loop : ∀ r k : Nat, k + r = 489 → bJ γ 169 [some (.ref m), some (.int (bz x0)), some (.int (bz x1)), some (.int (bz x2)), some (.int (bz (1504 + 38 * x1))), some (.int (bz (k : Int)))] [] τ (bcp h a 46 a 535 k) 0 0 := by
      intro r
      induction r with
      | zero =>
        intro k hk
        refine b_iload C (dk_at ec250 (i := 85) rfl).1 rfl ?_
        refine b_sipush C (dk_at ec250 (i := 86) rfl).1 ⟨by omega, by omega⟩ ?_
        refine b_icmp_ge (t := 204) C (dk_at ec250 (i := 87) rfl).1 (by decide) ⟨by omega, by omega⟩ ⟨by omega, by omega⟩ (fun z => ?_) (fun z => ?_)
        · have ek : k = 489 := by omega
          subst ek
          exact b_vret C Bg (dk_at ec250 (i := 102) rfl).1 rfl (Nat.le_refl _) (Nat.le_refl _) ⟨m, a, rfl, ha, rfl, rfl, rfl⟩
        · omega
      | succ r ih =>
        intro k hk
        refine b_iload C (dk_at ec250 (i := 85) rfl).1 rfl ?_
        refine b_sipush C (dk_at ec250 (i := 86) rfl).1 ⟨by omega, by omega⟩ ?_
        refine b_icmp_ge (t := 204) C (dk_at ec250 (i := 87) rfl).1 (by decide) ⟨by omega, by omega⟩ ⟨by omega, by omega⟩ (fun z => ?_) (fun z => ?_)
        · omega
        refine b_al0 C (dk_at ec250 (i := 88) rfl).1 rfl ?_
        refine b_gR C (dk_at ec250 (i := 89) rfl) hm ha ?_
        refine b_bipush C (dk_at ec250 (i := 90) rfl).1 ⟨by omega, by omega⟩ ?_
        refine b_iload C (dk_at ec250 (i := 91) rfl).1 rfl ?_
        refine b_iadd C (dk_at ec250 (i := 92) rfl).1 ?_
        refine b_al0 C (dk_at ec250 (i := 93) rfl).1 rfl ?_
        refine b_gR C (dk_at ec250 (i := 94) rfl) hm ha ?_
        refine b_sipush C (dk_at ec250 (i := 95) rfl).1 ⟨by omega, by omega⟩ ?_
        refine b_iload C (dk_at ec250 (i := 96) rfl).1 rfl ?_
        refine b_iadd C (dk_at ec250 (i := 97) rfl).1 ?_
        refine b_rd (j := 535 + k) C (dk_at ec250 (i := 98) rfl).1 hta (by omega) (by omega) (fun hv => ?_)
        refine b_wr (j := 46 + k) C (dk_at ec250 (i := 99) rfl).1 hta (by omega) (by omega) hv ?_
        refine b_iinc (a := (k : Int)) C (dk_at ec250 (i := 100) rfl).1 (by rw [hn]; decide) rfl (bno2_of (fun w hw _ => by cases hw; exact (show (1 : Nat) ≠ 2 by decide))) ?_
        refine b_goto (t := 169) C (dk_at ec250 (i := 101) rfl).1 (by decide) ?_
        have := ih (k + 1) (by omega)
        rw [show (((k + 1 : Nat) : Int)) = (k : Int) + 1 by omega, ← bcp_step (Or.inr (Or.inr (by omega)))] at this
        rw [bcp_rd (Or.inr (Or.inr (by omega)))]
        exact this
    refine b_al0 C (dk_at ec250 (i := 0) rfl).1 rfl ?_
    refine b_iload_n C (dk_at ec250 (i := 1) rfl).1 rfl ?_
    refine b_inv (As := [.int (bz x1)]) (rest := []) C Bg.x (dk_at ec250 (i := 2) rfl) (by decide) rfl (un_fun x1) (by omega) rfl hm ⟨m, rfl⟩ (Nat.le_of_ble_eq_true rfl) (Nat.le_refl _) (Nat.le_refl _) ?_
    rintro v τ' h' ⟨rfl, rfl, rfl⟩
    refine b_istore C (dk_at ec250 (i := 3) rfl).1 (by rw [hn]; decide) (bno2_of (fun w hw _ => by cases hw; exact (show (1 : Nat) ≠ 2 by decide))) ?_
    refine b_iload_n C (dk_at ec250 (i := 4) rfl).1 rfl ?_
    refine b_tableOut (t := 166) C (dk_at ec250 (i := 5) rfl).1 hx0 hk (by decide) ?_
    refine b_iconst C (dk_at ec250 (i := 83) rfl).1 ?_
    refine b_istore C (dk_at ec250 (i := 84) rfl).1 (by rw [hn]; decide) (bno2_of (fun w hw _ => by cases hw; exact (show (1 : Nat) ≠ 2 by decide))) ?_
    have := loop 489 0 rfl
    rw [bcp_0] at this
    exact this
theorem l0_fun (u : Nat) (x2 : Int) : bOk ey250 6 3 0 0 (fun _ avs τ h => ∃ m a N, avs = [.ref m, .int (bz 0), .int (bz (u : Int)), .int (bz x2)] ∧ τ.1 m = 12 ∧ h.2 m 14 = some a ∧ τ.1 a = 41 ∧ τ.2 a = 3266 ∧ ((N : Nat) : Int) + 1 = h.1 a 45 ∧ u ≤ N ∧ N < 40) (fun _ avs τ h v τ' h' => ∃ m a N, avs = [.ref m, .int (bz 0), .int (bz (u : Int)), .int (bz x2)] ∧ h.2 m 14 = some a ∧ ((N : Nat) : Int) + 1 = h.1 a 45 ∧ v = none ∧ τ' = τ ∧ h' = drH h a u N) := by
  refine bOk_of emp250.1.2.2.2.2.2.1 ?_ ?_
  · rintro ι avs τ h ⟨ m, a, N, rfl, -⟩
    exact Nat.le_of_ble_eq_true rfl
  · intro γ ι τ h avs d hd hp Bg C
    obtain ⟨m, a, N, rfl, hm, ha, hta, hla, eN, hu, hN⟩ := hp
    have hn : γ.2.2.1 = 6 := Bg.2.1
    obtain ⟨d, rfl⟩ : ∃ d', d = d' + 1 := ⟨d - 1, by omega⟩
    refine b_al0 C (dk_at ec250 (i := 0) rfl).1 rfl ?_
    refine b_iload_n C (dk_at ec250 (i := 1) rfl).1 rfl ?_
    refine b_inv (As := [.int (bz (u : Int))]) (rest := []) C Bg.x (dk_at ec250 (i := 2) rfl) (by decide) rfl (un_fun (u : Int)) (by omega) rfl hm ⟨m, rfl⟩ (Nat.le_of_ble_eq_true rfl) (Nat.le_refl _) (Nat.le_refl _) ?_
    rintro v τ' h' ⟨rfl, rfl, rfl⟩
    refine b_istore C (dk_at ec250 (i := 3) rfl).1 (by rw [hn]; decide) (bno2_of (fun w hw _ => by cases hw; exact (show (1 : Nat) ≠ 2 by decide))) ?_
    refine b_iload_n C (dk_at ec250 (i := 4) rfl).1 rfl ?_
    refine b_tableIn (off := 36) (t := 44) C (dk_at ec250 (i := 5) rfl).1 ⟨by omega, by omega⟩ ⟨by omega, by omega⟩ rfl (by decide) ?_
    refine b_al0 C (dk_at ec250 (i := 6) rfl).1 rfl ?_
    refine b_iload_n C (dk_at ec250 (i := 7) rfl).1 rfl ?_
    refine b_inv (As := [.int (bz (u : Int))]) (rest := []) C Bg.x (dk_at ec250 (i := 8) rfl) (by decide) rfl (dr_fun u) (by omega) rfl hm ⟨m, a, N, rfl, hm, ha, hta, hla, eN, hu, hN⟩ (Nat.le_of_ble_eq_true rfl) (Nat.le_refl _) (Nat.le_refl _) ?_
    rintro v τ' h' ⟨m', a', N', e1, e2, e3, rfl, rfl, rfl⟩
    injection e1 with e1
    injection e1 with e1
    subst e1
    exact b_vret C Bg (dk_at ec250 (i := 9) rfl).1 rfl (Nat.le_refl _) (Nat.le_refl _) ⟨m, a', N', rfl, e2, e3, rfl, rfl, rfl⟩
theorem bOk_to {T : cTb} {y : bY} {nL d0 b1 b2 : Nat} {c : cCn} {g : Nat → Nat} {ρ : Nat → Int} {σ : Nat → Option Nat} {Pre : bI → List Value → bt → bh → Prop} {Post : bPost} (K : bOk y nL d0 b1 b2 Pre Post) (h1 : ∀ ι avs τ h, cPr T c ι avs τ h g ρ σ → Pre ι avs τ h) (h2 : ∀ ι avs τ h v τ' h', cPr T c ι avs τ h g ρ σ → Post ι avs τ h v τ' h' → cPst T c g ρ σ ι avs τ h v τ' h') : bOk y nL d0 b1 b2 (fun ι avs τ h => cPr T c ι avs τ h g ρ σ) (cPst T c g ρ σ) := by
  intro l hl d hd ι τ h avs hp
  refine Jvm.Free.MetFree.mono (K l hl d hd ι τ h avs (h1 _ _ _ _ hp)) (fun _ _ h => h) (fun _ _ _ _ _ h => h) (fun a s0 oc t _ hq => ⟨?_, hq.2⟩)
  obtain ⟨⟨⟨v, τ', h', e1, e2, e3⟩, e4⟩, -⟩ := hq
  exact ⟨⟨v, τ', h', e1, h2 _ _ _ _ _ _ _ hp e2, e3⟩, e4⟩
theorem ld_words : cwr (cSg 61) (cSg 61) 46 535 489 = true := by decide +kernel
theorem ld_wt {g : Nat → Nat} {τ : bt} {h : bh} (hw : cWT cT0 g τ h) {a : Nat} (ga : g a = 61) : cWT cT0 g τ (bcp h a 46 a 535 489) := by
  have ho : ∀ b i, (b ≠ a ∨ i < 46 ∨ 534 < i) → (bcp h a 46 a 535 489).1 b i = h.1 b i := fun b i hb => if_neg (by omega)
  obtain ⟨o1, o2, o3⟩ := o_now hw ga
  refine w_now hw ga (l := 46) (u := 534) rfl ho (fun i i1 i2 hi => ?_) (creg_far (l := 46) (u := 534) (by decide +kernel) (fun i hi => ho a i (Or.inr hi)) o2) (creg_far (l := 46) (u := 534) (by decide +kernel) (fun i hi => ho a i (Or.inr hi)) o3)
  obtain ⟨k, rfl⟩ : ∃ k, i = 46 + k := ⟨i - 46, by omega⟩
  rw [bcp_at (h := h) (a := a) (d := 46) (t := a) (s := 535) (n := 489) (k := k) (by omega)]
  exact cwr_ok 489 ld_words k (by omega) _ hi (o1 (535 + k))
theorem eox109 : cOk cT0 ey250 6 5 0 0 enx109 := by
  have K : cOk cT0 ey250 6 3 0 0 enx109 := by
    intro g ρ σ
    by_cases k0 : ρ 0 = 0
    · by_cases hu : 0 ≤ ρ 1
      · obtain ⟨u, eu⟩ : ∃ u : Nat, (u : Int) = ρ 1 := ⟨(ρ 1).toNat, by omega⟩
        refine bOk_to (l0_fun u (ρ 2)) ?_ ?_
        · intro ι avs τ h hp
          obtain ⟨m, xs, rfl, m1, m2, m3, hxs⟩ := m_this hp rfl rfl
          obtain ⟨a, a1, a2, a3, a4⟩ := m_now hp.1 m3
          have s1 := f_now hp.2.2.2.1 List.mem_cons_self m1 a1
          obtain ⟨y, y1, y2, -⟩ := hp.2.2.2.1.2.2.2 (1, 45, (0, 0, (0, [(3, 1)]))) (List.mem_cons_of_mem _ List.mem_cons_self)
          have y1 : σ 1 = some y := y1
          rw [s1] at y1
          cases y1
          have y2 : h.1 a 45 = 0 + (1 * ρ 3 + 0) := y2 rfl
          have c1 : 0 ≤ -1 + (-1 * ρ 1 + (1 * ρ 3 + 0)) := hp.2.2.2.1.2.1 (-1, [(1, -1), (3, 1)]) (List.mem_cons_of_mem _ List.mem_cons_self)
          have b45 := now_45 hp.1 a2
          exact ⟨m, a, (h.1 a 45 - 1).toNat, by rw [c2_i3 hxs, k0, eu], m2, a1, a3, a4, by omega, by omega, by omega⟩
        · rintro ι avs τ h v τ' h' hp ⟨m, a, N, rfl, ha1, eN, rfl, rfl, rfl⟩
          obtain ⟨m', xs, e, m1, -, m3, -⟩ := m_this hp rfl rfl
          cases e
          obtain ⟨a', a1, ga, ta, -⟩ := m_now hp.1 m3
          rw [ha1] at a1
          cases a1
          have s1 := f_now hp.2.2.2.1 List.mem_cons_self m1 ha1
          obtain ⟨y, y1, y2, -⟩ := hp.2.2.2.1.2.2.2 (1, 45, (0, 0, (0, [(3, 1)]))) (List.mem_cons_of_mem _ List.mem_cons_self)
          have y1 : σ 1 = some y := y1
          rw [s1] at y1
          cases y1
          have y2 : h.1 a 45 = 0 + (1 * ρ 3 + 0) := y2 rfl
          have c1 : 0 ≤ -1 + (-1 * ρ 1 + (1 * ρ 3 + 0)) := hp.2.2.2.1.2.1 (-1, [(1, -1), (3, 1)]) (List.mem_cons_of_mem _ List.mem_cons_self)
          have b45 := now_45 hp.1 ga
          have huN : u ≤ N := by omega
          exact cPst_void hp rfl (dr_wt hp.1 ga eN huN (by omega)) (se_hi ta rfl (fun b i hb => dr_out huN (by omega)) ⟨by rfl, by rfl, by rfl⟩)
      · refine bOk_to (l0_fun 0 (ρ 2)) (fun ι avs τ h hp => ?_) (fun ι avs τ h v τ' h' hp _ => ?_)
        · exact absurd (show 0 ≤ 0 + (1 * ρ 1 + 0) from hp.2.2.2.1.2.1 (0, [(1, 1)]) List.mem_cons_self) (by omega)
        · exact absurd (show 0 ≤ 0 + (1 * ρ 1 + 0) from hp.2.2.2.1.2.1 (0, [(1, 1)]) List.mem_cons_self) (by omega)
    · have K := ld_fun (ρ 0) (ρ 1) (ρ 2)
      refine bOk_to K ?_ ?_
      · intro ι avs τ h hp
        obtain ⟨m, xs, rfl, m1, m2, m3, hxs⟩ := m_this hp rfl rfl
        obtain ⟨a, a1, a2, a3, a4⟩ := m_now hp.1 m3
        have b0 := cBo_at hp.2.2.2.1.1 (s := 0) (x := -2147483648) (y := 0) (by decide)
        exact ⟨hp.2.2.1 0, by omega, m, a, by rw [c2_i3 hxs], m2, a1, a3, a4⟩
      · rintro ι avs τ h v τ' h' hp ⟨m, a, rfl, ha1, rfl, rfl, rfl⟩
        obtain ⟨m', xs, e, m1, -, m3, -⟩ := m_this hp rfl rfl
        cases e
        obtain ⟨a', a1, ga, ta, -⟩ := m_now hp.1 m3
        rw [ha1] at a1
        cases a1
        exact cPst_void hp rfl (ld_wt hp.1 ga) (cHi_upd (a := a) (l := 46) (u := 534) rfl (fun b i hb => if_neg (by omega)) (by rw [ta]; rfl))
  exact K.mono (by decide)
