/-! ===== live: spoil ===== -/
theorem l3_fun (u : Nat) (x2 : Int) : bOk ey250 6 2 0 0 (fun _ avs τ h => u < 40 ∧ ∃ m a, avs = [.ref m, .int (bz 3), .int (bz (u : Int)), .int (bz x2)] ∧ τ.1 m = 12 ∧ h.2 m 14 = some a ∧ τ.1 a = 41 ∧ τ.2 a = 3266) (fun _ avs τ h v τ' h' => ∃ m a w, avs = [.ref m, .int (bz 3), .int (bz (u : Int)), .int (bz x2)] ∧ h.2 m 14 = some a ∧ v = none ∧ τ' = τ ∧ h' = bsetI (bsetI h a (1504 + 38 * u + 4) 1) a (1504 + 38 * u + 6) w) := by
  refine bOk_of emp250.1.2.2.2.2.2.1 ?_ ?_
  · rintro ι avs τ h ⟨-, m, a, rfl, -⟩
    exact Nat.le_of_ble_eq_true rfl
  · intro γ ι τ h avs d hd hp Bg C
    obtain ⟨hu, m, a, rfl, hm, ha, hta, hla⟩ := hp
    have hn : γ.2.2.1 = 6 := Bg.2.1
    obtain ⟨d, rfl⟩ : ∃ d', d = d' + 1 := ⟨d - 1, by omega⟩
    refine b_al0 C (dk_at ec250 (i := 0) rfl).1 rfl ?_
    refine b_iload_n C (dk_at ec250 (i := 1) rfl).1 rfl ?_
    refine b_inv (As := [.int (bz (u : Int))]) (rest := []) C Bg.x (dk_at ec250 (i := 2) rfl) (by decide) rfl (un_fun (u : Int)) (by omega) rfl hm ⟨m, rfl⟩ (Nat.le_of_ble_eq_true rfl) (Nat.le_refl _) (Nat.le_refl _) ?_
    rintro v τ' h' ⟨rfl, rfl, rfl⟩
    refine b_istore C (dk_at ec250 (i := 3) rfl).1 (by rw [hn]; decide) (bno2_of (fun w hw _ => by cases hw; exact (show (1 : Nat) ≠ 2 by decide))) ?_
    refine b_iload_n C (dk_at ec250 (i := 4) rfl).1 rfl ?_
    refine b_tableIn (off := 113) (t := 121) C (dk_at ec250 (i := 5) rfl).1 ⟨by omega, by omega⟩ ⟨by omega, by omega⟩ rfl (by decide) ?_
    refine b_al0 C (dk_at ec250 (i := 54) rfl).1 rfl ?_
    refine b_gR C (dk_at ec250 (i := 55) rfl) hm ha ?_
    refine b_iload C (dk_at ec250 (i := 56) rfl).1 rfl ?_
    refine b_iconst C (dk_at ec250 (i := 57) rfl).1 ?_
    refine b_iadd C (dk_at ec250 (i := 58) rfl).1 ?_
    refine b_iconst C (dk_at ec250 (i := 59) rfl).1 ?_
    refine b_wr (j := 1504 + 38 * u + 4) C (dk_at ec250 (i := 60) rfl).1 hta (by omega) (by omega) ⟨by omega, by omega⟩ ?_
    refine b_al0 C (dk_at ec250 (i := 61) rfl).1 rfl ?_
    refine b_gR C (dk_at ec250 (i := 62) rfl) hm ha ?_
    refine b_iload C (dk_at ec250 (i := 63) rfl).1 rfl ?_
    refine b_bipush C (dk_at ec250 (i := 64) rfl).1 ⟨by omega, by omega⟩ ?_
    refine b_iadd C (dk_at ec250 (i := 65) rfl).1 ?_
    refine b_sipush C (dk_at ec250 (i := 66) rfl).1 ⟨by omega, by omega⟩ ?_
    refine b_al0 C (dk_at ec250 (i := 67) rfl).1 rfl ?_
    refine b_gR C (dk_at ec250 (i := 68) rfl) hm ha ?_
    refine b_iload C (dk_at ec250 (i := 69) rfl).1 rfl ?_
    refine b_bipush C (dk_at ec250 (i := 70) rfl).1 ⟨by omega, by omega⟩ ?_
    refine b_iadd C (dk_at ec250 (i := 71) rfl).1 ?_
    refine b_rd (j := 1504 + 38 * u + 6) C (dk_at ec250 (i := 72) rfl).1 hta (by omega) (by omega) (fun _ => ?_)
    refine b_isub C (dk_at ec250 (i := 73) rfl).1 ?_
    refine b_norm (fun w t hw et => ?_)
    refine b_wr (j := 1504 + 38 * u + 6) C (dk_at ec250 (i := 74) rfl).1 hta (by omega) (by omega) hw ?_
    exact b_vret C Bg (dk_at ec250 (i := 75) rfl).1 rfl (Nat.le_refl _) (Nat.le_refl _) ⟨m, a, w, rfl, ha, rfl, rfl, rfl⟩
theorem sy_wt4 {g : Nat → Nat} {τ : bt} {H h' : bh} {a n : Nat} (hw : cWT cT0 g τ H) (ga : g a = 61) (hn : n < 40) (h2 : h'.2 = H.2) (ho : ∀ b i, (b ≠ a ∨ i < 1504 + 38 * n + 2 ∨ 1504 + 38 * n + 38 ≤ i) → h'.1 b i = H.1 b i) (hu : ublk (h'.1 a) (1504 + 38 * n)) : cWT cT0 g τ h' := by
  obtain ⟨o1, o2, o3⟩ := o_now hw ga
  refine w_now hw ga (l := 1504) (u := 3023) h2 (fun b i hb => ho b i (by omega)) (fun i i1 i2 hi => ?_) ⟨fun _ u hu' => ?_, fun z => by omega, fun z => by omega, fun _ u u1 u2 u3 => ?_⟩ (creg_far (l := 1504) (u := 3023) (by decide +kernel) (fun i hi => ho a i (by omega)) o3)
  · have := csn_ok 1520 se_z.1 i (by omega) (by omega)
    omega
  · by_cases e : u = n
    · subst e; exact hu
    · exact ublk_eq (fun i i1 i2 => ho a i (by omega)) (o2.1 (Or.inr rfl) u hu')
  · rw [ho a 5000 (by omega)] at u1
    rw [ho a 45 (by omega)] at u2
    rw [ho a 28 (by omega), ho a (1504 + 38 * u + 1) (by omega)]
    exact o2.2.2.2 rfl u u1 u2 u3
theorem l3_ok {c : cCn} {u : Nat} (hu : u < 40) (h0 : (0, 3, 3) ∈ c.1.2.2.1.1) (h1 : (1, (u : Int), (u : Int)) ∈ c.1.2.2.1.1) (h4 : (4, 0, 0) ∈ c.1.2.2.1.1) (hr : c.1.2.2.1.2.2.1 = [(0, 12, 12, false, (0, [])), (1, 41, 61, false, (3266, []))]) (hf : c.1.2.2.1.2.2.2 = [(0, 14, (1, 1, (0, []))), (1, 45, (0, 0, (0, [(3, 1)]))), (1, 1504 + 38 * u, (0, 0, (0, [(4, 1)])))]) (ha : c.1.2.2.2 = [(1, 0, (0, [])), (0, 0, (0, [(0, 1)])), (0, 0, (0, [(1, 1)])), (0, 0, (0, [(2, 1)]))]) (hc : c.2.1.2.2 = (([], [], [], []), [])) (he : cefR c.2.2 41 1504 3023 = true) : cOk cT0 ey250 6 2 0 0 c := by
  refine cOk_ofp (fun ρ => l3_fun u (ρ 2)) ?_ ?_
  · intro ι avs τ h g ρ σ hp
    obtain ⟨m, xs, rfl, -, m2, m3, hxs⟩ := m_this hp hr ha
    obtain ⟨a, a1, a2, a3, a4⟩ := m_now hp.1 m3
    have b0 := cBo_at hp.2.2.2.1.1 h0
    have b1 := cBo_at hp.2.2.2.1.1 h1
    have e0 : ρ 0 = 3 := by omega
    have e1 : ρ 1 = (u : Int) := by omega
    exact ⟨hu, m, a, by rw [c2_i3 hxs, e0, e1], m2, a1, a3, a4⟩
  · rintro ι avs τ h g ρ σ v τ' h' hp ⟨m, a, w, rfl, ha1, rfl, rfl, rfl⟩
    obtain ⟨m', xs, e, m1, -, m3, -⟩ := m_this hp hr ha
    cases e
    obtain ⟨a', a1, ga, ta, -⟩ := m_now hp.1 m3
    rw [ha1] at a1
    cases a1
    have s1 := f_now hp.2.2.2.1 (by rw [hf]; exact List.mem_cons_self) m1 ha1
    have b4 := cBo_at hp.2.2.2.1.1 h4
    obtain ⟨y, y1, y2, -⟩ := hp.2.2.2.1.2.2.2 (1, 1504 + 38 * u, (0, 0, (0, [(4, 1)]))) (by rw [hf]; exact List.mem_cons_of_mem _ (List.mem_cons_of_mem _ List.mem_cons_self))
    have y1 : σ 1 = some y := y1
    rw [s1] at y1
    cases y1
    have y2 : h.1 a (1504 + 38 * u) = 0 + (1 * ρ 4 + 0) := y2 rfl
    have val : ∀ b i, (bsetI (bsetI h a (1504 + 38 * u + 4) 1) a (1504 + 38 * u + 6) w).1 b i = if b = a ∧ i = 1504 + 38 * u + 6 then w else if b = a ∧ i = 1504 + 38 * u + 4 then 1 else h.1 b i := fun b i => rfl
    have ou := (o_now hp.1 ga).2.1.1 (Or.inr rfl) u hu
    refine cPst_void hp hc (sy_wt4 hp.1 ga hu rfl (fun b i hb => ?_) ?_) (cHi_upd (a := a) (l := 1504) (u := 3023) rfl (fun b i hb => ?_) (by rw [ta]; exact he))
    · rw [val, if_neg (by omega), if_neg (by omega)]
    · unfold ublk at ou ⊢
      rw [val a (1504 + 38 * u), if_neg (by omega), if_neg (by omega), val a (1504 + 38 * u + 2), if_neg (by omega), if_neg (by omega), val a (1504 + 38 * u + 3), if_neg (by omega), if_neg (by omega)]
      exact ⟨ou.1, ou.2.1, ou.2.2.1, fun z => by omega⟩
    · rw [val, if_neg (by omega), if_neg (by omega)]
theorem eox111 : cOk cT0 ey250 6 5 0 0 enx111 := (l3_ok (u := 0) (by decide) (by decide) (by decide) (by decide) rfl rfl rfl rfl rfl).mono (by decide)
theorem eox112 : cOk cT0 ey250 6 5 0 0 enx112 := (l3_ok (u := 1) (by decide) (by decide) (by decide) (by decide) rfl rfl rfl rfl rfl).mono (by decide)
theorem eox113 : cOk cT0 ey250 6 5 0 0 enx113 := (l3_ok (u := 2) (by decide) (by decide) (by decide) (by decide) rfl rfl rfl rfl rfl).mono (by decide)
theorem eox114 : cOk cT0 ey250 6 5 0 0 enx114 := (l3_ok (u := 3) (by decide) (by decide) (by decide) (by decide) rfl rfl rfl rfl rfl).mono (by decide)
theorem eox115 : cOk cT0 ey250 6 5 0 0 enx115 := (l3_ok (u := 4) (by decide) (by decide) (by decide) (by decide) rfl rfl rfl rfl rfl).mono (by decide)
theorem eox116 : cOk cT0 ey250 6 5 0 0 enx116 := (l3_ok (u := 5) (by decide) (by decide) (by decide) (by decide) rfl rfl rfl rfl rfl).mono (by decide)
theorem eox117 : cOk cT0 ey250 6 5 0 0 enx117 := (l3_ok (u := 6) (by decide) (by decide) (by decide) (by decide) rfl rfl rfl rfl rfl).mono (by decide)
theorem eox118 : cOk cT0 ey250 6 5 0 0 enx118 := (l3_ok (u := 7) (by decide) (by decide) (by decide) (by decide) rfl rfl rfl rfl rfl).mono (by decide)
theorem eox119 : cOk cT0 ey250 6 5 0 0 enx119 := (l3_ok (u := 8) (by decide) (by decide) (by decide) (by decide) rfl rfl rfl rfl rfl).mono (by decide)
theorem eox120 : cOk cT0 ey250 6 5 0 0 enx120 := (l3_ok (u := 9) (by decide) (by decide) (by decide) (by decide) rfl rfl rfl rfl rfl).mono (by decide)
theorem eox121 : cOk cT0 ey250 6 5 0 0 enx121 := (l3_ok (u := 10) (by decide) (by decide) (by decide) (by decide) rfl rfl rfl rfl rfl).mono (by decide)
theorem eox122 : cOk cT0 ey250 6 5 0 0 enx122 := (l3_ok (u := 11) (by decide) (by decide) (by decide) (by decide) rfl rfl rfl rfl rfl).mono (by decide)
theorem eox123 : cOk cT0 ey250 6 5 0 0 enx123 := (l3_ok (u := 12) (by decide) (by decide) (by decide) (by decide) rfl rfl rfl rfl rfl).mono (by decide)
theorem eox124 : cOk cT0 ey250 6 5 0 0 enx124 := (l3_ok (u := 13) (by decide) (by decide) (by decide) (by decide) rfl rfl rfl rfl rfl).mono (by decide)
theorem eox125 : cOk cT0 ey250 6 5 0 0 enx125 := (l3_ok (u := 14) (by decide) (by decide) (by decide) (by decide) rfl rfl rfl rfl rfl).mono (by decide)
theorem eox126 : cOk cT0 ey250 6 5 0 0 enx126 := (l3_ok (u := 15) (by decide) (by decide) (by decide) (by decide) rfl rfl rfl rfl rfl).mono (by decide)
theorem eox127 : cOk cT0 ey250 6 5 0 0 enx127 := (l3_ok (u := 16) (by decide) (by decide) (by decide) (by decide) rfl rfl rfl rfl rfl).mono (by decide)
theorem eox128 : cOk cT0 ey250 6 5 0 0 enx128 := (l3_ok (u := 17) (by decide) (by decide) (by decide) (by decide) rfl rfl rfl rfl rfl).mono (by decide)
theorem eox129 : cOk cT0 ey250 6 5 0 0 enx129 := (l3_ok (u := 18) (by decide) (by decide) (by decide) (by decide) rfl rfl rfl rfl rfl).mono (by decide)
theorem eox130 : cOk cT0 ey250 6 5 0 0 enx130 := (l3_ok (u := 19) (by decide) (by decide) (by decide) (by decide) rfl rfl rfl rfl rfl).mono (by decide)
theorem eox131 : cOk cT0 ey250 6 5 0 0 enx131 := (l3_ok (u := 20) (by decide) (by decide) (by decide) (by decide) rfl rfl rfl rfl rfl).mono (by decide)
theorem eox132 : cOk cT0 ey250 6 5 0 0 enx132 := (l3_ok (u := 21) (by decide) (by decide) (by decide) (by decide) rfl rfl rfl rfl rfl).mono (by decide)
theorem eox133 : cOk cT0 ey250 6 5 0 0 enx133 := (l3_ok (u := 22) (by decide) (by decide) (by decide) (by decide) rfl rfl rfl rfl rfl).mono (by decide)
theorem eox134 : cOk cT0 ey250 6 5 0 0 enx134 := (l3_ok (u := 23) (by decide) (by decide) (by decide) (by decide) rfl rfl rfl rfl rfl).mono (by decide)
theorem eox135 : cOk cT0 ey250 6 5 0 0 enx135 := (l3_ok (u := 24) (by decide) (by decide) (by decide) (by decide) rfl rfl rfl rfl rfl).mono (by decide)
theorem eox136 : cOk cT0 ey250 6 5 0 0 enx136 := (l3_ok (u := 25) (by decide) (by decide) (by decide) (by decide) rfl rfl rfl rfl rfl).mono (by decide)
theorem eox137 : cOk cT0 ey250 6 5 0 0 enx137 := (l3_ok (u := 26) (by decide) (by decide) (by decide) (by decide) rfl rfl rfl rfl rfl).mono (by decide)
theorem eox138 : cOk cT0 ey250 6 5 0 0 enx138 := (l3_ok (u := 27) (by decide) (by decide) (by decide) (by decide) rfl rfl rfl rfl rfl).mono (by decide)
theorem eox139 : cOk cT0 ey250 6 5 0 0 enx139 := (l3_ok (u := 28) (by decide) (by decide) (by decide) (by decide) rfl rfl rfl rfl rfl).mono (by decide)
theorem eox140 : cOk cT0 ey250 6 5 0 0 enx140 := (l3_ok (u := 29) (by decide) (by decide) (by decide) (by decide) rfl rfl rfl rfl rfl).mono (by decide)
theorem eox141 : cOk cT0 ey250 6 5 0 0 enx141 := (l3_ok (u := 30) (by decide) (by decide) (by decide) (by decide) rfl rfl rfl rfl rfl).mono (by decide)
theorem eox142 : cOk cT0 ey250 6 5 0 0 enx142 := (l3_ok (u := 31) (by decide) (by decide) (by decide) (by decide) rfl rfl rfl rfl rfl).mono (by decide)
theorem eox143 : cOk cT0 ey250 6 5 0 0 enx143 := (l3_ok (u := 32) (by decide) (by decide) (by decide) (by decide) rfl rfl rfl rfl rfl).mono (by decide)
theorem eox144 : cOk cT0 ey250 6 5 0 0 enx144 := (l3_ok (u := 33) (by decide) (by decide) (by decide) (by decide) rfl rfl rfl rfl rfl).mono (by decide)
theorem eox145 : cOk cT0 ey250 6 5 0 0 enx145 := (l3_ok (u := 34) (by decide) (by decide) (by decide) (by decide) rfl rfl rfl rfl rfl).mono (by decide)
theorem eox146 : cOk cT0 ey250 6 5 0 0 enx146 := (l3_ok (u := 35) (by decide) (by decide) (by decide) (by decide) rfl rfl rfl rfl rfl).mono (by decide)
theorem eox147 : cOk cT0 ey250 6 5 0 0 enx147 := (l3_ok (u := 36) (by decide) (by decide) (by decide) (by decide) rfl rfl rfl rfl rfl).mono (by decide)
theorem eox148 : cOk cT0 ey250 6 5 0 0 enx148 := (l3_ok (u := 37) (by decide) (by decide) (by decide) (by decide) rfl rfl rfl rfl rfl).mono (by decide)
theorem eox149 : cOk cT0 ey250 6 5 0 0 enx149 := (l3_ok (u := 38) (by decide) (by decide) (by decide) (by decide) rfl rfl rfl rfl rfl).mono (by decide)
theorem eox150 : cOk cT0 ey250 6 5 0 0 enx150 := (l3_ok (u := 39) (by decide) (by decide) (by decide) (by decide) rfl rfl rfl rfl rfl).mono (by decide)
