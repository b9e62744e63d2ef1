/-! ===== live: prompt ===== -/
theorem l4_fun (x1 x2 : Int) : bOk ey250 6 3 0 0 (fun _ avs τ h => ∃ m a, avs = [.ref m, .int (bz 4), .int (bz x1), .int (bz x2)] ∧ τ.1 m = 12 ∧ h.2 m 14 = some a ∧ τ.1 a = 41 ∧ τ.2 a = 3266 ∧ 0 ≤ h.1 a 45 ∧ h.1 a 45 ≤ 40) (fun _ avs τ h v τ' h' => ∃ m a w, avs = [.ref m, .int (bz 4), .int (bz x1), .int (bz x2)] ∧ h.2 m 14 = some a ∧ v = none ∧ τ' = τ ∧ (h' = bsetI h a 35 w ∨ ∃ (n : Nat) (w1 t : Int), (n : Int) = h.1 a 45 ∧ n < 40 ∧ w1 = h.1 a 28 + h.1 a 2 - 4294967296 * t ∧ h' = seH h a n w 6 w1 0 0)) := by
  refine bOk_of emp250.1.2.2.2.2.2.1 ?_ ?_
  · rintro ι avs τ h ⟨ m, a,  rfl, -⟩
    exact Nat.le_of_ble_eq_true rfl
  · intro γ ι τ h avs d hd hp Bg C
    obtain ⟨m, a, rfl, hm, ha, hta, hla, l45, u45⟩ := hp
    have hn : γ.2.2.1 = 6 := Bg.2.1
    obtain ⟨d, rfl⟩ : ∃ d', d = d' + 1 := ⟨d - 1, by omega⟩
    refine b_al0 C (dk_at ec250 (i := 0) rfl).1 rfl ?_
    refine b_iload_n C (dk_at ec250 (i := 1) rfl).1 rfl ?_
    refine b_inv (As := [.int (bz x1)]) (rest := []) C Bg.x (dk_at ec250 (i := 2) rfl) (by decide) rfl (un_fun x1) (by omega) rfl hm ⟨m, rfl⟩ (Nat.le_of_ble_eq_true rfl) (Nat.le_refl _) (Nat.le_refl _) ?_
    rintro v τ' h' ⟨rfl, rfl, rfl⟩
    refine b_istore C (dk_at ec250 (i := 3) rfl).1 (by rw [hn]; decide) (bno2_of (fun w hw _ => by cases hw; exact (show (1 : Nat) ≠ 2 by decide))) ?_
    refine b_iload_n C (dk_at ec250 (i := 4) rfl).1 rfl ?_
    refine b_tableIn (off := 148) (t := 156) C (dk_at ec250 (i := 5) rfl).1 ⟨by omega, by omega⟩ ⟨by omega, by omega⟩ rfl (by decide) ?_
    refine b_al0 C (dk_at ec250 (i := 76) rfl).1 rfl ?_
    refine b_bipush C (dk_at ec250 (i := 77) rfl).1 ⟨by omega, by omega⟩ ?_
    refine b_iconst C (dk_at ec250 (i := 78) rfl).1 ?_
    refine b_iconst C (dk_at ec250 (i := 79) rfl).1 ?_
    refine b_inv (As := [.int (bz 6), .int (bz 0), .int (bz 0)]) (rest := []) C Bg.x (dk_at ec250 (i := 80) rfl) (by decide) rfl (se_fun 6 0 0) (by omega) rfl hm ⟨⟨by omega, by omega⟩, ⟨by omega, by omega⟩, ⟨by omega, by omega⟩, m, a, rfl, hm, ha, hta, hla, l45, u45⟩ (by decide) (Nat.le_refl _) (Nat.le_refl _) ?_
    rintro v τ' h' ⟨m', a', w, e1, e2, rfl, hq⟩
    injection e1 with e1
    injection e1 with e1
    subst e1
    rcases hq with ⟨rfl, rfl⟩ | ⟨n, w1, t, en, hn40, et, rfl, rfl⟩
    · refine b_pop C (dk_at ec250 (i := 81) rfl).1 rfl ?_
      exact b_vret C Bg (dk_at ec250 (i := 82) rfl).1 rfl (Nat.le_refl _) (Nat.le_refl _) ⟨m, a', w, rfl, e2, rfl, rfl, Or.inl rfl⟩
    · refine b_pop C (dk_at ec250 (i := 81) rfl).1 rfl ?_
      exact b_vret C Bg (dk_at ec250 (i := 82) rfl).1 rfl (Nat.le_refl _) (Nat.le_refl _) ⟨m, a', w, rfl, e2, rfl, rfl, Or.inr ⟨n, w1, t, en, hn40, et, rfl⟩⟩
theorem eox20 : cOk cT0 ey250 6 5 0 0 enx20 := by
  have K : cOk cT0 ey250 6 3 0 0 enx20 := by
    intro g ρ σ
    by_cases k0 : ρ 0 = 4
    · refine bOk_to (l4_fun (ρ 1) (ρ 2)) ?_ ?_
      · intro ι avs τ h hp
        obtain ⟨m, xs, rfl, m1, m2, m3, hxs⟩ := m_this hp rfl rfl
        obtain ⟨a, a1, a2, a3, a4⟩ := m_now hp.1 m3
        have b45 := now_45 hp.1 a2
        exact ⟨m, a, by rw [c2_i3 hxs, k0], m2, a1, a3, a4, b45.1, b45.2⟩
      · rintro ι avs τ h v τ' h' hp ⟨m, a, w, rfl, ha1, rfl, rfl, hq⟩
        obtain ⟨m', xs, e, m1, -, m3, -⟩ := m_this hp rfl rfl
        cases e
        obtain ⟨a', a1, ga, ta, -⟩ := m_now hp.1 m3
        rw [ha1] at a1
        cases a1
        rcases hq with rfl | ⟨n, w1, t, en, hn40, et, rfl⟩
        · exact cPst_void hp rfl (wt_35 hp.1 ga) (se_hi ta rfl (fun b i hb => if_neg (by omega)) ⟨by rfl, by rfl, by rfl⟩)
        · exact cPst_void hp rfl (se_wt hp.1 ga en hn40 et ⟨by omega, by omega⟩ ⟨⟨by omega, by omega⟩, fun z => by omega⟩ (fun z => by omega) (fun z => by omega)) (se_hi ta rfl (fun b i hb => se_out (by omega)) ⟨by rfl, by rfl, by rfl⟩)
    · have K := ld_fun (ρ 0) (ρ 1) (ρ 2)
      refine bOk_to K ?_ ?_
      · intro ι avs τ h hp
        obtain ⟨m, xs, rfl, m1, m2, m3, hxs⟩ := m_this hp rfl rfl
        obtain ⟨a, a1, a2, a3, a4⟩ := m_now hp.1 m3
        have b0 := cBo_at hp.2.2.2.1.1 (s := 0) (x := 4) (y := 2147483647) (by decide)
        exact ⟨hp.2.2.1 0, by omega, m, a, by rw [c2_i3 hxs], m2, a1, a3, a4⟩
      · rintro ι avs τ h v τ' h' hp ⟨m, a, rfl, ha1, rfl, rfl, rfl⟩
        obtain ⟨m', xs, e, m1, -, m3, -⟩ := m_this hp rfl rfl
        cases e
        obtain ⟨a', a1, ga, ta, -⟩ := m_now hp.1 m3
        rw [ha1] at a1
        cases a1
        exact cPst_void hp rfl (ld_wt hp.1 ga) (cHi_upd (a := a) (l := 46) (u := 534) rfl (fun b i hb => if_neg (by omega)) (by rw [ta]; rfl))
  exact K.mono (by decide)
