/-! ===== p34: image and restore of the reference, exact ===== -/
theorem bOk_gh {y : bY} {nL d0 b1 b2 : Nat} {Pre Pre' : bI → List Value → bt → bh → Prop} {Post Post' : bPost} (K : bOk y nL d0 b1 b2 Pre Post) (h1 : ∀ ι avs τ h, Pre' ι avs τ h → Pre ι avs τ h) (h2 : ∀ ι avs τ h v τ' h', Pre' ι avs τ h → Post ι avs τ h v τ' h' → ∃ h'', Post' ι avs τ h v τ' h'' ∧ ∀ H, bHp ι τ' h' H → bHp ι τ' h'' H) : bOk y nL d0 b1 b2 Pre' Post' := by
  intro l hl d hd ι τ h avs hp
  refine Jvm.Free.MetFree.mono (K l hl d hd ι τ h avs (h1 _ _ _ _ hp)) (fun _ _ h => h) (fun _ _ _ _ _ h => h) (fun a s0 oc t _ hq => ⟨?_, hq.2⟩)
  obtain ⟨⟨⟨v, τ', h', e1, e2, e3⟩, e4⟩, -⟩ := hq
  obtain ⟨h'', f1, f2⟩ := h2 _ _ _ _ _ _ _ hp e2
  exact ⟨⟨v, τ', h'', e1, f1, f2 _ e3⟩, e4⟩
theorem rr2_fun (m a K N1 N2 B : Nat) (x : Int) : bOk ey298 3 2 0 0 (fun _ avs τ h => avs = [.ref m, .int (bz x)] ∧ brg x ∧ τ.1 m = 12 ∧ (h.2 m 14 = some a ∧ τ.1 a = 41 ∧ τ.2 a = 3266) ∧ (h.2 m 16 = some K ∧ τ.1 K = 41 ∧ τ.2 K = 6532) ∧ (h.2 m 20 = some N1 ∧ τ.1 N1 = 44 ∧ τ.2 N1 = 10) ∧ (h.2 m 22 = some N2 ∧ τ.1 N2 = 44 ∧ τ.2 N2 = 20) ∧ (h.2 m 23 = some B ∧ τ.1 B = 43 ∧ τ.2 B = 2) ∧ K ≠ a) (fun _ avs τ h v τ' h' => τ' = τ ∧ ((v = some (.int (bz 0)) ∧ h' = bsetI h m 0 0 ∧ ¬ ∃ k : Nat, (k : Int) = x ∧ k < 2 ∧ h.1 B k ≠ 0) ∨ (v = some (.int (bz 1)) ∧ ∃ k : Nat, (k : Int) = x ∧ k < 2 ∧ h.1 B k ≠ 0 ∧ h' = bsetI (bcp (bsetI h m 0 0) a 0 K (3266 * k) 3266) m 25 0))) := by
  refine bOk_of emp298.1.2.2.2.2.2.1 ?_ ?_
  · rintro ι avs τ h ⟨rfl, -⟩
    exact Nat.le_of_ble_eq_true rfl
  · intro γ ι τ h avs d hd hp Bg C
    obtain ⟨rfl, hx, hm, ⟨ha, hta, hla⟩, ⟨hK, htK, hlK⟩, ⟨h1, ht1, hl1⟩, ⟨h2, ht2, hl2⟩, ⟨hB, htB, hlB⟩, hne⟩ := hp
    have hn : γ.2.2.1 = 3 := Bg.2.1
    obtain ⟨d, rfl⟩ : ∃ d', d = d' + 1 := ⟨d - 1, by omega⟩
    have main : ∀ k : Nat, (k : Int) = x → k < 2 → h.1 B k ≠ 0 → bJ γ 27 [some (.ref m), some (.int (bz x)), some (.int (bz ((0 : Nat) : Int)))] [] τ (bsetI h m 0 0) 0 0 := by
      intro k ek hk hkB
      have loop2 : ∀ r i : Nat, i + r = 10 → bJ γ 60 [some (.ref m), some (.int (bz x)), some (.int (bz (i : Int)))] [] τ (bcp (bsetI h m 0 0) a 0 K (3266 * k) 3266) 0 0 := by
        intro r
        induction r with
        | zero =>
          intro i hi
          obtain rfl : i = 10 := by omega
          refine b_iload_n C (dk_at ec298 (i := 36) rfl).1 rfl ?_
          refine b_bipush C (dk_at ec298 (i := 37) rfl).1 ⟨by omega, by omega⟩ ?_
          refine b_icmp_ge (t := 89) C (dk_at ec298 (i := 38) rfl).1 (by decide) ⟨by omega, by omega⟩ ⟨by omega, by omega⟩ (fun z63 => ?_) (fun z63 => ?_)
          · refine b_al0 C (dk_at ec298 (i := 53) rfl).1 rfl ?_
            refine b_iconst C (dk_at ec298 (i := 54) rfl).1 ?_
            refine b_pI C (dk_at ec298 (i := 55) rfl) ⟨by omega, by omega⟩ hm ?_
            refine b_iconst C (dk_at ec298 (i := 56) rfl).1 ?_
            exact b_iret C Bg (dk_at ec298 (i := 57) rfl).1 (Or.inr ⟨rfl, by omega⟩) (Nat.le_refl _) (Nat.le_refl _) ⟨rfl, Or.inr ⟨rfl, k, ek, hk, hkB, rfl⟩⟩
          · omega
        | succ r ih =>
          intro i hi
          refine b_iload_n C (dk_at ec298 (i := 36) rfl).1 rfl ?_
          refine b_bipush C (dk_at ec298 (i := 37) rfl).1 ⟨by omega, by omega⟩ ?_
          refine b_icmp_ge (t := 89) C (dk_at ec298 (i := 38) rfl).1 (by decide) ⟨by omega, by omega⟩ ⟨by omega, by omega⟩ (fun z63 => ?_) (fun z63 => ?_)
          · omega
          · refine b_al0 C (dk_at ec298 (i := 39) rfl).1 rfl ?_
            refine b_gR C (dk_at ec298 (i := 40) rfl) hm h1 ?_
            refine b_iload_n C (dk_at ec298 (i := 41) rfl).1 rfl ?_
            refine b_al0 C (dk_at ec298 (i := 42) rfl).1 rfl ?_
            refine b_gR C (dk_at ec298 (i := 43) rfl) hm h2 ?_
            refine b_bipush C (dk_at ec298 (i := 44) rfl).1 ⟨by omega, by omega⟩ ?_
            refine b_iload_n C (dk_at ec298 (i := 45) rfl).1 rfl ?_
            refine b_imul C (dk_at ec298 (i := 46) rfl).1 ?_
            refine b_iload_n C (dk_at ec298 (i := 47) rfl).1 rfl ?_
            refine b_iadd C (dk_at ec298 (i := 48) rfl).1 ?_
            refine b_lald C (dk_at ec298 (i := 49) rfl).1 (Or.inr ht2) (by omega) (by omega) (fun _ => ?_)
            refine b_last C (dk_at ec298 (i := 50) rfl).1 (Or.inr ht1) (by omega) (by omega) ?_
            refine b_iinc (a := (i : Int)) C (dk_at ec298 (i := 51) rfl).1 (by rw [hn]; decide) rfl (bno2_of (fun w hw _ => by cases hw; exact (show (1 : Nat) ≠ 2 by decide))) ?_
            refine b_goto (t := 60) C (dk_at ec298 (i := 52) rfl).1 (by decide) ?_
            have := ih (i + 1) (by omega)
            rw [show (((i + 1 : Nat) : Int)) = (i : Int) + 1 by omega] at this
            exact this
      have loop1 : ∀ r i : Nat, i + r = 3266 → bJ γ 27 [some (.ref m), some (.int (bz x)), some (.int (bz (i : Int)))] [] τ (bcp (bsetI h m 0 0) a 0 K (3266 * k) i) 0 0 := by
        intro r
        induction r with
        | zero =>
          intro i hi
          obtain rfl : i = 3266 := by omega
          refine b_iload_n C (dk_at ec298 (i := 17) rfl).1 rfl ?_
          refine b_sipush C (dk_at ec298 (i := 18) rfl).1 ⟨by omega, by omega⟩ ?_
          refine b_icmp_ge (t := 58) C (dk_at ec298 (i := 19) rfl).1 (by decide) ⟨by omega, by omega⟩ ⟨by omega, by omega⟩ (fun z31 => ?_) (fun z31 => ?_)
          · refine b_iconst C (dk_at ec298 (i := 34) rfl).1 ?_
            refine b_istore_n C (dk_at ec298 (i := 35) rfl).1 (by rw [hn]; decide) (bno2_of (fun w hw _ => by cases hw; exact (show (1 : Nat) ≠ 2 by decide))) ?_
            exact loop2 10 0 rfl
          · omega
        | succ r ih =>
          intro i hi
          refine b_iload_n C (dk_at ec298 (i := 17) rfl).1 rfl ?_
          refine b_sipush C (dk_at ec298 (i := 18) rfl).1 ⟨by omega, by omega⟩ ?_
          refine b_icmp_ge (t := 58) C (dk_at ec298 (i := 19) rfl).1 (by decide) ⟨by omega, by omega⟩ ⟨by omega, by omega⟩ (fun z31 => ?_) (fun z31 => ?_)
          · omega
          · refine b_al0 C (dk_at ec298 (i := 20) rfl).1 rfl ?_
            refine b_gR C (dk_at ec298 (i := 21) rfl) hm ha ?_
            refine b_iload_n C (dk_at ec298 (i := 22) rfl).1 rfl ?_
            refine b_al0 C (dk_at ec298 (i := 23) rfl).1 rfl ?_
            refine b_gR C (dk_at ec298 (i := 24) rfl) hm hK ?_
            refine b_sipush C (dk_at ec298 (i := 25) rfl).1 ⟨by omega, by omega⟩ ?_
            refine b_iload_n C (dk_at ec298 (i := 26) rfl).1 rfl ?_
            refine b_imul C (dk_at ec298 (i := 27) rfl).1 ?_
            refine b_iload_n C (dk_at ec298 (i := 28) rfl).1 rfl ?_
            refine b_iadd C (dk_at ec298 (i := 29) rfl).1 ?_
            refine b_rd (j := 3266 * k + i) C (dk_at ec298 (i := 30) rfl).1 htK (by omega) (by omega) (fun hv => ?_)
            refine b_wr (j := 0 + i) C (dk_at ec298 (i := 31) rfl).1 hta (by omega) (by omega) hv ?_
            refine b_iinc (a := (i : Int)) C (dk_at ec298 (i := 32) rfl).1 (by rw [hn]; decide) rfl (bno2_of (fun w hw _ => by cases hw; exact (show (1 : Nat) ≠ 2 by decide))) ?_
            refine b_goto (t := 27) C (dk_at ec298 (i := 33) rfl).1 (by decide) ?_
            have := ih (i + 1) (by omega)
            rw [show (((i + 1 : Nat) : Int)) = (i : Int) + 1 by omega, ← bcp_step (Or.inl hne)] at this
            rw [bcp_rd (Or.inl hne)]
            exact this
      have := loop1 3266 0 rfl
      rw [bcp_0] at this
      exact this
    refine b_al0 C (dk_at ec298 (i := 0) rfl).1 rfl ?_
    refine b_iconst C (dk_at ec298 (i := 1) rfl).1 ?_
    refine b_pI C (dk_at ec298 (i := 2) rfl) ⟨by omega, by omega⟩ hm ?_
    refine b_iload_n C (dk_at ec298 (i := 3) rfl).1 rfl ?_
    refine b_iconst C (dk_at ec298 (i := 4) rfl).1 ?_
    refine b_iconst C (dk_at ec298 (i := 5) rfl).1 ?_
    refine b_ins (As := [.int (bz x), .int (bz 0), .int (bz 1)]) (rest := []) C Bg.x (dk_at ec298 (i := 6) rfl) (by decide) rfl (is_fun x 0 1) (by omega) rfl ⟨rfl, hx, ⟨by omega, by omega⟩, ⟨by omega, by omega⟩⟩ (Nat.le_of_ble_eq_true rfl) (Nat.le_refl _) (Nat.le_refl _) ?_
    rintro v τ' h' ⟨rfl, rfl, r, rfl, hr⟩
    refine b_if_eq (t := 23) C (dk_at ec298 (i := 7) rfl).1 (by decide) ⟨by omega, by omega⟩ (fun z11 => ?_) (fun z11 => ?_)
    · refine b_iconst C (dk_at ec298 (i := 13) rfl).1 ?_
      exact b_iret C Bg (dk_at ec298 (i := 14) rfl).1 (Or.inr ⟨rfl, by omega⟩) (Nat.le_refl _) (Nat.le_refl _) ⟨rfl, Or.inl ⟨rfl, rfl, fun ⟨k, e1, e2, _⟩ => by omega⟩⟩
    · refine b_al0 C (dk_at ec298 (i := 8) rfl).1 rfl ?_
      refine b_gR C (dk_at ec298 (i := 9) rfl) hm hB ?_
      refine b_iload_n C (dk_at ec298 (i := 10) rfl).1 rfl ?_
      refine b_bald C (dk_at ec298 (i := 11) rfl).1 (Or.inr (Or.inr htB)) (by omega) (by omega) (fun hv => ?_)
      refine b_if_ne (t := 25) C (dk_at ec298 (i := 12) rfl).1 (by decide) hv (fun z20 => ?_) (fun z20 => ?_)
      · refine b_iconst C (dk_at ec298 (i := 15) rfl).1 ?_
        refine b_istore_n C (dk_at ec298 (i := 16) rfl).1 (by rw [hn]; decide) (bno2_of (fun w hw _ => by cases hw; exact (show (1 : Nat) ≠ 2 by decide))) ?_
        obtain ⟨k, ek⟩ : ∃ k : Nat, (k : Int) = x := ⟨x.toNat, by omega⟩
        have hk : k < 2 := by omega
        have hkB : h.1 B k ≠ 0 := by
          intro e
          refine z20 ?_
          rw [bsetI_no (fun e => by rw [e] at htB; omega), show x.toNat = k by omega]
          exact e
        exact main k ek hk hkB
      · refine b_iconst C (dk_at ec298 (i := 13) rfl).1 ?_
        exact b_iret C Bg (dk_at ec298 (i := 14) rfl).1 (Or.inr ⟨rfl, by omega⟩) (Nat.le_refl _) (Nat.le_refl _) ⟨rfl, Or.inl ⟨rfl, rfl, fun ⟨k, e1, e2, e3⟩ => e3 (by rw [bsetI_no (fun e => by rw [e] at htB; omega), show x.toNat = k by omega] at z20; exact z20)⟩⟩
theorem eim2 (g : Nat → Nat) (ρ : Nat → Int) (σ : Nat → Option Nat) : bOk ey297 3 3 0 0 (fun ι avs τ h => cPr cT0 enx27 ι avs τ h g ρ σ ∧ ∀ a b, g a = 12 → g b = 12 → a = b) (fun ι avs τ h v τ' h' => cPst cT0 enx27 g ρ σ ι avs τ h v τ' h' ∧ h'.2 = h.2 ∧ ∀ m r B, avs = .ref m :: r → h.2 m 23 = some B → ((v = some (.int (bz 1)) ∧ ∃ k : Nat, (k : Int) = ρ 0 ∧ k < 2 ∧ h'.1 B k = 1 ∧ ∀ j, j ≠ k → h'.1 B j = h.1 B j) ∨ (v = some (.int (bz 0)) ∧ ¬ (0 ≤ ρ 0 ∧ ρ 0 ≤ 1) ∧ ∀ j, h'.1 B j = h.1 B j))) := by
  have K : bOk ey297 3 2 0 0 (fun ι avs τ h => cPr cT0 enx27 ι avs τ h g ρ σ ∧ ∀ a b, g a = 12 → g b = 12 → a = b) (fun ι avs τ h v τ' h' => cPst cT0 enx27 g ρ σ ι avs τ h v τ' h' ∧ h'.2 = h.2 ∧ ∀ m r B, avs = .ref m :: r → h.2 m 23 = some B → ((v = some (.int (bz 1)) ∧ ∃ k : Nat, (k : Int) = ρ 0 ∧ k < 2 ∧ h'.1 B k = 1 ∧ ∀ j, j ≠ k → h'.1 B j = h.1 B j) ∨ (v = some (.int (bz 0)) ∧ ¬ (0 ≤ ρ 0 ∧ ρ 0 ≤ 1) ∧ ∀ j, h'.1 B j = h.1 B j))) := by
    refine bOk_by (bOk_ex (fun p : Nat × Nat × Nat × Nat × Nat × Nat => ii_fun p.1 p.2.1 p.2.2.1 p.2.2.2.1 p.2.2.2.2.1 p.2.2.2.2.2 (ρ 0))) ?_ ?_
    · rintro ι avs τ h ⟨hp, -⟩
      obtain ⟨m, xs, rfl, -, m2, m3, hxs⟩ := m_this hp rfl rfl
      obtain ⟨a, K, N1, N2, B, q, -⟩ := m_rows hp.1 m3
      exact ⟨(m, a, K, N1, N2, B), by rw [c2_i1 hxs], hp.2.2.1 0, m2, q⟩
    · rintro ι avs τ h v τ' h' ⟨hp, uq⟩ ⟨⟨m, a, K, N1, N2, B⟩, ⟨rfl, -, hm, ⟨ha1, -⟩, ⟨hK1, -⟩, -, -, ⟨hB1, -⟩, -⟩, rfl, hq⟩
      obtain ⟨m', xs, e, -, -, m3, -⟩ := m_this hp rfl rfl
      cases e
      have m3 : g m = 12 := m3
      obtain ⟨a', K', N1', N2', B', ⟨⟨q1, q1', -⟩, ⟨q2, q2', -⟩, -, -, ⟨q5, q5', -⟩, -⟩, ga, gK, gB⟩ := m_rows hp.1 m3
      have ha1 : h.2 m 14 = some a := ha1
      have hK1 : h.2 m 16 = some K := hK1
      have hB1 : h.2 m 23 = some B := hB1
      rw [ha1] at q1
      rw [hK1] at q2
      rw [hB1] at q5
      cases q1
      cases q2
      cases q5
      have hm : τ'.1 m = 12 := hm
      have w0 := thr_wt hp.1 m3
      have nBm : B ≠ m := fun e => by rw [e] at gB; omega
      have nBK : B ≠ K := fun e => by rw [e] at gB; omega
      rcases hq with ⟨rfl, rfl, hx⟩ | ⟨rfl, k, ek, hk, rfl⟩
      · refine ⟨cPst_int hp rfl rfl ⟨by omega, by omega⟩ ⟨by omega, by omega⟩ w0 (thr_hi hm (by decide +kernel)), rfl, ?_⟩
        intro m9 r9 B9 e9 hB9
        injection e9 with e91 e92
        injection e91 with e93
        rw [← e93] at hB9
        have hB9 : h.2 m 23 = some B9 := hB9
        rw [hB1] at hB9
        cases hB9
        exact Or.inr ⟨rfl, hx, fun j => bsetI_no nBm⟩
      · refine ⟨?_, rfl, ?_⟩
        · refine cPst_int hp rfl rfl ⟨by omega, by omega⟩ ⟨by omega, by omega⟩ (im_wt w0 (fun b hb => uq b m hb m3) ga gK gB hK1 hB1 hk) ?_
          intro b _
          refine ⟨rfl, rfl, Or.inl rfl, fun i hi => ⟨?_, rfl⟩⟩
          have no : ∀ x kd l u, τ'.1 x = kd → cefR enx27.2.2 kd l u = true → ¬ (b = x ∧ l ≤ i ∧ i ≤ u) := by
            rintro x kd l u tx hc ⟨rfl, h1, h2⟩
            rw [tx, cefR_ok hc h1 h2] at hi
            cases hi
          have n1 := no m 12 0 0 hm (by decide +kernel)
          have n2 := no K 41 0 6531 q2' (by decide +kernel)
          have n3 := no B 43 0 1 q5' (by decide +kernel)
          show (if b = B ∧ i = k then 1 else if b = K ∧ 3266 * k ≤ i ∧ i < 3266 * k + 3266 then _ else if b = m ∧ i = 0 then 0 else h.1 b i) = _
          rw [if_neg (fun e => n3 ⟨e.1, by omega, by omega⟩), if_neg (fun e : b = K ∧ 3266 * k ≤ i ∧ i < 3266 * k + 3266 => n2 ⟨e.1, by omega, by omega⟩), if_neg (fun e => n1 ⟨e.1, by omega, by omega⟩)]
        · intro m9 r9 B9 e9 hB9
          injection e9 with e91 e92
          injection e91 with e93
          rw [← e93] at hB9
          have hB9 : h.2 m 23 = some B9 := hB9
          rw [hB1] at hB9
          cases hB9
          refine Or.inl ⟨rfl, k, ek, hk, if_pos ⟨rfl, rfl⟩, fun j hj => ?_⟩
          show (if B = B ∧ j = k then 1 else if B = K ∧ 3266 * k ≤ j ∧ j < 3266 * k + 3266 then _ else if B = m ∧ j = 0 then 0 else h.1 B j) = _
          rw [if_neg (fun e => hj e.2), if_neg (fun e => nBK e.1), if_neg (fun e => nBm e.1)]
  intro l hl d hd
  exact K l hl d (by omega)
theorem ere (g : Nat → Nat) (ρ : Nat → Int) (σ : Nat → Option Nat) : bOk ey298 3 3 0 0 (fun ι avs τ h => cPr cT0 enx28 ι avs τ h g ρ σ) (fun ι avs τ h v τ' h' => cPst cT0 enx28 g ρ σ ι avs τ h v τ' h' ∧ ∀ m r B, avs = .ref m :: r → h.2 m 23 = some B → ((v = some (.int (bz 1)) ∧ ∃ k : Nat, (k : Int) = ρ 0 ∧ k < 2 ∧ h.1 B k ≠ 0) ∨ (v = some (.int (bz 0)) ∧ ¬ ∃ k : Nat, (k : Int) = ρ 0 ∧ k < 2 ∧ h.1 B k ≠ 0))) := by
  have K : bOk ey298 3 2 0 0 (fun ι avs τ h => cPr cT0 enx28 ι avs τ h g ρ σ) (fun ι avs τ h v τ' h' => cPst cT0 enx28 g ρ σ ι avs τ h v τ' h' ∧ ∀ m r B, avs = .ref m :: r → h.2 m 23 = some B → ((v = some (.int (bz 1)) ∧ ∃ k : Nat, (k : Int) = ρ 0 ∧ k < 2 ∧ h.1 B k ≠ 0) ∨ (v = some (.int (bz 0)) ∧ ¬ ∃ k : Nat, (k : Int) = ρ 0 ∧ k < 2 ∧ h.1 B k ≠ 0))) := by
    refine bOk_gh (bOk_ex (fun p : Nat × Nat × Nat × Nat × Nat × Nat => rr2_fun p.1 p.2.1 p.2.2.1 p.2.2.2.1 p.2.2.2.2.1 p.2.2.2.2.2 (ρ 0))) ?_ ?_
    · intro ι avs τ h hp
      obtain ⟨m, xs, rfl, -, m2, m3, hxs⟩ := m_this hp rfl rfl
      obtain ⟨a, K, N1, N2, B, q, -⟩ := m_rows hp.1 m3
      exact ⟨(m, a, K, N1, N2, B), by rw [c2_i1 hxs], hp.2.2.1 0, m2, q⟩
    · rintro ι avs τ h v τ' h' hp ⟨⟨m, a, K, N1, N2, B⟩, ⟨rfl, -, hm, ⟨ha1, hta, hla⟩, ⟨hK1, -⟩, -, -, ⟨hB1, -⟩, -⟩, rfl, hq⟩
      obtain ⟨m', xs, e, -, -, m3, -⟩ := m_this hp rfl rfl
      cases e
      have m3 : g m = 12 := m3
      obtain ⟨a', K', N1', N2', B', ⟨⟨q1, q1', -⟩, ⟨q2, q2', -⟩, -, -, ⟨q5, q5', -⟩, -⟩, ga, gK, gB⟩ := m_rows hp.1 m3
      have ha1 : h.2 m 14 = some a := ha1
      have hK1 : h.2 m 16 = some K := hK1
      have hB1 : h.2 m 23 = some B := hB1
      rw [ha1] at q1
      rw [hK1] at q2
      rw [hB1] at q5
      cases q1
      cases q2
      cases q5
      have hm : τ'.1 m = 12 := hm
      have w0 := thr_wt hp.1 m3
      rcases hq with ⟨rfl, rfl, hx⟩ | ⟨rfl, k, ek, hk, hkB, rfl⟩
      · refine ⟨_, ⟨cPst_int hp rfl rfl ⟨by omega, by omega⟩ ⟨by omega, by omega⟩ w0 (thr_hi hm (by decide +kernel)), ?_⟩, fun H hH => hH⟩
        intro m9 r9 B9 e9 hB9
        injection e9 with e91 e92
        injection e91 with e93
        rw [← e93] at hB9
        have hB9 : h.2 m 23 = some B9 := hB9
        rw [hB1] at hB9
        cases hB9
        exact Or.inr ⟨rfl, hx⟩
      · have hla : τ'.2 a = 3266 := hla
        have nam : a ≠ m := fun e => by rw [e] at ga; omega
        have nBm : B ≠ m := fun e => by rw [e] at gB; omega
        have hkB : h.1 B k ≠ 0 := hkB
        have w1 := re_wt w0 m3 ga gK gB hK1 hB1 hk (by rw [bsetI_no nBm]; exact hkB)
        have w2 : cWT cT0 g τ' (bsetI (bsetI (bcp (bsetI h m 0 0) a 0 K (3266 * k) 3266) a 5000 40) m 25 0) := by
          refine cWT.fld w1 (by rw [m3]; exact cR12) (by decide) (by omega) (by omega) (fun _ => ?_)
          show (cseg (cSg 12) 25).2.1 ≤ 0 ∧ 0 ≤ (cseg (cSg 12) 25).2.2.1
          rw [w25]
          exact ⟨by decide, by decide⟩
        have sw : bsetI (bsetI (bcp (bsetI h m 0 0) a 0 K (3266 * k) 3266) a 5000 40) m 25 0 = bsetI (bsetI (bcp (bsetI h m 0 0) a 0 K (3266 * k) 3266) m 25 0) a 5000 40 := by
          refine Prod.ext (funext fun b => funext fun i => ?_) rfl
          show (if b = m ∧ i = 25 then (0 : Int) else if b = a ∧ i = 5000 then 40 else (bcp (bsetI h m 0 0) a 0 K (3266 * k) 3266).1 b i) = (if b = a ∧ i = 5000 then (40 : Int) else if b = m ∧ i = 25 then 0 else (bcp (bsetI h m 0 0) a 0 K (3266 * k) 3266).1 b i)
          by_cases e : b = m ∧ i = 25
          · rw [if_pos e, if_neg (fun z => by omega), if_pos e]
          · rw [if_neg e, if_neg e]
        rw [sw] at w2
        refine ⟨_, ⟨cPst_int hp rfl rfl ⟨by omega, by omega⟩ ⟨by omega, by omega⟩ w2 ?_, ?_⟩, fun H => bHp_gh q1' (by omega)⟩
        · intro b _
          refine ⟨rfl, rfl, Or.inl rfl, fun i hi => ⟨?_, rfl⟩⟩
          have no : ∀ x kd l u, τ'.1 x = kd → cefR enx28.2.2 kd l u = true → ¬ (b = x ∧ l ≤ i ∧ i ≤ u) := by
            rintro x kd l u tx hc ⟨rfl, h1, h2⟩
            rw [tx, cefR_ok hc h1 h2] at hi
            cases hi
          have n1 := no m 12 0 0 hm (by decide +kernel)
          have n2 := no m 12 25 25 hm (by decide +kernel)
          have n3 := no a 41 0 3265 q1' (by decide +kernel)
          have n4 := no a 41 5000 5000 q1' (by decide +kernel)
          show (if b = a ∧ i = 5000 then (40 : Int) else if b = m ∧ i = 25 then 0 else if b = a ∧ 0 ≤ i ∧ i < 0 + 3266 then _ else if b = m ∧ i = 0 then 0 else h.1 b i) = _
          rw [if_neg (fun e => n4 ⟨e.1, by omega, by omega⟩), if_neg (fun e => n2 ⟨e.1, by omega, by omega⟩), if_neg (fun e : b = a ∧ 0 ≤ i ∧ i < 0 + 3266 => n3 ⟨e.1, by omega, by omega⟩), if_neg (fun e => n1 ⟨e.1, by omega, by omega⟩)]
        · intro m9 r9 B9 e9 hB9
          injection e9 with e91 e92
          injection e91 with e93
          rw [← e93] at hB9
          have hB9 : h.2 m 23 = some B9 := hB9
          rw [hB1] at hB9
          cases hB9
          exact Or.inl ⟨rfl, k, ek, hk, hkB⟩
  intro l hl d hd
  exact K l hl d (by omega)
