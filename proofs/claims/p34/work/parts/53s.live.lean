/-! ===== live: twice ===== -/
theorem l1_fun (u : Nat) (x2 : Int) : bOk ey250 6 3 0 0 (fun _ avs τ h => ∃ m a N, avs = [.ref m, .int (bz 1), .int (bz (u : Int)), .int (bz x2)] ∧ τ.1 m = 12 ∧ h.2 m 14 = some a ∧ τ.1 a = 41 ∧ τ.2 a = 3266 ∧ ((N : Nat) : Int) = h.1 a 45 ∧ u < N ∧ N < 40) (fun _ avs τ h v τ' h' => ∃ m a N, avs = [.ref m, .int (bz 1), .int (bz (u : Int)), .int (bz x2)] ∧ h.2 m 14 = some a ∧ ((N : Nat) : Int) = h.1 a 45 ∧ v = none ∧ τ' = τ ∧ h' = bsetI (bcp h a (1504 + 38 * N) a (1504 + 38 * u) 38) a 45 ((N : Int) + 1)) := by
  refine bOk_of emp250.1.2.2.2.2.2.1 ?_ ?_
  · rintro ι avs τ h ⟨ m, a, N, rfl, -⟩
    exact Nat.le_of_ble_eq_true rfl
  · intro γ ι τ h avs d hd hp Bg C
    obtain ⟨m, a, N, rfl, hm, ha, hta, hla, eN, hu, hN⟩ := hp
    have hn : γ.2.2.1 = 6 := Bg.2.1
    obtain ⟨d, rfl⟩ : ∃ d', d = d' + 1 := ⟨d - 1, by omega⟩
    have e45 : ∀ k, (bcp h a (1504 + 38 * N) a (1504 + 38 * u) k).1 a 45 = (N : Int) := by
      intro k
      rw [eN]
      exact if_neg (by omega)
    have loop : ∀ r k : Nat, k + r = 38 → bJ γ 53 [some (.ref m), some (.int (bz 1)), some (.int (bz (u : Int))), some (.int (bz x2)), some (.int (bz (1504 + 38 * (u : Int)))), some (.int (bz (k : Int)))] [] τ (bcp h a (1504 + 38 * N) a (1504 + 38 * u) k) 0 0 := by
      intro r
      induction r with
      | zero =>
        intro k hk
        refine b_iload C (dk_at ec250 (i := 12) rfl).1 rfl ?_
        refine b_bipush C (dk_at ec250 (i := 13) rfl).1 ⟨by omega, by omega⟩ ?_
        refine b_icmp_ge (t := 95) C (dk_at ec250 (i := 14) rfl).1 (by decide) ⟨by omega, by omega⟩ ⟨by omega, by omega⟩ (fun z => ?_) (fun z => ?_)
        · have ek : k = 38 := by omega
          subst ek
          refine b_al0 C (dk_at ec250 (i := 34) rfl).1 rfl ?_
          refine b_gR C (dk_at ec250 (i := 35) rfl) hm ha ?_
          refine b_bipush C (dk_at ec250 (i := 36) rfl).1 ⟨by omega, by omega⟩ ?_
          refine b_dup2 C (dk_at ec250 (i := 37) rfl).1 rfl rfl ?_
          refine b_rd (j := 45) C (dk_at ec250 (i := 38) rfl).1 hta (by omega) (by omega) (fun _ => ?_)
          rw [e45]
          refine b_iconst C (dk_at ec250 (i := 39) rfl).1 ?_
          refine b_iadd C (dk_at ec250 (i := 40) rfl).1 ?_
          refine b_wr (j := 45) C (dk_at ec250 (i := 41) rfl).1 hta (by omega) (by omega) ⟨by omega, by omega⟩ ?_
          exact b_vret C Bg (dk_at ec250 (i := 42) rfl).1 rfl (Nat.le_refl _) (Nat.le_refl _) ⟨m, a, N, rfl, ha, eN, rfl, rfl, rfl⟩
        · omega
      | succ r ih =>
        intro k hk
        refine b_iload C (dk_at ec250 (i := 12) rfl).1 rfl ?_
        refine b_bipush C (dk_at ec250 (i := 13) rfl).1 ⟨by omega, by omega⟩ ?_
        refine b_icmp_ge (t := 95) C (dk_at ec250 (i := 14) rfl).1 (by decide) ⟨by omega, by omega⟩ ⟨by omega, by omega⟩ (fun z => ?_) (fun z => ?_)
        · omega
        refine b_al0 C (dk_at ec250 (i := 15) rfl).1 rfl ?_
        refine b_gR C (dk_at ec250 (i := 16) rfl) hm ha ?_
        refine b_al0 C (dk_at ec250 (i := 17) rfl).1 rfl ?_
        refine b_al0 C (dk_at ec250 (i := 18) rfl).1 rfl ?_
        refine b_gR C (dk_at ec250 (i := 19) rfl) hm ha ?_
        refine b_bipush C (dk_at ec250 (i := 20) rfl).1 ⟨by omega, by omega⟩ ?_
        refine b_rd (j := 45) C (dk_at ec250 (i := 21) rfl).1 hta (by omega) (by omega) (fun _ => ?_)
        rw [e45]
        refine b_inv (As := [.int (bz (N : Int))]) (rest := [.ref a]) C Bg.x (dk_at ec250 (i := 22) rfl) (by decide) rfl (un_fun (N : Int)) (by omega) rfl hm ⟨m, rfl⟩ (Nat.le_of_ble_eq_true rfl) (Nat.le_refl _) (Nat.le_refl _) ?_
        rintro v τ' h' ⟨rfl, rfl, rfl⟩
        refine b_iload C (dk_at ec250 (i := 23) rfl).1 rfl ?_
        refine b_iadd C (dk_at ec250 (i := 24) rfl).1 ?_
        refine b_al0 C (dk_at ec250 (i := 25) rfl).1 rfl ?_
        refine b_gR C (dk_at ec250 (i := 26) rfl) hm ha ?_
        refine b_iload C (dk_at ec250 (i := 27) rfl).1 rfl ?_
        refine b_iload C (dk_at ec250 (i := 28) rfl).1 rfl ?_
        refine b_iadd C (dk_at ec250 (i := 29) rfl).1 ?_
        refine b_rd (j := 1504 + 38 * u + k) C (dk_at ec250 (i := 30) rfl).1 hta (by omega) (by omega) (fun hv => ?_)
        refine b_wr (j := 1504 + 38 * N + k) C (dk_at ec250 (i := 31) rfl).1 hta (by omega) (by omega) hv ?_
        refine b_iinc (a := (k : Int)) C (dk_at ec250 (i := 32) rfl).1 (by rw [hn]; decide) rfl (bno2_of (fun w hw _ => by cases hw; exact (show (1 : Nat) ≠ 2 by decide))) ?_
        refine b_goto (t := 53) C (dk_at ec250 (i := 33) rfl).1 (by decide) ?_
        have := ih (k + 1) (by omega)
        rw [show (((k + 1 : Nat) : Int)) = (k : Int) + 1 by omega, ← bcp_step (Or.inr (Or.inl (by omega)))] at this
        rw [bcp_rd (Or.inr (Or.inl (by omega)))]
        exact this
    refine b_al0 C (dk_at ec250 (i := 0) rfl).1 rfl ?_
    refine b_iload_n C (dk_at ec250 (i := 1) rfl).1 rfl ?_
    refine b_inv (As := [.int (bz (u : Int))]) (rest := []) C Bg.x (dk_at ec250 (i := 2) rfl) (by decide) rfl (un_fun (u : Int)) (by omega) rfl hm ⟨m, rfl⟩ (Nat.le_of_ble_eq_true rfl) (Nat.le_refl _) (Nat.le_refl _) ?_
    rintro v τ' h' ⟨rfl, rfl, rfl⟩
    refine b_istore C (dk_at ec250 (i := 3) rfl).1 (by rw [hn]; decide) (bno2_of (fun w hw _ => by cases hw; exact (show (1 : Nat) ≠ 2 by decide))) ?_
    refine b_iload_n C (dk_at ec250 (i := 4) rfl).1 rfl ?_
    refine b_tableIn (off := 42) (t := 50) C (dk_at ec250 (i := 5) rfl).1 ⟨by omega, by omega⟩ ⟨by omega, by omega⟩ rfl (by decide) ?_
    refine b_iconst C (dk_at ec250 (i := 10) rfl).1 ?_
    refine b_istore C (dk_at ec250 (i := 11) rfl).1 (by rw [hn]; decide) (bno2_of (fun w hw _ => by cases hw; exact (show (1 : Nat) ≠ 2 by decide))) ?_
    have := loop 38 0 rfl
    rw [bcp_0] at this
    exact this
theorem l1_wt {g : Nat → Nat} {τ : bt} {h : bh} {a u N : Nat} (hw : cWT cT0 g τ h) (ga : g a = 61) (hu : u < N) (hN : N < 40) : cWT cT0 g τ (bsetI (bsetI (bcp h a (1504 + 38 * N) a (1504 + 38 * u) 38) a 45 ((N : Int) + 1)) a 5000 40) := by
  obtain ⟨o1, o2, o3⟩ := o_now hw ga
  have val : ∀ b i, (bsetI (bsetI (bcp h a (1504 + 38 * N) a (1504 + 38 * u) 38) a 45 ((N : Int) + 1)) a 5000 40).1 b i = if b = a ∧ i = 5000 then 40 else if b = a ∧ i = 45 then (N : Int) + 1 else if b = a ∧ 1504 + 38 * N ≤ i ∧ i < 1504 + 38 * N + 38 then h.1 a (1504 + 38 * u + (i - (1504 + 38 * N))) else h.1 b i := fun b i => rfl
  have out : ∀ b i, (b ≠ a ∨ (i ≠ 5000 ∧ i ≠ 45 ∧ (i < 1504 + 38 * N ∨ 1504 + 38 * N + 38 ≤ i))) → (bsetI (bsetI (bcp h a (1504 + 38 * N) a (1504 + 38 * u) 38) a 45 ((N : Int) + 1)) a 5000 40).1 b i = h.1 b i := by
    intro b i hb
    rw [val, if_neg (by omega), if_neg (by omega), if_neg (by omega)]
  refine w_now hw ga (l := 45) (u := 5000) rfl (fun b i hb => out b i (by omega)) (fun i i1 i2 hi => ?_) ⟨fun _ k hk => ?_, fun z => by omega, fun z => by omega, fun _ k u1 u2 u3 => ?_⟩ (creg_eq (fun i hi => out a i ?_) o3)
  · by_cases e1 : i = 5000
    · rw [cseg_far (u := 3266) (by omega) _ g61u] at hi
      cases hi
    · by_cases e2 : i = 45
      · subst e2
        rw [val, if_neg (by omega), if_pos ⟨rfl, rfl⟩, se_z.2.2.1]
        exact ⟨by show (0 : Int) ≤ _; omega, by show _ ≤ (40 : Int); omega⟩
      · by_cases e3 : 1504 + 38 * N ≤ i ∧ i < 1504 + 38 * N + 38
        · have := csn_ok 1520 se_z.1 i (by omega) (by omega)
          omega
        · rw [out a i (by omega)]
          exact o1 i hi
  · by_cases e : k = N
    · subst e
      refine ublk_sh (c := 1504 + 38 * u) (f := h.1 a) (fun i hi => ?_) (o2.1 (Or.inr rfl) u (by omega))
      rw [val, if_neg (by omega), if_neg (by omega), if_pos ⟨rfl, by omega, by omega⟩, show 1504 + 38 * k + i - (1504 + 38 * k) = i by omega]
    · exact ublk_eq (fun i i1 i2 => out a i (by omega)) (o2.1 (Or.inr rfl) k hk)
  · rw [val, if_pos ⟨rfl, rfl⟩] at u1
    omega
  · rcases hi with ⟨h1, ⟨-, h2⟩ | ⟨h2, -⟩ | ⟨h2, -⟩⟩ | ⟨h2, -⟩
    · omega
    · omega
    · omega
    · omega
theorem eox110 : cOk cT0 ey250 6 5 0 0 enx110 := by
  have K : cOk cT0 ey250 6 3 0 0 enx110 := by
    intro g ρ σ
    have rng : ∀ {ι avs τ h}, cPr cT0 enx110 ι avs τ h g ρ σ → ∀ {m a}, σ 0 = some m → h.2 m 14 = some a → ρ 0 = 1 ∧ ((ρ 1).toNat : Int) = ρ 1 ∧ 0 ≤ h.1 a 45 ∧ h.1 a 45 ≤ 39 ∧ ρ 1 < h.1 a 45 := by
      intro ι avs τ h hp m a m1 ha1
      have b0 := cBo_at hp.2.2.2.1.1 (s := 0) (x := 1) (y := 1) (by decide)
      have b3 := cBo_at hp.2.2.2.1.1 (s := 3) (x := 0) (y := 39) (by decide)
      have c0 : 0 ≤ 0 + (1 * ρ 1 + 0) := hp.2.2.2.1.2.1 (0, [(1, 1)]) List.mem_cons_self
      have c1 : 0 ≤ -1 + (-1 * ρ 1 + (1 * ρ 3 + 0)) := hp.2.2.2.1.2.1 (-1, [(1, -1), (3, 1)]) (List.mem_cons_of_mem _ List.mem_cons_self)
      have s1 := f_now hp.2.2.2.1 List.mem_cons_self m1 ha1
      obtain ⟨y, y1, y2, -⟩ := hp.2.2.2.1.2.2.2 (1, 45, (0, 0, (0, [(3, 1)]))) (List.mem_cons_of_mem _ List.mem_cons_self)
      have y1 : σ 1 = some y := y1
      rw [s1] at y1
      cases y1
      have y2 : h.1 a 45 = 0 + (1 * ρ 3 + 0) := y2 rfl
      omega
    refine bOk_to2 (l1_fun (ρ 1).toNat (ρ 2)) ?_ ?_
    · intro ι avs τ h hp
      obtain ⟨m, xs, rfl, m1, m2, m3, hxs⟩ := m_this hp rfl rfl
      obtain ⟨a, a1, a2, a3, a4⟩ := m_now hp.1 m3
      obtain ⟨e0, e1, e2, e3, e4⟩ := rng hp m1 a1
      exact ⟨m, a, (h.1 a 45).toNat, by rw [c2_i3 hxs, e0, e1], m2, a1, a3, a4, by omega, by omega, by omega⟩
    · rintro ι avs τ h v τ' h' hp ⟨m, a, N, rfl, ha1, eN, rfl, rfl, rfl⟩
      obtain ⟨m', xs, e, m1, -, m3, -⟩ := m_this hp rfl rfl
      cases e
      obtain ⟨a', a1, ga, ta, la⟩ := m_now hp.1 m3
      rw [ha1] at a1
      cases a1
      obtain ⟨e0, e1, e2, e3, e4⟩ := rng hp m1 ha1
      refine ⟨_, cPst_void hp rfl (l1_wt hp.1 ga (u := (ρ 1).toNat) (N := N) (by omega) (by omega)) ?_, fun H => bHp_gh ta (by omega)⟩
      intro b _
      refine ⟨rfl, rfl, Or.inl rfl, fun i hi => ⟨?_, rfl⟩⟩
      have no : ∀ l u, cefR enx110.2.2 41 l u = true → ¬ (b = a ∧ l ≤ i ∧ i ≤ u) := by
        rintro l u hc ⟨rfl, h1, h2⟩
        rw [ta, cefR_ok hc h1 h2] at hi
        cases hi
      have n1 := no 5000 5000 (by rfl)
      have n2 := no 45 534 (by rfl)
      have n3 := no 1504 3023 (by rfl)
      show (if b = a ∧ i = 5000 then (40 : Int) else if b = a ∧ i = 45 then (N : Int) + 1 else if b = a ∧ 1504 + 38 * N ≤ i ∧ i < 1504 + 38 * N + 38 then _ else h.1 b i) = _
      rw [if_neg (fun e => n1 ⟨e.1, by omega, by omega⟩), if_neg (fun e => n2 ⟨e.1, by omega, by omega⟩), if_neg (fun e : b = a ∧ 1504 + 38 * N ≤ i ∧ i < 1504 + 38 * N + 38 => n3 ⟨e.1, by omega, by omega⟩)]
  exact K.mono (by decide)
