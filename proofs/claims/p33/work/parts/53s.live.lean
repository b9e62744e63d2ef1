/-! ===== live: twice ===== -/
theorem l1_fun (u : Nat) (x2 : Int) : bOk ey250 6 3 0 0 (fun _ avs τ h => ∃ m a N, avs = [.ref m, .int (bz 1), .int (bz (u : Int)), .int (bz x2)] ∧ τ.1 m = 12 ∧ h.2 m 14 = some a ∧ τ.1 a = 41 ∧ τ.2 a = 3266 ∧ ((N : Nat) : Int) = h.1 a 45 ∧ u < N ∧ N < 40) (fun _ avs τ h v τ' h' => ∃ m a N, avs = [.ref m, .int (bz 1), .int (bz (u : Int)), .int (bz x2)] ∧ h.2 m 14 = some a ∧ ((N : Nat) : Int) = h.1 a 45 ∧ v = none ∧ τ' = τ ∧ h' = bsetI (bcp h a (1504 + 38 * N) a (1504 + 38 * u) 38) a 45 ((N : Int) + 1)) := by
  refine bOk_of emp250.1.2.2.2.2.2.1 ?_ ?_
  · rintro ι avs τ h ⟨ m, a, N, rfl, -⟩
    exact Nat.le_of_ble_eq_true rfl
  · intro γ ι τ h avs d hd hp Bg C
    obtain ⟨m, a, N, rfl, hm, ha, hta, hla, eN, hu, hN⟩ := hp
    have hn : γ.2.2.1 = 6 := Bg.2.1
    obtain ⟨d, rfl⟩ : ∃ d', d = d' + 1 := ⟨d - 1, by omega⟩
    have e45 : ∀ k, (bcp h a (1504 + 38 * N) a (1504 + 38 * u) k).1 a 45 = (N : Int) := by
      intro k
      rw [eN]
      exact if_neg (by omega)
    have loop : ∀ r k : Nat, k + r = 38 → bJ γ 53 [some (.ref m), some (.int (bz 1)), some (.int (bz (u : Int))), some (.int (bz x2)), some (.int (bz (1504 + 38 * (u : Int)))), some (.int (bz (k : Int)))] [] τ (bcp h a (1504 + 38 * N) a (1504 + 38 * u) k) 0 0 := by
      intro r
      induction r with
      | zero =>
        intro k hk
        refine b_iload C (dk_at ec250 (i := 12) rfl).1 rfl ?_
        refine b_bipush C (dk_at ec250 (i := 13) rfl).1 ⟨by omega, by omega⟩ ?_
        refine b_icmp_ge (t := 95) C (dk_at ec250 (i := 14) rfl).1 (by decide) ⟨by omega, by omega⟩ ⟨by omega, by omega⟩ (fun z => ?_) (fun z => ?_)
        · have ek : k = 38 := by omega
          subst ek
          refine b_al0 C (dk_at ec250 (i := 34) rfl).1 rfl ?_
          refine b_gR C (dk_at ec250 (i := 35) rfl) hm ha ?_
          refine b_bipush C (dk_at ec250 (i := 36) rfl).1 ⟨by omega, by omega⟩ ?_
          refine b_dup2 C (dk_at ec250 (i := 37) rfl).1 rfl rfl ?_
          refine b_rd (j := 45) C (dk_at ec250 (i := 38) rfl).1 hta (by omega) (by omega) (fun _ => ?_)
          rw [e45]
          refine b_iconst C (dk_at ec250 (i := 39) rfl).1 ?_
          refine b_iadd C (dk_at ec250 (i := 40) rfl).1 ?_
          refine b_wr (j := 45) C (dk_at ec250 (i := 41) rfl).1 hta (by omega) (by omega) ⟨by omega, by omega⟩ ?_
          exact b_vret C Bg (dk_at ec250 (i := 42) rfl).1 rfl (Nat.le_refl _) (Nat.le_refl _) ⟨m, a, N, rfl, ha, eN, rfl, rfl, rfl⟩
        · omega
      | succ r ih =>
        intro k hk
        refine b_iload C (dk_at ec250 (i := 12) rfl).1 rfl ?_
        refine b_bipush C (dk_at ec250 (i := 13) rfl).1 ⟨by omega, by omega⟩ ?_
        refine b_icmp_ge (t := 95) C (dk_at ec250 (i := 14) rfl).1 (by decide) ⟨by omega, by omega⟩ ⟨by omega, by omega⟩ (fun z => ?_) (fun z => ?_)
        · omega
        refine b_al0 C (dk_at ec250 (i := 15) rfl).1 rfl ?_
        refine b_gR C (dk_at ec250 (i := 16) rfl) hm ha ?_
        refine b_al0 C (dk_at ec250 (i := 17) rfl).1 rfl ?_
        refine b_al0 C (dk_at ec250 (i := 18) rfl).1 rfl ?_
        refine b_gR C (dk_at ec250 (i := 19) rfl) hm ha ?_
        refine b_bipush C (dk_at ec250 (i := 20) rfl).1 ⟨by omega, by omega⟩ ?_
        refine b_rd (j := 45) C (dk_at ec250 (i := 21) rfl).1 hta (by omega) (by omega) (fun _ => ?_)
        rw [e45]
        refine b_inv (As := [.int (bz (N : Int))]) (rest := [.ref a]) C Bg.x (dk_at ec250 (i := 22) rfl) (by decide) rfl (un_fun (N : Int)) (by omega) rfl hm ⟨m, rfl⟩ (Nat.le_of_ble_eq_true rfl) (Nat.le_refl _) (Nat.le_refl _) ?_
        rintro v τ' h' ⟨rfl, rfl, rfl⟩
        refine b_iload C (dk_at ec250 (i := 23) rfl).1 rfl ?_
        refine b_iadd C (dk_at ec250 (i := 24) rfl).1 ?_
        refine b_al0 C (dk_at ec250 (i := 25) rfl).1 rfl ?_
        refine b_gR C (dk_at ec250 (i := 26) rfl) hm ha ?_
        refine b_iload C (dk_at ec250 (i := 27) rfl).1 rfl ?_
        refine b_iload C (dk_at ec250 (i := 28) rfl).1 rfl ?_
        refine b_iadd C (dk_at ec250 (i := 29) rfl).1 ?_
        refine b_rd (j := 1504 + 38 * u + k) C (dk_at ec250 (i := 30) rfl).1 hta (by omega) (by omega) (fun hv => ?_)
        refine b_wr (j := 1504 + 38 * N + k) C (dk_at ec250 (i := 31) rfl).1 hta (by omega) (by omega) hv ?_
        refine b_iinc (a := (k : Int)) C (dk_at ec250 (i := 32) rfl).1 (by rw [hn]; decide) rfl (bno2_of (fun w hw _ => by cases hw; exact (show (1 : Nat) ≠ 2 by decide))) ?_
        refine b_goto (t := 53) C (dk_at ec250 (i := 33) rfl).1 (by decide) ?_
        have := ih (k + 1) (by omega)
        rw [show (((k + 1 : Nat) : Int)) = (k : Int) + 1 by omega, ← bcp_step (Or.inr (Or.inl (by omega)))] at this
        rw [bcp_rd (Or.inr (Or.inl (by omega)))]
        exact this
    refine b_al0 C (dk_at ec250 (i := 0) rfl).1 rfl ?_
    refine b_iload_n C (dk_at ec250 (i := 1) rfl).1 rfl ?_
    refine b_inv (As := [.int (bz (u : Int))]) (rest := []) C Bg.x (dk_at ec250 (i := 2) rfl) (by decide) rfl (un_fun (u : Int)) (by omega) rfl hm ⟨m, rfl⟩ (Nat.le_of_ble_eq_true rfl) (Nat.le_refl _) (Nat.le_refl _) ?_
    rintro v τ' h' ⟨rfl, rfl, rfl⟩
    refine b_istore C (dk_at ec250 (i := 3) rfl).1 (by rw [hn]; decide) (bno2_of (fun w hw _ => by cases hw; exact (show (1 : Nat) ≠ 2 by decide))) ?_
    refine b_iload_n C (dk_at ec250 (i := 4) rfl).1 rfl ?_
    refine b_tableIn (off := 42) (t := 50) C (dk_at ec250 (i := 5) rfl).1 ⟨by omega, by omega⟩ ⟨by omega, by omega⟩ rfl (by decide) ?_
    refine b_iconst C (dk_at ec250 (i := 10) rfl).1 ?_
    refine b_istore C (dk_at ec250 (i := 11) rfl).1 (by rw [hn]; decide) (bno2_of (fun w hw _ => by cases hw; exact (show (1 : Nat) ≠ 2 by decide))) ?_
    have := loop 38 0 rfl
    rw [bcp_0] at this
    exact this
