/-! ===== saveTaker by hand ===== -/
theorem st_fun : bOk ey193 2 1 0 0 (fun _ avs τ h => ∃ m a, avs = [.ref m] ∧ τ.1 m = 12 ∧ h.2 m 14 = some a ∧ τ.1 a = 41 ∧ τ.2 a = 3266) (fun _ avs τ h v τ' h' => ∃ m a, avs = [.ref m] ∧ h.2 m 14 = some a ∧ v = none ∧ τ' = τ ∧ h' = bcp h a 535 a 46 489) := by
  refine bOk_of emp193.1.2.2.2.2.2.1 ?_ ?_
  · rintro ι avs τ h ⟨m, a, rfl, -⟩
    exact Nat.le_of_ble_eq_true rfl
  · intro γ ι τ h avs d hd hp Bg C
    obtain ⟨m, a, rfl, hm, ha, hta, hla⟩ := hp
    have hn : γ.2.2.1 = 2 := Bg.2.1
    have loop : ∀ n k : Nat, k + n = 489 → bJ γ 2 [some (.ref m), some (.int (bz (k : Int)))] [] τ (bcp h a 535 a 46 k) 0 0 := by
      intro n
      induction n with
      | zero =>
        intro k hk
        refine b_iload_n C (dk_at ec193 (i := 2) rfl).1 rfl ?_
        refine b_sipush C (dk_at ec193 (i := 3) rfl).1 ⟨by omega, by omega⟩ ?_
        refine b_icmp_ge (t := 34) C (dk_at ec193 (i := 4) rfl).1 (by decide) ⟨by omega, by omega⟩ ⟨by omega, by omega⟩ (fun z => ?_) (fun z => ?_)
        · exact b_vret C Bg (dk_at ec193 (i := 19) rfl).1 rfl (Nat.le_refl _) (Nat.le_refl _) ⟨m, a, rfl, ha, rfl, rfl, by rw [show k = 489 by omega]⟩
        · omega
      | succ n ih =>
        intro k hk
        refine b_iload_n C (dk_at ec193 (i := 2) rfl).1 rfl ?_
        refine b_sipush C (dk_at ec193 (i := 3) rfl).1 ⟨by omega, by omega⟩ ?_
        refine b_icmp_ge (t := 34) C (dk_at ec193 (i := 4) rfl).1 (by decide) ⟨by omega, by omega⟩ ⟨by omega, by omega⟩ (fun z => ?_) (fun z => ?_)
        · omega
        refine b_al0 C (dk_at ec193 (i := 5) rfl).1 rfl ?_
        refine b_gR C (dk_at ec193 (i := 6) rfl) hm ha ?_
        refine b_sipush C (dk_at ec193 (i := 7) rfl).1 ⟨by omega, by omega⟩ ?_
        refine b_iload_n C (dk_at ec193 (i := 8) rfl).1 rfl ?_
        refine b_iadd C (dk_at ec193 (i := 9) rfl).1 ?_
        refine b_al0 C (dk_at ec193 (i := 10) rfl).1 rfl ?_
        refine b_gR C (dk_at ec193 (i := 11) rfl) hm ha ?_
        refine b_bipush C (dk_at ec193 (i := 12) rfl).1 ⟨by omega, by omega⟩ ?_
        refine b_iload_n C (dk_at ec193 (i := 13) rfl).1 rfl ?_
        refine b_iadd C (dk_at ec193 (i := 14) rfl).1 ?_
        refine b_rd (j := 46 + k) C (dk_at ec193 (i := 15) rfl).1 hta (by omega) (by omega) (fun hb => ?_)
        refine b_wr (j := 535 + k) C (dk_at ec193 (i := 16) rfl).1 hta (by omega) (by omega) hb ?_
        refine b_iinc (a := (k : Int)) C (dk_at ec193 (i := 17) rfl).1 (by rw [hn]; decide) rfl (bno2_of (fun w hw _ => by cases hw; exact (show (1 : Nat) ≠ 2 by decide))) ?_
        refine b_goto (t := 2) C (dk_at ec193 (i := 18) rfl).1 (by decide) ?_
        have := ih (k + 1) (by omega)
        rw [show (((k + 1 : Nat) : Int)) = (k : Int) + 1 by omega] at this
        rw [bcp_rd (by omega), bcp_step (by omega)]
        exact this
    refine b_iconst C (dk_at ec193 (i := 0) rfl).1 ?_
    refine b_istore_n C (dk_at ec193 (i := 1) rfl).1 (by rw [hn]; decide) (bno2_of (fun w hw _ => by cases hw; exact (show (1 : Nat) ≠ 2 by decide))) ?_
    have := loop 489 0 rfl
    rw [bcp_0] at this
    exact this
theorem cT61 : ∃ R, cfR cT0 61 = some R ∧ R.1 = 41 ∧ R.2.1 = 3266 ∧ R.2.2.1 = 3266 := ⟨_, by rfl, rfl, rfl, rfl⟩
