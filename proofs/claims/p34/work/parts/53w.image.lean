/-! ===== image, restore ===== -/
theorem ii_fun (m a K N1 N2 B : Nat) (x : Int) : bOk ey297 3 2 0 0 (fun _ avs τ h => avs = [.ref m, .int (bz x)] ∧ brg x ∧ τ.1 m = 12 ∧ (h.2 m 14 = some a ∧ τ.1 a = 41 ∧ τ.2 a = 3266) ∧ (h.2 m 16 = some K ∧ τ.1 K = 41 ∧ τ.2 K = 6532) ∧ (h.2 m 20 = some N1 ∧ τ.1 N1 = 44 ∧ τ.2 N1 = 10) ∧ (h.2 m 22 = some N2 ∧ τ.1 N2 = 44 ∧ τ.2 N2 = 20) ∧ (h.2 m 23 = some B ∧ τ.1 B = 43 ∧ τ.2 B = 2) ∧ K ≠ a) (fun _ avs τ h v τ' h' => τ' = τ ∧ ((v = some (.int (bz 0)) ∧ h' = bsetI h m 0 0 ∧ ¬ (0 ≤ x ∧ x ≤ 1)) ∨ (v = some (.int (bz 1)) ∧ ∃ k : Nat, (k : Int) = x ∧ k < 2 ∧ h' = bsetI (bcp (bsetI h m 0 0) K (3266 * k) a 0 3266) B k 1))) := by
  refine bOk_of emp297.1.2.2.2.2.2.1 ?_ ?_
  · rintro ι avs τ h ⟨rfl, -⟩
    exact Nat.le_of_ble_eq_true rfl
  · intro γ ι τ h avs d hd hp Bg C
    obtain ⟨rfl, hx, hm, ⟨ha, hta, hla⟩, ⟨hK, htK, hlK⟩, ⟨h1, ht1, hl1⟩, ⟨h2, ht2, hl2⟩, ⟨hB, htB, hlB⟩, hne⟩ := hp
    have hn : γ.2.2.1 = 3 := Bg.2.1
    obtain ⟨d, rfl⟩ : ∃ d', d = d' + 1 := ⟨d - 1, by omega⟩
    have main : ∀ k : Nat, (k : Int) = x → k < 2 → bJ γ 18 [some (.ref m), some (.int (bz x)), some (.int (bz ((0 : Nat) : Int)))] [] τ (bsetI h m 0 0) 0 0 := by
      intro k ek hk
      have loop2 : ∀ r i : Nat, i + r = 10 → bJ γ 51 [some (.ref m), some (.int (bz x)), some (.int (bz (i : Int)))] [] τ (bcp (bsetI h m 0 0) K (3266 * k) a 0 3266) 0 0 := by
        intro r
        induction r with
        | zero =>
          intro i hi
          obtain rfl : i = 10 := by omega
          refine b_iload_n C (dk_at ec297 (i := 31) rfl).1 rfl ?_
          refine b_bipush C (dk_at ec297 (i := 32) rfl).1 ⟨by omega, by omega⟩ ?_
          refine b_icmp_ge (t := 80) C (dk_at ec297 (i := 33) rfl).1 (by decide) ⟨by omega, by omega⟩ ⟨by omega, by omega⟩ (fun z54 => ?_) (fun z54 => ?_)
          · refine b_al0 C (dk_at ec297 (i := 48) rfl).1 rfl ?_
            refine b_gR C (dk_at ec297 (i := 49) rfl) hm hB ?_
            refine b_iload_n C (dk_at ec297 (i := 50) rfl).1 rfl ?_
            refine b_iconst C (dk_at ec297 (i := 51) rfl).1 ?_
            refine b_wz (j := k) C (dk_at ec297 (i := 52) rfl).1 htB (by omega) (by omega) (Or.inr rfl) ?_
            refine b_iconst C (dk_at ec297 (i := 53) rfl).1 ?_
            exact b_iret C Bg (dk_at ec297 (i := 54) rfl).1 (Or.inr ⟨rfl, by omega⟩) (Nat.le_refl _) (Nat.le_refl _) ⟨rfl, Or.inr ⟨rfl, k, ek, hk, rfl⟩⟩
          · omega
        | succ r ih =>
          intro i hi
          refine b_iload_n C (dk_at ec297 (i := 31) rfl).1 rfl ?_
          refine b_bipush C (dk_at ec297 (i := 32) rfl).1 ⟨by omega, by omega⟩ ?_
          refine b_icmp_ge (t := 80) C (dk_at ec297 (i := 33) rfl).1 (by decide) ⟨by omega, by omega⟩ ⟨by omega, by omega⟩ (fun z54 => ?_) (fun z54 => ?_)
          · omega
          · refine b_al0 C (dk_at ec297 (i := 34) rfl).1 rfl ?_
            refine b_gR C (dk_at ec297 (i := 35) rfl) hm h2 ?_
            refine b_bipush C (dk_at ec297 (i := 36) rfl).1 ⟨by omega, by omega⟩ ?_
            refine b_iload_n C (dk_at ec297 (i := 37) rfl).1 rfl ?_
            refine b_imul C (dk_at ec297 (i := 38) rfl).1 ?_
            refine b_iload_n C (dk_at ec297 (i := 39) rfl).1 rfl ?_
            refine b_iadd C (dk_at ec297 (i := 40) rfl).1 ?_
            refine b_al0 C (dk_at ec297 (i := 41) rfl).1 rfl ?_
            refine b_gR C (dk_at ec297 (i := 42) rfl) hm h1 ?_
            refine b_iload_n C (dk_at ec297 (i := 43) rfl).1 rfl ?_
            refine b_lald C (dk_at ec297 (i := 44) rfl).1 (Or.inr ht1) (by omega) (by omega) (fun _ => ?_)
            refine b_last C (dk_at ec297 (i := 45) rfl).1 (Or.inr ht2) (by omega) (by omega) ?_
            refine b_iinc (a := (i : Int)) C (dk_at ec297 (i := 46) rfl).1 (by rw [hn]; decide) rfl (bno2_of (fun w hw _ => by cases hw; exact (show (1 : Nat) ≠ 2 by decide))) ?_
            refine b_goto (t := 51) C (dk_at ec297 (i := 47) rfl).1 (by decide) ?_
            have := ih (i + 1) (by omega)
            rw [show (((i + 1 : Nat) : Int)) = (i : Int) + 1 by omega] at this
            exact this
      have loop1 : ∀ r i : Nat, i + r = 3266 → bJ γ 18 [some (.ref m), some (.int (bz x)), some (.int (bz (i : Int)))] [] τ (bcp (bsetI h m 0 0) K (3266 * k) a 0 i) 0 0 := by
        intro r
        induction r with
        | zero =>
          intro i hi
          obtain rfl : i = 3266 := by omega
          refine b_iload_n C (dk_at ec297 (i := 12) rfl).1 rfl ?_
          refine b_sipush C (dk_at ec297 (i := 13) rfl).1 ⟨by omega, by omega⟩ ?_
          refine b_icmp_ge (t := 49) C (dk_at ec297 (i := 14) rfl).1 (by decide) ⟨by omega, by omega⟩ ⟨by omega, by omega⟩ (fun z22 => ?_) (fun z22 => ?_)
          · refine b_iconst C (dk_at ec297 (i := 29) rfl).1 ?_
            refine b_istore_n C (dk_at ec297 (i := 30) rfl).1 (by rw [hn]; decide) (bno2_of (fun w hw _ => by cases hw; exact (show (1 : Nat) ≠ 2 by decide))) ?_
            exact loop2 10 0 rfl
          · omega
        | succ r ih =>
          intro i hi
          refine b_iload_n C (dk_at ec297 (i := 12) rfl).1 rfl ?_
          refine b_sipush C (dk_at ec297 (i := 13) rfl).1 ⟨by omega, by omega⟩ ?_
          refine b_icmp_ge (t := 49) C (dk_at ec297 (i := 14) rfl).1 (by decide) ⟨by omega, by omega⟩ ⟨by omega, by omega⟩ (fun z22 => ?_) (fun z22 => ?_)
          · omega
          · refine b_al0 C (dk_at ec297 (i := 15) rfl).1 rfl ?_
            refine b_gR C (dk_at ec297 (i := 16) rfl) hm hK ?_
            refine b_sipush C (dk_at ec297 (i := 17) rfl).1 ⟨by omega, by omega⟩ ?_
            refine b_iload_n C (dk_at ec297 (i := 18) rfl).1 rfl ?_
            refine b_imul C (dk_at ec297 (i := 19) rfl).1 ?_
            refine b_iload_n C (dk_at ec297 (i := 20) rfl).1 rfl ?_
            refine b_iadd C (dk_at ec297 (i := 21) rfl).1 ?_
            refine b_al0 C (dk_at ec297 (i := 22) rfl).1 rfl ?_
            refine b_gR C (dk_at ec297 (i := 23) rfl) hm ha ?_
            refine b_iload_n C (dk_at ec297 (i := 24) rfl).1 rfl ?_
            refine b_rd (j := 0 + i) C (dk_at ec297 (i := 25) rfl).1 hta (by omega) (by omega) (fun hv => ?_)
            refine b_wr (j := 3266 * k + i) C (dk_at ec297 (i := 26) rfl).1 htK (by omega) (by omega) hv ?_
            refine b_iinc (a := (i : Int)) C (dk_at ec297 (i := 27) rfl).1 (by rw [hn]; decide) rfl (bno2_of (fun w hw _ => by cases hw; exact (show (1 : Nat) ≠ 2 by decide))) ?_
            refine b_goto (t := 18) C (dk_at ec297 (i := 28) rfl).1 (by decide) ?_
            have := ih (i + 1) (by omega)
            rw [show (((i + 1 : Nat) : Int)) = (i : Int) + 1 by omega, ← bcp_step (Or.inl hne.symm)] at this
            rw [bcp_rd (Or.inl hne.symm)]
            exact this
      have := loop1 3266 0 rfl
      rw [bcp_0] at this
      exact this
    refine b_al0 C (dk_at ec297 (i := 0) rfl).1 rfl ?_
    refine b_iconst C (dk_at ec297 (i := 1) rfl).1 ?_
    refine b_pI C (dk_at ec297 (i := 2) rfl) ⟨by omega, by omega⟩ hm ?_
    refine b_iload_n C (dk_at ec297 (i := 3) rfl).1 rfl ?_
    refine b_iconst C (dk_at ec297 (i := 4) rfl).1 ?_
    refine b_iconst C (dk_at ec297 (i := 5) rfl).1 ?_
    refine b_ins (As := [.int (bz x), .int (bz 0), .int (bz 1)]) (rest := []) C Bg.x (dk_at ec297 (i := 6) rfl) (by decide) rfl (is_fun x 0 1) (by omega) rfl ⟨rfl, hx, ⟨by omega, by omega⟩, ⟨by omega, by omega⟩⟩ (Nat.le_of_ble_eq_true rfl) (Nat.le_refl _) (Nat.le_refl _) ?_
    rintro v τ' h' ⟨rfl, rfl, r, rfl, hr⟩
    refine b_if_ne (t := 16) C (dk_at ec297 (i := 7) rfl).1 (by decide) ⟨by omega, by omega⟩ (fun z11 => ?_) (fun z11 => ?_)
    · refine b_iconst C (dk_at ec297 (i := 10) rfl).1 ?_
      refine b_istore_n C (dk_at ec297 (i := 11) rfl).1 (by rw [hn]; decide) (bno2_of (fun w hw _ => by cases hw; exact (show (1 : Nat) ≠ 2 by decide))) ?_
      obtain ⟨k, ek⟩ : ∃ k : Nat, (k : Int) = x := ⟨x.toNat, by omega⟩
      have hk : k < 2 := by omega
      have := main k ek hk
      exact this
    · refine b_iconst C (dk_at ec297 (i := 8) rfl).1 ?_
      exact b_iret C Bg (dk_at ec297 (i := 9) rfl).1 (Or.inr ⟨rfl, by omega⟩) (Nat.le_refl _) (Nat.le_refl _) ⟨rfl, Or.inl ⟨rfl, rfl, by omega⟩⟩
theorem rr_fun (m a K N1 N2 B : Nat) (x : Int) : bOk ey298 3 2 0 0 (fun _ avs τ h => avs = [.ref m, .int (bz x)] ∧ brg x ∧ τ.1 m = 12 ∧ (h.2 m 14 = some a ∧ τ.1 a = 41 ∧ τ.2 a = 3266) ∧ (h.2 m 16 = some K ∧ τ.1 K = 41 ∧ τ.2 K = 6532) ∧ (h.2 m 20 = some N1 ∧ τ.1 N1 = 44 ∧ τ.2 N1 = 10) ∧ (h.2 m 22 = some N2 ∧ τ.1 N2 = 44 ∧ τ.2 N2 = 20) ∧ (h.2 m 23 = some B ∧ τ.1 B = 43 ∧ τ.2 B = 2) ∧ K ≠ a) (fun _ avs τ h v τ' h' => τ' = τ ∧ ((v = some (.int (bz 0)) ∧ h' = bsetI h m 0 0) ∨ (v = some (.int (bz 1)) ∧ ∃ k : Nat, (k : Int) = x ∧ k < 2 ∧ h.1 B k ≠ 0 ∧ h' = bsetI (bcp (bsetI h m 0 0) a 0 K (3266 * k) 3266) m 25 0))) := by
  refine bOk_of emp298.1.2.2.2.2.2.1 ?_ ?_
  · rintro ι avs τ h ⟨rfl, -⟩
    exact Nat.le_of_ble_eq_true rfl
  · intro γ ι τ h avs d hd hp Bg C
    obtain ⟨rfl, hx, hm, ⟨ha, hta, hla⟩, ⟨hK, htK, hlK⟩, ⟨h1, ht1, hl1⟩, ⟨h2, ht2, hl2⟩, ⟨hB, htB, hlB⟩, hne⟩ := hp
    have hn : γ.2.2.1 = 3 := Bg.2.1
    obtain ⟨d, rfl⟩ : ∃ d', d = d' + 1 := ⟨d - 1, by omega⟩
    have main : ∀ k : Nat, (k : Int) = x → k < 2 → h.1 B k ≠ 0 → bJ γ 27 [some (.ref m), some (.int (bz x)), some (.int (bz ((0 : Nat) : Int)))] [] τ (bsetI h m 0 0) 0 0 := by
      intro k ek hk hkB
      have loop2 : ∀ r i : Nat, i + r = 10 → bJ γ 60 [some (.ref m), some (.int (bz x)), some (.int (bz (i : Int)))] [] τ (bcp (bsetI h m 0 0) a 0 K (3266 * k) 3266) 0 0 := by
        intro r
        induction r with
        | zero =>
          intro i hi
          obtain rfl : i = 10 := by omega
          refine b_iload_n C (dk_at ec298 (i := 36) rfl).1 rfl ?_
          refine b_bipush C (dk_at ec298 (i := 37) rfl).1 ⟨by omega, by omega⟩ ?_
          refine b_icmp_ge (t := 89) C (dk_at ec298 (i := 38) rfl).1 (by decide) ⟨by omega, by omega⟩ ⟨by omega, by omega⟩ (fun z63 => ?_) (fun z63 => ?_)
          · refine b_al0 C (dk_at ec298 (i := 53) rfl).1 rfl ?_
            refine b_iconst C (dk_at ec298 (i := 54) rfl).1 ?_
            refine b_pI C (dk_at ec298 (i := 55) rfl) ⟨by omega, by omega⟩ hm ?_
            refine b_iconst C (dk_at ec298 (i := 56) rfl).1 ?_
            exact b_iret C Bg (dk_at ec298 (i := 57) rfl).1 (Or.inr ⟨rfl, by omega⟩) (Nat.le_refl _) (Nat.le_refl _) ⟨rfl, Or.inr ⟨rfl, k, ek, hk, hkB, rfl⟩⟩
          · omega
        | succ r ih =>
          intro i hi
          refine b_iload_n C (dk_at ec298 (i := 36) rfl).1 rfl ?_
          refine b_bipush C (dk_at ec298 (i := 37) rfl).1 ⟨by omega, by omega⟩ ?_
          refine b_icmp_ge (t := 89) C (dk_at ec298 (i := 38) rfl).1 (by decide) ⟨by omega, by omega⟩ ⟨by omega, by omega⟩ (fun z63 => ?_) (fun z63 => ?_)
          · omega
          · refine b_al0 C (dk_at ec298 (i := 39) rfl).1 rfl ?_
            refine b_gR C (dk_at ec298 (i := 40) rfl) hm h1 ?_
            refine b_iload_n C (dk_at ec298 (i := 41) rfl).1 rfl ?_
            refine b_al0 C (dk_at ec298 (i := 42) rfl).1 rfl ?_
            refine b_gR C (dk_at ec298 (i := 43) rfl) hm h2 ?_
            refine b_bipush C (dk_at ec298 (i := 44) rfl).1 ⟨by omega, by omega⟩ ?_
            refine b_iload_n C (dk_at ec298 (i := 45) rfl).1 rfl ?_
            refine b_imul C (dk_at ec298 (i := 46) rfl).1 ?_
            refine b_iload_n C (dk_at ec298 (i := 47) rfl).1 rfl ?_
            refine b_iadd C (dk_at ec298 (i := 48) rfl).1 ?_
            refine b_lald C (dk_at ec298 (i := 49) rfl).1 (Or.inr ht2) (by omega) (by omega) (fun _ => ?_)
            refine b_last C (dk_at ec298 (i := 50) rfl).1 (Or.inr ht1) (by omega) (by omega) ?_
            refine b_iinc (a := (i : Int)) C (dk_at ec298 (i := 51) rfl).1 (by rw [hn]; decide) rfl (bno2_of (fun w hw _ => by cases hw; exact (show (1 : Nat) ≠ 2 by decide))) ?_
            refine b_goto (t := 60) C (dk_at ec298 (i := 52) rfl).1 (by decide) ?_
            have := ih (i + 1) (by omega)
            rw [show (((i + 1 : Nat) : Int)) = (i : Int) + 1 by omega] at this
            exact this
      have loop1 : ∀ r i : Nat, i + r = 3266 → bJ γ 27 [some (.ref m), some (.int (bz x)), some (.int (bz (i : Int)))] [] τ (bcp (bsetI h m 0 0) a 0 K (3266 * k) i) 0 0 := by
        intro r
        induction r with
        | zero =>
          intro i hi
          obtain rfl : i = 3266 := by omega
          refine b_iload_n C (dk_at ec298 (i := 17) rfl).1 rfl ?_
          refine b_sipush C (dk_at ec298 (i := 18) rfl).1 ⟨by omega, by omega⟩ ?_
          refine b_icmp_ge (t := 58) C (dk_at ec298 (i := 19) rfl).1 (by decide) ⟨by omega, by omega⟩ ⟨by omega, by omega⟩ (fun z31 => ?_) (fun z31 => ?_)
          · refine b_iconst C (dk_at ec298 (i := 34) rfl).1 ?_
            refine b_istore_n C (dk_at ec298 (i := 35) rfl).1 (by rw [hn]; decide) (bno2_of (fun w hw _ => by cases hw; exact (show (1 : Nat) ≠ 2 by decide))) ?_
            exact loop2 10 0 rfl
          · omega
        | succ r ih =>
          intro i hi
          refine b_iload_n C (dk_at ec298 (i := 17) rfl).1 rfl ?_
          refine b_sipush C (dk_at ec298 (i := 18) rfl).1 ⟨by omega, by omega⟩ ?_
          refine b_icmp_ge (t := 58) C (dk_at ec298 (i := 19) rfl).1 (by decide) ⟨by omega, by omega⟩ ⟨by omega, by omega⟩ (fun z31 => ?_) (fun z31 => ?_)
          · omega
          · refine b_al0 C (dk_at ec298 (i := 20) rfl).1 rfl ?_
            refine b_gR C (dk_at ec298 (i := 21) rfl) hm ha ?_
            refine b_iload_n C (dk_at ec298 (i := 22) rfl).1 rfl ?_
            refine b_al0 C (dk_at ec298 (i := 23) rfl).1 rfl ?_
            refine b_gR C (dk_at ec298 (i := 24) rfl) hm hK ?_
            refine b_sipush C (dk_at ec298 (i := 25) rfl).1 ⟨by omega, by omega⟩ ?_
            refine b_iload_n C (dk_at ec298 (i := 26) rfl).1 rfl ?_
            refine b_imul C (dk_at ec298 (i := 27) rfl).1 ?_
            refine b_iload_n C (dk_at ec298 (i := 28) rfl).1 rfl ?_
            refine b_iadd C (dk_at ec298 (i := 29) rfl).1 ?_
            refine b_rd (j := 3266 * k + i) C (dk_at ec298 (i := 30) rfl).1 htK (by omega) (by omega) (fun hv => ?_)
            refine b_wr (j := 0 + i) C (dk_at ec298 (i := 31) rfl).1 hta (by omega) (by omega) hv ?_
            refine b_iinc (a := (i : Int)) C (dk_at ec298 (i := 32) rfl).1 (by rw [hn]; decide) rfl (bno2_of (fun w hw _ => by cases hw; exact (show (1 : Nat) ≠ 2 by decide))) ?_
            refine b_goto (t := 27) C (dk_at ec298 (i := 33) rfl).1 (by decide) ?_
            have := ih (i + 1) (by omega)
            rw [show (((i + 1 : Nat) : Int)) = (i : Int) + 1 by omega, ← bcp_step (Or.inl hne)] at this
            rw [bcp_rd (Or.inl hne)]
            exact this
      have := loop1 3266 0 rfl
      rw [bcp_0] at this
      exact this
    refine b_al0 C (dk_at ec298 (i := 0) rfl).1 rfl ?_
    refine b_iconst C (dk_at ec298 (i := 1) rfl).1 ?_
    refine b_pI C (dk_at ec298 (i := 2) rfl) ⟨by omega, by omega⟩ hm ?_
    refine b_iload_n C (dk_at ec298 (i := 3) rfl).1 rfl ?_
    refine b_iconst C (dk_at ec298 (i := 4) rfl).1 ?_
    refine b_iconst C (dk_at ec298 (i := 5) rfl).1 ?_
    refine b_ins (As := [.int (bz x), .int (bz 0), .int (bz 1)]) (rest := []) C Bg.x (dk_at ec298 (i := 6) rfl) (by decide) rfl (is_fun x 0 1) (by omega) rfl ⟨rfl, hx, ⟨by omega, by omega⟩, ⟨by omega, by omega⟩⟩ (Nat.le_of_ble_eq_true rfl) (Nat.le_refl _) (Nat.le_refl _) ?_
    rintro v τ' h' ⟨rfl, rfl, r, rfl, hr⟩
    refine b_if_eq (t := 23) C (dk_at ec298 (i := 7) rfl).1 (by decide) ⟨by omega, by omega⟩ (fun z11 => ?_) (fun z11 => ?_)
    · refine b_iconst C (dk_at ec298 (i := 13) rfl).1 ?_
      exact b_iret C Bg (dk_at ec298 (i := 14) rfl).1 (Or.inr ⟨rfl, by omega⟩) (Nat.le_refl _) (Nat.le_refl _) ⟨rfl, Or.inl ⟨rfl, rfl⟩⟩
    · refine b_al0 C (dk_at ec298 (i := 8) rfl).1 rfl ?_
      refine b_gR C (dk_at ec298 (i := 9) rfl) hm hB ?_
      refine b_iload_n C (dk_at ec298 (i := 10) rfl).1 rfl ?_
      refine b_bald C (dk_at ec298 (i := 11) rfl).1 (Or.inr (Or.inr htB)) (by omega) (by omega) (fun hv => ?_)
      refine b_if_ne (t := 25) C (dk_at ec298 (i := 12) rfl).1 (by decide) hv (fun z20 => ?_) (fun z20 => ?_)
      · refine b_iconst C (dk_at ec298 (i := 15) rfl).1 ?_
        refine b_istore_n C (dk_at ec298 (i := 16) rfl).1 (by rw [hn]; decide) (bno2_of (fun w hw _ => by cases hw; exact (show (1 : Nat) ≠ 2 by decide))) ?_
        obtain ⟨k, ek⟩ : ∃ k : Nat, (k : Int) = x := ⟨x.toNat, by omega⟩
        have hk : k < 2 := by omega
        have hkB : h.1 B k ≠ 0 := by
          intro e
          refine z20 ?_
          rw [bsetI_no (fun e => by rw [e] at htB; omega), show x.toNat = k by omega]
          exact e
        exact main k ek hk hkB
      · refine b_iconst C (dk_at ec298 (i := 13) rfl).1 ?_
        exact b_iret C Bg (dk_at ec298 (i := 14) rfl).1 (Or.inr ⟨rfl, by omega⟩) (Nat.le_refl _) (Nat.le_refl _) ⟨rfl, Or.inl ⟨rfl, rfl⟩⟩
theorem tnod_sh {f f' : Nat → Int} {b c n : Nat} (h : ∀ i, i < 4 → f' (b + i) = f (c + i)) (hu : tnod f c n) : tnod f' b n := by
  have h0 : f' b = f c := h 0 (by omega)
  unfold tnod at *
  rw [h0, h 1 (by omega), h 2 (by omega)]
  exact hu
theorem creg2_sh {f f' : Nat → Int} {b c : Nat} (h : ∀ i, i < 240 → f' (b + i) = f (c + i)) (hu : creg 2 c f) : creg 2 b f' := by
  refine ⟨fun z => by omega, fun _ n hn => tnod_sh (c := c + 4 * n) (fun i hi => ?_) (hu.2.1 rfl n hn), fun z => by omega, fun z => by omega⟩
  have := h (4 * n + i) (by omega)
  rw [show b + 4 * n + i = b + (4 * n + i) by omega, this, show c + 4 * n + i = c + (4 * n + i) by omega]
theorem im_words : ∀ k, k < 2 → cwr (cSg 63) (cSg 61) (3266 * k) 0 3266 = true ∧ cwr (cSg 61) (cSg 63) 1 (3266 * k + 1) 1 = true ∧ cwr (cSg 61) (cSg 63) 3 (3266 * k + 3) 2 = true ∧ cwr (cSg 61) (cSg 63) 6 (3266 * k + 6) 3260 = true ∧ cseg (cSg 63) (3266 * k) = (0, 0, 32, 0, false) ∧ cseg (cSg 63) (3266 * k + 2) = (0, 0, 9, 0, false) ∧ cseg (cSg 63) (3266 * k + 5) = (0, 0, 60, 0, false) := by
  intro k hk
  have ek : k = 0 ∨ k = 1 := by omega
  rcases ek with rfl | rfl
  · exact ⟨by decide +kernel, by decide +kernel, by decide +kernel, by decide +kernel, by decide +kernel, by decide +kernel, by decide +kernel⟩
  · exact ⟨by decide +kernel, by decide +kernel, by decide +kernel, by decide +kernel, by decide +kernel, by decide +kernel, by decide +kernel⟩
theorem g63 : ∀ q ∈ cSg 63, q.2.1 = 3 → ∃ j, j < 2 ∧ ((q.2.2.1 = 1 ∧ q.2.2.2.1.toNat = 3266 * j + 1504) ∨ (q.2.2.1 = 2 ∧ q.2.2.2.1.toNat = 3266 * j + 3026)) := by decide +kernel
theorem g63a : ∀ j, j < 2 → (∃ q ∈ cSg 63, q.2.1 = 3 ∧ q.2.2.1 = 1 ∧ q.2.2.2.1.toNat = 3266 * j + 1504) ∧ ∃ q ∈ cSg 63, q.2.1 = 3 ∧ q.2.2.1 = 2 ∧ q.2.2.2.1.toNat = 3266 * j + 3026 := by decide +kernel
theorem cR68 : cfR cT0 68 = some (43, 2, 2, cSg 68) := by rfl
theorem g68 : (∀ q ∈ cSg 68, q.2.1 ≠ 3) ∧ cseg (cSg 68) 0 = (0, 0, 1, 0, false) ∧ cseg (cSg 68) 1 = (0, 0, 1, 0, false) := by decide +kernel
theorem s61 : cseg (cSg 61) 0 = (0, 1, 32, 0, false) ∧ cseg (cSg 61) 2 = (0, 1, 9, 0, false) ∧ cseg (cSg 61) 5 = (0, 1, 60, 0, false) := by decide +kernel
section IMAGE
variable {g : Nat → Nat} {τ : bt} {h : bh} {m a K B k : Nat}
theorem o_head (hw : cWT cT0 g τ h) (ga : g a = 61) : (1 ≤ h.1 a 0 ∧ h.1 a 0 ≤ 32) ∧ (1 ≤ h.1 a 2 ∧ h.1 a 2 ≤ 9) ∧ 1 ≤ h.1 a 5 ∧ h.1 a 5 ≤ 60 := by
  obtain ⟨e0, e2, e5⟩ := s61
  obtain ⟨o1, -⟩ := o_now hw ga
  have x0 := o1 0 (by rw [e0])
  have x2 := o1 2 (by rw [e2])
  have x5 := o1 5 (by rw [e5])
  rw [e0] at x0
  rw [e2] at x2
  rw [e5] at x5
  exact ⟨x0, x2, x5⟩
theorem im_wt (hw : cWT cT0 g τ h) (uq : ∀ b, g b = 12 → b = m) (ga : g a = 61) (gK : g K = 63) (gB : g B = 68) (hK : h.2 m 16 = some K) (hB : h.2 m 23 = some B) (hk : k < 2) : cWT cT0 g τ (bsetI (bcp h K (3266 * k) a 0 3266) B k 1) := by
  have nKB : K ≠ B := fun e => by rw [e] at gK; omega
  have naB : a ≠ B := fun e => by rw [e] at ga; omega
  obtain ⟨wk1, -⟩ := im_words k hk
  obtain ⟨o1, o2, o3⟩ := o_now hw ga
  obtain ⟨p1, p2⟩ := o_arr hw gK (by decide) cR63
  have val : ∀ b i, (bsetI (bcp h K (3266 * k) a 0 3266) B k 1).1 b i = if b = B ∧ i = k then 1 else if b = K ∧ 3266 * k ≤ i ∧ i < 3266 * k + 3266 then h.1 a (0 + (i - 3266 * k)) else h.1 b i := fun b i => rfl
  have inK : ∀ i, i < 3266 → (bsetI (bcp h K (3266 * k) a 0 3266) B k 1).1 K (3266 * k + i) = h.1 a i := by
    intro i hi
    rw [val, if_neg (fun e => nKB e.1), if_pos ⟨rfl, by omega, by omega⟩, show 0 + (3266 * k + i - 3266 * k) = i by omega]
  have outK : ∀ i, (i < 3266 * k ∨ 3266 * k + 3266 ≤ i) → (bsetI (bcp h K (3266 * k) a 0 3266) B k 1).1 K i = h.1 K i := by
    intro i hi
    rw [val, if_neg (fun e => nKB e.1), if_neg (by omega)]
  have out : ∀ b i, b ≠ K → b ≠ B → (bsetI (bcp h K (3266 * k) a 0 3266) B k 1).1 b i = h.1 b i := by
    intro b i h1 h2
    rw [val, if_neg (fun e => h2 e.1), if_neg (fun e => h1 e.1)]
  intro b hb
  obtain ⟨R', r1, r2, r3, r4, r5, r6, r7, r8⟩ := hw b hb
  by_cases e : b = K
  · subst e
    rw [gK] at r1
    rw [cR63] at r1
    cases r1
    refine ⟨_, by rw [gK]; exact cR63, r2, r3, r4, fun i => ⟨fun z => ?_, (r5 i).2⟩, fun _ q hq q3 => ?_, fun e12 => by omega, r8⟩
    · have z : (cseg (cSg 63) i).1 = 0 := z
      by_cases e : 3266 * k ≤ i ∧ i < 3266 * k + 3266
      · obtain ⟨j, rfl⟩ : ∃ j, i = 3266 * k + j := ⟨i - 3266 * k, by omega⟩
        rw [inK j (by omega)]
        have := o1 (0 + j)
        rw [show 0 + j = j by omega] at this
        exact cwr_ok 3266 wk1 j (by omega) _ z (by rw [show 0 + j = j by omega]; exact this)
      · rw [outK i (by omega)]
        exact p1 i z
    · obtain ⟨j, hj, ⟨q1, q2⟩ | ⟨q1, q2⟩⟩ := g63 q hq q3
      · rw [q1, q2]
        by_cases e : j = k
        · subst e
          refine creg1_sh (c := 1504) (f := h.1 a) (fun i hi => ?_) o2 (Or.inr rfl)
          rw [show 3266 * j + 1504 + i = 3266 * j + (1504 + i) by omega, inK _ (by omega)]
        · have := p2 (by decide) q hq q3
          rw [q1, q2] at this
          refine creg1_sh (c := 3266 * j + 1504) (f := h.1 b) (fun i hi => outK _ (by omega)) this (Or.inl rfl)
      · rw [q1, q2]
        by_cases e : j = k
        · subst e
          refine creg2_sh (c := 3026) (f := h.1 a) (fun i hi => ?_) o3
          rw [show 3266 * j + 3026 + i = 3266 * j + (3026 + i) by omega, inK _ (by omega)]
        · have := p2 (by decide) q hq q3
          rw [q1, q2] at this
          refine creg2_sh (c := 3266 * j + 3026) (f := h.1 b) (fun i hi => outK _ (by omega)) this
  · by_cases e' : b = B
    · subst e'
      rw [gB] at r1
      rw [cR68] at r1
      cases r1
      refine ⟨_, by rw [gB]; exact cR68, r2, r3, r4, fun i => ⟨fun z => ?_, (r5 i).2⟩, fun _ q hq q3 => absurd q3 (g68.1 q hq), fun e12 => by omega, r8⟩
      by_cases ei : i = k
      · subst ei
        rw [val, if_pos ⟨rfl, rfl⟩]
        have ek : i = 0 ∨ i = 1 := by omega
        rcases ek with rfl | rfl
        · show (cseg (cSg 68) 0).2.1 ≤ 1 ∧ 1 ≤ (cseg (cSg 68) 0).2.2.1
          rw [g68.2.1]
          exact ⟨by decide, by decide⟩
        · show (cseg (cSg 68) 1).2.1 ≤ 1 ∧ 1 ≤ (cseg (cSg 68) 1).2.2.1
          rw [g68.2.2]
          exact ⟨by decide, by decide⟩
      · rw [val, if_neg (fun z => ei z.2), if_neg (fun z => e z.1)]
        exact (r5 i).1 z
    · refine ⟨R', r1, r2, r3, r4, fun i => ⟨fun z => ?_, (r5 i).2⟩, fun k41 q hq q3 => creg_eq (fun i _ => out b i e e') (r6 k41 q hq q3), fun e12 B' K' hB' hK' k' hk' hm' => ?_, r8⟩
      · rw [out b i e e']
        exact (r5 i).1 z
      · obtain rfl := uq b e12
        have hB' : h.2 b 23 = some B' := hB'
        have hK' : h.2 b 16 = some K' := hK'
        rw [hB] at hB'
        rw [hK] at hK'
        cases hB'
        cases hK'
        by_cases ek : k' = k
        · subst ek
          obtain ⟨x0, x2, x5⟩ := o_head hw ga
          unfold chdk
          have i0 := inK 0 (by omega)
          rw [show 3266 * k' + 0 = 3266 * k' by omega] at i0
          rw [i0, inK 2 (by omega), inK 5 (by omega)]
          exact ⟨x0.1, x2.1, x5.1⟩
        · rw [val, if_neg (fun z => ek z.2), if_neg (fun z => nKB z.1.symm)] at hm'
          have kk := r7 e12 B K hB hK k' hk' hm'
          unfold chdk at *
          rw [outK _ (by omega), outK _ (by omega), outK _ (by omega)]
          exact kk
theorem re_wt (hw : cWT cT0 g τ h) (gm : g m = 12) (ga : g a = 61) (gK : g K = 63) (gB : g B = 68) (hK : h.2 m 16 = some K) (hB : h.2 m 23 = some B) (hk : k < 2) (hkB : h.1 B k ≠ 0) : cWT cT0 g τ (bsetI (bcp h a 0 K (3266 * k) 3266) a 5000 40) := by
  obtain ⟨-, wk1, wk3, wk6, c0, c2', c5⟩ := im_words k hk
  obtain ⟨o1, o2, o3⟩ := o_now hw ga
  obtain ⟨p1, p2⟩ := o_arr hw gK (by decide) cR63
  have b1 : h.1 B k = 1 := by
    obtain ⟨b1, -⟩ := o_arr hw gB (by decide) cR68
    have ek : k = 0 ∨ k = 1 := by omega
    rcases ek with rfl | rfl
    · have := b1 0 (by rw [g68.2.1])
      rw [g68.2.1] at this
      have t1 : (0 : Int) ≤ h.1 B 0 := this.1
      have t2 : h.1 B 0 ≤ (1 : Int) := this.2
      omega
    · have := b1 1 (by rw [g68.2.2])
      rw [g68.2.2] at this
      have t1 : (0 : Int) ≤ h.1 B 1 := this.1
      have t2 : h.1 B 1 ≤ (1 : Int) := this.2
      omega
  have hd : chdk (h.1 K) (3266 * k) := by
    obtain ⟨R', -, -, -, -, -, -, r7, -⟩ := hw m (by rw [gm]; decide)
    exact r7 gm B K hB hK k hk b1
  have val : ∀ b i, (bsetI (bcp h a 0 K (3266 * k) 3266) a 5000 40).1 b i = if b = a ∧ i = 5000 then 40 else if b = a ∧ 0 ≤ i ∧ i < 0 + 3266 then h.1 K (3266 * k + (i - 0)) else h.1 b i := fun b i => rfl
  have inA : ∀ i, i < 3266 → (bsetI (bcp h a 0 K (3266 * k) 3266) a 5000 40).1 a i = h.1 K (3266 * k + i) := by
    intro i hi
    rw [val, if_neg (by omega), if_pos ⟨rfl, by omega, by omega⟩, show i - 0 = i by omega]
  refine w_now hw ga (l := 0) (u := 5000) rfl (fun b i hb => ?_) (fun i i1 i2 hi => ?_) (creg_51 ?_ ?_) ?_
  · rw [val, if_neg (by omega), if_neg (by omega)]
  · by_cases e : i < 3266
    · rw [inA i e]
      obtain ⟨s0, s2, s5⟩ := s61
      by_cases e0 : i = 0
      · subst e0
        have := p1 (3266 * k) (by rw [c0])
        rw [c0] at this
        rw [s0, show 3266 * k + 0 = 3266 * k by omega]
        exact ⟨hd.1, this.2⟩
      · by_cases e2 : i = 2
        · subst e2
          have := p1 (3266 * k + 2) (by rw [c2'])
          rw [c2'] at this
          rw [s2]
          exact ⟨hd.2.1, this.2⟩
        · by_cases e5 : i = 5
          · subst e5
            have := p1 (3266 * k + 5) (by rw [c5])
            rw [c5] at this
            rw [s5]
            exact ⟨hd.2.2, this.2⟩
          · by_cases e1 : i = 1
            · subst e1
              exact cwr_ok 1 wk1 0 (by omega) _ hi (p1 (3266 * k + 1 + 0))
            · by_cases e3 : i < 6
              · obtain ⟨j, rfl⟩ : ∃ j, i = 3 + j := ⟨i - 3, by omega⟩
                have := cwr_ok 2 wk3 j (by omega) _ hi (p1 (3266 * k + 3 + j))
                rw [show 3266 * k + (3 + j) = 3266 * k + 3 + j by omega]
                exact this
              · obtain ⟨j, rfl⟩ : ∃ j, i = 6 + j := ⟨i - 6, by omega⟩
                have := cwr_ok 3260 wk6 j (by omega) _ hi (p1 (3266 * k + 6 + j))
                rw [show 3266 * k + (6 + j) = 3266 * k + 6 + j by omega]
                exact this
    · rw [cseg_far (u := 3266) (by omega) _ g61u] at hi
      cases hi
  · obtain ⟨⟨q, hq, q3, q1, q2⟩, -⟩ := g63a k hk
    have := p2 (by decide) q hq q3
    rw [q1, q2] at this
    refine creg1_sh (c := 3266 * k + 1504) (f := h.1 K) (fun i hi => ?_) this (Or.inl rfl)
    rw [inA _ (by omega), show 3266 * k + 1504 + i = 3266 * k + (1504 + i) by omega]
  · rw [val, if_pos ⟨rfl, rfl⟩]
    decide
  · obtain ⟨-, q, hq, q3, q1, q2⟩ := g63a k hk
    have := p2 (by decide) q hq q3
    rw [q1, q2] at this
    refine creg2_sh (c := 3266 * k + 3026) (f := h.1 K) (fun i hi => ?_) this
    rw [inA _ (by omega), show 3266 * k + 3026 + i = 3266 * k + (3026 + i) by omega]
theorem m_rows (hw : cWT cT0 g τ h) (gm : g m = 12) : ∃ a K N1 N2 B, ((h.2 m 14 = some a ∧ τ.1 a = 41 ∧ τ.2 a = 3266) ∧ (h.2 m 16 = some K ∧ τ.1 K = 41 ∧ τ.2 K = 6532) ∧ (h.2 m 20 = some N1 ∧ τ.1 N1 = 44 ∧ τ.2 N1 = 10) ∧ (h.2 m 22 = some N2 ∧ τ.1 N2 = 44 ∧ τ.2 N2 = 20) ∧ (h.2 m 23 = some B ∧ τ.1 B = 43 ∧ τ.2 B = 2) ∧ K ≠ a) ∧ g a = 61 ∧ g K = 63 ∧ g B = 68 := by
  obtain ⟨a, a1, a2, a3, a4⟩ := m_now hw gm
  obtain ⟨K, k1, k2, -, k4, k5, k6⟩ := m_arr hw (k := 16) (r := 63) gm (by decide) rfl cR63
  obtain ⟨N1, n1, -, -, n4, n5, n6⟩ := m_arr hw (k := 20) (r := 66) gm (by decide) rfl (by rfl)
  obtain ⟨N2, l1, -, -, l4, l5, l6⟩ := m_arr hw (k := 22) (r := 67) gm (by decide) rfl (by rfl)
  obtain ⟨B, b1, b2, -, b4, b5, b6⟩ := m_arr hw (k := 23) (r := 68) gm (by decide) rfl cR68
  have k5 : (6532 : Int) ≤ τ.2 K := k5
  have k6 : (τ.2 K : Int) ≤ 6532 := k6
  have n5 : (10 : Int) ≤ τ.2 N1 := n5
  have n6 : (τ.2 N1 : Int) ≤ 10 := n6
  have l5 : (20 : Int) ≤ τ.2 N2 := l5
  have l6 : (τ.2 N2 : Int) ≤ 20 := l6
  have b5 : (2 : Int) ≤ τ.2 B := b5
  have b6 : (τ.2 B : Int) ≤ 2 := b6
  exact ⟨a, K, N1, N2, B, ⟨⟨a1, a3, a4⟩, ⟨k1, k4, by omega⟩, ⟨n1, n4, by omega⟩, ⟨l1, l4, by omega⟩, ⟨b1, b4, by omega⟩, fun e => by rw [e] at k2; omega⟩, a2, k2, b2⟩
end IMAGE
theorem eim (g : Nat → Nat) (ρ : Nat → Int) (σ : Nat → Option Nat) : bOk ey297 3 3 0 0 (fun ι avs τ h => cPr cT0 enx27 ι avs τ h g ρ σ ∧ ∀ a b, g a = 12 → g b = 12 → a = b) (fun ι avs τ h v τ' h' => cPst cT0 enx27 g ρ σ ι avs τ h v τ' h' ∧ ((v = some (.int (bz 1)) ∧ 0 ≤ ρ 0 ∧ ρ 0 ≤ 1) ∨ (v = some (.int (bz 0)) ∧ ¬ (0 ≤ ρ 0 ∧ ρ 0 ≤ 1)))) := by
  have K : bOk ey297 3 2 0 0 (fun ι avs τ h => cPr cT0 enx27 ι avs τ h g ρ σ ∧ ∀ a b, g a = 12 → g b = 12 → a = b) (fun ι avs τ h v τ' h' => cPst cT0 enx27 g ρ σ ι avs τ h v τ' h' ∧ ((v = some (.int (bz 1)) ∧ 0 ≤ ρ 0 ∧ ρ 0 ≤ 1) ∨ (v = some (.int (bz 0)) ∧ ¬ (0 ≤ ρ 0 ∧ ρ 0 ≤ 1)))) := by
    refine bOk_by (bOk_ex (fun p : Nat × Nat × Nat × Nat × Nat × Nat => ii_fun p.1 p.2.1 p.2.2.1 p.2.2.2.1 p.2.2.2.2.1 p.2.2.2.2.2 (ρ 0))) ?_ ?_
    · rintro ι avs τ h ⟨hp, -⟩
      obtain ⟨m, xs, rfl, -, m2, m3, hxs⟩ := m_this hp rfl rfl
      obtain ⟨a, K, N1, N2, B, q, -⟩ := m_rows hp.1 m3
      exact ⟨(m, a, K, N1, N2, B), by rw [c2_i1 hxs], hp.2.2.1 0, m2, q⟩
    · rintro ι avs τ h v τ' h' ⟨hp, uq⟩ ⟨⟨m, a, K, N1, N2, B⟩, ⟨rfl, -, hm, ⟨ha1, -⟩, ⟨hK1, -⟩, -, -, ⟨hB1, -⟩, -⟩, rfl, hq⟩
      obtain ⟨m', xs, e, -, -, m3, -⟩ := m_this hp rfl rfl
      cases e
      have m3 : g m = 12 := m3
      obtain ⟨a', K', N1', N2', B', ⟨⟨q1, q1', -⟩, ⟨q2, q2', -⟩, -, -, ⟨q5, q5', -⟩, -⟩, ga, gK, gB⟩ := m_rows hp.1 m3
      have ha1 : h.2 m 14 = some a := ha1
      have hK1 : h.2 m 16 = some K := hK1
      have hB1 : h.2 m 23 = some B := hB1
      rw [ha1] at q1
      rw [hK1] at q2
      rw [hB1] at q5
      cases q1
      cases q2
      cases q5
      have hm : τ'.1 m = 12 := hm
      have w0 := thr_wt hp.1 m3
      rcases hq with ⟨rfl, rfl, hx⟩ | ⟨rfl, k, ek, hk, rfl⟩
      · exact ⟨cPst_int hp rfl rfl ⟨by omega, by omega⟩ ⟨by omega, by omega⟩ w0 (thr_hi hm (by decide +kernel)), Or.inr ⟨rfl, hx⟩⟩
      · refine ⟨?_, Or.inl ⟨rfl, by omega, by omega⟩⟩
        refine cPst_int hp rfl rfl ⟨by omega, by omega⟩ ⟨by omega, by omega⟩ (im_wt w0 (fun b hb => uq b m hb m3) ga gK gB hK1 hB1 hk) ?_
        intro b _
        refine ⟨rfl, rfl, Or.inl rfl, fun i hi => ⟨?_, rfl⟩⟩
        have no : ∀ x kd l u, τ'.1 x = kd → cefR enx27.2.2 kd l u = true → ¬ (b = x ∧ l ≤ i ∧ i ≤ u) := by
          rintro x kd l u tx hc ⟨rfl, h1, h2⟩
          rw [tx, cefR_ok hc h1 h2] at hi
          cases hi
        have n1 := no m 12 0 0 hm (by decide +kernel)
        have n2 := no K 41 0 6531 q2' (by decide +kernel)
        have n3 := no B 43 0 1 q5' (by decide +kernel)
        show (if b = B ∧ i = k then 1 else if b = K ∧ 3266 * k ≤ i ∧ i < 3266 * k + 3266 then _ else if b = m ∧ i = 0 then 0 else h.1 b i) = _
        rw [if_neg (fun e => n3 ⟨e.1, by omega, by omega⟩), if_neg (fun e : b = K ∧ 3266 * k ≤ i ∧ i < 3266 * k + 3266 => n2 ⟨e.1, by omega, by omega⟩), if_neg (fun e => n1 ⟨e.1, by omega, by omega⟩)]
  intro l hl d hd
  exact K l hl d (by omega)
theorem eox28 : cOk cT0 ey298 3 3 0 0 enx28 := by
  have K : cOk cT0 ey298 3 2 0 0 enx28 := by
    intro g ρ σ
    refine bOk_to2 (bOk_ex (fun p : Nat × Nat × Nat × Nat × Nat × Nat => rr_fun p.1 p.2.1 p.2.2.1 p.2.2.2.1 p.2.2.2.2.1 p.2.2.2.2.2 (ρ 0))) ?_ ?_
    · intro ι avs τ h hp
      obtain ⟨m, xs, rfl, -, m2, m3, hxs⟩ := m_this hp rfl rfl
      obtain ⟨a, K, N1, N2, B, q, -⟩ := m_rows hp.1 m3
      exact ⟨(m, a, K, N1, N2, B), by rw [c2_i1 hxs], hp.2.2.1 0, m2, q⟩
    · rintro ι avs τ h v τ' h' hp ⟨⟨m, a, K, N1, N2, B⟩, ⟨rfl, -, hm, ⟨ha1, hta, hla⟩, ⟨hK1, -⟩, -, -, ⟨hB1, -⟩, -⟩, rfl, hq⟩
      obtain ⟨m', xs, e, -, -, m3, -⟩ := m_this hp rfl rfl
      cases e
      have m3 : g m = 12 := m3
      obtain ⟨a', K', N1', N2', B', ⟨⟨q1, q1', -⟩, ⟨q2, q2', -⟩, -, -, ⟨q5, q5', -⟩, -⟩, ga, gK, gB⟩ := m_rows hp.1 m3
      have ha1 : h.2 m 14 = some a := ha1
      have hK1 : h.2 m 16 = some K := hK1
      have hB1 : h.2 m 23 = some B := hB1
      rw [ha1] at q1
      rw [hK1] at q2
      rw [hB1] at q5
      cases q1
      cases q2
      cases q5
      have hm : τ'.1 m = 12 := hm
      have w0 := thr_wt hp.1 m3
      rcases hq with ⟨rfl, rfl⟩ | ⟨rfl, k, ek, hk, hkB, rfl⟩
      · exact ⟨_, cPst_int hp rfl rfl ⟨by omega, by omega⟩ ⟨by omega, by omega⟩ w0 (thr_hi hm (by decide +kernel)), fun H hH => hH⟩
      · have hla : τ'.2 a = 3266 := hla
        have nam : a ≠ m := fun e => by rw [e] at ga; omega
        have nBm : B ≠ m := fun e => by rw [e] at gB; omega
        have hkB : h.1 B k ≠ 0 := hkB
        have w1 := re_wt w0 m3 ga gK gB hK1 hB1 hk (by rw [bsetI_no nBm]; exact hkB)
        have w2 : cWT cT0 g τ' (bsetI (bsetI (bcp (bsetI h m 0 0) a 0 K (3266 * k) 3266) a 5000 40) m 25 0) := by
          refine cWT.fld w1 (by rw [m3]; exact cR12) (by decide) (by omega) (by omega) (fun _ => ?_)
          show (cseg (cSg 12) 25).2.1 ≤ 0 ∧ 0 ≤ (cseg (cSg 12) 25).2.2.1
          rw [w25]
          exact ⟨by decide, by decide⟩
        have sw : bsetI (bsetI (bcp (bsetI h m 0 0) a 0 K (3266 * k) 3266) a 5000 40) m 25 0 = bsetI (bsetI (bcp (bsetI h m 0 0) a 0 K (3266 * k) 3266) m 25 0) a 5000 40 := by
          refine Prod.ext (funext fun b => funext fun i => ?_) rfl
          show (if b = m ∧ i = 25 then (0 : Int) else if b = a ∧ i = 5000 then 40 else (bcp (bsetI h m 0 0) a 0 K (3266 * k) 3266).1 b i) = (if b = a ∧ i = 5000 then (40 : Int) else if b = m ∧ i = 25 then 0 else (bcp (bsetI h m 0 0) a 0 K (3266 * k) 3266).1 b i)
          by_cases e : b = m ∧ i = 25
          · rw [if_pos e, if_neg (fun z => by omega), if_pos e]
          · rw [if_neg e, if_neg e]
        rw [sw] at w2
        refine ⟨_, cPst_int hp rfl rfl ⟨by omega, by omega⟩ ⟨by omega, by omega⟩ w2 ?_, fun H => bHp_gh q1' (by omega)⟩
        intro b _
        refine ⟨rfl, rfl, Or.inl rfl, fun i hi => ⟨?_, rfl⟩⟩
        have no : ∀ x kd l u, τ'.1 x = kd → cefR enx28.2.2 kd l u = true → ¬ (b = x ∧ l ≤ i ∧ i ≤ u) := by
          rintro x kd l u tx hc ⟨rfl, h1, h2⟩
          rw [tx, cefR_ok hc h1 h2] at hi
          cases hi
        have n1 := no m 12 0 0 hm (by decide +kernel)
        have n2 := no m 12 25 25 hm (by decide +kernel)
        have n3 := no a 41 0 3265 q1' (by decide +kernel)
        have n4 := no a 41 5000 5000 q1' (by decide +kernel)
        show (if b = a ∧ i = 5000 then (40 : Int) else if b = m ∧ i = 25 then 0 else if b = a ∧ 0 ≤ i ∧ i < 0 + 3266 then _ else if b = m ∧ i = 0 then 0 else h.1 b i) = _
        rw [if_neg (fun e => n4 ⟨e.1, by omega, by omega⟩), if_neg (fun e => n2 ⟨e.1, by omega, by omega⟩), if_neg (fun e : b = a ∧ 0 ≤ i ∧ i < 0 + 3266 => n3 ⟨e.1, by omega, by omega⟩), if_neg (fun e => n1 ⟨e.1, by omega, by omega⟩)]
  exact K.mono (by decide)
