/-! ===== snap by hand ===== -/
/-- a number of an object is otherwise -/
theorem cWT.fld {T : cTb} {g : Nat → Nat} {τ : bt} {h : bh} {m k : Nat} {z : Int} {R : cR} (hw : cWT T g τ h) (hr : cfR T (g m) = some R) (h41 : R.1 < 41) (h63 : g m ≠ 63) (h68 : g m ≠ 68) (hz : (cseg R.2.2.2 k).1 = 0 → (cseg R.2.2.2 k).2.1 ≤ z ∧ z ≤ (cseg R.2.2.2 k).2.2.1) : cWT T g τ (bsetI h m k z) := by
  intro b hb
  obtain ⟨R', r1, r2, r3, r4, r5, r6, r7, r8⟩ := hw b hb
  have ho : ∀ b, b ≠ m → ∀ i, (bsetI h m k z).1 b i = h.1 b i := fun b e i => if_neg (fun q => e q.1)
  refine ⟨R', r1, r2, r3, r4, fun i => ⟨fun w => ?_, (r5 i).2⟩, fun k41 q hq q3 => ?_, fun e12 B K hB hK k' hk hm => ?_, r8⟩
  · by_cases e : b = m ∧ i = k
    · obtain ⟨rfl, rfl⟩ := e
      rw [hr] at r1
      cases r1
      rw [bsetI_at]
      exact hz w
    · have : (bsetI h m k z).1 b i = h.1 b i := if_neg e
      rw [this]
      exact (r5 i).1 w
  · by_cases e : b = m
    · subst e
      rw [hr] at r1
      cases r1
      omega
    · exact creg_eq (fun i _ => ho b e i) (r6 k41 q hq q3)
  · obtain ⟨w1, w2, w3, w4⟩ := r8 e12
    have gB : g B = 68 := by
      rcases (r5 23).2 w1 with ⟨-, y⟩ | ⟨c, c1, c2, -⟩
      · rw [show h.2 b 23 = some B from hB] at y; cases y
      · rw [show h.2 b 23 = some B from hB] at c1; cases c1; rw [c2, w2]
    have gK : g K = 63 := by
      rcases (r5 16).2 w3 with ⟨-, y⟩ | ⟨c, c1, c2, -⟩
      · rw [show h.2 b 16 = some K from hK] at y; cases y
      · rw [show h.2 b 16 = some K from hK] at c1; cases c1; rw [c2, w4]
    have nB : B ≠ m := fun e => h68 (by rw [← e]; exact gB)
    have nK : K ≠ m := fun e => h63 (by rw [← e]; exact gK)
    have kk := r7 e12 B K hB hK k' hk (by rw [← ho B nB k']; exact hm)
    unfold chdk at *
    rw [ho K nK, ho K nK, ho K nK]
    exact kk
theorem sn_fun : bOk ey244 2 2 0 0 (fun _ avs τ h => ∃ m a s, avs = [.ref m] ∧ τ.1 m = 12 ∧ h.2 m 14 = some a ∧ τ.1 a = 41 ∧ τ.2 a = 3266 ∧ h.2 m 17 = some s ∧ τ.1 s = 41 ∧ τ.2 s = 23968 ∧ s ≠ a ∧ 0 ≤ h.1 m 25 ∧ h.1 m 25 ≤ 8) (fun _ avs τ h v τ' h' => ∃ m a s H1, avs = [.ref m] ∧ h.2 m 14 = some a ∧ h.2 m 17 = some s ∧ v = none ∧ τ' = τ ∧ ((h.1 m 25 = 8 ∧ H1 = bsetI (bcp h s 0 s 2996 20972) m 25 7) ∨ (h.1 m 25 ≠ 8 ∧ H1 = h)) ∧ h' = bsetI (bcp H1 s (2996 * (H1.1 m 25).toNat) a 28 2996) m 25 (H1.1 m 25 + 1)) := by
  refine bOk_of emp244.1.2.2.2.2.2.1 ?_ ?_
  · rintro ι avs τ h ⟨m, a, s, rfl, -⟩
    exact Nat.le_of_ble_eq_true rfl
  · intro γ ι τ h avs d hd hp Bg C
    obtain ⟨m, a, s, rfl, hm, ha, hta, hla, hs, hts, hls, hne, hb0, hb8⟩ := hp
    have hn : γ.2.2.1 = 2 := Bg.2.1
    obtain ⟨d, rfl⟩ : ∃ d', d = d' + 1 := ⟨d - 1, by omega⟩
    have nm : s ≠ m := fun e => by rw [e] at hts; omega
    have tail : ∀ (H1 : bh) (x : Option Value), H1.2 = h.2 → 0 ≤ H1.1 m 25 → H1.1 m 25 ≤ 7 → ((h.1 m 25 = 8 ∧ H1 = bsetI (bcp h s 0 s 2996 20972) m 25 7) ∨ (h.1 m 25 ≠ 8 ∧ H1 = h)) → bJ γ 50 [some (.ref m), x] [] τ H1 0 0 := by
      intro H1 x h2 n0 n7 hq
      have hs1 : H1.2 m 17 = some s := by rw [h2]; exact hs
      have ha1 : H1.2 m 14 = some a := by rw [h2]; exact ha
      refine b_al0 C (dk_at ec244 (i := 27) rfl).1 rfl ?_
      refine b_al0 C (dk_at ec244 (i := 28) rfl).1 rfl ?_
      refine b_gR C (dk_at ec244 (i := 29) rfl) hm hs1 ?_
      refine b_sipush C (dk_at ec244 (i := 30) rfl).1 ⟨by omega, by omega⟩ ?_
      refine b_al0 C (dk_at ec244 (i := 31) rfl).1 rfl ?_
      refine b_gI C (dk_at ec244 (i := 32) rfl) hm (fun hb => ?_)
      refine b_imul C (dk_at ec244 (i := 33) rfl).1 ?_
      have e29 : (2996 : Int) * H1.1 m 25 = (((2996 * (H1.1 m 25).toNat : Nat)) : Int) := by omega
      rw [e29]
      refine b_inv (As := [.ref s, .int (bz (((2996 * (H1.1 m 25).toNat : Nat)) : Int))]) (rest := []) C Bg.x (dk_at ec244 (i := 34) rfl) (by decide) rfl sv_fun (by omega) rfl hm ⟨m, a, s, 2996 * (H1.1 m 25).toNat, rfl, hm, ha1, hta, hla, hts, by omega, by omega, hne⟩ (by decide) (Nat.le_refl _) (Nat.le_refl _) ?_
      rintro v τ' h' ⟨m', a', r', F', e1, e2, e3, rfl, rfl, rfl⟩
      injection e1 with e1 e4
      injection e1 with e1
      injection e4 with e4 e5
      injection e4 with e4
      injection e5 with e5
      injection e5 with e5
      subst e1 e4
      have e6 : some a = some a' := by rw [← ha1]; exact e2
      cases e6
      have e7 := (bz_eq ⟨by omega, by omega⟩ ⟨by omega, by omega⟩).mp e5
      have e8 : F' = 2996 * (H1.1 m 25).toNat := by omega
      subst e8
      show bJ γ 66 _ [] _ _ _ _
      have hr : (bcp H1 s (2996 * (H1.1 m 25).toNat) a 28 2996).1 m 25 = H1.1 m 25 := if_neg (fun e => nm e.1.symm)
      refine b_al0 C (dk_at ec244 (i := 35) rfl).1 rfl ?_
      refine b_dup C (dk_at ec244 (i := 36) rfl).1 rfl ?_
      refine b_gI C (dk_at ec244 (i := 37) rfl) hm (fun hb => ?_)
      refine b_iconst C (dk_at ec244 (i := 38) rfl).1 ?_
      refine b_iadd C (dk_at ec244 (i := 39) rfl).1 ?_
      refine b_pI C (dk_at ec244 (i := 40) rfl) (by rw [hr]; exact ⟨by omega, by omega⟩) hm ?_
      rw [hr]
      exact b_vret C Bg (dk_at ec244 (i := 41) rfl).1 rfl (Nat.le_refl _) (Nat.le_refl _) ⟨m, a, s, H1, rfl, ha, hs, rfl, rfl, hq, rfl⟩
    have loop : h.1 m 25 = 8 → ∀ n k : Nat, k + n = 20972 → bJ γ 11 [some (.ref m), some (.int (bz (k : Int)))] [] τ (bcp h s 0 s 2996 k) 0 0 := by
      intro h8 n
      induction n with
      | zero =>
        intro k hk
        refine b_iload_n C (dk_at ec244 (i := 6) rfl).1 rfl ?_
        refine b_sipush C (dk_at ec244 (i := 7) rfl).1 ⟨by omega, by omega⟩ ?_
        refine b_icmp_ge (t := 40) C (dk_at ec244 (i := 8) rfl).1 (by decide) ⟨by omega, by omega⟩ ⟨by omega, by omega⟩ (fun z => ?_) (fun z => ?_)
        · have ek : k = 20972 := by omega
          subst ek
          have hr : (bcp h s 0 s 2996 20972).1 m 25 = 8 := by
            have : (bcp h s 0 s 2996 20972).1 m 25 = h.1 m 25 := if_neg (fun e => nm e.1.symm)
            rw [this, h8]
          refine b_al0 C (dk_at ec244 (i := 21) rfl).1 rfl ?_
          refine b_dup C (dk_at ec244 (i := 22) rfl).1 rfl ?_
          refine b_gI C (dk_at ec244 (i := 23) rfl) hm (fun hb => ?_)
          refine b_iconst C (dk_at ec244 (i := 24) rfl).1 ?_
          refine b_isub C (dk_at ec244 (i := 25) rfl).1 ?_
          refine b_pI C (dk_at ec244 (i := 26) rfl) (by rw [hr]; exact ⟨by omega, by omega⟩) hm ?_
          rw [hr]
          refine tail _ _ rfl ?_ ?_ (Or.inl ⟨h8, rfl⟩)
          · rw [bsetI_at]; decide
          · rw [bsetI_at]; decide
        · omega
      | succ n ih =>
        intro k hk
        refine b_iload_n C (dk_at ec244 (i := 6) rfl).1 rfl ?_
        refine b_sipush C (dk_at ec244 (i := 7) rfl).1 ⟨by omega, by omega⟩ ?_
        refine b_icmp_ge (t := 40) C (dk_at ec244 (i := 8) rfl).1 (by decide) ⟨by omega, by omega⟩ ⟨by omega, by omega⟩ (fun z => ?_) (fun z => ?_)
        · omega
        refine b_al0 C (dk_at ec244 (i := 9) rfl).1 rfl ?_
        refine b_gR C (dk_at ec244 (i := 10) rfl) hm hs ?_
        refine b_iload_n C (dk_at ec244 (i := 11) rfl).1 rfl ?_
        refine b_al0 C (dk_at ec244 (i := 12) rfl).1 rfl ?_
        refine b_gR C (dk_at ec244 (i := 13) rfl) hm hs ?_
        refine b_iload_n C (dk_at ec244 (i := 14) rfl).1 rfl ?_
        refine b_sipush C (dk_at ec244 (i := 15) rfl).1 ⟨by omega, by omega⟩ ?_
        refine b_iadd C (dk_at ec244 (i := 16) rfl).1 ?_
        refine b_rd (j := 2996 + k) C (dk_at ec244 (i := 17) rfl).1 hts (by omega) (by omega) (fun hb => ?_)
        refine b_wr (j := k) C (dk_at ec244 (i := 18) rfl).1 hts (by omega) (by omega) hb ?_
        refine b_iinc (a := (k : Int)) C (dk_at ec244 (i := 19) rfl).1 (by rw [hn]; decide) rfl (bno2_of (fun w hw _ => by cases hw; exact (show (1 : Nat) ≠ 2 by decide))) ?_
        refine b_goto (t := 11) C (dk_at ec244 (i := 20) rfl).1 (by decide) ?_
        have := ih (k + 1) (by omega)
        rw [show (((k + 1 : Nat) : Int)) = (k : Int) + 1 by omega, ← bcp_step (Or.inr (Or.inr (by omega))), Nat.zero_add] at this
        rw [bcp_rd (Or.inr (Or.inr (by omega)))]
        exact this
    refine b_al0 C (dk_at ec244 (i := 0) rfl).1 rfl ?_
    refine b_gI C (dk_at ec244 (i := 1) rfl) hm (fun hb => ?_)
    refine b_bipush C (dk_at ec244 (i := 2) rfl).1 ⟨by omega, by omega⟩ ?_
    refine b_icmp_ne (t := 50) C (dk_at ec244 (i := 3) rfl).1 (by decide) hb ⟨by omega, by omega⟩ (fun z => ?_) (fun z => ?_)
    · exact tail h none rfl hb0 (by omega) (Or.inr ⟨z, rfl⟩)
    refine b_iconst C (dk_at ec244 (i := 4) rfl).1 ?_
    refine b_istore_n C (dk_at ec244 (i := 5) rfl).1 (by rw [hn]; decide) (bno2_of (fun w hw _ => by cases hw; exact (show (1 : Nat) ≠ 2 by decide))) ?_
    have := loop (by omega) 20972 0 rfl
    rw [bcp_0] at this
    exact this
