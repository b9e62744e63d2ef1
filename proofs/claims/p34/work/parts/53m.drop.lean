/-! ===== drop by hand ===== -/
def drH (h : bh) (a u N : Nat) : bh := bfl (bcp (bsetI h a 45 (N : Int)) a (1504 + 38 * u) a (1504 + 38 * u + 38) (38 * (N - u))) a (1504 + 38 * N) 0 38
theorem dr_fun (u : Nat) : bOk ey221 3 2 0 0 (fun _ avs τ h => ∃ m a N, avs = [.ref m, .int (bz (u : Int))] ∧ τ.1 m = 12 ∧ h.2 m 14 = some a ∧ τ.1 a = 41 ∧ τ.2 a = 3266 ∧ ((N : Nat) : Int) + 1 = h.1 a 45 ∧ u ≤ N ∧ N < 40) (fun _ avs τ h v τ' h' => ∃ m a N, avs = [.ref m, .int (bz (u : Int))] ∧ h.2 m 14 = some a ∧ ((N : Nat) : Int) + 1 = h.1 a 45 ∧ v = none ∧ τ' = τ ∧ h' = drH h a u N) := by
  refine bOk_of emp221.1.2.2.2.2.2.1 ?_ ?_
  · rintro ι avs τ h ⟨m, a, N, rfl, -⟩
    exact Nat.le_of_ble_eq_true rfl
  · intro γ ι τ h avs d hd hp Bg C
    obtain ⟨m, a, N, rfl, hm, ha, hta, hla, eN, hu, hN⟩ := hp
    have hn : γ.2.2.1 = 3 := Bg.2.1
    obtain ⟨d, rfl⟩ : ∃ d', d = d' + 1 := ⟨d - 1, by omega⟩
    have loop2 : ∀ (H : bh), H.2 = h.2 → H.1 a 45 = (N : Int) → H = bcp (bsetI h a 45 (N : Int)) a (1504 + 38 * u) a (1504 + 38 * u + 38) (38 * (N - u)) → ∀ r k : Nat, k + r = 38 → bJ γ 55 [some (.ref m), some (.int (bz (u : Int))), some (.int (bz (k : Int)))] [] τ (bfl H a (1504 + 38 * N) 0 k) 0 0 := by
      intro H hH2 h45 hH r
      have hb : H.2 m 14 = some a := by rw [hH2]; exact ha
      induction r with
      | zero =>
        intro k hk
        refine b_iload_n C (dk_at ec221 (i := 34) rfl).1 rfl ?_
        refine b_bipush C (dk_at ec221 (i := 35) rfl).1 ⟨by omega, by omega⟩ ?_
        refine b_icmp_ge (t := 86) C (dk_at ec221 (i := 36) rfl).1 (by decide) ⟨by omega, by omega⟩ ⟨by omega, by omega⟩ (fun z => ?_) (fun z => ?_)
        · have ek : k = 38 := by omega
          subst ek
          exact b_vret C Bg (dk_at ec221 (i := 51) rfl).1 rfl (Nat.le_refl _) (Nat.le_refl _) ⟨m, a, N, rfl, ha, eN, rfl, rfl, by rw [hH]; rfl⟩
        · omega
      | succ r ih =>
        intro k hk
        have e45 : (bfl H a (1504 + 38 * N) 0 k).1 a 45 = (N : Int) := by
          rw [← h45]
          exact if_neg (by omega)
        refine b_iload_n C (dk_at ec221 (i := 34) rfl).1 rfl ?_
        refine b_bipush C (dk_at ec221 (i := 35) rfl).1 ⟨by omega, by omega⟩ ?_
        refine b_icmp_ge (t := 86) C (dk_at ec221 (i := 36) rfl).1 (by decide) ⟨by omega, by omega⟩ ⟨by omega, by omega⟩ (fun z => ?_) (fun z => ?_)
        · omega
        refine b_al0 C (dk_at ec221 (i := 37) rfl).1 rfl ?_
        refine b_gR C (dk_at ec221 (i := 38) rfl) hm hb ?_
        refine b_al0 C (dk_at ec221 (i := 39) rfl).1 rfl ?_
        refine b_al0 C (dk_at ec221 (i := 40) rfl).1 rfl ?_
        refine b_gR C (dk_at ec221 (i := 41) rfl) hm hb ?_
        refine b_bipush C (dk_at ec221 (i := 42) rfl).1 ⟨by omega, by omega⟩ ?_
        refine b_rd (j := 45) C (dk_at ec221 (i := 43) rfl).1 hta (by omega) (by omega) (fun _ => ?_)
        rw [e45]
        refine b_inv (As := [.int (bz (N : Int))]) (rest := [.ref a]) C Bg.x (dk_at ec221 (i := 44) rfl) (by decide) rfl (un_fun (N : Int)) (by omega) rfl hm ⟨m, rfl⟩ (Nat.le_of_ble_eq_true rfl) (Nat.le_refl _) (Nat.le_refl _) ?_
        rintro v τ' h' ⟨rfl, rfl, rfl⟩
        refine b_iload_n C (dk_at ec221 (i := 45) rfl).1 rfl ?_
        refine b_iadd C (dk_at ec221 (i := 46) rfl).1 ?_
        refine b_iconst C (dk_at ec221 (i := 47) rfl).1 ?_
        refine b_wr (j := 1504 + 38 * N + k) C (dk_at ec221 (i := 48) rfl).1 hta (by omega) (by omega) ⟨by omega, by omega⟩ ?_
        refine b_iinc (a := (k : Int)) C (dk_at ec221 (i := 49) rfl).1 (by rw [hn]; decide) rfl (bno2_of (fun w hw _ => by cases hw; exact (show (1 : Nat) ≠ 2 by decide))) ?_
        refine b_goto (t := 55) C (dk_at ec221 (i := 50) rfl).1 (by decide) ?_
        have := ih (k + 1) (by omega)
        rw [show (((k + 1 : Nat) : Int)) = (k : Int) + 1 by omega] at this
        rw [bfl_step]
        exact this
    have loop1 : ∀ r k : Nat, k + r = 38 * (N - u) → bJ γ 17 [some (.ref m), some (.int (bz (u : Int))), some (.int (bz (1504 + 38 * (u : Int) + (k : Int))))] [] τ (bcp (bsetI h a 45 (N : Int)) a (1504 + 38 * u) a (1504 + 38 * u + 38) k) 0 0 := by
      intro r
      induction r with
      | zero =>
        intro k hk
        have e45 : (bcp (bsetI h a 45 (N : Int)) a (1504 + 38 * u) a (1504 + 38 * u + 38) k).1 a 45 = (N : Int) := by
          show (if a = a ∧ 1504 + 38 * u ≤ 45 ∧ 45 < 1504 + 38 * u + k then _ else (bsetI h a 45 (N : Int)).1 a 45) = _
          rw [if_neg (by omega), bsetI_at]
        refine b_iload_n C (dk_at ec221 (i := 12) rfl).1 rfl ?_
        refine b_al0 C (dk_at ec221 (i := 13) rfl).1 rfl ?_
        refine b_al0 C (dk_at ec221 (i := 14) rfl).1 rfl ?_
        refine b_gR C (dk_at ec221 (i := 15) rfl) hm ha ?_
        refine b_bipush C (dk_at ec221 (i := 16) rfl).1 ⟨by omega, by omega⟩ ?_
        refine b_rd (j := 45) C (dk_at ec221 (i := 17) rfl).1 hta (by omega) (by omega) (fun _ => ?_)
        rw [e45]
        refine b_inv (As := [.int (bz (N : Int))]) (rest := [.int (bz (1504 + 38 * (u : Int) + (k : Int)))]) C Bg.x (dk_at ec221 (i := 18) rfl) (by decide) rfl (un_fun (N : Int)) (by omega) rfl hm ⟨m, rfl⟩ (Nat.le_of_ble_eq_true rfl) (Nat.le_refl _) (Nat.le_refl _) ?_
        rintro v τ' h' ⟨rfl, rfl, rfl⟩
        refine b_icmp_ge (t := 53) C (dk_at ec221 (i := 19) rfl).1 (by decide) ⟨by omega, by omega⟩ ⟨by omega, by omega⟩ (fun z => ?_) (fun z => ?_)
        · have ek : k = 38 * (N - u) := by omega
          subst ek
          refine b_iconst C (dk_at ec221 (i := 32) rfl).1 ?_
          refine b_istore_n C (dk_at ec221 (i := 33) rfl).1 (by rw [hn]; decide) (bno2_of (fun w hw _ => by cases hw; exact (show (1 : Nat) ≠ 2 by decide))) ?_
          have := loop2 (bcp (bsetI h a 45 (N : Int)) a (1504 + 38 * u) a (1504 + 38 * u + 38) (38 * (N - u))) rfl e45 rfl 38 0 rfl
          rw [bfl_0] at this
          exact this
        · omega
      | succ r ih =>
        intro k hk
        have e45 : (bcp (bsetI h a 45 (N : Int)) a (1504 + 38 * u) a (1504 + 38 * u + 38) k).1 a 45 = (N : Int) := by
          show (if a = a ∧ 1504 + 38 * u ≤ 45 ∧ 45 < 1504 + 38 * u + k then _ else (bsetI h a 45 (N : Int)).1 a 45) = _
          rw [if_neg (by omega), bsetI_at]
        refine b_iload_n C (dk_at ec221 (i := 12) rfl).1 rfl ?_
        refine b_al0 C (dk_at ec221 (i := 13) rfl).1 rfl ?_
        refine b_al0 C (dk_at ec221 (i := 14) rfl).1 rfl ?_
        refine b_gR C (dk_at ec221 (i := 15) rfl) hm ha ?_
        refine b_bipush C (dk_at ec221 (i := 16) rfl).1 ⟨by omega, by omega⟩ ?_
        refine b_rd (j := 45) C (dk_at ec221 (i := 17) rfl).1 hta (by omega) (by omega) (fun _ => ?_)
        rw [e45]
        refine b_inv (As := [.int (bz (N : Int))]) (rest := [.int (bz (1504 + 38 * (u : Int) + (k : Int)))]) C Bg.x (dk_at ec221 (i := 18) rfl) (by decide) rfl (un_fun (N : Int)) (by omega) rfl hm ⟨m, rfl⟩ (Nat.le_of_ble_eq_true rfl) (Nat.le_refl _) (Nat.le_refl _) ?_
        rintro v τ' h' ⟨rfl, rfl, rfl⟩
        refine b_icmp_ge (t := 53) C (dk_at ec221 (i := 19) rfl).1 (by decide) ⟨by omega, by omega⟩ ⟨by omega, by omega⟩ (fun z => ?_) (fun z => ?_)
        · omega
        refine b_al0 C (dk_at ec221 (i := 20) rfl).1 rfl ?_
        refine b_gR C (dk_at ec221 (i := 21) rfl) hm ha ?_
        refine b_iload_n C (dk_at ec221 (i := 22) rfl).1 rfl ?_
        refine b_al0 C (dk_at ec221 (i := 23) rfl).1 rfl ?_
        refine b_gR C (dk_at ec221 (i := 24) rfl) hm ha ?_
        refine b_iload_n C (dk_at ec221 (i := 25) rfl).1 rfl ?_
        refine b_bipush C (dk_at ec221 (i := 26) rfl).1 ⟨by omega, by omega⟩ ?_
        refine b_iadd C (dk_at ec221 (i := 27) rfl).1 ?_
        refine b_rd (j := 1504 + 38 * u + 38 + k) C (dk_at ec221 (i := 28) rfl).1 hta (by omega) (by omega) (fun hv => ?_)
        refine b_wr (j := 1504 + 38 * u + k) C (dk_at ec221 (i := 29) rfl).1 hta (by omega) (by omega) hv ?_
        refine b_iinc (a := 1504 + 38 * (u : Int) + (k : Int)) C (dk_at ec221 (i := 30) rfl).1 (by rw [hn]; decide) rfl (bno2_of (fun w hw _ => by cases hw; exact (show (1 : Nat) ≠ 2 by decide))) ?_
        refine b_goto (t := 17) C (dk_at ec221 (i := 31) rfl).1 (by decide) ?_
        have := ih (k + 1) (by omega)
        rw [show 1504 + 38 * (u : Int) + (((k + 1 : Nat) : Int)) = 1504 + 38 * (u : Int) + (k : Int) + 1 by omega, ← bcp_step (Or.inr (Or.inr (by omega)))] at this
        rw [bcp_rd (Or.inr (Or.inr (by omega)))]
        exact this
    refine b_al0 C (dk_at ec221 (i := 0) rfl).1 rfl ?_
    refine b_gR C (dk_at ec221 (i := 1) rfl) hm ha ?_
    refine b_bipush C (dk_at ec221 (i := 2) rfl).1 ⟨by omega, by omega⟩ ?_
    refine b_dup2 C (dk_at ec221 (i := 3) rfl).1 rfl rfl ?_
    refine b_rd (j := 45) C (dk_at ec221 (i := 4) rfl).1 hta (by omega) (by omega) (fun _ => ?_)
    refine b_iconst C (dk_at ec221 (i := 5) rfl).1 ?_
    refine b_isub C (dk_at ec221 (i := 6) rfl).1 ?_
    rw [← eN, show (N : Int) + 1 - 1 = (N : Int) by omega]
    refine b_wr (j := 45) C (dk_at ec221 (i := 7) rfl).1 hta (by omega) (by omega) ⟨by omega, by omega⟩ ?_
    refine b_al0 C (dk_at ec221 (i := 8) rfl).1 rfl ?_
    refine b_iload_n C (dk_at ec221 (i := 9) rfl).1 rfl ?_
    refine b_inv (As := [.int (bz (u : Int))]) (rest := []) C Bg.x (dk_at ec221 (i := 10) rfl) (by decide) rfl (un_fun (u : Int)) (by omega) rfl hm ⟨m, rfl⟩ (Nat.le_of_ble_eq_true rfl) (Nat.le_refl _) (Nat.le_refl _) ?_
    rintro v τ' h' ⟨rfl, rfl, rfl⟩
    refine b_istore_n C (dk_at ec221 (i := 11) rfl).1 (by rw [hn]; decide) (bno2_of (fun w hw _ => by cases hw; exact (show (1 : Nat) ≠ 2 by decide))) ?_
    have := loop1 (38 * (N - u)) 0 (by omega)
    rw [bcp_0, show 1504 + 38 * (u : Int) + (((0 : Nat) : Int)) = 1504 + 38 * (u : Int) by omega] at this
    exact this
section DROP
variable {g : Nat → Nat} {τ : bt} {h : bh} {a u N : Nat}
theorem dr_val (hu : u ≤ N) (b i : Nat) : (drH h a u N).1 b i = if b = a ∧ 1504 + 38 * N ≤ i ∧ i < 1504 + 38 * N + 38 then (0 : Int) else if b = a ∧ 1504 + 38 * u ≤ i ∧ i < 1504 + 38 * N then h.1 a (i + 38) else if b = a ∧ i = 45 then (N : Int) else h.1 b i := by
  show (if b = a ∧ 1504 + 38 * N ≤ i ∧ i < 1504 + 38 * N + 38 then (0 : Int) else if b = a ∧ 1504 + 38 * u ≤ i ∧ i < 1504 + 38 * u + 38 * (N - u) then (if a = a ∧ 1504 + 38 * u + 38 + (i - (1504 + 38 * u)) = 45 then (N : Int) else h.1 a (1504 + 38 * u + 38 + (i - (1504 + 38 * u)))) else if b = a ∧ i = 45 then (N : Int) else h.1 b i) = _
  by_cases c1 : b = a ∧ 1504 + 38 * N ≤ i ∧ i < 1504 + 38 * N + 38
  · rw [if_pos c1, if_pos c1]
  · rw [if_neg c1, if_neg c1]
    by_cases c2 : b = a ∧ 1504 + 38 * u ≤ i ∧ i < 1504 + 38 * N
    · rw [if_pos (by omega), if_pos c2, if_neg (by omega), show 1504 + 38 * u + 38 + (i - (1504 + 38 * u)) = i + 38 by omega]
    · rw [if_neg (by omega), if_neg c2]
theorem dr_out (hu : u ≤ N) {b i : Nat} (hb : b ≠ a ∨ (i ≠ 45 ∧ (i < 1504 + 38 * u ∨ 1504 + 38 * N + 38 ≤ i))) : (drH h a u N).1 b i = h.1 b i := by
  rw [dr_val hu, if_neg (by omega), if_neg (by omega), if_neg (by omega)]
theorem dr_wt (hw : cWT cT0 g τ h) (ga : g a = 61) (eN : (N : Int) + 1 = h.1 a 45) (hu : u ≤ N) (hN : N < 40) : cWT cT0 g τ (drH h a u N) := by
  obtain ⟨o1, o2, o3⟩ := o_now hw ga
  have v45 : (drH h a u N).1 a 45 = (N : Int) := by
    rw [dr_val hu, if_neg (by omega), if_neg (by omega), if_pos ⟨rfl, rfl⟩]
  have sh : ∀ i, 1504 + 38 * u ≤ i → i < 1504 + 38 * N → (drH h a u N).1 a i = h.1 a (i + 38) := by
    intro i i1 i2
    rw [dr_val hu, if_neg (by omega), if_pos ⟨rfl, i1, i2⟩]
  refine w_now hw ga (l := 45) (u := 3023) rfl (fun b i hb => dr_out hu (by omega)) (fun i i1 i2 hi => ?_) ⟨fun _ k hk => ?_, fun z => by omega, fun z => by omega, fun _ k u1 u2 u3 => ?_⟩ (creg_far (l := 45) (u := 3023) (by decide +kernel) (fun i hi => dr_out hu (by omega)) o3)
  · by_cases e1 : i = 45
    · subst e1
      rw [v45, se_z.2.2.1]
      exact ⟨by show (0 : Int) ≤ _; omega, by show _ ≤ (40 : Int); omega⟩
    · by_cases e3 : i < 1504
      · rw [dr_out hu (by omega)]
        exact o1 i hi
      · have := csn_ok 1520 se_z.1 i (by omega) (by omega)
        omega
  · by_cases e : k = N
    · subst e
      refine ublk_eq (f := fun _ => 0) (fun i i1 i2 => ?_) (ublk_0 _)
      rw [dr_val hu, if_pos ⟨rfl, by omega, by omega⟩]
    · by_cases e2 : u ≤ k ∧ k < N
      · refine ublk_sh (c := 1504 + 38 * (k + 1)) (f := h.1 a) (fun i hi => ?_) (o2.1 (Or.inr rfl) (k + 1) (by omega))
        rw [sh _ (by omega) (by omega), show 1504 + 38 * k + i + 38 = 1504 + 38 * (k + 1) + i by omega]
      · exact ublk_eq (fun i i1 i2 => dr_out hu (by omega)) (o2.1 (Or.inr rfl) k hk)
  · rw [dr_out hu (i := 5000) (by omega)] at u1
    rw [v45] at u2
    rw [dr_out hu (i := 28) (by omega)]
    by_cases e2 : u ≤ k
    · rw [sh _ (by omega) (by omega), show 1504 + 38 * k + 1 + 38 = 1504 + 38 * (k + 1) + 1 by omega]
      exact o2.2.2.2 rfl (k + 1) (by omega) (by omega) (by omega)
    · rw [dr_out hu (by omega)]
      exact o2.2.2.2 rfl k u1 (by omega) u3
end DROP
