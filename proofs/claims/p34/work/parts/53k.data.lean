/-! ===== sendData, sendNakOf by hand ===== -/
theorem sd_fun (x0 x1 : Int) : bOk ey217 5 3 0 0 (fun _ avs τ h => 0 ≤ x0 ∧ x0 ≤ 240 ∧ x1 ≤ 32 ∧ brg x0 ∧ brg x1 ∧ ∃ m a, avs = [.ref m, .int (bz x0), .int (bz x1)] ∧ τ.1 m = 12 ∧ h.2 m 14 = some a ∧ τ.1 a = 41 ∧ τ.2 a = 3266 ∧ 0 ≤ h.1 a 45 ∧ h.1 a 45 ≤ 40) (fun _ avs τ h v τ' h' => ∃ m a w, avs = [.ref m, .int (bz x0), .int (bz x1)] ∧ h.2 m 14 = some a ∧ v = none ∧ τ' = τ ∧ (h' = bsetI h a 35 w ∨ ∃ (n : Nat) (w1 t : Int), (n : Int) = h.1 a 45 ∧ n < 40 ∧ w1 = h.1 a 28 + h.1 a 2 - 4294967296 * t ∧ h'.2 = h.2 ∧ ∀ b i, (b ≠ a ∨ i < 1504 + 38 * n + 5 ∨ 1504 + 38 * n + 38 ≤ i) → h'.1 b i = (seH h a n w 0 w1 x0 x1).1 b i)) := by
  refine bOk_of emp217.1.2.2.2.2.2.1 ?_ ?_
  · rintro ι avs τ h ⟨-, -, -, -, -, m, a, rfl, -⟩
    exact Nat.le_of_ble_eq_true rfl
  · intro γ ι τ h avs d hd hp Bg C
    obtain ⟨x0l, x0u, x1u, hx0, hx1, m, a, rfl, hm, ha, hta, hla, l45, u45⟩ := hp
    have hn : γ.2.2.1 = 5 := Bg.2.1
    obtain ⟨d, rfl⟩ : ∃ d', d = d' + 1 := ⟨d - 1, by omega⟩
    obtain ⟨p, ep⟩ : ∃ p : Nat, (p : Int) = x0 := ⟨x0.toNat, by omega⟩
    have loop : ∀ (w w1 t : Int) (n : Nat), (n : Int) = h.1 a 45 → n < 40 → w1 = h.1 a 28 + h.1 a 2 - 4294967296 * t → ∀ (r k : Nat) (H : bh), x1 - (k : Int) ≤ (r : Int) → k ≤ 32 → H.2 = h.2 → (∀ b i, (b ≠ a ∨ i < 1504 + 38 * n + 5 ∨ 1504 + 38 * n + 38 ≤ i) → H.1 b i = (seH h a n w 0 w1 x0 x1).1 b i) → bJ γ 26 [some (.ref m), some (.int (bz x0)), some (.int (bz x1)), some (.int (bz (1504 + 38 * (n : Int)))), some (.int (bz (k : Int)))] [] τ H 0 0 := by
      intro w w1 t n en hn40 et r
      induction r with
      | zero =>
        intro k H hk k32 hH2 hHo
        refine b_iload C (dk_at ec217 (i := 19) rfl).1 rfl ?_
        refine b_iload_n C (dk_at ec217 (i := 20) rfl).1 rfl ?_
        refine b_icmp_ge (t := 63) C (dk_at ec217 (i := 21) rfl).1 (by decide) ⟨by omega, by omega⟩ hx1 (fun z => ?_) (fun z => ?_)
        · exact b_vret C Bg (dk_at ec217 (i := 40) rfl).1 rfl (Nat.le_refl _) (Nat.le_refl _) ⟨m, a, w, rfl, ha, rfl, rfl, Or.inr ⟨n, w1, t, en, hn40, et, hH2, hHo⟩⟩
        · omega
      | succ r ih =>
        intro k H hk k32 hH2 hHo
        have hb : H.2 m 14 = some a := by rw [hH2]; exact ha
        refine b_iload C (dk_at ec217 (i := 19) rfl).1 rfl ?_
        refine b_iload_n C (dk_at ec217 (i := 20) rfl).1 rfl ?_
        refine b_icmp_ge (t := 63) C (dk_at ec217 (i := 21) rfl).1 (by decide) ⟨by omega, by omega⟩ hx1 (fun z => ?_) (fun z => ?_)
        · exact b_vret C Bg (dk_at ec217 (i := 40) rfl).1 rfl (Nat.le_refl _) (Nat.le_refl _) ⟨m, a, w, rfl, ha, rfl, rfl, Or.inr ⟨n, w1, t, en, hn40, et, hH2, hHo⟩⟩
        refine b_al0 C (dk_at ec217 (i := 22) rfl).1 rfl ?_
        refine b_gR C (dk_at ec217 (i := 23) rfl) hm hb ?_
        refine b_iload_n C (dk_at ec217 (i := 24) rfl).1 rfl ?_
        refine b_bipush C (dk_at ec217 (i := 25) rfl).1 ⟨by omega, by omega⟩ ?_
        refine b_iadd C (dk_at ec217 (i := 26) rfl).1 ?_
        refine b_iload C (dk_at ec217 (i := 27) rfl).1 rfl ?_
        refine b_iadd C (dk_at ec217 (i := 28) rfl).1 ?_
        refine b_al0 C (dk_at ec217 (i := 29) rfl).1 rfl ?_
        refine b_gR C (dk_at ec217 (i := 30) rfl) hm hb ?_
        refine b_sipush C (dk_at ec217 (i := 31) rfl).1 ⟨by omega, by omega⟩ ?_
        refine b_iload_n C (dk_at ec217 (i := 32) rfl).1 rfl ?_
        refine b_iadd C (dk_at ec217 (i := 33) rfl).1 ?_
        refine b_iload C (dk_at ec217 (i := 34) rfl).1 rfl ?_
        refine b_iadd C (dk_at ec217 (i := 35) rfl).1 ?_
        refine b_rd (j := 1024 + p + k) C (dk_at ec217 (i := 36) rfl).1 hta (by omega) (by omega) (fun hv => ?_)
        refine b_wr (j := 1504 + 38 * n + 6 + k) C (dk_at ec217 (i := 37) rfl).1 hta (by omega) (by omega) hv ?_
        refine b_iinc (a := (k : Int)) C (dk_at ec217 (i := 38) rfl).1 (by rw [hn]; decide) rfl (bno2_of (fun w hw _ => by cases hw; exact (show (1 : Nat) ≠ 2 by decide))) ?_
        refine b_goto (t := 26) C (dk_at ec217 (i := 39) rfl).1 (by decide) ?_
        have := ih (k + 1) (bsetI H a (1504 + 38 * n + 6 + k) (H.1 a (1024 + p + k))) (by omega) (by omega) hH2 (fun b i hbi => by
          rw [← hHo b i hbi]
          exact if_neg (by omega))
        rw [show (((k + 1 : Nat) : Int)) = (k : Int) + 1 by omega] at this
        exact this
    refine b_al0 C (dk_at ec217 (i := 0) rfl).1 rfl ?_
    refine b_iconst C (dk_at ec217 (i := 1) rfl).1 ?_
    refine b_iload_n C (dk_at ec217 (i := 2) rfl).1 rfl ?_
    refine b_iload_n C (dk_at ec217 (i := 3) rfl).1 rfl ?_
    refine b_inv (As := [.int (bz 0), .int (bz x0), .int (bz x1)]) (rest := []) C Bg.x (dk_at ec217 (i := 4) rfl) (by decide) rfl (se_fun 0 x0 x1) (by omega) rfl hm ⟨⟨by omega, by omega⟩, hx0, hx1, m, a, rfl, hm, ha, hta, hla, l45, u45⟩ (by decide) (Nat.le_refl _) (Nat.le_refl _) ?_
    rintro v τ' h' ⟨m', a', w, e1, e2, rfl, hq⟩
    injection e1 with e1
    injection e1 with e1
    subst e1
    have e3 : some a = some a' := by rw [← ha]; exact e2
    cases e3
    rcases hq with ⟨rfl, rfl⟩ | ⟨n, w1, t, en, hn40, et, rfl, rfl⟩
    · refine b_istore_n C (dk_at ec217 (i := 5) rfl).1 (by rw [hn]; decide) (bno2_of (fun w hw _ => by cases hw; exact (show (1 : Nat) ≠ 2 by decide))) ?_
      refine b_iload_n C (dk_at ec217 (i := 6) rfl).1 rfl ?_
      refine b_iconst C (dk_at ec217 (i := 7) rfl).1 ?_
      refine b_icmp_ne (t := 14) C (dk_at ec217 (i := 8) rfl).1 (by decide) ⟨by omega, by omega⟩ ⟨by omega, by omega⟩ (fun z => ?_) (fun z => ?_)
      · exact absurd rfl z
      · exact b_vret C Bg (dk_at ec217 (i := 9) rfl).1 rfl (Nat.le_refl _) (Nat.le_refl _) ⟨m, a, w, rfl, ha, rfl, rfl, Or.inl rfl⟩
    · refine b_istore_n C (dk_at ec217 (i := 5) rfl).1 (by rw [hn]; decide) (bno2_of (fun w hw _ => by cases hw; exact (show (1 : Nat) ≠ 2 by decide))) ?_
      refine b_iload_n C (dk_at ec217 (i := 6) rfl).1 rfl ?_
      refine b_iconst C (dk_at ec217 (i := 7) rfl).1 ?_
      refine b_icmp_ne (t := 14) C (dk_at ec217 (i := 8) rfl).1 (by decide) ⟨by omega, by omega⟩ ⟨by omega, by omega⟩ (fun z => ?_) (fun z => ?_)
      · have hb : (seH h a n w 0 w1 x0 x1).2 m 14 = some a := ha
        refine b_al0 C (dk_at ec217 (i := 10) rfl).1 rfl ?_
        refine b_gR C (dk_at ec217 (i := 11) rfl) hm hb ?_
        refine b_iload_n C (dk_at ec217 (i := 12) rfl).1 rfl ?_
        refine b_iconst C (dk_at ec217 (i := 13) rfl).1 ?_
        refine b_iadd C (dk_at ec217 (i := 14) rfl).1 ?_
        refine b_iload_n C (dk_at ec217 (i := 15) rfl).1 rfl ?_
        refine b_wr (j := 1504 + 38 * n + 5) C (dk_at ec217 (i := 16) rfl).1 hta (by omega) (by omega) hx1 ?_
        refine b_iconst C (dk_at ec217 (i := 17) rfl).1 ?_
        refine b_istore C (dk_at ec217 (i := 18) rfl).1 (by rw [hn]; decide) (bno2_of (fun w hw _ => by cases hw; exact (show (1 : Nat) ≠ 2 by decide))) ?_
        exact loop w w1 t n en hn40 et 32 0 (bsetI (seH h a n w 0 w1 x0 x1) a (1504 + 38 * n + 5) x1) (by omega) (by omega) rfl (fun b i hbi => if_neg (by omega))
      · omega
theorem sk_fun (x0 x1 : Int) : bOk ey219 4 3 0 0 (fun _ avs τ h => brg x0 ∧ brg x1 ∧ ∃ m a, avs = [.ref m, .int (bz x0), .int (bz x1)] ∧ τ.1 m = 12 ∧ h.2 m 14 = some a ∧ τ.1 a = 41 ∧ τ.2 a = 3266 ∧ 0 ≤ h.1 a 45 ∧ h.1 a 45 ≤ 40) (fun _ avs τ h v τ' h' => ∃ m a w, avs = [.ref m, .int (bz x0), .int (bz x1)] ∧ h.2 m 14 = some a ∧ v = none ∧ τ' = τ ∧ (h' = bsetI h a 35 w ∨ ∃ (n : Nat) (w1 t : Int), (n : Int) = h.1 a 45 ∧ n < 40 ∧ w1 = h.1 a 28 + h.1 a 2 - 4294967296 * t ∧ h' = bsetI (bsetI (bsetI (seH h a n w 2 w1 1 0) a (1504 + 38 * n + 5) 2) a (1504 + 38 * n + 6) x0) a (1504 + 38 * n + 7) x1)) := by
  refine bOk_of emp219.1.2.2.2.2.2.1 ?_ ?_
  · rintro ι avs τ h ⟨-, -, m, a, rfl, -⟩
    exact Nat.le_of_ble_eq_true rfl
  · intro γ ι τ h avs d hd hp Bg C
    obtain ⟨hx0, hx1, m, a, rfl, hm, ha, hta, hla, l45, u45⟩ := hp
    have hn : γ.2.2.1 = 4 := Bg.2.1
    obtain ⟨d, rfl⟩ : ∃ d', d = d' + 1 := ⟨d - 1, by omega⟩
    refine b_al0 C (dk_at ec219 (i := 0) rfl).1 rfl ?_
    refine b_iconst C (dk_at ec219 (i := 1) rfl).1 ?_
    refine b_iconst C (dk_at ec219 (i := 2) rfl).1 ?_
    refine b_iconst C (dk_at ec219 (i := 3) rfl).1 ?_
    refine b_inv (As := [.int (bz 2), .int (bz 1), .int (bz 0)]) (rest := []) C Bg.x (dk_at ec219 (i := 4) rfl) (by decide) rfl (se_fun 2 1 0) (by omega) rfl hm ⟨⟨by omega, by omega⟩, ⟨by omega, by omega⟩, ⟨by omega, by omega⟩, m, a, rfl, hm, ha, hta, hla, l45, u45⟩ (by decide) (Nat.le_refl _) (Nat.le_refl _) ?_
    rintro v τ' h' ⟨m', a', w, e1, e2, rfl, hq⟩
    injection e1 with e1
    injection e1 with e1
    subst e1
    have e3 : some a = some a' := by rw [← ha]; exact e2
    cases e3
    rcases hq with ⟨rfl, rfl⟩ | ⟨n, w1, t, en, hn40, et, rfl, rfl⟩
    · refine b_istore_n C (dk_at ec219 (i := 5) rfl).1 (by rw [hn]; decide) (bno2_of (fun w hw _ => by cases hw; exact (show (1 : Nat) ≠ 2 by decide))) ?_
      refine b_iload_n C (dk_at ec219 (i := 6) rfl).1 rfl ?_
      refine b_iconst C (dk_at ec219 (i := 7) rfl).1 ?_
      refine b_icmp_ne (t := 14) C (dk_at ec219 (i := 8) rfl).1 (by decide) ⟨by omega, by omega⟩ ⟨by omega, by omega⟩ (fun z => ?_) (fun z => ?_)
      · exact absurd rfl z
      · exact b_vret C Bg (dk_at ec219 (i := 9) rfl).1 rfl (Nat.le_refl _) (Nat.le_refl _) ⟨m, a, w, rfl, ha, rfl, rfl, Or.inl rfl⟩
    · refine b_istore_n C (dk_at ec219 (i := 5) rfl).1 (by rw [hn]; decide) (bno2_of (fun w hw _ => by cases hw; exact (show (1 : Nat) ≠ 2 by decide))) ?_
      refine b_iload_n C (dk_at ec219 (i := 6) rfl).1 rfl ?_
      refine b_iconst C (dk_at ec219 (i := 7) rfl).1 ?_
      refine b_icmp_ne (t := 14) C (dk_at ec219 (i := 8) rfl).1 (by decide) ⟨by omega, by omega⟩ ⟨by omega, by omega⟩ (fun z => ?_) (fun z => ?_)
      · have hb : (seH h a n w 2 w1 1 0).2 m 14 = some a := ha
        refine b_al0 C (dk_at ec219 (i := 10) rfl).1 rfl ?_
        refine b_gR C (dk_at ec219 (i := 11) rfl) hm hb ?_
        refine b_iload_n C (dk_at ec219 (i := 12) rfl).1 rfl ?_
        refine b_iconst C (dk_at ec219 (i := 13) rfl).1 ?_
        refine b_iadd C (dk_at ec219 (i := 14) rfl).1 ?_
        refine b_iconst C (dk_at ec219 (i := 15) rfl).1 ?_
        refine b_wr (j := 1504 + 38 * n + 5) C (dk_at ec219 (i := 16) rfl).1 hta (by omega) (by omega) ⟨by omega, by omega⟩ ?_
        refine b_al0 C (dk_at ec219 (i := 17) rfl).1 rfl ?_
        refine b_gR C (dk_at ec219 (i := 18) rfl) hm hb ?_
        refine b_iload_n C (dk_at ec219 (i := 19) rfl).1 rfl ?_
        refine b_bipush C (dk_at ec219 (i := 20) rfl).1 ⟨by omega, by omega⟩ ?_
        refine b_iadd C (dk_at ec219 (i := 21) rfl).1 ?_
        refine b_iload_n C (dk_at ec219 (i := 22) rfl).1 rfl ?_
        refine b_wr (j := 1504 + 38 * n + 6) C (dk_at ec219 (i := 23) rfl).1 hta (by omega) (by omega) hx0 ?_
        refine b_al0 C (dk_at ec219 (i := 24) rfl).1 rfl ?_
        refine b_gR C (dk_at ec219 (i := 25) rfl) hm hb ?_
        refine b_iload_n C (dk_at ec219 (i := 26) rfl).1 rfl ?_
        refine b_bipush C (dk_at ec219 (i := 27) rfl).1 ⟨by omega, by omega⟩ ?_
        refine b_iadd C (dk_at ec219 (i := 28) rfl).1 ?_
        refine b_iconst C (dk_at ec219 (i := 29) rfl).1 ?_
        refine b_iadd C (dk_at ec219 (i := 30) rfl).1 ?_
        refine b_iload_n C (dk_at ec219 (i := 31) rfl).1 rfl ?_
        refine b_wr (j := 1504 + 38 * n + 7) C (dk_at ec219 (i := 32) rfl).1 hta (by omega) (by omega) hx1 ?_
        exact b_vret C Bg (dk_at ec219 (i := 33) rfl).1 rfl (Nat.le_refl _) (Nat.le_refl _) ⟨m, a, w, rfl, ha, rfl, rfl, Or.inr ⟨n, w1, t, en, hn40, et, rfl⟩⟩
      · omega
/-- the numbers of a unit that was sent -/
theorem sx_wt {g : Nat → Nat} {τ : bt} {H h' : bh} {a n : Nat} (hw : cWT cT0 g τ H) (ga : g a = 61) (hn : n < 40) (h2 : h'.2 = H.2) (ho : ∀ b i, (b ≠ a ∨ i < 1504 + 38 * n + 5 ∨ 1504 + 38 * n + 38 ≤ i) → h'.1 b i = H.1 b i) (hu : ublk (h'.1 a) (1504 + 38 * n)) : cWT cT0 g τ h' := by
  obtain ⟨o1, o2, o3⟩ := o_now hw ga
  refine w_now hw ga (l := 1504) (u := 3023) h2 (fun b i hb => ho b i (by omega)) (fun i i1 i2 hi => ?_) ⟨fun _ u hu' => ?_, fun z => by omega, fun z => by omega, fun _ u u1 u2 u3 => ?_⟩ (creg_far (l := 1504) (u := 3023) (by decide +kernel) (fun i hi => ho a i (by omega)) o3)
  · have := csn_ok 1520 se_z.1 i (by omega) (by omega)
    omega
  · by_cases e : u = n
    · subst e; exact hu
    · exact ublk_eq (fun i i1 i2 => ho a i (by omega)) (o2.1 (Or.inr rfl) u hu')
  · rw [ho a 5000 (by omega)] at u1
    rw [ho a 45 (by omega)] at u2
    rw [ho a 28 (by omega), ho a (1504 + 38 * u + 1) (by omega)]
    exact o2.2.2.2 rfl u u1 u2 u3
theorem se_v {h : bh} {a n : Nat} {w x1 w1 x2 x3 : Int} : (seH h a n w x1 w1 x2 x3).1 a (1504 + 38 * n) = x1 ∧ (seH h a n w x1 w1 x2 x3).1 a (1504 + 38 * n + 2) = x2 ∧ (seH h a n w x1 w1 x2 x3).1 a (1504 + 38 * n + 3) = x3 ∧ ∀ k, 4 ≤ k → k < 38 → (seH h a n w x1 w1 x2 x3).1 a (1504 + 38 * n + k) = 0 := by
  refine ⟨?_, ?_, ?_, fun k k1 k2 => ?_⟩
  · rw [se_val, if_neg (by omega), if_neg (by omega), if_neg (by omega), if_neg (by omega), if_pos ⟨rfl, rfl⟩]
  · rw [se_val, if_neg (by omega), if_neg (by omega), if_pos ⟨rfl, rfl⟩]
  · rw [se_val, if_neg (by omega), if_pos ⟨rfl, rfl⟩]
  · rw [se_val, if_neg (by omega), if_neg (by omega), if_neg (by omega), if_neg (by omega), if_neg (by omega), if_pos ⟨rfl, by omega, by omega⟩]
theorem c2_i2 {ρ : Nat → Int} {σ : Nat → Option Nat} {i j : Nat} {xs : List Value} (h : c2 (cv ρ σ) [(0, 0, (0, [(i, 1)])), (0, 0, (0, [(j, 1)]))] xs) : xs = [.int (bz (ρ i)), .int (bz (ρ j))] := by
  obtain ⟨v1, r1, rfl, hv1, h⟩ := c2.cons h
  obtain ⟨v2, r2, rfl, hv2, h⟩ := c2.cons h
  cases r2 with
  | cons => exact h.elim
  | nil =>
    have ev : ∀ s, cE ρ (0, [(s, 1)]) = ρ s := fun s => by show 0 + (1 * ρ s + 0) = _; omega
    have e1 := (cv_int rfl rfl hv1).1
    have e2 := (cv_int rfl rfl hv2).1
    rw [ev] at e1 e2
    rw [e1, e2]
theorem eox9 : cOk cT0 ey217 5 4 0 0 enx9 := by
  have hx : ∀ ρ : Nat → Int, cBo ρ enx9.1.2.2.1.1 → cCo ρ enx9.1.2.2.1.2.1 → 0 ≤ ρ 0 ∧ ρ 0 ≤ 240 ∧ ρ 1 ≤ 32 ∧ ρ 0 + ρ 1 ≤ 240 := by
    intro ρ hb hc
    have b0 := cBo_at hb (s := 0) (x := 0) (y := 240) (by decide)
    have b1 := cBo_at hb (s := 1) (x := -2147483648) (y := 32) (by decide)
    have c1 : 0 ≤ 240 + (-1 * ρ 0 + (-1 * ρ 1 + 0)) := hc (240, [(0, -1), (1, -1)]) List.mem_cons_self
    omega
  refine (cOk_ofp (fun ρ => sd_fun (ρ 0) (ρ 1)) ?_ ?_).mono (by decide)
  · intro ι avs τ h g ρ σ hp
    obtain ⟨m, xs, rfl, -, m2, m3, hxs⟩ := m_this hp rfl rfl
    obtain ⟨a, a1, a2, a3, a4⟩ := m_now hp.1 m3
    have b45 := now_45 hp.1 a2
    obtain ⟨y1, y2, y3, y4⟩ := hx ρ hp.2.2.2.1.1 hp.2.2.2.1.2.1
    exact ⟨y1, y2, y3, hp.2.2.1 0, hp.2.2.1 1, m, a, by rw [c2_i2 hxs], m2, a1, a3, a4, b45.1, b45.2⟩
  · rintro ι avs τ h g ρ σ v τ' h' hp ⟨m, a, w, rfl, ha1, rfl, rfl, hq⟩
    obtain ⟨m', xs, e, -, -, m3, -⟩ := m_this hp rfl rfl
    cases e
    obtain ⟨a', a1, ga, ta, -⟩ := m_now hp.1 m3
    rw [ha1] at a1
    cases a1
    obtain ⟨y1, y2, y3, y4⟩ := hx ρ hp.2.2.2.1.1 hp.2.2.2.1.2.1
    rcases hq with rfl | ⟨n, w1, t, en, hn40, et, hh2, hho⟩
    · exact cPst_void hp rfl (wt_35 hp.1 ga) (se_hi ta rfl (fun b i hb => if_neg (by omega)) ⟨by rfl, by rfl, by rfl⟩)
    · refine cPst_void hp rfl (sx_wt (se_wt (w := w) (x1 := 0) (x2 := ρ 0) (x3 := ρ 1) hp.1 ga en hn40 et ⟨by omega, by omega⟩ ⟨⟨by omega, by omega⟩, fun _ => y1⟩ (fun _ => ⟨y1, y3, y4⟩) (fun z => by omega)) ga hn40 hh2 hho ?_) (se_hi ta hh2 (fun b i hb => ?_) ⟨by rfl, by rfl, by rfl⟩)
      · obtain ⟨v0, v2, v3, -⟩ := se_v (h := h) (a := a) (n := n) (w := w) (x1 := 0) (w1 := w1) (x2 := ρ 0) (x3 := ρ 1)
        unfold ublk
        rw [hho a (1504 + 38 * n) (by omega), hho a (1504 + 38 * n + 2) (by omega), hho a (1504 + 38 * n + 3) (by omega), v0, v2, v3]
        exact ⟨by omega, by omega, by omega, fun z => by omega⟩
      · rw [hho b i (by omega)]
        exact se_out (by omega)
theorem eox10 : cOk cT0 ey219 4 4 0 0 enx10 := by
  have hx : ∀ ρ : Nat → Int, cBo ρ enx10.1.2.2.1.1 → (-1 ≤ ρ 0 ∧ ρ 0 ≤ 240) ∧ -1 ≤ ρ 1 ∧ ρ 1 ≤ 240 := by
    intro ρ hb
    exact ⟨cBo_at hb (s := 0) (x := -1) (y := 240) (by decide), cBo_at hb (s := 1) (x := -1) (y := 240) (by decide)⟩
  refine (cOk_ofp (fun ρ => sk_fun (ρ 0) (ρ 1)) ?_ ?_).mono (by decide)
  · intro ι avs τ h g ρ σ hp
    obtain ⟨m, xs, rfl, -, m2, m3, hxs⟩ := m_this hp rfl rfl
    obtain ⟨a, a1, a2, a3, a4⟩ := m_now hp.1 m3
    have b45 := now_45 hp.1 a2
    exact ⟨hp.2.2.1 0, hp.2.2.1 1, m, a, by rw [c2_i2 hxs], m2, a1, a3, a4, b45.1, b45.2⟩
  · rintro ι avs τ h g ρ σ v τ' h' hp ⟨m, a, w, rfl, ha1, rfl, rfl, hq⟩
    obtain ⟨m', xs, e, -, -, m3, -⟩ := m_this hp rfl rfl
    cases e
    obtain ⟨a', a1, ga, ta, -⟩ := m_now hp.1 m3
    rw [ha1] at a1
    cases a1
    obtain ⟨⟨y1, y2⟩, y3, y4⟩ := hx ρ hp.2.2.2.1.1
    rcases hq with rfl | ⟨n, w1, t, en, hn40, et, hh⟩
    · exact cPst_void hp rfl (wt_35 hp.1 ga) (se_hi ta rfl (fun b i hb => if_neg (by omega)) ⟨by rfl, by rfl, by rfl⟩)
    · have val : ∀ b i, h'.1 b i = if b = a ∧ i = 1504 + 38 * n + 7 then ρ 1 else if b = a ∧ i = 1504 + 38 * n + 6 then ρ 0 else if b = a ∧ i = 1504 + 38 * n + 5 then 2 else (seH h a n w 2 w1 1 0).1 b i := by
        intro b i
        rw [hh]
        rfl
      have hho : ∀ b i, (b ≠ a ∨ i < 1504 + 38 * n + 5 ∨ 1504 + 38 * n + 38 ≤ i) → h'.1 b i = (seH h a n w 2 w1 1 0).1 b i := by
        intro b i hb
        rw [val, if_neg (by omega), if_neg (by omega), if_neg (by omega)]
      have hh2 : h'.2 = h.2 := by rw [hh]; rfl
      refine cPst_void hp rfl (sx_wt (se_wt (w := w) (x1 := 2) (x2 := 1) (x3 := 0) hp.1 ga en hn40 et ⟨by omega, by omega⟩ ⟨⟨by omega, by omega⟩, fun _ => by omega⟩ (fun z => by omega) (fun z => by omega)) ga hn40 hh2 hho ?_) (se_hi ta hh2 (fun b i hb => ?_) ⟨by rfl, by rfl, by rfl⟩)
      · obtain ⟨v0, v2, v3, v4⟩ := se_v (h := h) (a := a) (n := n) (w := w) (x1 := 2) (w1 := w1) (x2 := 1) (x3 := 0)
        have v5 : h'.1 a (1504 + 38 * n + 5) = 2 := by rw [val, if_neg (by omega), if_neg (by omega), if_pos ⟨rfl, rfl⟩]
        unfold ublk
        rw [hho a (1504 + 38 * n) (by omega), hho a (1504 + 38 * n + 2) (by omega), hho a (1504 + 38 * n + 3) (by omega), v0, v2, v3, v5]
        refine ⟨by omega, by omega, by omega, fun z => ⟨by omega, by omega, by omega, fun r hr => ?_⟩⟩
        rw [val]
        by_cases e1 : r = 1
        · rw [if_pos ⟨rfl, by omega⟩]; exact ⟨y3, y4⟩
        · rw [if_neg (by omega)]
          by_cases e0 : r = 0
          · rw [if_pos ⟨rfl, by omega⟩]; exact ⟨y1, y2⟩
          · rw [if_neg (by omega), if_neg (by omega), show 1504 + 38 * n + 6 + r = 1504 + 38 * n + (6 + r) by omega, v4 _ (by omega) (by omega)]
            exact ⟨by omega, by omega⟩
      · rw [hho b i (by omega)]
        exact se_out (by omega)
