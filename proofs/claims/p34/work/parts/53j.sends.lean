/-! ===== unitAt, sends by hand ===== -/
theorem un_fun (z : Int) : bOk ey214 2 1 0 0 (fun _ avs _ _ => ∃ m, avs = [.ref m, .int (bz z)]) (fun _ _ τ h v τ' h' => v = some (.int (bz (1504 + 38 * z))) ∧ τ' = τ ∧ h' = h) := by
  refine bOk_of emp214.1.2.2.2.2.2.1 ?_ ?_
  · rintro ι avs τ h ⟨m, rfl⟩
    exact Nat.le_of_ble_eq_true rfl
  · intro γ ι τ h avs d hd hp Bg C
    obtain ⟨m, rfl⟩ := hp
    refine b_sipush C (dk_at ec214 (i := 0) rfl).1 ⟨by omega, by omega⟩ ?_
    refine b_bipush C (dk_at ec214 (i := 1) rfl).1 ⟨by omega, by omega⟩ ?_
    refine b_iload_n C (dk_at ec214 (i := 2) rfl).1 rfl ?_
    refine b_imul C (dk_at ec214 (i := 3) rfl).1 ?_
    refine b_iadd C (dk_at ec214 (i := 4) rfl).1 ?_
    exact b_iret C Bg (dk_at ec214 (i := 5) rfl).1 (Or.inl rfl) (Nat.le_refl _) (Nat.le_refl _) ⟨rfl, rfl, rfl⟩
theorem bsetI_ne {h : bh} {a j i : Nat} {x : Int} (hn : i ≠ j) : (bsetI h a j x).1 a i = h.1 a i := if_neg (fun e => hn e.2)
/-- what sends leaves, where it sends -/
def seH (h : bh) (a n : Nat) (w x1 w1 x2 x3 : Int) : bh := bsetI (bsetI (bsetI (bsetI (bsetI (bfl (bsetI h a 35 w) a (1504 + 38 * n) 0 38) a (1504 + 38 * n) x1) a (1504 + 38 * n + 1) w1) a (1504 + 38 * n + 2) x2) a (1504 + 38 * n + 3) x3) a 45 ((n : Int) + 1)
theorem se_fun (x1 x2 x3 : Int) : bOk ey216 6 2 0 0 (fun _ avs τ h => brg x1 ∧ brg x2 ∧ brg x3 ∧ ∃ m a, avs = [.ref m, .int (bz x1), .int (bz x2), .int (bz x3)] ∧ τ.1 m = 12 ∧ h.2 m 14 = some a ∧ τ.1 a = 41 ∧ τ.2 a = 3266 ∧ 0 ≤ h.1 a 45 ∧ h.1 a 45 ≤ 40) (fun _ avs τ h v τ' h' => ∃ m a w, avs = [.ref m, .int (bz x1), .int (bz x2), .int (bz x3)] ∧ h.2 m 14 = some a ∧ τ' = τ ∧ ((v = some (.int (bz (-1))) ∧ h' = bsetI h a 35 w) ∨ ∃ (n : Nat) (w1 t : Int), (n : Int) = h.1 a 45 ∧ n < 40 ∧ w1 = h.1 a 28 + h.1 a 2 - 4294967296 * t ∧ v = some (.int (bz (1504 + 38 * (n : Int)))) ∧ h' = seH h a n w x1 w1 x2 x3)) := by
  refine bOk_of emp216.1.2.2.2.2.2.1 ?_ ?_
  · rintro ι avs τ h ⟨-, -, -, m, a, rfl, -⟩
    exact Nat.le_of_ble_eq_true rfl
  · intro γ ι τ h avs d hd hp Bg C
    obtain ⟨hx1, hx2, hx3, m, a, rfl, hm, ha0, hta, hla, l45, u45⟩ := hp
    have hn : γ.2.2.1 = 6 := Bg.2.1
    obtain ⟨d, rfl⟩ : ∃ d', d = d' + 1 := ⟨d - 1, by omega⟩
    have tail : ∀ (w : Int) (n : Nat) (H : bh), H.2 = h.2 → (n : Int) = h.1 a 45 → n < 40 → H = bfl (bsetI h a 35 w) a (1504 + 38 * n) 0 38 → ∀ z5 : Int, bJ γ 65 [some (.ref m), some (.int (bz x1)), some (.int (bz x2)), some (.int (bz x3)), some (.int (bz (1504 + 38 * (n : Int)))), some (.int (bz z5))] [] τ H 0 0 := by
      intro w n H hH2 hn45 hn40 hH z5
      have ha : H.2 m 14 = some a := by rw [hH2]; exact ha0
      have lowH : ∀ i : Nat, i ≠ 35 → i < 1504 → H.1 a i = h.1 a i := by
        intro i i1 i2
        rw [hH]
        show (if a = a ∧ 1504 + 38 * n ≤ i ∧ i < 1504 + 38 * n + 38 then (0 : Int) else if a = a ∧ i = 35 then w else h.1 a i) = _
        rw [if_neg (by omega), if_neg (by omega)]
      refine b_al0 C (dk_at ec216 (i := 37) rfl).1 rfl ?_
      refine b_gR C (dk_at ec216 (i := 38) rfl) hm ha ?_
      refine b_iload C (dk_at ec216 (i := 39) rfl).1 rfl ?_
      refine b_iload_n C (dk_at ec216 (i := 40) rfl).1 rfl ?_
      refine b_wr (j := 1504 + 38 * n) C (dk_at ec216 (i := 41) rfl).1 hta (by omega) (by omega) hx1 ?_
      refine b_al0 C (dk_at ec216 (i := 42) rfl).1 rfl ?_
      refine b_gR C (dk_at ec216 (i := 43) rfl) hm ha ?_
      refine b_iload C (dk_at ec216 (i := 44) rfl).1 rfl ?_
      refine b_iconst C (dk_at ec216 (i := 45) rfl).1 ?_
      refine b_iadd C (dk_at ec216 (i := 46) rfl).1 ?_
      refine b_al0 C (dk_at ec216 (i := 47) rfl).1 rfl ?_
      refine b_gR C (dk_at ec216 (i := 48) rfl) hm ha ?_
      refine b_bipush C (dk_at ec216 (i := 49) rfl).1 ⟨by omega, by omega⟩ ?_
      refine b_rd (j := 28) C (dk_at ec216 (i := 50) rfl).1 hta (by omega) (by omega) (fun _ => ?_)
      refine b_al0 C (dk_at ec216 (i := 51) rfl).1 rfl ?_
      refine b_gR C (dk_at ec216 (i := 52) rfl) hm ha ?_
      refine b_iconst C (dk_at ec216 (i := 53) rfl).1 ?_
      refine b_rd (j := 2) C (dk_at ec216 (i := 54) rfl).1 hta (by omega) (by omega) (fun _ => ?_)
      refine b_iadd C (dk_at ec216 (i := 55) rfl).1 ?_
      refine b_norm (fun w1 t hw1 et => ?_)
      rw [bsetI_ne (by omega), bsetI_ne (by omega), lowH 28 (by omega) (by omega), lowH 2 (by omega) (by omega)] at et
      refine b_wr (j := 1504 + 38 * n + 1) C (dk_at ec216 (i := 56) rfl).1 hta (by omega) (by omega) hw1 ?_
      refine b_al0 C (dk_at ec216 (i := 57) rfl).1 rfl ?_
      refine b_gR C (dk_at ec216 (i := 58) rfl) hm ha ?_
      refine b_iload C (dk_at ec216 (i := 59) rfl).1 rfl ?_
      refine b_iconst C (dk_at ec216 (i := 60) rfl).1 ?_
      refine b_iadd C (dk_at ec216 (i := 61) rfl).1 ?_
      refine b_iload_n C (dk_at ec216 (i := 62) rfl).1 rfl ?_
      refine b_wr (j := 1504 + 38 * n + 2) C (dk_at ec216 (i := 63) rfl).1 hta (by omega) (by omega) hx2 ?_
      refine b_al0 C (dk_at ec216 (i := 64) rfl).1 rfl ?_
      refine b_gR C (dk_at ec216 (i := 65) rfl) hm ha ?_
      refine b_iload C (dk_at ec216 (i := 66) rfl).1 rfl ?_
      refine b_iconst C (dk_at ec216 (i := 67) rfl).1 ?_
      refine b_iadd C (dk_at ec216 (i := 68) rfl).1 ?_
      refine b_iload_n C (dk_at ec216 (i := 69) rfl).1 rfl ?_
      refine b_wr (j := 1504 + 38 * n + 3) C (dk_at ec216 (i := 70) rfl).1 hta (by omega) (by omega) hx3 ?_
      refine b_al0 C (dk_at ec216 (i := 71) rfl).1 rfl ?_
      refine b_gR C (dk_at ec216 (i := 72) rfl) hm ha ?_
      refine b_bipush C (dk_at ec216 (i := 73) rfl).1 ⟨by omega, by omega⟩ ?_
      refine b_dup2 C (dk_at ec216 (i := 74) rfl).1 rfl rfl ?_
      refine b_rd (j := 45) C (dk_at ec216 (i := 75) rfl).1 hta (by omega) (by omega) (fun _ => ?_)
      refine b_iconst C (dk_at ec216 (i := 76) rfl).1 ?_
      rw [bsetI_ne (by omega), bsetI_ne (by omega), bsetI_ne (by omega), bsetI_ne (by omega), lowH 45 (by omega) (by omega), ← hn45]
      refine b_iadd C (dk_at ec216 (i := 77) rfl).1 ?_
      refine b_wr (j := 45) C (dk_at ec216 (i := 78) rfl).1 hta (by omega) (by omega) ⟨by omega, by omega⟩ ?_
      refine b_iload C (dk_at ec216 (i := 79) rfl).1 rfl ?_
      exact b_iret C Bg (dk_at ec216 (i := 80) rfl).1 (Or.inl rfl) (Nat.le_refl _) (Nat.le_refl _) ⟨m, a, w, rfl, ha0, rfl, Or.inr ⟨n, w1, t, hn45, hn40, et, rfl, by rw [hH]; rfl⟩⟩
    have loop : ∀ (w : Int) (n : Nat), (n : Int) = h.1 a 45 → n < 40 → ∀ r k : Nat, k + r = 38 → bJ γ 41 [some (.ref m), some (.int (bz x1)), some (.int (bz x2)), some (.int (bz x3)), some (.int (bz (1504 + 38 * (n : Int)))), some (.int (bz (k : Int)))] [] τ (bfl (bsetI h a 35 w) a (1504 + 38 * n) 0 k) 0 0 := by
      intro w n hn45 hn40 r
      have ha : h.2 m 14 = some a := ha0
      induction r with
      | zero =>
        intro k hk
        refine b_iload C (dk_at ec216 (i := 25) rfl).1 rfl ?_
        refine b_bipush C (dk_at ec216 (i := 26) rfl).1 ⟨by omega, by omega⟩ ?_
        refine b_icmp_ge (t := 65) C (dk_at ec216 (i := 27) rfl).1 (by decide) ⟨by omega, by omega⟩ ⟨by omega, by omega⟩ (fun z => ?_) (fun z => ?_)
        · have ek : k = 38 := by omega
          subst ek
          exact tail w n (bfl (bsetI h a 35 w) a (1504 + 38 * n) 0 38) rfl hn45 hn40 rfl _
        · omega
      | succ r ih =>
        intro k hk
        refine b_iload C (dk_at ec216 (i := 25) rfl).1 rfl ?_
        refine b_bipush C (dk_at ec216 (i := 26) rfl).1 ⟨by omega, by omega⟩ ?_
        refine b_icmp_ge (t := 65) C (dk_at ec216 (i := 27) rfl).1 (by decide) ⟨by omega, by omega⟩ ⟨by omega, by omega⟩ (fun z => ?_) (fun z => ?_)
        · omega
        refine b_al0 C (dk_at ec216 (i := 28) rfl).1 rfl ?_
        refine b_gR C (dk_at ec216 (i := 29) rfl) hm ha ?_
        refine b_iload C (dk_at ec216 (i := 30) rfl).1 rfl ?_
        refine b_iload C (dk_at ec216 (i := 31) rfl).1 rfl ?_
        refine b_iadd C (dk_at ec216 (i := 32) rfl).1 ?_
        refine b_iconst C (dk_at ec216 (i := 33) rfl).1 ?_
        refine b_wr (j := 1504 + 38 * n + k) C (dk_at ec216 (i := 34) rfl).1 hta (by omega) (by omega) ⟨by omega, by omega⟩ ?_
        refine b_iinc (a := (k : Int)) C (dk_at ec216 (i := 35) rfl).1 (by rw [hn]; decide) rfl (bno2_of (fun w hw _ => by cases hw; exact (show (1 : Nat) ≠ 2 by decide))) ?_
        refine b_goto (t := 41) C (dk_at ec216 (i := 36) rfl).1 (by decide) ?_
        have := ih (k + 1) (by omega)
        rw [show (((k + 1 : Nat) : Int)) = (k : Int) + 1 by omega] at this
        rw [bfl_step]
        exact this
    have ha : h.2 m 14 = some a := ha0
    refine b_al0 C (dk_at ec216 (i := 0) rfl).1 rfl ?_
    refine b_gR C (dk_at ec216 (i := 1) rfl) hm ha ?_
    refine b_bipush C (dk_at ec216 (i := 2) rfl).1 ⟨by omega, by omega⟩ ?_
    refine b_dup2 C (dk_at ec216 (i := 3) rfl).1 rfl rfl ?_
    refine b_rd (j := 35) C (dk_at ec216 (i := 4) rfl).1 hta (by omega) (by omega) (fun _ => ?_)
    refine b_iconst C (dk_at ec216 (i := 5) rfl).1 ?_
    refine b_iadd C (dk_at ec216 (i := 6) rfl).1 ?_
    refine b_norm (fun w t hw et => ?_)
    refine b_wr (j := 35) C (dk_at ec216 (i := 7) rfl).1 hta (by omega) (by omega) hw ?_
    refine b_al0 C (dk_at ec216 (i := 8) rfl).1 rfl ?_
    refine b_gR C (dk_at ec216 (i := 9) rfl) hm ha ?_
    refine b_bipush C (dk_at ec216 (i := 10) rfl).1 ⟨by omega, by omega⟩ ?_
    refine b_rd (j := 45) C (dk_at ec216 (i := 11) rfl).1 hta (by omega) (by omega) (fun hb => ?_)
    refine b_bipush C (dk_at ec216 (i := 12) rfl).1 ⟨by omega, by omega⟩ ?_
    refine b_icmp_ne (t := 25) C (dk_at ec216 (i := 13) rfl).1 (by decide) hb ⟨by omega, by omega⟩ (fun z => ?_) (fun z => ?_)
    · have e45 : (bsetI h a 35 w).1 a 45 = h.1 a 45 := bsetI_ne (by omega)
      rw [e45] at z
      obtain ⟨n, en⟩ : ∃ n : Nat, (n : Int) = h.1 a 45 := ⟨(h.1 a 45).toNat, by omega⟩
      refine b_al0 C (dk_at ec216 (i := 16) rfl).1 rfl ?_
      refine b_al0 C (dk_at ec216 (i := 17) rfl).1 rfl ?_
      refine b_gR C (dk_at ec216 (i := 18) rfl) hm ha ?_
      refine b_bipush C (dk_at ec216 (i := 19) rfl).1 ⟨by omega, by omega⟩ ?_
      refine b_rd (j := 45) C (dk_at ec216 (i := 20) rfl).1 hta (by omega) (by omega) (fun _ => ?_)
      rw [e45, ← en]
      refine b_inv (As := [.int (bz (n : Int))]) (rest := []) C Bg.x (dk_at ec216 (i := 21) rfl) (by decide) rfl (un_fun (n : Int)) (by omega) rfl hm ⟨m, rfl⟩ (by decide) (Nat.le_refl _) (Nat.le_refl _) ?_
      rintro v τ' h' ⟨rfl, rfl, rfl⟩
      refine b_istore C (dk_at ec216 (i := 22) rfl).1 (by rw [hn]; decide) (bno2_of (fun w hw _ => by cases hw; exact (show (1 : Nat) ≠ 2 by decide))) ?_
      refine b_iconst C (dk_at ec216 (i := 23) rfl).1 ?_
      refine b_istore C (dk_at ec216 (i := 24) rfl).1 (by rw [hn]; decide) (bno2_of (fun w hw _ => by cases hw; exact (show (1 : Nat) ≠ 2 by decide))) ?_
      have := loop w n en (by omega) 38 0 rfl
      rw [bfl_0] at this
      exact this
    · refine b_iconst C (dk_at ec216 (i := 14) rfl).1 ?_
      exact b_iret C Bg (dk_at ec216 (i := 15) rfl).1 (Or.inl rfl) (Nat.le_refl _) (Nat.le_refl _) ⟨m, a, w, rfl, ha0, rfl, Or.inl ⟨rfl, rfl⟩⟩
/-- the slots l to l + n are of one sort -/
noncomputable def csn (S : List (Nat × cS)) (c l n : Nat) : Bool := @Nat.rec (fun _ => Bool) true (fun k ih => cond (Nat.beq (cseg S (l + k)).1 c) ih false) n
theorem csn_ok {S : List (Nat × cS)} {c l : Nat} : ∀ n, csn S c l n = true → ∀ i, l ≤ i → i < l + n → (cseg S i).1 = c := by
  intro n
  induction n with
  | zero => intro _ i h1 h2; omega
  | succ n ih =>
    intro h i h1 h2
    obtain ⟨h3, h4⟩ := c_and (show cond (Nat.beq (cseg S (l + n)).1 c) (csn S c l n) false = true from h)
    by_cases e : i = l + n
    · subst e; exact Nat.eq_of_beq_eq_true h3
    · exact ih h4 i h1 (by omega)
theorem se_z : csn (cSg 61) 3 1504 1520 = true ∧ (cseg (cSg 61) 35).1 = 2 ∧ cseg (cSg 61) 45 = (0, 0, 40, 0, false) ∧ cseg (cSg 61) 2 = (0, 1, 9, 0, false) := by decide +kernel
section SENDS
variable {g : Nat → Nat} {τ : bt} {h : bh} {a : Nat}
theorem now_45 (hw : cWT cT0 g τ h) (ga : g a = 61) : 0 ≤ h.1 a 45 ∧ h.1 a 45 ≤ 40 := by
  have := (o_now hw ga).1 45 (by rw [se_z.2.2.1])
  rw [se_z.2.2.1] at this
  exact this
theorem now_2 (hw : cWT cT0 g τ h) (ga : g a = 61) : 1 ≤ h.1 a 2 ∧ h.1 a 2 ≤ 9 := by
  have := (o_now hw ga).1 2 (by rw [se_z.2.2.2])
  rw [se_z.2.2.2] at this
  exact this
theorem wt_35 {w : Int} (hw : cWT cT0 g τ h) (ga : g a = 61) : cWT cT0 g τ (bsetI h a 35 w) := by
  obtain ⟨o1, o2, o3⟩ := o_now hw ga
  have ho : ∀ b i, (b ≠ a ∨ i < 35 ∨ 35 < i) → (bsetI h a 35 w).1 b i = h.1 b i := fun b i hb => if_neg (by omega)
  refine w_now hw ga (l := 35) (u := 35) rfl ho (fun i i1 i2 hi => ?_) (creg_far (l := 35) (u := 35) (by decide +kernel) (fun i hi => ho a i (Or.inr hi)) o2) (creg_far (l := 35) (u := 35) (by decide +kernel) (fun i hi => ho a i (Or.inr hi)) o3)
  obtain rfl : i = 35 := by omega
  rw [se_z.2.1] at hi
  cases hi
theorem se_val {n : Nat} {w x1 w1 x2 x3 : Int} (b i : Nat) : (seH h a n w x1 w1 x2 x3).1 b i = if b = a ∧ i = 45 then (n : Int) + 1 else if b = a ∧ i = 1504 + 38 * n + 3 then x3 else if b = a ∧ i = 1504 + 38 * n + 2 then x2 else if b = a ∧ i = 1504 + 38 * n + 1 then w1 else if b = a ∧ i = 1504 + 38 * n then x1 else if b = a ∧ 1504 + 38 * n ≤ i ∧ i < 1504 + 38 * n + 38 then (0 : Int) else if b = a ∧ i = 35 then w else h.1 b i := rfl
theorem se_out {n : Nat} {w x1 w1 x2 x3 : Int} {b i : Nat} (hb : b ≠ a ∨ (i ≠ 35 ∧ i ≠ 45 ∧ (i < 1504 + 38 * n ∨ 1504 + 38 * n + 38 ≤ i))) : (seH h a n w x1 w1 x2 x3).1 b i = h.1 b i := by
  rw [se_val, if_neg (by omega), if_neg (by omega), if_neg (by omega), if_neg (by omega), if_neg (by omega), if_neg (by omega), if_neg (by omega)]
theorem se_wt {n : Nat} {w x1 w1 x2 x3 t : Int} (hw : cWT cT0 g τ h) (ga : g a = 61) (en : (n : Int) = h.1 a 45) (hn : n < 40) (et : w1 = h.1 a 28 + h.1 a 2 - 4294967296 * t) (h1 : 0 ≤ x1 ∧ x1 ≤ 6) (h2 : (-1 ≤ x2 ∧ x2 ≤ 240) ∧ (x1 = 1 → 0 ≤ x2)) (h3 : x1 = 0 → 0 ≤ x2 ∧ x3 ≤ 32 ∧ x2 + x3 ≤ 240) (h4 : x1 = 2 → x2 ≤ 8) : cWT cT0 g τ (seH h a n w x1 w1 x2 x3) := by
  obtain ⟨o1, o2, o3⟩ := o_now hw ga
  have b2 := now_2 hw ga
  have at0 : ∀ k, 4 ≤ k → k < 38 → (seH h a n w x1 w1 x2 x3).1 a (1504 + 38 * n + k) = 0 := by
    intro k k1 k2
    rw [se_val, if_neg (by omega), if_neg (by omega), if_neg (by omega), if_neg (by omega), if_neg (by omega), if_pos ⟨rfl, by omega, by omega⟩]
  have v0 : (seH h a n w x1 w1 x2 x3).1 a (1504 + 38 * n) = x1 := by
    rw [se_val, if_neg (by omega), if_neg (by omega), if_neg (by omega), if_neg (by omega), if_pos ⟨rfl, rfl⟩]
  have v1 : (seH h a n w x1 w1 x2 x3).1 a (1504 + 38 * n + 1) = w1 := by
    rw [se_val, if_neg (by omega), if_neg (by omega), if_neg (by omega), if_pos ⟨rfl, rfl⟩]
  have v2 : (seH h a n w x1 w1 x2 x3).1 a (1504 + 38 * n + 2) = x2 := by
    rw [se_val, if_neg (by omega), if_neg (by omega), if_pos ⟨rfl, rfl⟩]
  have v3 : (seH h a n w x1 w1 x2 x3).1 a (1504 + 38 * n + 3) = x3 := by
    rw [se_val, if_neg (by omega), if_pos ⟨rfl, rfl⟩]
  have v45 : (seH h a n w x1 w1 x2 x3).1 a 45 = (n : Int) + 1 := by
    rw [se_val, if_pos ⟨rfl, rfl⟩]
  refine w_now hw ga (l := 35) (u := 3023) rfl (fun b i hb => se_out (by omega)) (fun i i1 i2 hi => ?_) ⟨fun _ u hu => ?_, fun z => by omega, fun z => by omega, fun _ u u1 u2 u3 => ?_⟩ (creg_far (l := 35) (u := 3023) (by decide +kernel) (fun i hi => se_out (by omega)) o3)
  · by_cases e1 : i = 45
    · subst e1
      rw [v45, se_z.2.2.1]
      exact ⟨by show (0 : Int) ≤ _; omega, by show _ ≤ (40 : Int); omega⟩
    · by_cases e2 : i = 35
      · subst e2
        rw [se_z.2.1] at hi
        cases hi
      · by_cases e3 : i < 1504
        · rw [se_out (by omega)]
          exact o1 i hi
        · have := csn_ok 1520 se_z.1 i (by omega) (by omega)
          omega
  · by_cases e : u = n
    · subst e
      unfold ublk
      rw [v0, v2, v3, at0 5 (by omega) (by omega)]
      refine ⟨h1, h2, h3, fun z => ⟨h4 z, by omega, by omega, fun r hr => ?_⟩⟩
      rw [show 1504 + 38 * u + 6 + r = 1504 + 38 * u + (6 + r) by omega, at0 (6 + r) (by omega) (by omega)]
      exact ⟨by omega, by omega⟩
    · exact ublk_eq (fun i i1 i2 => se_out (by omega)) (o2.1 (Or.inr rfl) u hu)
  · rw [se_out (i := 5000) (by omega)] at u1
    rw [v45] at u2
    rw [se_out (i := 28) (by omega)]
    by_cases e : u = n
    · subst e
      rw [v1]
      omega
    · rw [se_out (by omega)]
      exact o2.2.2.2 rfl u u1 (by omega) u3
theorem se_hi {E : cEf} {h' : bh} (ta : τ.1 a = 41) (h2 : h'.2 = h.2) (ho : ∀ b i, (b ≠ a ∨ (i ≠ 35 ∧ i ≠ 45 ∧ (i < 1504 ∨ 3023 < i))) → h'.1 b i = h.1 b i) (he : cefR E 41 35 35 = true ∧ cefR E 41 45 45 = true ∧ cefR E 41 1504 3023 = true) : cHi E g τ h g τ h' := by
  intro b _
  refine ⟨rfl, rfl, Or.inl rfl, fun i hi => ⟨ho b i ?_, by rw [h2]⟩⟩
  refine Classical.byContradiction fun z => ?_
  have e : b = a := Classical.byContradiction fun y => z (Or.inl y)
  subst e
  rw [ta] at hi
  have hc : cef E 41 i = true := by
    by_cases e1 : i = 35
    · exact cefR_ok he.1 (by omega) (by omega)
    · by_cases e2 : i = 45
      · exact cefR_ok he.2.1 (by omega) (by omega)
      · exact cefR_ok he.2.2 (by omega) (by omega)
  rw [hc] at hi
  cases hi
end SENDS
theorem cOk_ofp {T : cTb} {y : bY} {nL d0 b1 b2 : Nat} {c : cCn} {Pre : (Nat → Int) → bI → List Value → bt → bh → Prop} {Post : (Nat → Int) → bPost} (K : ∀ ρ, bOk y nL d0 b1 b2 (Pre ρ) (Post ρ)) (h1 : ∀ ι avs τ h g ρ σ, cPr T c ι avs τ h g ρ σ → Pre ρ ι avs τ h) (h2 : ∀ ι avs τ h g ρ σ v τ' h', cPr T c ι avs τ h g ρ σ → Post ρ ι avs τ h v τ' h' → cPst T c g ρ σ ι avs τ h v τ' h') : cOk T y nL d0 b1 b2 c := by
  intro g ρ σ l hl d hd ι τ h avs hp
  refine Jvm.Free.MetFree.mono (K ρ l hl d hd ι τ h avs (h1 _ _ _ _ _ _ _ hp)) (fun _ _ h => h) (fun _ _ _ _ _ h => h) (fun a s0 oc t _ hq => ⟨?_, hq.2⟩)
  obtain ⟨⟨⟨v, τ', h', e1, e2, e3⟩, e4⟩, -⟩ := hq
  exact ⟨⟨v, τ', h', e1, h2 _ _ _ _ _ _ _ _ _ _ hp e2, e3⟩, e4⟩
/-- a number is answered, between bounds -/
theorem cPst_int {T : cTb} {c : cCn} {g : Nat → Nat} {ρ : Nat → Int} {σ : Nat → Option Nat} {ι : bI} {avs : List Value} {τ : bt} {h h' : bh} {n : Nat} {l u z : Int} (hp : cPr T c ι avs τ h g ρ σ) (hc : c.2.1.2.2 = (([(n, l, u)], [], [], []), [(0, 0, (0, [(n, 1)]))])) (hn : c.1.1 = n) (hz : brg z) (hl : l ≤ z ∧ z ≤ u) (hw : cWT T g τ h') (hH : cHi c.2.2 g τ h g τ h') : cPst T c g ρ σ ι avs τ h (some (.int (bz z))) τ h' := by
  have hr : ∀ s, brg (if s = n then z else ρ s) := by
    intro s
    by_cases e : s = n
    · rw [if_pos e]; exact hz
    · rw [if_neg e]; exact hp.2.2.1 s
  refine ⟨g, fun s => if s = n then z else ρ s, σ, hw, hp.2.1, hH, ⟨hr, fun s hs => if_neg (by omega), fun _ _ => rfl⟩, ?_, ?_⟩
  · rw [hc]
    refine ⟨⟨hr, fun q hq => ?_⟩, fun q hq => absurd hq List.not_mem_nil, fun q hq => absurd hq List.not_mem_nil, fun q hq => absurd hq List.not_mem_nil⟩
    obtain rfl := List.mem_singleton.mp hq
    show l ≤ (if n = n then z else ρ n) ∧ (if n = n then z else ρ n) ≤ u
    rw [if_pos rfl]
    exact hl
  · rw [hc]
    refine ⟨cv_I (e := (0, [(n, 1)])) hz ?_, trivial⟩
    show 0 + (1 * (if n = n then z else ρ n) + 0) = z
    rw [if_pos rfl]
    omega
theorem c2_i3 {ρ : Nat → Int} {σ : Nat → Option Nat} {i j k : Nat} {xs : List Value} (h : c2 (cv ρ σ) [(0, 0, (0, [(i, 1)])), (0, 0, (0, [(j, 1)])), (0, 0, (0, [(k, 1)]))] xs) : xs = [.int (bz (ρ i)), .int (bz (ρ j)), .int (bz (ρ k))] := by
  obtain ⟨v1, r1, rfl, hv1, h⟩ := c2.cons h
  obtain ⟨v2, r2, rfl, hv2, h⟩ := c2.cons h
  obtain ⟨v3, r3, rfl, hv3, h⟩ := c2.cons h
  cases r3 with
  | cons => exact h.elim
  | nil =>
    have ev : ∀ s, cE ρ (0, [(s, 1)]) = ρ s := fun s => by show 0 + (1 * ρ s + 0) = _; omega
    have e1 := (cv_int rfl rfl hv1).1
    have e2 := (cv_int rfl rfl hv2).1
    have e3 := (cv_int rfl rfl hv3).1
    rw [ev] at e1 e2 e3
    rw [e1, e2, e3]
/-- sends keeps a contract whose three numbers suit a unit -/
theorem se_ok {c : cCn} (hn : c.1.1 = 3) (hr : c.1.2.2.1.2.2.1 = [(0, 12, 12, false, (0, []))]) (ha : c.1.2.2.2 = [(1, 0, (0, [])), (0, 0, (0, [(0, 1)])), (0, 0, (0, [(1, 1)])), (0, 0, (0, [(2, 1)]))]) (hc : c.2.1.2.2 = (([(3, -1, 2986)], [], [], []), [(0, 0, (0, [(3, 1)]))])) (he : cefR c.2.2 41 35 35 = true ∧ cefR c.2.2 41 45 45 = true ∧ cefR c.2.2 41 1504 3023 = true) (hx : ∀ ρ : Nat → Int, cBo ρ c.1.2.2.1.1 → cCo ρ c.1.2.2.1.2.1 → (0 ≤ ρ 0 ∧ ρ 0 ≤ 6) ∧ ((-1 ≤ ρ 1 ∧ ρ 1 ≤ 240) ∧ (ρ 0 = 1 → 0 ≤ ρ 1)) ∧ (ρ 0 = 0 → 0 ≤ ρ 1 ∧ ρ 2 ≤ 32 ∧ ρ 1 + ρ 2 ≤ 240) ∧ (ρ 0 = 2 → ρ 1 ≤ 8)) : cOk cT0 ey216 6 2 0 0 c := by
  refine cOk_ofp (fun ρ => se_fun (ρ 0) (ρ 1) (ρ 2)) ?_ ?_
  · intro ι avs τ h g ρ σ hp
    obtain ⟨m, xs, rfl, -, m2, m3, hxs⟩ := m_this hp hr ha
    obtain ⟨a, a1, a2, a3, a4⟩ := m_now hp.1 m3
    have b45 := now_45 hp.1 a2
    exact ⟨hp.2.2.1 0, hp.2.2.1 1, hp.2.2.1 2, m, a, by rw [c2_i3 hxs], m2, a1, a3, a4, b45.1, b45.2⟩
  · rintro ι avs τ h g ρ σ v τ' h' hp ⟨m, a, w, rfl, ha1, rfl, hq⟩
    obtain ⟨m', xs, e, -, -, m3, -⟩ := m_this hp hr ha
    cases e
    obtain ⟨a', a1, ga, ta, -⟩ := m_now hp.1 m3
    rw [ha1] at a1
    cases a1
    obtain ⟨x1, x2, x3, x4⟩ := hx ρ hp.2.2.2.1.1 hp.2.2.2.1.2.1
    rcases hq with ⟨rfl, rfl⟩ | ⟨n, w1, t, en, hn40, et, rfl, rfl⟩
    · exact cPst_int hp hc hn ⟨by omega, by omega⟩ ⟨by omega, by omega⟩ (wt_35 hp.1 ga) (se_hi ta rfl (fun b i hb => if_neg (by omega)) he)
    · exact cPst_int hp hc hn ⟨by omega, by omega⟩ ⟨by omega, by omega⟩ (se_wt hp.1 ga en hn40 et x1 x2 x3 x4) (se_hi ta rfl (fun b i hb => se_out (by omega)) he)
theorem cBo_at {ρ : Nat → Int} {l : cB} (h : cBo ρ l) {s : Nat} {x y : Int} (hm : (s, x, y) ∈ l) : x ≤ ρ s ∧ ρ s ≤ y := h.2 (s, x, y) hm
theorem eox5 : cOk cT0 ey216 6 3 0 0 enx5 := by
  refine (se_ok rfl rfl rfl rfl ⟨rfl, rfl, rfl⟩ (fun ρ hb hc => ?_)).mono (by decide)
  have b0 := cBo_at hb (s := 0) (x := 0) (y := 0) (by decide)
  have b1 := cBo_at hb (s := 1) (x := 0) (y := 240) (by decide)
  have b2 := cBo_at hb (s := 2) (x := -2147483648) (y := 32) (by decide)
  have c1 : 0 ≤ 240 + (-1 * ρ 1 + (-1 * ρ 2 + 0)) := hc (240, [(1, -1), (2, -1)]) List.mem_cons_self
  omega
theorem eox6 : cOk cT0 ey216 6 3 0 0 enx6 := by
  refine (se_ok rfl rfl rfl rfl ⟨rfl, rfl, rfl⟩ (fun ρ hb hc => ?_)).mono (by decide)
  have b0 := cBo_at hb (s := 0) (x := 1) (y := 1) (by decide)
  have b1 := cBo_at hb (s := 1) (x := 0) (y := 240) (by decide)
  omega
theorem eox7 : cOk cT0 ey216 6 3 0 0 enx7 := by
  refine (se_ok rfl rfl rfl rfl ⟨rfl, rfl, rfl⟩ (fun ρ hb hc => ?_)).mono (by decide)
  have b0 := cBo_at hb (s := 0) (x := 2) (y := 2) (by decide)
  have b1 := cBo_at hb (s := 1) (x := -1) (y := 8) (by decide)
  omega
theorem eox8 : cOk cT0 ey216 6 3 0 0 enx8 := by
  refine (se_ok rfl rfl rfl rfl ⟨rfl, rfl, rfl⟩ (fun ρ hb hc => ?_)).mono (by decide)
  have b0 := cBo_at hb (s := 0) (x := 3) (y := 6) (by decide)
  have b1 := cBo_at hb (s := 1) (x := -1) (y := 240) (by decide)
  omega
