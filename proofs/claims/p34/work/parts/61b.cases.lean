/-! ===== the law: unit, sum, image, restore ===== -/
theorem dL14 : decode eyL.2.1 544 = .ok (.invokestatic 82, 3) := by decide +kernel
theorem lw_c14 {γ : bG} {b1 b2 b L x m u i nc ns : Nat} {xs : Nat → Int} {g : Nat → Nat} {τ : bt} {h : bh} (C : bC γ eyL (79 + 1) b1 b2) (X : bX γ) (hS : lS γ b L xs) (hX : ∀ j, brg (xs j)) (hL : L ≤ 3072) (hi : i + 6 ≤ L) (hb1 : nc + 46 ≤ b1) (hb2 : ns + 3670 ≤ b2) (hN : ∀ (g : Nat → Nat) (τ : bt) (h : bh) (nc' ns' : Nat) (l5 l6 : Option Value), lJ γ.1 x m u g τ h → nc' ≤ nc + 46 → ns' ≤ ns + 3670 → bJ γ 1072 [some (.ref b), some (.ref x), some (.ref m), some (.ref u), some (.int (bz (i : Int))), l5, l6] [] τ h nc' ns') (hn : γ.2.2.1 = 7) (l5 l6 : Option Value) (F : lJ γ.1 x m u g τ h) : bJ γ 530 [some (.ref b), some (.ref x), some (.ref m), some (.ref u), some (.int (bz (i : Int))), l5, l6] [] τ h nc ns := by
  refine b_al0 C (dk_at ecL14 (i := 0) rfl).1 rfl ?_
  refine b_al0 C (dk_at ecL14 (i := 1) rfl).1 rfl ?_
  refine b_iload C (dk_at ecL14 (i := 2) rfl).1 rfl ?_
  refine b_iconst C (dk_at ecL14 (i := 3) rfl).1 ?_
  refine b_iadd C (dk_at ecL14 (i := 4) rfl).1 ?_
  refine hS _ _ _ _ _ _ _ _ (i + 1) (dk_at ecL14 (i := 5) rfl).1 (by omega) (by omega) ?_
  refine b_al0 C (dk_at ecL14 (i := 6) rfl).1 rfl ?_
  refine b_iload C (dk_at ecL14 (i := 7) rfl).1 rfl ?_
  refine b_iconst C (dk_at ecL14 (i := 8) rfl).1 ?_
  refine b_iadd C (dk_at ecL14 (i := 9) rfl).1 ?_
  refine hS _ _ _ _ _ _ _ _ (i + 2) (dk_at ecL14 (i := 10) rfl).1 (by omega) (by omega) ?_
  refine b_al0 C (dk_at ecL14 (i := 11) rfl).1 rfl ?_
  refine b_insW (As := [.ref x, .int (bz (xs (i + 1))), .int (bz (xs (i + 2))), .ref u]) (rest := []) C X (LU_fun g x u (xs (i + 1)) (xs (i + 2))) (by decide) ⟨bW_of (by decide +kernel) rfl, bW_of (by decide +kernel) rfl, by decide, by decide, by decide⟩ (bW_of (by decide +kernel) rfl) (bW_of (by decide +kernel) rfl) rfl dL14 ⟨rfl, hX _, hX _, F.1.1, F.1.2.1, F.1.2.2.1, F.1.2.2.2.2.1, F.1.2.2.2.2.2⟩ (Nat.le_of_ble_eq_true rfl) (by omega) (by omega) ?_
  rintro v τ1 h1 ⟨g1, z, w1, k1, H1, hz, rfl⟩
  have F1 := F.step w1 k1 H1 (by decide +kernel)
  refine b_istore C (dk_at ecL14 (i := 12) rfl).1 (by rw [hn]; decide) (bno2_of (fun w hw _ => by cases hw; exact (show (1 : Nat) ≠ 2 by decide))) ?_
  refine b_al0 C (dk_at ecL14 (i := 13) rfl).1 rfl ?_
  refine b_al0 C (dk_at ecL14 (i := 14) rfl).1 rfl ?_
  refine b_iload C (dk_at ecL14 (i := 15) rfl).1 rfl ?_
  refine b_iconst C (dk_at ecL14 (i := 16) rfl).1 ?_
  refine b_iadd C (dk_at ecL14 (i := 17) rfl).1 ?_
  refine hS _ _ _ _ _ _ _ _ (i + 1) (dk_at ecL14 (i := 18) rfl).1 (by omega) (by omega) ?_
  refine b_al0 C (dk_at ecL14 (i := 19) rfl).1 rfl ?_
  refine b_iload C (dk_at ecL14 (i := 20) rfl).1 rfl ?_
  refine b_iconst C (dk_at ecL14 (i := 21) rfl).1 ?_
  refine b_iadd C (dk_at ecL14 (i := 22) rfl).1 ?_
  refine hS _ _ _ _ _ _ _ _ (i + 2) (dk_at ecL14 (i := 23) rfl).1 (by omega) (by omega) ?_
  refine b_lcJ (zs := [xs (i + 1), xs (i + 2)]) (rest := []) C X (dk_at ecL14 (i := 24) rfl) (by decide) rfl eor88 (by decide) rfl rfl rfl (fun p hp => absurd hp List.not_mem_nil) rfl (by decide +kernel) F1 F1.1.2.2.2.1 (lz hX [i + 1, i + 2]) (Nat.le_of_ble_eq_true rfl) (by omega) (by omega) (fun z2 g2 τ2 h2 _ _ F2 => ?_)
  refine b_istore C (dk_at ecL14 (i := 25) rfl).1 (by rw [hn]; decide) (bno2_of (fun w hw _ => by cases hw; exact (show (1 : Nat) ≠ 2 by decide))) ?_
  refine b_goto (t := 1072) C (dk_at ecL14 (i := 26) rfl).1 (by decide) ?_
  exact hN _ _ _ _ _ _ _ F2 (by omega) (by omega)
theorem dL19 : decode eyL.2.1 726 = .ok (.invokestatic 105, 3) := by decide +kernel
theorem lw_c19 {γ : bG} {b1 b2 b L x m u i nc ns : Nat} {xs : Nat → Int} {g : Nat → Nat} {τ : bt} {h : bh} (C : bC γ eyL (79 + 1) b1 b2) (X : bX γ) (hS : lS γ b L xs) (hX : ∀ j, brg (xs j)) (hL : L ≤ 3072) (hi : i + 6 ≤ L) (hb1 : nc + 46 ≤ b1) (hb2 : ns + 3670 ≤ b2) (hN : ∀ (g : Nat → Nat) (τ : bt) (h : bh) (nc' ns' : Nat) (l5 l6 : Option Value), lJ γ.1 x m u g τ h → nc' ≤ nc + 46 → ns' ≤ ns + 3670 → bJ γ 1072 [some (.ref b), some (.ref x), some (.ref m), some (.ref u), some (.int (bz (i : Int))), l5, l6] [] τ h nc' ns') (hn : γ.2.2.1 = 7) (l5 l6 : Option Value) (F : lJ γ.1 x m u g τ h) : bJ γ 718 [some (.ref b), some (.ref x), some (.ref m), some (.ref u), some (.int (bz (i : Int))), l5, l6] [] τ h nc ns := by
  refine b_al0 C (dk_at ecL19 (i := 0) rfl).1 rfl ?_
  refine b_al0 C (dk_at ecL19 (i := 1) rfl).1 rfl ?_
  refine b_iload C (dk_at ecL19 (i := 2) rfl).1 rfl ?_
  refine b_iconst C (dk_at ecL19 (i := 3) rfl).1 ?_
  refine b_iadd C (dk_at ecL19 (i := 4) rfl).1 ?_
  refine hS _ _ _ _ _ _ _ _ (i + 1) (dk_at ecL19 (i := 5) rfl).1 (by omega) (by omega) ?_
  refine b_al0 C (dk_at ecL19 (i := 6) rfl).1 rfl ?_
  refine b_insW (As := [.ref x, .int (bz (xs (i + 1))), .ref u]) (rest := []) C X (LS_fun g x u (xs (i + 1))) (by decide) ⟨bW_of (by decide +kernel) rfl, bW_of (by decide +kernel) rfl, by decide, by decide, by decide⟩ (bW_of (by decide +kernel) rfl) (bW_of (by decide +kernel) rfl) rfl dL19 ⟨rfl, hX _, F.1.1, F.1.2.1, F.1.2.2.1, F.1.2.2.2.2.1, F.1.2.2.2.2.2⟩ (Nat.le_of_ble_eq_true rfl) (by omega) (by omega) ?_
  rintro v τ1 h1 ⟨g1, z, w1, k1, H1, hz, rfl⟩
  have F1 := F.step w1 k1 H1 (by decide +kernel)
  refine b_istore C (dk_at ecL19 (i := 7) rfl).1 (by rw [hn]; decide) (bno2_of (fun w hw _ => by cases hw; exact (show (1 : Nat) ≠ 2 by decide))) ?_
  refine b_al0 C (dk_at ecL19 (i := 8) rfl).1 rfl ?_
  refine b_al0 C (dk_at ecL19 (i := 9) rfl).1 rfl ?_
  refine b_iload C (dk_at ecL19 (i := 10) rfl).1 rfl ?_
  refine b_iconst C (dk_at ecL19 (i := 11) rfl).1 ?_
  refine b_iadd C (dk_at ecL19 (i := 12) rfl).1 ?_
  refine hS _ _ _ _ _ _ _ _ (i + 1) (dk_at ecL19 (i := 13) rfl).1 (by omega) (by omega) ?_
  refine b_lcJ (zs := [xs (i + 1)]) (rest := []) C X (dk_at ecL19 (i := 14) rfl) (by decide) rfl eor92 (by decide) rfl rfl rfl (fun p hp => absurd hp List.not_mem_nil) rfl (by decide +kernel) F1 F1.1.2.2.2.1 (lz hX [i + 1]) (Nat.le_of_ble_eq_true rfl) (by omega) (by omega) (fun z2 g2 τ2 h2 _ _ F2 => ?_)
  refine b_istore C (dk_at ecL19 (i := 15) rfl).1 (by rw [hn]; decide) (bno2_of (fun w hw _ => by cases hw; exact (show (1 : Nat) ≠ 2 by decide))) ?_
  refine b_goto (t := 1072) C (dk_at ecL19 (i := 16) rfl).1 (by decide) ?_
  exact hN _ _ _ _ _ _ _ F2 (by omega) (by omega)
theorem lw_c31 {γ : bG} {b1 b2 b L x m u i nc ns : Nat} {xs : Nat → Int} {g : Nat → Nat} {τ : bt} {h : bh} (C : bC γ eyL (79 + 1) b1 b2) (X : bX γ) (hS : lS γ b L xs) (hX : ∀ j, brg (xs j)) (hL : L ≤ 3072) (hi : i + 6 ≤ L) (hb1 : nc + 46 ≤ b1) (hb2 : ns + 3670 ≤ b2) (hN : ∀ (g : Nat → Nat) (τ : bt) (h : bh) (nc' ns' : Nat) (l5 l6 : Option Value), lJ γ.1 x m u g τ h → nc' ≤ nc + 46 → ns' ≤ ns + 3670 → bJ γ 1072 [some (.ref b), some (.ref x), some (.ref m), some (.ref u), some (.int (bz (i : Int))), l5, l6] [] τ h nc' ns') (l5 l6 : Option Value) (F : lJ γ.1 x m u g τ h) : bJ γ 997 [some (.ref b), some (.ref x), some (.ref m), some (.ref u), some (.int (bz (i : Int))), l5, l6] [] τ h nc ns := by
  refine b_al0 C (dk_at ecL31 (i := 0) rfl).1 rfl ?_
  refine b_al0 C (dk_at ecL31 (i := 1) rfl).1 rfl ?_
  refine b_iload C (dk_at ecL31 (i := 2) rfl).1 rfl ?_
  refine b_iconst C (dk_at ecL31 (i := 3) rfl).1 ?_
  refine b_iadd C (dk_at ecL31 (i := 4) rfl).1 ?_
  refine hS _ _ _ _ _ _ _ _ (i + 1) (dk_at ecL31 (i := 5) rfl).1 (by omega) (by omega) ?_
  refine b_lvi (z := xs (i + 1)) (rest := []) C X (dk_at ecL31 (i := 6) rfl) (by decide) rfl (by decide) rfl F (hX _) (Nat.le_of_ble_eq_true rfl) (by omega) (by omega) (fun v1 g1 τ1 h1 F1 M1 => ?_)
  refine b_pop C (dk_at ecL31 (i := 7) rfl).1 rfl ?_
  refine b_al0 C (dk_at ecL31 (i := 8) rfl).1 rfl ?_
  refine b_al0 C (dk_at ecL31 (i := 9) rfl).1 rfl ?_
  refine b_iload C (dk_at ecL31 (i := 10) rfl).1 rfl ?_
  refine b_iconst C (dk_at ecL31 (i := 11) rfl).1 ?_
  refine b_iadd C (dk_at ecL31 (i := 12) rfl).1 ?_
  refine hS _ _ _ _ _ _ _ _ (i + 1) (dk_at ecL31 (i := 13) rfl).1 (by omega) (by omega) ?_
  refine b_lmi (z := xs (i + 1)) (rest := []) C X (dk_at ecL31 (i := 14) rfl) (by decide) rfl (by decide) rfl F1 M1 (hX _) (Nat.le_of_ble_eq_true rfl) (by omega) (by omega) (fun v2 g2 τ2 h2 F2 => ?_)
  refine b_pop C (dk_at ecL31 (i := 15) rfl).1 rfl ?_
  refine b_goto (t := 1072) C (dk_at ecL31 (i := 16) rfl).1 (by decide) ?_
  exact hN _ _ _ _ _ _ _ F2 (by omega) (by omega)
theorem lw_c32 {γ : bG} {b1 b2 b L x m u i nc ns : Nat} {xs : Nat → Int} {g : Nat → Nat} {τ : bt} {h : bh} (C : bC γ eyL (79 + 1) b1 b2) (X : bX γ) (hS : lS γ b L xs) (hX : ∀ j, brg (xs j)) (hL : L ≤ 3072) (hi : i + 6 ≤ L) (hb1 : nc + 46 ≤ b1) (hb2 : ns + 3670 ≤ b2) (hN : ∀ (g : Nat → Nat) (τ : bt) (h : bh) (nc' ns' : Nat) (l5 l6 : Option Value), lJ γ.1 x m u g τ h → nc' ≤ nc + 46 → ns' ≤ ns + 3670 → bJ γ 1072 [some (.ref b), some (.ref x), some (.ref m), some (.ref u), some (.int (bz (i : Int))), l5, l6] [] τ h nc' ns') (l5 l6 : Option Value) (F : lJ γ.1 x m u g τ h) : bJ γ 1022 [some (.ref b), some (.ref x), some (.ref m), some (.ref u), some (.int (bz (i : Int))), l5, l6] [] τ h nc ns := by
  refine b_al0 C (dk_at ecL32 (i := 0) rfl).1 rfl ?_
  refine b_al0 C (dk_at ecL32 (i := 1) rfl).1 rfl ?_
  refine b_iload C (dk_at ecL32 (i := 2) rfl).1 rfl ?_
  refine b_iconst C (dk_at ecL32 (i := 3) rfl).1 ?_
  refine b_iadd C (dk_at ecL32 (i := 4) rfl).1 ?_
  refine hS _ _ _ _ _ _ _ _ (i + 1) (dk_at ecL32 (i := 5) rfl).1 (by omega) (by omega) ?_
  refine b_lvr (z := xs (i + 1)) (rest := []) C X (dk_at ecL32 (i := 6) rfl) (by decide) rfl (by decide) rfl F (hX _) (Nat.le_of_ble_eq_true rfl) (by omega) (by omega) (fun v1 g1 τ1 h1 F1 e1 => ?_)
  refine b_al0 C (dk_at ecL32 (i := 7) rfl).1 rfl ?_
  refine b_al0 C (dk_at ecL32 (i := 8) rfl).1 rfl ?_
  refine b_iload C (dk_at ecL32 (i := 9) rfl).1 rfl ?_
  refine b_iconst C (dk_at ecL32 (i := 10) rfl).1 ?_
  refine b_iadd C (dk_at ecL32 (i := 11) rfl).1 ?_
  refine hS _ _ _ _ _ _ _ _ (i + 1) (dk_at ecL32 (i := 12) rfl).1 (by omega) (by omega) ?_
  refine b_lmr (z := xs (i + 1)) (rest := [.int (bz v1)]) C X (dk_at ecL32 (i := 13) rfl) (by decide) rfl (by decide) rfl F1 (hX _) (Nat.le_of_ble_eq_true rfl) (by omega) (by omega) (fun v2 g2 τ2 h2 F2 e2 => ?_)
  have ev : v1 = v2 ∧ (v2 = 0 ∨ v2 = 1) := by
    obtain ⟨I, B, -, jB, -⟩ := F1.2
    rcases e1 B jB with ⟨a1, a2⟩ | ⟨a1, a2⟩
    · rcases e2 B jB with ⟨b1, b2⟩ | ⟨b1, b2⟩
      · omega
      · exact absurd a2 b2
    · rcases e2 B jB with ⟨b1, b2⟩ | ⟨b1, b2⟩
      · exact absurd b2 a2
      · omega
  refine b_icmp_eq (t := 1072) C (dk_at ecL32 (i := 14) rfl).1 (by decide) ⟨by omega, by omega⟩ ⟨by omega, by omega⟩ (fun e => ?_) (fun e => ?_)
  · exact hN _ _ _ _ _ _ _ F2 (by omega) (by omega)
  · omega
