/-! ===== the law's cases ===== -/
def lS (γ : bG) (b L : Nat) (xs : Nat → Int) : Prop := ∀ (pc : Nat) (lo : List (Option Value)) (st : List Value) (τ : bt) (h : bh) (nc ns : Nat) (z : Int) (j : Nat), decode eyL.2.1 pc = .ok (.iaload, 1) → z = (j : Int) → j < L → bJ γ (pc + 1) lo (.int (bz (xs j)) :: st) τ h nc ns → bJ γ pc lo (.int (bz z) :: .ref b :: st) τ h nc ns
theorem lz {xs : Nat → Int} (hX : ∀ j, brg (xs j)) (js : List Nat) : ∀ z ∈ js.map xs, brg z := by
  intro z hz
  obtain ⟨j, -, rfl⟩ := List.mem_map.mp hz
  exact hX j
theorem lw_c0 {γ : bG} {b1 b2 b L x m u i nc ns : Nat} {xs : Nat → Int} {g : Nat → Nat} {τ : bt} {h : bh} (C : bC γ eyL (79 + 1) b1 b2) (X : bX γ) (hS : lS γ b L xs) (hX : ∀ j, brg (xs j)) (hL : L ≤ 3072) (hi : i + 6 ≤ L) (hb1 : nc + 46 ≤ b1) (hb2 : ns + 3670 ≤ b2) (hN : ∀ (g : Nat → Nat) (τ : bt) (h : bh) (nc' ns' : Nat) (l5 l6 : Option Value), lJ γ.1 x m u g τ h → nc' ≤ nc + 46 → ns' ≤ ns + 3670 → bJ γ 1072 [some (.ref b), some (.ref x), some (.ref m), some (.ref u), some (.int (bz (i : Int))), l5, l6] [] τ h nc' ns') (l5 l6 : Option Value) (F : lJ γ.1 x m u g τ h) : bJ γ 192 [some (.ref b), some (.ref x), some (.ref m), some (.ref u), some (.int (bz (i : Int))), l5, l6] [] τ h nc ns := by
  refine b_al0 C (dk_at ecL0 (i := 0) rfl).1 rfl ?_
  refine b_al0 C (dk_at ecL0 (i := 1) rfl).1 rfl ?_
  refine b_iload C (dk_at ecL0 (i := 2) rfl).1 rfl ?_
  refine b_iconst C (dk_at ecL0 (i := 3) rfl).1 ?_
  refine b_iadd C (dk_at ecL0 (i := 4) rfl).1 ?_
  refine hS _ _ _ _ _ _ _ _ (i + 1) (dk_at ecL0 (i := 5) rfl).1 (by omega) (by omega) ?_
  refine b_al0 C (dk_at ecL0 (i := 6) rfl).1 rfl ?_
  refine b_iload C (dk_at ecL0 (i := 7) rfl).1 rfl ?_
  refine b_iconst C (dk_at ecL0 (i := 8) rfl).1 ?_
  refine b_iadd C (dk_at ecL0 (i := 9) rfl).1 ?_
  refine hS _ _ _ _ _ _ _ _ (i + 2) (dk_at ecL0 (i := 10) rfl).1 (by omega) (by omega) ?_
  refine b_al0 C (dk_at ecL0 (i := 11) rfl).1 rfl ?_
  refine b_iload C (dk_at ecL0 (i := 12) rfl).1 rfl ?_
  refine b_iconst C (dk_at ecL0 (i := 13) rfl).1 ?_
  refine b_iadd C (dk_at ecL0 (i := 14) rfl).1 ?_
  refine hS _ _ _ _ _ _ _ _ (i + 3) (dk_at ecL0 (i := 15) rfl).1 (by omega) (by omega) ?_
  refine b_al0 C (dk_at ecL0 (i := 16) rfl).1 rfl ?_
  refine b_iload C (dk_at ecL0 (i := 17) rfl).1 rfl ?_
  refine b_iconst C (dk_at ecL0 (i := 18) rfl).1 ?_
  refine b_iadd C (dk_at ecL0 (i := 19) rfl).1 ?_
  refine hS _ _ _ _ _ _ _ _ (i + 4) (dk_at ecL0 (i := 20) rfl).1 (by omega) (by omega) ?_
  refine b_al0 C (dk_at ecL0 (i := 21) rfl).1 rfl ?_
  refine b_iload C (dk_at ecL0 (i := 22) rfl).1 rfl ?_
  refine b_iconst C (dk_at ecL0 (i := 23) rfl).1 ?_
  refine b_iadd C (dk_at ecL0 (i := 24) rfl).1 ?_
  refine hS _ _ _ _ _ _ _ _ (i + 5) (dk_at ecL0 (i := 25) rfl).1 (by omega) (by omega) ?_
  refine b_lcJ (zs := [xs (i + 1), xs (i + 2), xs (i + 3), xs (i + 4), xs (i + 5)]) (rest := []) C X (dk_at ecL0 (i := 26) rfl) (by decide) rfl eoc157 (by decide) rfl rfl rfl (fun p hp => absurd hp List.not_mem_nil) rfl (by decide +kernel) F F.1.2.2.1 (lz hX [i + 1, i + 2, i + 3, i + 4, i + 5]) (Nat.le_of_ble_eq_true rfl) (by omega) (by omega) (fun z1 g1 τ1 h1 _ _ F1 => ?_)
  refine b_pop C (dk_at ecL0 (i := 27) rfl).1 rfl ?_
  refine b_al0 C (dk_at ecL0 (i := 28) rfl).1 rfl ?_
  refine b_al0 C (dk_at ecL0 (i := 29) rfl).1 rfl ?_
  refine b_iload C (dk_at ecL0 (i := 30) rfl).1 rfl ?_
  refine b_iconst C (dk_at ecL0 (i := 31) rfl).1 ?_
  refine b_iadd C (dk_at ecL0 (i := 32) rfl).1 ?_
  refine hS _ _ _ _ _ _ _ _ (i + 1) (dk_at ecL0 (i := 33) rfl).1 (by omega) (by omega) ?_
  refine b_al0 C (dk_at ecL0 (i := 34) rfl).1 rfl ?_
  refine b_iload C (dk_at ecL0 (i := 35) rfl).1 rfl ?_
  refine b_iconst C (dk_at ecL0 (i := 36) rfl).1 ?_
  refine b_iadd C (dk_at ecL0 (i := 37) rfl).1 ?_
  refine hS _ _ _ _ _ _ _ _ (i + 2) (dk_at ecL0 (i := 38) rfl).1 (by omega) (by omega) ?_
  refine b_al0 C (dk_at ecL0 (i := 39) rfl).1 rfl ?_
  refine b_iload C (dk_at ecL0 (i := 40) rfl).1 rfl ?_
  refine b_iconst C (dk_at ecL0 (i := 41) rfl).1 ?_
  refine b_iadd C (dk_at ecL0 (i := 42) rfl).1 ?_
  refine hS _ _ _ _ _ _ _ _ (i + 3) (dk_at ecL0 (i := 43) rfl).1 (by omega) (by omega) ?_
  refine b_al0 C (dk_at ecL0 (i := 44) rfl).1 rfl ?_
  refine b_iload C (dk_at ecL0 (i := 45) rfl).1 rfl ?_
  refine b_iconst C (dk_at ecL0 (i := 46) rfl).1 ?_
  refine b_iadd C (dk_at ecL0 (i := 47) rfl).1 ?_
  refine hS _ _ _ _ _ _ _ _ (i + 4) (dk_at ecL0 (i := 48) rfl).1 (by omega) (by omega) ?_
  refine b_al0 C (dk_at ecL0 (i := 49) rfl).1 rfl ?_
  refine b_iload C (dk_at ecL0 (i := 50) rfl).1 rfl ?_
  refine b_iconst C (dk_at ecL0 (i := 51) rfl).1 ?_
  refine b_iadd C (dk_at ecL0 (i := 52) rfl).1 ?_
  refine hS _ _ _ _ _ _ _ _ (i + 5) (dk_at ecL0 (i := 53) rfl).1 (by omega) (by omega) ?_
  refine b_lcJ (zs := [xs (i + 1), xs (i + 2), xs (i + 3), xs (i + 4), xs (i + 5)]) (rest := []) C X (dk_at ecL0 (i := 54) rfl) (by decide) rfl eor10 (by decide) rfl rfl rfl (fun p hp => absurd hp List.not_mem_nil) rfl (by decide +kernel) F1 F1.1.2.2.2.1 (lz hX [i + 1, i + 2, i + 3, i + 4, i + 5]) (Nat.le_of_ble_eq_true rfl) (by omega) (by omega) (fun z2 g2 τ2 h2 _ _ F2 => ?_)
  refine b_pop C (dk_at ecL0 (i := 55) rfl).1 rfl ?_
  refine b_goto (t := 1072) C (dk_at ecL0 (i := 56) rfl).1 (by decide) ?_
  exact hN _ _ _ _ _ _ _ F2 (by omega) (by omega)
theorem lw_c1 {γ : bG} {b1 b2 b L x m u i nc ns : Nat} {xs : Nat → Int} {g : Nat → Nat} {τ : bt} {h : bh} (C : bC γ eyL (79 + 1) b1 b2) (X : bX γ) (hS : lS γ b L xs) (hX : ∀ j, brg (xs j)) (hL : L ≤ 3072) (hi : i + 6 ≤ L) (hb1 : nc + 46 ≤ b1) (hb2 : ns + 3670 ≤ b2) (hN : ∀ (g : Nat → Nat) (τ : bt) (h : bh) (nc' ns' : Nat) (l5 l6 : Option Value), lJ γ.1 x m u g τ h → nc' ≤ nc + 46 → ns' ≤ ns + 3670 → bJ γ 1072 [some (.ref b), some (.ref x), some (.ref m), some (.ref u), some (.int (bz (i : Int))), l5, l6] [] τ h nc' ns') (l5 l6 : Option Value) (F : lJ γ.1 x m u g τ h) : bJ γ 265 [some (.ref b), some (.ref x), some (.ref m), some (.ref u), some (.int (bz (i : Int))), l5, l6] [] τ h nc ns := by
  refine b_al0 C (dk_at ecL1 (i := 0) rfl).1 rfl ?_
  refine b_al0 C (dk_at ecL1 (i := 1) rfl).1 rfl ?_
  refine b_iload C (dk_at ecL1 (i := 2) rfl).1 rfl ?_
  refine b_iconst C (dk_at ecL1 (i := 3) rfl).1 ?_
  refine b_iadd C (dk_at ecL1 (i := 4) rfl).1 ?_
  refine hS _ _ _ _ _ _ _ _ (i + 1) (dk_at ecL1 (i := 5) rfl).1 (by omega) (by omega) ?_
  refine b_lcJ (zs := [xs (i + 1)]) (rest := []) C X (dk_at ecL1 (i := 6) rfl) (by decide) rfl eoc158 (by decide) rfl rfl rfl (fun p hp => absurd hp List.not_mem_nil) rfl (by decide +kernel) F F.1.2.2.1 (lz hX [i + 1]) (Nat.le_of_ble_eq_true rfl) (by omega) (by omega) (fun z1 g1 τ1 h1 _ _ F1 => ?_)
  refine b_pop C (dk_at ecL1 (i := 7) rfl).1 rfl ?_
  refine b_al0 C (dk_at ecL1 (i := 8) rfl).1 rfl ?_
  refine b_al0 C (dk_at ecL1 (i := 9) rfl).1 rfl ?_
  refine b_iload C (dk_at ecL1 (i := 10) rfl).1 rfl ?_
  refine b_iconst C (dk_at ecL1 (i := 11) rfl).1 ?_
  refine b_iadd C (dk_at ecL1 (i := 12) rfl).1 ?_
  refine hS _ _ _ _ _ _ _ _ (i + 1) (dk_at ecL1 (i := 13) rfl).1 (by omega) (by omega) ?_
  refine b_lcJ (zs := [xs (i + 1)]) (rest := []) C X (dk_at ecL1 (i := 14) rfl) (by decide) rfl eor11 (by decide) rfl rfl rfl (fun p hp => absurd hp List.not_mem_nil) rfl (by decide +kernel) F1 F1.1.2.2.2.1 (lz hX [i + 1]) (Nat.le_of_ble_eq_true rfl) (by omega) (by omega) (fun z2 g2 τ2 h2 _ _ F2 => ?_)
  refine b_pop C (dk_at ecL1 (i := 15) rfl).1 rfl ?_
  refine b_goto (t := 1072) C (dk_at ecL1 (i := 16) rfl).1 (by decide) ?_
  exact hN _ _ _ _ _ _ _ F2 (by omega) (by omega)
theorem lw_c2 {γ : bG} {b1 b2 b L x m u i nc ns : Nat} {xs : Nat → Int} {g : Nat → Nat} {τ : bt} {h : bh} (C : bC γ eyL (79 + 1) b1 b2) (X : bX γ) (hS : lS γ b L xs) (hX : ∀ j, brg (xs j)) (hL : L ≤ 3072) (hi : i + 6 ≤ L) (hb1 : nc + 46 ≤ b1) (hb2 : ns + 3670 ≤ b2) (hN : ∀ (g : Nat → Nat) (τ : bt) (h : bh) (nc' ns' : Nat) (l5 l6 : Option Value), lJ γ.1 x m u g τ h → nc' ≤ nc + 46 → ns' ≤ ns + 3670 → bJ γ 1072 [some (.ref b), some (.ref x), some (.ref m), some (.ref u), some (.int (bz (i : Int))), l5, l6] [] τ h nc' ns') (l5 l6 : Option Value) (F : lJ γ.1 x m u g τ h) : bJ γ 290 [some (.ref b), some (.ref x), some (.ref m), some (.ref u), some (.int (bz (i : Int))), l5, l6] [] τ h nc ns := by
  refine b_al0 C (dk_at ecL2 (i := 0) rfl).1 rfl ?_
  refine b_lcJ (zs := []) (rest := []) C X (dk_at ecL2 (i := 1) rfl) (by decide) rfl eoc160 (by decide) rfl rfl rfl (fun p hp => absurd hp List.not_mem_nil) rfl (by decide +kernel) F F.1.2.2.1 (lz hX []) (Nat.le_of_ble_eq_true rfl) (by omega) (by omega) (fun z1 g1 τ1 h1 _ _ F1 => ?_)
  refine b_pop C (dk_at ecL2 (i := 2) rfl).1 rfl ?_
  refine b_al0 C (dk_at ecL2 (i := 3) rfl).1 rfl ?_
  refine b_lo (rest := []) C X (dk_at ecL2 (i := 4) rfl) (by decide) rfl (by decide) rfl F1 (Nat.le_of_ble_eq_true rfl) (by omega) (by omega) (fun z2 g2 τ2 h2 _ F2 => ?_)
  refine b_pop C (dk_at ecL2 (i := 5) rfl).1 rfl ?_
  refine b_goto (t := 1072) C (dk_at ecL2 (i := 6) rfl).1 (by decide) ?_
  exact hN _ _ _ _ _ _ _ F2 (by omega) (by omega)
theorem lw_c3 {γ : bG} {b1 b2 b L x m u i nc ns : Nat} {xs : Nat → Int} {g : Nat → Nat} {τ : bt} {h : bh} (C : bC γ eyL (79 + 1) b1 b2) (X : bX γ) (hS : lS γ b L xs) (hX : ∀ j, brg (xs j)) (hL : L ≤ 3072) (hi : i + 6 ≤ L) (hb1 : nc + 46 ≤ b1) (hb2 : ns + 3670 ≤ b2) (hN : ∀ (g : Nat → Nat) (τ : bt) (h : bh) (nc' ns' : Nat) (l5 l6 : Option Value), lJ γ.1 x m u g τ h → nc' ≤ nc + 46 → ns' ≤ ns + 3670 → bJ γ 1072 [some (.ref b), some (.ref x), some (.ref m), some (.ref u), some (.int (bz (i : Int))), l5, l6] [] τ h nc' ns') (l5 l6 : Option Value) (F : lJ γ.1 x m u g τ h) : bJ γ 303 [some (.ref b), some (.ref x), some (.ref m), some (.ref u), some (.int (bz (i : Int))), l5, l6] [] τ h nc ns := by
  refine b_al0 C (dk_at ecL3 (i := 0) rfl).1 rfl ?_
  refine b_lcJ (zs := []) (rest := []) C X (dk_at ecL3 (i := 1) rfl) (by decide) rfl eoc161 (by decide) rfl rfl rfl (fun p hp => absurd hp List.not_mem_nil) rfl (by decide +kernel) F F.1.2.2.1 (lz hX []) (Nat.le_of_ble_eq_true rfl) (by omega) (by omega) (fun z1 g1 τ1 h1 _ _ F1 => ?_)
  refine b_pop C (dk_at ecL3 (i := 2) rfl).1 rfl ?_
  refine b_al0 C (dk_at ecL3 (i := 3) rfl).1 rfl ?_
  refine b_lcJ (zs := []) (rest := []) C X (dk_at ecL3 (i := 4) rfl) (by decide) rfl eor12 (by decide) rfl rfl rfl (fun p hp => absurd hp List.not_mem_nil) rfl (by decide +kernel) F1 F1.1.2.2.2.1 (lz hX []) (Nat.le_of_ble_eq_true rfl) (by omega) (by omega) (fun z2 g2 τ2 h2 _ _ F2 => ?_)
  refine b_pop C (dk_at ecL3 (i := 5) rfl).1 rfl ?_
  refine b_goto (t := 1072) C (dk_at ecL3 (i := 6) rfl).1 (by decide) ?_
  exact hN _ _ _ _ _ _ _ F2 (by omega) (by omega)
theorem lw_c4 {γ : bG} {b1 b2 b L x m u i nc ns : Nat} {xs : Nat → Int} {g : Nat → Nat} {τ : bt} {h : bh} (C : bC γ eyL (79 + 1) b1 b2) (X : bX γ) (hS : lS γ b L xs) (hX : ∀ j, brg (xs j)) (hL : L ≤ 3072) (hi : i + 6 ≤ L) (hb1 : nc + 46 ≤ b1) (hb2 : ns + 3670 ≤ b2) (hN : ∀ (g : Nat → Nat) (τ : bt) (h : bh) (nc' ns' : Nat) (l5 l6 : Option Value), lJ γ.1 x m u g τ h → nc' ≤ nc + 46 → ns' ≤ ns + 3670 → bJ γ 1072 [some (.ref b), some (.ref x), some (.ref m), some (.ref u), some (.int (bz (i : Int))), l5, l6] [] τ h nc' ns') (l5 l6 : Option Value) (F : lJ γ.1 x m u g τ h) : bJ γ 316 [some (.ref b), some (.ref x), some (.ref m), some (.ref u), some (.int (bz (i : Int))), l5, l6] [] τ h nc ns := by
  refine b_al0 C (dk_at ecL4 (i := 0) rfl).1 rfl ?_
  refine b_lv (zs := []) (rest := []) C X (dk_at ecL4 (i := 1) rfl) (by decide) rfl eovfile (by decide) rfl rfl rfl rfl rfl (by decide +kernel) F (lz hX []) (Nat.le_of_ble_eq_true rfl) (by omega) (by omega) (fun z1 g1 τ1 h1 _ F1 => ?_)
  refine b_pop C (dk_at ecL4 (i := 2) rfl).1 rfl ?_
  refine b_al0 C (dk_at ecL4 (i := 3) rfl).1 rfl ?_
  refine b_lcJ (zs := []) (rest := []) C X (dk_at ecL4 (i := 4) rfl) (by decide) rfl eor72 (by decide) rfl rfl rfl (fun p hp => absurd hp List.not_mem_nil) rfl (by decide +kernel) F1 F1.1.2.2.2.1 (lz hX []) (Nat.le_of_ble_eq_true rfl) (by omega) (by omega) (fun z2 g2 τ2 h2 _ _ F2 => ?_)
  refine b_pop C (dk_at ecL4 (i := 5) rfl).1 rfl ?_
  refine b_goto (t := 1072) C (dk_at ecL4 (i := 6) rfl).1 (by decide) ?_
  exact hN _ _ _ _ _ _ _ F2 (by omega) (by omega)
theorem lw_c5 {γ : bG} {b1 b2 b L x m u i nc ns : Nat} {xs : Nat → Int} {g : Nat → Nat} {τ : bt} {h : bh} (C : bC γ eyL (79 + 1) b1 b2) (X : bX γ) (hS : lS γ b L xs) (hX : ∀ j, brg (xs j)) (hL : L ≤ 3072) (hi : i + 6 ≤ L) (hb1 : nc + 46 ≤ b1) (hb2 : ns + 3670 ≤ b2) (hN : ∀ (g : Nat → Nat) (τ : bt) (h : bh) (nc' ns' : Nat) (l5 l6 : Option Value), lJ γ.1 x m u g τ h → nc' ≤ nc + 46 → ns' ≤ ns + 3670 → bJ γ 1072 [some (.ref b), some (.ref x), some (.ref m), some (.ref u), some (.int (bz (i : Int))), l5, l6] [] τ h nc' ns') (l5 l6 : Option Value) (F : lJ γ.1 x m u g τ h) : bJ γ 329 [some (.ref b), some (.ref x), some (.ref m), some (.ref u), some (.int (bz (i : Int))), l5, l6] [] τ h nc ns := by
  refine b_al0 C (dk_at ecL5 (i := 0) rfl).1 rfl ?_
  refine b_al0 C (dk_at ecL5 (i := 1) rfl).1 rfl ?_
  refine b_iload C (dk_at ecL5 (i := 2) rfl).1 rfl ?_
  refine b_iconst C (dk_at ecL5 (i := 3) rfl).1 ?_
  refine b_iadd C (dk_at ecL5 (i := 4) rfl).1 ?_
  refine hS _ _ _ _ _ _ _ _ (i + 1) (dk_at ecL5 (i := 5) rfl).1 (by omega) (by omega) ?_
  refine b_lv (zs := [xs (i + 1)]) (rest := []) C X (dk_at ecL5 (i := 6) rfl) (by decide) rfl eovticks (by decide) rfl rfl rfl rfl rfl (by decide +kernel) F (lz hX [i + 1]) (Nat.le_of_ble_eq_true rfl) (by omega) (by omega) (fun z1 g1 τ1 h1 _ F1 => ?_)
  refine b_pop C (dk_at ecL5 (i := 7) rfl).1 rfl ?_
  refine b_al0 C (dk_at ecL5 (i := 8) rfl).1 rfl ?_
  refine b_al0 C (dk_at ecL5 (i := 9) rfl).1 rfl ?_
  refine b_iload C (dk_at ecL5 (i := 10) rfl).1 rfl ?_
  refine b_iconst C (dk_at ecL5 (i := 11) rfl).1 ?_
  refine b_iadd C (dk_at ecL5 (i := 12) rfl).1 ?_
  refine hS _ _ _ _ _ _ _ _ (i + 1) (dk_at ecL5 (i := 13) rfl).1 (by omega) (by omega) ?_
  refine b_lcJ (zs := [xs (i + 1)]) (rest := []) C X (dk_at ecL5 (i := 14) rfl) (by decide) rfl eor73 (by decide) rfl rfl rfl (fun p hp => absurd hp List.not_mem_nil) rfl (by decide +kernel) F1 F1.1.2.2.2.1 (lz hX [i + 1]) (Nat.le_of_ble_eq_true rfl) (by omega) (by omega) (fun z2 g2 τ2 h2 _ _ F2 => ?_)
  refine b_pop C (dk_at ecL5 (i := 15) rfl).1 rfl ?_
  refine b_goto (t := 1072) C (dk_at ecL5 (i := 16) rfl).1 (by decide) ?_
  exact hN _ _ _ _ _ _ _ F2 (by omega) (by omega)
theorem lw_c6 {γ : bG} {b1 b2 b L x m u i nc ns : Nat} {xs : Nat → Int} {g : Nat → Nat} {τ : bt} {h : bh} (C : bC γ eyL (79 + 1) b1 b2) (X : bX γ) (hS : lS γ b L xs) (hX : ∀ j, brg (xs j)) (hL : L ≤ 3072) (hi : i + 6 ≤ L) (hb1 : nc + 46 ≤ b1) (hb2 : ns + 3670 ≤ b2) (hN : ∀ (g : Nat → Nat) (τ : bt) (h : bh) (nc' ns' : Nat) (l5 l6 : Option Value), lJ γ.1 x m u g τ h → nc' ≤ nc + 46 → ns' ≤ ns + 3670 → bJ γ 1072 [some (.ref b), some (.ref x), some (.ref m), some (.ref u), some (.int (bz (i : Int))), l5, l6] [] τ h nc' ns') (l5 l6 : Option Value) (F : lJ γ.1 x m u g τ h) : bJ γ 354 [some (.ref b), some (.ref x), some (.ref m), some (.ref u), some (.int (bz (i : Int))), l5, l6] [] τ h nc ns := by
  refine b_al0 C (dk_at ecL6 (i := 0) rfl).1 rfl ?_
  refine b_al0 C (dk_at ecL6 (i := 1) rfl).1 rfl ?_
  refine b_iload C (dk_at ecL6 (i := 2) rfl).1 rfl ?_
  refine b_iconst C (dk_at ecL6 (i := 3) rfl).1 ?_
  refine b_iadd C (dk_at ecL6 (i := 4) rfl).1 ?_
  refine hS _ _ _ _ _ _ _ _ (i + 1) (dk_at ecL6 (i := 5) rfl).1 (by omega) (by omega) ?_
  refine b_lv (zs := [xs (i + 1)]) (rest := []) C X (dk_at ecL6 (i := 6) rfl) (by decide) rfl eovlose (by decide) rfl rfl rfl rfl rfl (by decide +kernel) F (lz hX [i + 1]) (Nat.le_of_ble_eq_true rfl) (by omega) (by omega) (fun z1 g1 τ1 h1 _ F1 => ?_)
  refine b_pop C (dk_at ecL6 (i := 7) rfl).1 rfl ?_
  refine b_al0 C (dk_at ecL6 (i := 8) rfl).1 rfl ?_
  refine b_al0 C (dk_at ecL6 (i := 9) rfl).1 rfl ?_
  refine b_iload C (dk_at ecL6 (i := 10) rfl).1 rfl ?_
  refine b_iconst C (dk_at ecL6 (i := 11) rfl).1 ?_
  refine b_iadd C (dk_at ecL6 (i := 12) rfl).1 ?_
  refine hS _ _ _ _ _ _ _ _ (i + 1) (dk_at ecL6 (i := 13) rfl).1 (by omega) (by omega) ?_
  refine b_lcJ (zs := [xs (i + 1)]) (rest := []) C X (dk_at ecL6 (i := 14) rfl) (by decide) rfl eor79 (by decide) rfl rfl rfl (fun p hp => absurd hp List.not_mem_nil) rfl (by decide +kernel) F1 F1.1.2.2.2.1 (lz hX [i + 1]) (Nat.le_of_ble_eq_true rfl) (by omega) (by omega) (fun z2 g2 τ2 h2 _ _ F2 => ?_)
  refine b_pop C (dk_at ecL6 (i := 15) rfl).1 rfl ?_
  refine b_goto (t := 1072) C (dk_at ecL6 (i := 16) rfl).1 (by decide) ?_
  exact hN _ _ _ _ _ _ _ F2 (by omega) (by omega)
theorem lw_c7 {γ : bG} {b1 b2 b L x m u i nc ns : Nat} {xs : Nat → Int} {g : Nat → Nat} {τ : bt} {h : bh} (C : bC γ eyL (79 + 1) b1 b2) (X : bX γ) (hS : lS γ b L xs) (hX : ∀ j, brg (xs j)) (hL : L ≤ 3072) (hi : i + 6 ≤ L) (hb1 : nc + 46 ≤ b1) (hb2 : ns + 3670 ≤ b2) (hN : ∀ (g : Nat → Nat) (τ : bt) (h : bh) (nc' ns' : Nat) (l5 l6 : Option Value), lJ γ.1 x m u g τ h → nc' ≤ nc + 46 → ns' ≤ ns + 3670 → bJ γ 1072 [some (.ref b), some (.ref x), some (.ref m), some (.ref u), some (.int (bz (i : Int))), l5, l6] [] τ h nc' ns') (l5 l6 : Option Value) (F : lJ γ.1 x m u g τ h) : bJ γ 379 [some (.ref b), some (.ref x), some (.ref m), some (.ref u), some (.int (bz (i : Int))), l5, l6] [] τ h nc ns := by
  refine b_al0 C (dk_at ecL7 (i := 0) rfl).1 rfl ?_
  refine b_al0 C (dk_at ecL7 (i := 1) rfl).1 rfl ?_
  refine b_iload C (dk_at ecL7 (i := 2) rfl).1 rfl ?_
  refine b_iconst C (dk_at ecL7 (i := 3) rfl).1 ?_
  refine b_iadd C (dk_at ecL7 (i := 4) rfl).1 ?_
  refine hS _ _ _ _ _ _ _ _ (i + 1) (dk_at ecL7 (i := 5) rfl).1 (by omega) (by omega) ?_
  refine b_lv (zs := [xs (i + 1)]) (rest := []) C X (dk_at ecL7 (i := 6) rfl) (by decide) rfl eovtwice (by decide) rfl rfl rfl rfl rfl (by decide +kernel) F (lz hX [i + 1]) (Nat.le_of_ble_eq_true rfl) (by omega) (by omega) (fun z1 g1 τ1 h1 _ F1 => ?_)
  refine b_pop C (dk_at ecL7 (i := 7) rfl).1 rfl ?_
  refine b_al0 C (dk_at ecL7 (i := 8) rfl).1 rfl ?_
  refine b_al0 C (dk_at ecL7 (i := 9) rfl).1 rfl ?_
  refine b_iload C (dk_at ecL7 (i := 10) rfl).1 rfl ?_
  refine b_iconst C (dk_at ecL7 (i := 11) rfl).1 ?_
  refine b_iadd C (dk_at ecL7 (i := 12) rfl).1 ?_
  refine hS _ _ _ _ _ _ _ _ (i + 1) (dk_at ecL7 (i := 13) rfl).1 (by omega) (by omega) ?_
  refine b_lcJ (zs := [xs (i + 1)]) (rest := []) C X (dk_at ecL7 (i := 14) rfl) (by decide) rfl eor80 (by decide) rfl rfl rfl (fun p hp => absurd hp List.not_mem_nil) rfl (by decide +kernel) F1 F1.1.2.2.2.1 (lz hX [i + 1]) (Nat.le_of_ble_eq_true rfl) (by omega) (by omega) (fun z2 g2 τ2 h2 _ _ F2 => ?_)
  refine b_pop C (dk_at ecL7 (i := 15) rfl).1 rfl ?_
  refine b_goto (t := 1072) C (dk_at ecL7 (i := 16) rfl).1 (by decide) ?_
  exact hN _ _ _ _ _ _ _ F2 (by omega) (by omega)
theorem lw_c8 {γ : bG} {b1 b2 b L x m u i nc ns : Nat} {xs : Nat → Int} {g : Nat → Nat} {τ : bt} {h : bh} (C : bC γ eyL (79 + 1) b1 b2) (X : bX γ) (hS : lS γ b L xs) (hX : ∀ j, brg (xs j)) (hL : L ≤ 3072) (hi : i + 6 ≤ L) (hb1 : nc + 46 ≤ b1) (hb2 : ns + 3670 ≤ b2) (hN : ∀ (g : Nat → Nat) (τ : bt) (h : bh) (nc' ns' : Nat) (l5 l6 : Option Value), lJ γ.1 x m u g τ h → nc' ≤ nc + 46 → ns' ≤ ns + 3670 → bJ γ 1072 [some (.ref b), some (.ref x), some (.ref m), some (.ref u), some (.int (bz (i : Int))), l5, l6] [] τ h nc' ns') (l5 l6 : Option Value) (F : lJ γ.1 x m u g τ h) : bJ γ 404 [some (.ref b), some (.ref x), some (.ref m), some (.ref u), some (.int (bz (i : Int))), l5, l6] [] τ h nc ns := by
  refine b_al0 C (dk_at ecL8 (i := 0) rfl).1 rfl ?_
  refine b_al0 C (dk_at ecL8 (i := 1) rfl).1 rfl ?_
  refine b_iload C (dk_at ecL8 (i := 2) rfl).1 rfl ?_
  refine b_iconst C (dk_at ecL8 (i := 3) rfl).1 ?_
  refine b_iadd C (dk_at ecL8 (i := 4) rfl).1 ?_
  refine hS _ _ _ _ _ _ _ _ (i + 1) (dk_at ecL8 (i := 5) rfl).1 (by omega) (by omega) ?_
  refine b_al0 C (dk_at ecL8 (i := 6) rfl).1 rfl ?_
  refine b_iload C (dk_at ecL8 (i := 7) rfl).1 rfl ?_
  refine b_iconst C (dk_at ecL8 (i := 8) rfl).1 ?_
  refine b_iadd C (dk_at ecL8 (i := 9) rfl).1 ?_
  refine hS _ _ _ _ _ _ _ _ (i + 2) (dk_at ecL8 (i := 10) rfl).1 (by omega) (by omega) ?_
  refine b_lv (zs := [xs (i + 1), xs (i + 2)]) (rest := []) C X (dk_at ecL8 (i := 11) rfl) (by decide) rfl eovlate (by decide) rfl rfl rfl rfl rfl (by decide +kernel) F (lz hX [i + 1, i + 2]) (Nat.le_of_ble_eq_true rfl) (by omega) (by omega) (fun z1 g1 τ1 h1 _ F1 => ?_)
  refine b_pop C (dk_at ecL8 (i := 12) rfl).1 rfl ?_
  refine b_al0 C (dk_at ecL8 (i := 13) rfl).1 rfl ?_
  refine b_al0 C (dk_at ecL8 (i := 14) rfl).1 rfl ?_
  refine b_iload C (dk_at ecL8 (i := 15) rfl).1 rfl ?_
  refine b_iconst C (dk_at ecL8 (i := 16) rfl).1 ?_
  refine b_iadd C (dk_at ecL8 (i := 17) rfl).1 ?_
  refine hS _ _ _ _ _ _ _ _ (i + 1) (dk_at ecL8 (i := 18) rfl).1 (by omega) (by omega) ?_
  refine b_al0 C (dk_at ecL8 (i := 19) rfl).1 rfl ?_
  refine b_iload C (dk_at ecL8 (i := 20) rfl).1 rfl ?_
  refine b_iconst C (dk_at ecL8 (i := 21) rfl).1 ?_
  refine b_iadd C (dk_at ecL8 (i := 22) rfl).1 ?_
  refine hS _ _ _ _ _ _ _ _ (i + 2) (dk_at ecL8 (i := 23) rfl).1 (by omega) (by omega) ?_
  refine b_lcJ (zs := [xs (i + 1), xs (i + 2)]) (rest := []) C X (dk_at ecL8 (i := 24) rfl) (by decide) rfl eor81 (by decide) rfl rfl rfl (fun p hp => absurd hp List.not_mem_nil) rfl (by decide +kernel) F1 F1.1.2.2.2.1 (lz hX [i + 1, i + 2]) (Nat.le_of_ble_eq_true rfl) (by omega) (by omega) (fun z2 g2 τ2 h2 _ _ F2 => ?_)
  refine b_pop C (dk_at ecL8 (i := 25) rfl).1 rfl ?_
  refine b_goto (t := 1072) C (dk_at ecL8 (i := 26) rfl).1 (by decide) ?_
  exact hN _ _ _ _ _ _ _ F2 (by omega) (by omega)
theorem lw_c9 {γ : bG} {b1 b2 b L x m u i nc ns : Nat} {xs : Nat → Int} {g : Nat → Nat} {τ : bt} {h : bh} (C : bC γ eyL (79 + 1) b1 b2) (X : bX γ) (hS : lS γ b L xs) (hX : ∀ j, brg (xs j)) (hL : L ≤ 3072) (hi : i + 6 ≤ L) (hb1 : nc + 46 ≤ b1) (hb2 : ns + 3670 ≤ b2) (hN : ∀ (g : Nat → Nat) (τ : bt) (h : bh) (nc' ns' : Nat) (l5 l6 : Option Value), lJ γ.1 x m u g τ h → nc' ≤ nc + 46 → ns' ≤ ns + 3670 → bJ γ 1072 [some (.ref b), some (.ref x), some (.ref m), some (.ref u), some (.int (bz (i : Int))), l5, l6] [] τ h nc' ns') (l5 l6 : Option Value) (F : lJ γ.1 x m u g τ h) : bJ γ 441 [some (.ref b), some (.ref x), some (.ref m), some (.ref u), some (.int (bz (i : Int))), l5, l6] [] τ h nc ns := by
  refine b_al0 C (dk_at ecL9 (i := 0) rfl).1 rfl ?_
  refine b_al0 C (dk_at ecL9 (i := 1) rfl).1 rfl ?_
  refine b_iload C (dk_at ecL9 (i := 2) rfl).1 rfl ?_
  refine b_iconst C (dk_at ecL9 (i := 3) rfl).1 ?_
  refine b_iadd C (dk_at ecL9 (i := 4) rfl).1 ?_
  refine hS _ _ _ _ _ _ _ _ (i + 1) (dk_at ecL9 (i := 5) rfl).1 (by omega) (by omega) ?_
  refine b_lv (zs := [xs (i + 1)]) (rest := []) C X (dk_at ecL9 (i := 6) rfl) (by decide) rfl eovspoil (by decide) rfl rfl rfl rfl rfl (by decide +kernel) F (lz hX [i + 1]) (Nat.le_of_ble_eq_true rfl) (by omega) (by omega) (fun z1 g1 τ1 h1 _ F1 => ?_)
  refine b_pop C (dk_at ecL9 (i := 7) rfl).1 rfl ?_
  refine b_al0 C (dk_at ecL9 (i := 8) rfl).1 rfl ?_
  refine b_al0 C (dk_at ecL9 (i := 9) rfl).1 rfl ?_
  refine b_iload C (dk_at ecL9 (i := 10) rfl).1 rfl ?_
  refine b_iconst C (dk_at ecL9 (i := 11) rfl).1 ?_
  refine b_iadd C (dk_at ecL9 (i := 12) rfl).1 ?_
  refine hS _ _ _ _ _ _ _ _ (i + 1) (dk_at ecL9 (i := 13) rfl).1 (by omega) (by omega) ?_
  refine b_lcJ (zs := [xs (i + 1)]) (rest := []) C X (dk_at ecL9 (i := 14) rfl) (by decide) rfl eor82 (by decide) rfl rfl rfl (fun p hp => absurd hp List.not_mem_nil) rfl (by decide +kernel) F1 F1.1.2.2.2.1 (lz hX [i + 1]) (Nat.le_of_ble_eq_true rfl) (by omega) (by omega) (fun z2 g2 τ2 h2 _ _ F2 => ?_)
  refine b_pop C (dk_at ecL9 (i := 15) rfl).1 rfl ?_
  refine b_goto (t := 1072) C (dk_at ecL9 (i := 16) rfl).1 (by decide) ?_
  exact hN _ _ _ _ _ _ _ F2 (by omega) (by omega)
theorem lw_c10 {γ : bG} {b1 b2 b L x m u i nc ns : Nat} {xs : Nat → Int} {g : Nat → Nat} {τ : bt} {h : bh} (C : bC γ eyL (79 + 1) b1 b2) (X : bX γ) (hS : lS γ b L xs) (hX : ∀ j, brg (xs j)) (hL : L ≤ 3072) (hi : i + 6 ≤ L) (hb1 : nc + 46 ≤ b1) (hb2 : ns + 3670 ≤ b2) (hN : ∀ (g : Nat → Nat) (τ : bt) (h : bh) (nc' ns' : Nat) (l5 l6 : Option Value), lJ γ.1 x m u g τ h → nc' ≤ nc + 46 → ns' ≤ ns + 3670 → bJ γ 1072 [some (.ref b), some (.ref x), some (.ref m), some (.ref u), some (.int (bz (i : Int))), l5, l6] [] τ h nc' ns') (l5 l6 : Option Value) (F : lJ γ.1 x m u g τ h) : bJ γ 466 [some (.ref b), some (.ref x), some (.ref m), some (.ref u), some (.int (bz (i : Int))), l5, l6] [] τ h nc ns := by
  refine b_al0 C (dk_at ecL10 (i := 0) rfl).1 rfl ?_
  refine b_lv (zs := []) (rest := []) C X (dk_at ecL10 (i := 1) rfl) (by decide) rfl eovprompt (by decide) rfl rfl rfl rfl rfl (by decide +kernel) F (lz hX []) (Nat.le_of_ble_eq_true rfl) (by omega) (by omega) (fun z1 g1 τ1 h1 _ F1 => ?_)
  refine b_pop C (dk_at ecL10 (i := 2) rfl).1 rfl ?_
  refine b_al0 C (dk_at ecL10 (i := 3) rfl).1 rfl ?_
  refine b_lcJ (zs := []) (rest := []) C X (dk_at ecL10 (i := 4) rfl) (by decide) rfl eor83 (by decide) rfl rfl rfl (fun p hp => absurd hp List.not_mem_nil) rfl (by decide +kernel) F1 F1.1.2.2.2.1 (lz hX []) (Nat.le_of_ble_eq_true rfl) (by omega) (by omega) (fun z2 g2 τ2 h2 _ _ F2 => ?_)
  refine b_pop C (dk_at ecL10 (i := 5) rfl).1 rfl ?_
  refine b_goto (t := 1072) C (dk_at ecL10 (i := 6) rfl).1 (by decide) ?_
  exact hN _ _ _ _ _ _ _ F2 (by omega) (by omega)
theorem lw_c11 {γ : bG} {b1 b2 b L x m u i nc ns : Nat} {xs : Nat → Int} {g : Nat → Nat} {τ : bt} {h : bh} (C : bC γ eyL (79 + 1) b1 b2) (X : bX γ) (hS : lS γ b L xs) (hX : ∀ j, brg (xs j)) (hL : L ≤ 3072) (hi : i + 6 ≤ L) (hb1 : nc + 46 ≤ b1) (hb2 : ns + 3670 ≤ b2) (hN : ∀ (g : Nat → Nat) (τ : bt) (h : bh) (nc' ns' : Nat) (l5 l6 : Option Value), lJ γ.1 x m u g τ h → nc' ≤ nc + 46 → ns' ≤ ns + 3670 → bJ γ 1072 [some (.ref b), some (.ref x), some (.ref m), some (.ref u), some (.int (bz (i : Int))), l5, l6] [] τ h nc' ns') (l5 l6 : Option Value) (F : lJ γ.1 x m u g τ h) : bJ γ 479 [some (.ref b), some (.ref x), some (.ref m), some (.ref u), some (.int (bz (i : Int))), l5, l6] [] τ h nc ns := by
  refine b_al0 C (dk_at ecL11 (i := 0) rfl).1 rfl ?_
  refine b_lv (zs := []) (rest := []) C X (dk_at ecL11 (i := 1) rfl) (by decide) rfl eovcrash (by decide) rfl rfl rfl rfl rfl (by decide +kernel) F (lz hX []) (Nat.le_of_ble_eq_true rfl) (by omega) (by omega) (fun z1 g1 τ1 h1 _ F1 => ?_)
  refine b_pop C (dk_at ecL11 (i := 2) rfl).1 rfl ?_
  refine b_al0 C (dk_at ecL11 (i := 3) rfl).1 rfl ?_
  refine b_lcJ (zs := []) (rest := []) C X (dk_at ecL11 (i := 4) rfl) (by decide) rfl eor84 (by decide) rfl rfl rfl (fun p hp => absurd hp List.not_mem_nil) rfl (by decide +kernel) F1 F1.1.2.2.2.1 (lz hX []) (Nat.le_of_ble_eq_true rfl) (by omega) (by omega) (fun z2 g2 τ2 h2 _ _ F2 => ?_)
  refine b_pop C (dk_at ecL11 (i := 5) rfl).1 rfl ?_
  refine b_goto (t := 1072) C (dk_at ecL11 (i := 6) rfl).1 (by decide) ?_
  exact hN _ _ _ _ _ _ _ F2 (by omega) (by omega)
theorem lw_c12 {γ : bG} {b1 b2 b L x m u i nc ns : Nat} {xs : Nat → Int} {g : Nat → Nat} {τ : bt} {h : bh} (C : bC γ eyL (79 + 1) b1 b2) (X : bX γ) (hS : lS γ b L xs) (hX : ∀ j, brg (xs j)) (hL : L ≤ 3072) (hi : i + 6 ≤ L) (hb1 : nc + 46 ≤ b1) (hb2 : ns + 3670 ≤ b2) (hN : ∀ (g : Nat → Nat) (τ : bt) (h : bh) (nc' ns' : Nat) (l5 l6 : Option Value), lJ γ.1 x m u g τ h → nc' ≤ nc + 46 → ns' ≤ ns + 3670 → bJ γ 1072 [some (.ref b), some (.ref x), some (.ref m), some (.ref u), some (.int (bz (i : Int))), l5, l6] [] τ h nc' ns') (l5 l6 : Option Value) (F : lJ γ.1 x m u g τ h) : bJ γ 492 [some (.ref b), some (.ref x), some (.ref m), some (.ref u), some (.int (bz (i : Int))), l5, l6] [] τ h nc ns := by
  refine b_al0 C (dk_at ecL12 (i := 0) rfl).1 rfl ?_
  refine b_lcJ (zs := []) (rest := []) C X (dk_at ecL12 (i := 1) rfl) (by decide) rfl eoc174 (by decide) rfl rfl rfl (fun p hp => absurd hp List.not_mem_nil) rfl (by decide +kernel) F F.1.2.2.1 (lz hX []) (Nat.le_of_ble_eq_true rfl) (by omega) (by omega) (fun z1 g1 τ1 h1 _ _ F1 => ?_)
  refine b_pop C (dk_at ecL12 (i := 2) rfl).1 rfl ?_
  refine b_al0 C (dk_at ecL12 (i := 3) rfl).1 rfl ?_
  refine b_lcJ (zs := []) (rest := []) C X (dk_at ecL12 (i := 4) rfl) (by decide) rfl eor71 (by decide) rfl rfl rfl (fun p hp => absurd hp List.not_mem_nil) rfl (by decide +kernel) F1 F1.1.2.2.2.1 (lz hX []) (Nat.le_of_ble_eq_true rfl) (by omega) (by omega) (fun z2 g2 τ2 h2 _ _ F2 => ?_)
  refine b_pop C (dk_at ecL12 (i := 5) rfl).1 rfl ?_
  refine b_goto (t := 1072) C (dk_at ecL12 (i := 6) rfl).1 (by decide) ?_
  exact hN _ _ _ _ _ _ _ F2 (by omega) (by omega)
theorem lw_c13 {γ : bG} {b1 b2 b L x m u i nc ns : Nat} {xs : Nat → Int} {g : Nat → Nat} {τ : bt} {h : bh} (C : bC γ eyL (79 + 1) b1 b2) (X : bX γ) (hS : lS γ b L xs) (hX : ∀ j, brg (xs j)) (hL : L ≤ 3072) (hi : i + 6 ≤ L) (hb1 : nc + 46 ≤ b1) (hb2 : ns + 3670 ≤ b2) (hN : ∀ (g : Nat → Nat) (τ : bt) (h : bh) (nc' ns' : Nat) (l5 l6 : Option Value), lJ γ.1 x m u g τ h → nc' ≤ nc + 46 → ns' ≤ ns + 3670 → bJ γ 1072 [some (.ref b), some (.ref x), some (.ref m), some (.ref u), some (.int (bz (i : Int))), l5, l6] [] τ h nc' ns') (l5 l6 : Option Value) (F : lJ γ.1 x m u g τ h) : bJ γ 505 [some (.ref b), some (.ref x), some (.ref m), some (.ref u), some (.int (bz (i : Int))), l5, l6] [] τ h nc ns := by
  refine b_al0 C (dk_at ecL13 (i := 0) rfl).1 rfl ?_
  refine b_al0 C (dk_at ecL13 (i := 1) rfl).1 rfl ?_
  refine b_iload C (dk_at ecL13 (i := 2) rfl).1 rfl ?_
  refine b_iconst C (dk_at ecL13 (i := 3) rfl).1 ?_
  refine b_iadd C (dk_at ecL13 (i := 4) rfl).1 ?_
  refine hS _ _ _ _ _ _ _ _ (i + 1) (dk_at ecL13 (i := 5) rfl).1 (by omega) (by omega) ?_
  refine b_lcJ (zs := [xs (i + 1)]) (rest := []) C X (dk_at ecL13 (i := 6) rfl) (by decide) rfl eoc175 (by decide) rfl rfl rfl (fun p hp => absurd hp List.not_mem_nil) rfl (by decide +kernel) F F.1.2.2.1 (lz hX [i + 1]) (Nat.le_of_ble_eq_true rfl) (by omega) (by omega) (fun z1 g1 τ1 h1 _ _ F1 => ?_)
  refine b_pop C (dk_at ecL13 (i := 7) rfl).1 rfl ?_
  refine b_al0 C (dk_at ecL13 (i := 8) rfl).1 rfl ?_
  refine b_al0 C (dk_at ecL13 (i := 9) rfl).1 rfl ?_
  refine b_iload C (dk_at ecL13 (i := 10) rfl).1 rfl ?_
  refine b_iconst C (dk_at ecL13 (i := 11) rfl).1 ?_
  refine b_iadd C (dk_at ecL13 (i := 12) rfl).1 ?_
  refine hS _ _ _ _ _ _ _ _ (i + 1) (dk_at ecL13 (i := 13) rfl).1 (by omega) (by omega) ?_
  refine b_lcJ (zs := [xs (i + 1)]) (rest := []) C X (dk_at ecL13 (i := 14) rfl) (by decide) rfl eor85 (by decide) rfl rfl rfl (fun p hp => absurd hp List.not_mem_nil) rfl (by decide +kernel) F1 F1.1.2.2.2.1 (lz hX [i + 1]) (Nat.le_of_ble_eq_true rfl) (by omega) (by omega) (fun z2 g2 τ2 h2 _ _ F2 => ?_)
  refine b_pop C (dk_at ecL13 (i := 15) rfl).1 rfl ?_
  refine b_goto (t := 1072) C (dk_at ecL13 (i := 16) rfl).1 (by decide) ?_
  exact hN _ _ _ _ _ _ _ F2 (by omega) (by omega)
theorem lw_c15 {γ : bG} {b1 b2 b L x m u i nc ns : Nat} {xs : Nat → Int} {g : Nat → Nat} {τ : bt} {h : bh} (C : bC γ eyL (79 + 1) b1 b2) (X : bX γ) (hS : lS γ b L xs) (hX : ∀ j, brg (xs j)) (hL : L ≤ 3072) (hi : i + 6 ≤ L) (hb1 : nc + 46 ≤ b1) (hb2 : ns + 3670 ≤ b2) (hN : ∀ (g : Nat → Nat) (τ : bt) (h : bh) (nc' ns' : Nat) (l5 l6 : Option Value), lJ γ.1 x m u g τ h → nc' ≤ nc + 46 → ns' ≤ ns + 3670 → bJ γ 1072 [some (.ref b), some (.ref x), some (.ref m), some (.ref u), some (.int (bz (i : Int))), l5, l6] [] τ h nc' ns') (l5 l6 : Option Value) (F : lJ γ.1 x m u g τ h) : bJ γ 570 [some (.ref b), some (.ref x), some (.ref m), some (.ref u), some (.int (bz (i : Int))), l5, l6] [] τ h nc ns := by
  refine b_al0 C (dk_at ecL15 (i := 0) rfl).1 rfl ?_
  refine b_al0 C (dk_at ecL15 (i := 1) rfl).1 rfl ?_
  refine b_iload C (dk_at ecL15 (i := 2) rfl).1 rfl ?_
  refine b_iconst C (dk_at ecL15 (i := 3) rfl).1 ?_
  refine b_iadd C (dk_at ecL15 (i := 4) rfl).1 ?_
  refine hS _ _ _ _ _ _ _ _ (i + 1) (dk_at ecL15 (i := 5) rfl).1 (by omega) (by omega) ?_
  refine b_al0 C (dk_at ecL15 (i := 6) rfl).1 rfl ?_
  refine b_iload C (dk_at ecL15 (i := 7) rfl).1 rfl ?_
  refine b_iconst C (dk_at ecL15 (i := 8) rfl).1 ?_
  refine b_iadd C (dk_at ecL15 (i := 9) rfl).1 ?_
  refine hS _ _ _ _ _ _ _ _ (i + 2) (dk_at ecL15 (i := 10) rfl).1 (by omega) (by omega) ?_
  refine b_al0 C (dk_at ecL15 (i := 11) rfl).1 rfl ?_
  refine b_iload C (dk_at ecL15 (i := 12) rfl).1 rfl ?_
  refine b_iconst C (dk_at ecL15 (i := 13) rfl).1 ?_
  refine b_iadd C (dk_at ecL15 (i := 14) rfl).1 ?_
  refine hS _ _ _ _ _ _ _ _ (i + 3) (dk_at ecL15 (i := 15) rfl).1 (by omega) (by omega) ?_
  refine b_lcJ (zs := [xs (i + 1), xs (i + 2), xs (i + 3)]) (rest := []) C X (dk_at ecL15 (i := 16) rfl) (by decide) rfl eoc176 (by decide) rfl rfl rfl (fun p hp => absurd hp List.not_mem_nil) rfl (by decide +kernel) F F.1.2.2.1 (lz hX [i + 1, i + 2, i + 3]) (Nat.le_of_ble_eq_true rfl) (by omega) (by omega) (fun z1 g1 τ1 h1 _ _ F1 => ?_)
  refine b_pop C (dk_at ecL15 (i := 17) rfl).1 rfl ?_
  refine b_al0 C (dk_at ecL15 (i := 18) rfl).1 rfl ?_
  refine b_al0 C (dk_at ecL15 (i := 19) rfl).1 rfl ?_
  refine b_iload C (dk_at ecL15 (i := 20) rfl).1 rfl ?_
  refine b_iconst C (dk_at ecL15 (i := 21) rfl).1 ?_
  refine b_iadd C (dk_at ecL15 (i := 22) rfl).1 ?_
  refine hS _ _ _ _ _ _ _ _ (i + 1) (dk_at ecL15 (i := 23) rfl).1 (by omega) (by omega) ?_
  refine b_al0 C (dk_at ecL15 (i := 24) rfl).1 rfl ?_
  refine b_iload C (dk_at ecL15 (i := 25) rfl).1 rfl ?_
  refine b_iconst C (dk_at ecL15 (i := 26) rfl).1 ?_
  refine b_iadd C (dk_at ecL15 (i := 27) rfl).1 ?_
  refine hS _ _ _ _ _ _ _ _ (i + 2) (dk_at ecL15 (i := 28) rfl).1 (by omega) (by omega) ?_
  refine b_al0 C (dk_at ecL15 (i := 29) rfl).1 rfl ?_
  refine b_iload C (dk_at ecL15 (i := 30) rfl).1 rfl ?_
  refine b_iconst C (dk_at ecL15 (i := 31) rfl).1 ?_
  refine b_iadd C (dk_at ecL15 (i := 32) rfl).1 ?_
  refine hS _ _ _ _ _ _ _ _ (i + 3) (dk_at ecL15 (i := 33) rfl).1 (by omega) (by omega) ?_
  refine b_lcJ (zs := [xs (i + 1), xs (i + 2), xs (i + 3)]) (rest := []) C X (dk_at ecL15 (i := 34) rfl) (by decide) rfl eox21 (by decide) rfl rfl rfl (fun p hp => absurd hp List.not_mem_nil) rfl (by decide +kernel) F1 F1.1.2.2.2.1 (lz hX [i + 1, i + 2, i + 3]) (Nat.le_of_ble_eq_true rfl) (by omega) (by omega) (fun z2 g2 τ2 h2 _ _ F2 => ?_)
  refine b_pop C (dk_at ecL15 (i := 35) rfl).1 rfl ?_
  refine b_goto (t := 1072) C (dk_at ecL15 (i := 36) rfl).1 (by decide) ?_
  exact hN _ _ _ _ _ _ _ F2 (by omega) (by omega)
theorem lw_c16 {γ : bG} {b1 b2 b L x m u i nc ns : Nat} {xs : Nat → Int} {g : Nat → Nat} {τ : bt} {h : bh} (C : bC γ eyL (79 + 1) b1 b2) (X : bX γ) (hS : lS γ b L xs) (hX : ∀ j, brg (xs j)) (hL : L ≤ 3072) (hi : i + 6 ≤ L) (hb1 : nc + 46 ≤ b1) (hb2 : ns + 3670 ≤ b2) (hN : ∀ (g : Nat → Nat) (τ : bt) (h : bh) (nc' ns' : Nat) (l5 l6 : Option Value), lJ γ.1 x m u g τ h → nc' ≤ nc + 46 → ns' ≤ ns + 3670 → bJ γ 1072 [some (.ref b), some (.ref x), some (.ref m), some (.ref u), some (.int (bz (i : Int))), l5, l6] [] τ h nc' ns') (l5 l6 : Option Value) (F : lJ γ.1 x m u g τ h) : bJ γ 619 [some (.ref b), some (.ref x), some (.ref m), some (.ref u), some (.int (bz (i : Int))), l5, l6] [] τ h nc ns := by
  refine b_al0 C (dk_at ecL16 (i := 0) rfl).1 rfl ?_
  refine b_al0 C (dk_at ecL16 (i := 1) rfl).1 rfl ?_
  refine b_iload C (dk_at ecL16 (i := 2) rfl).1 rfl ?_
  refine b_iconst C (dk_at ecL16 (i := 3) rfl).1 ?_
  refine b_iadd C (dk_at ecL16 (i := 4) rfl).1 ?_
  refine hS _ _ _ _ _ _ _ _ (i + 1) (dk_at ecL16 (i := 5) rfl).1 (by omega) (by omega) ?_
  refine b_al0 C (dk_at ecL16 (i := 6) rfl).1 rfl ?_
  refine b_iload C (dk_at ecL16 (i := 7) rfl).1 rfl ?_
  refine b_iconst C (dk_at ecL16 (i := 8) rfl).1 ?_
  refine b_iadd C (dk_at ecL16 (i := 9) rfl).1 ?_
  refine hS _ _ _ _ _ _ _ _ (i + 2) (dk_at ecL16 (i := 10) rfl).1 (by omega) (by omega) ?_
  refine b_lcJ (zs := [xs (i + 1), xs (i + 2)]) (rest := []) C X (dk_at ecL16 (i := 11) rfl) (by decide) rfl eoc177 (by decide) rfl rfl rfl (fun p hp => absurd hp List.not_mem_nil) rfl (by decide +kernel) F F.1.2.2.1 (lz hX [i + 1, i + 2]) (Nat.le_of_ble_eq_true rfl) (by omega) (by omega) (fun z1 g1 τ1 h1 _ _ F1 => ?_)
  refine b_pop C (dk_at ecL16 (i := 12) rfl).1 rfl ?_
  refine b_al0 C (dk_at ecL16 (i := 13) rfl).1 rfl ?_
  refine b_al0 C (dk_at ecL16 (i := 14) rfl).1 rfl ?_
  refine b_iload C (dk_at ecL16 (i := 15) rfl).1 rfl ?_
  refine b_iconst C (dk_at ecL16 (i := 16) rfl).1 ?_
  refine b_iadd C (dk_at ecL16 (i := 17) rfl).1 ?_
  refine hS _ _ _ _ _ _ _ _ (i + 1) (dk_at ecL16 (i := 18) rfl).1 (by omega) (by omega) ?_
  refine b_al0 C (dk_at ecL16 (i := 19) rfl).1 rfl ?_
  refine b_iload C (dk_at ecL16 (i := 20) rfl).1 rfl ?_
  refine b_iconst C (dk_at ecL16 (i := 21) rfl).1 ?_
  refine b_iadd C (dk_at ecL16 (i := 22) rfl).1 ?_
  refine hS _ _ _ _ _ _ _ _ (i + 2) (dk_at ecL16 (i := 23) rfl).1 (by omega) (by omega) ?_
  refine b_lcJ (zs := [xs (i + 1), xs (i + 2)]) (rest := []) C X (dk_at ecL16 (i := 24) rfl) (by decide) rfl eor89 (by decide) rfl rfl rfl (fun p hp => absurd hp List.not_mem_nil) rfl (by decide +kernel) F1 F1.1.2.2.2.1 (lz hX [i + 1, i + 2]) (Nat.le_of_ble_eq_true rfl) (by omega) (by omega) (fun z2 g2 τ2 h2 _ _ F2 => ?_)
  refine b_pop C (dk_at ecL16 (i := 25) rfl).1 rfl ?_
  refine b_goto (t := 1072) C (dk_at ecL16 (i := 26) rfl).1 (by decide) ?_
  exact hN _ _ _ _ _ _ _ F2 (by omega) (by omega)
theorem lw_c17 {γ : bG} {b1 b2 b L x m u i nc ns : Nat} {xs : Nat → Int} {g : Nat → Nat} {τ : bt} {h : bh} (C : bC γ eyL (79 + 1) b1 b2) (X : bX γ) (hS : lS γ b L xs) (hX : ∀ j, brg (xs j)) (hL : L ≤ 3072) (hi : i + 6 ≤ L) (hb1 : nc + 46 ≤ b1) (hb2 : ns + 3670 ≤ b2) (hN : ∀ (g : Nat → Nat) (τ : bt) (h : bh) (nc' ns' : Nat) (l5 l6 : Option Value), lJ γ.1 x m u g τ h → nc' ≤ nc + 46 → ns' ≤ ns + 3670 → bJ γ 1072 [some (.ref b), some (.ref x), some (.ref m), some (.ref u), some (.int (bz (i : Int))), l5, l6] [] τ h nc' ns') (l5 l6 : Option Value) (F : lJ γ.1 x m u g τ h) : bJ γ 656 [some (.ref b), some (.ref x), some (.ref m), some (.ref u), some (.int (bz (i : Int))), l5, l6] [] τ h nc ns := by
  refine b_al0 C (dk_at ecL17 (i := 0) rfl).1 rfl ?_
  refine b_al0 C (dk_at ecL17 (i := 1) rfl).1 rfl ?_
  refine b_iload C (dk_at ecL17 (i := 2) rfl).1 rfl ?_
  refine b_iconst C (dk_at ecL17 (i := 3) rfl).1 ?_
  refine b_iadd C (dk_at ecL17 (i := 4) rfl).1 ?_
  refine hS _ _ _ _ _ _ _ _ (i + 1) (dk_at ecL17 (i := 5) rfl).1 (by omega) (by omega) ?_
  refine b_al0 C (dk_at ecL17 (i := 6) rfl).1 rfl ?_
  refine b_iload C (dk_at ecL17 (i := 7) rfl).1 rfl ?_
  refine b_iconst C (dk_at ecL17 (i := 8) rfl).1 ?_
  refine b_iadd C (dk_at ecL17 (i := 9) rfl).1 ?_
  refine hS _ _ _ _ _ _ _ _ (i + 2) (dk_at ecL17 (i := 10) rfl).1 (by omega) (by omega) ?_
  refine b_lcJ (zs := [xs (i + 1), xs (i + 2)]) (rest := []) C X (dk_at ecL17 (i := 11) rfl) (by decide) rfl eoc178 (by decide) rfl rfl rfl (fun p hp => absurd hp List.not_mem_nil) rfl (by decide +kernel) F F.1.2.2.1 (lz hX [i + 1, i + 2]) (Nat.le_of_ble_eq_true rfl) (by omega) (by omega) (fun z1 g1 τ1 h1 _ _ F1 => ?_)
  refine b_pop C (dk_at ecL17 (i := 12) rfl).1 rfl ?_
  refine b_al0 C (dk_at ecL17 (i := 13) rfl).1 rfl ?_
  refine b_al0 C (dk_at ecL17 (i := 14) rfl).1 rfl ?_
  refine b_iload C (dk_at ecL17 (i := 15) rfl).1 rfl ?_
  refine b_iconst C (dk_at ecL17 (i := 16) rfl).1 ?_
  refine b_iadd C (dk_at ecL17 (i := 17) rfl).1 ?_
  refine hS _ _ _ _ _ _ _ _ (i + 1) (dk_at ecL17 (i := 18) rfl).1 (by omega) (by omega) ?_
  refine b_al0 C (dk_at ecL17 (i := 19) rfl).1 rfl ?_
  refine b_iload C (dk_at ecL17 (i := 20) rfl).1 rfl ?_
  refine b_iconst C (dk_at ecL17 (i := 21) rfl).1 ?_
  refine b_iadd C (dk_at ecL17 (i := 22) rfl).1 ?_
  refine hS _ _ _ _ _ _ _ _ (i + 2) (dk_at ecL17 (i := 23) rfl).1 (by omega) (by omega) ?_
  refine b_lcJ (zs := [xs (i + 1), xs (i + 2)]) (rest := []) C X (dk_at ecL17 (i := 24) rfl) (by decide) rfl eor90 (by decide) rfl rfl rfl (fun p hp => absurd hp List.not_mem_nil) rfl (by decide +kernel) F1 F1.1.2.2.2.1 (lz hX [i + 1, i + 2]) (Nat.le_of_ble_eq_true rfl) (by omega) (by omega) (fun z2 g2 τ2 h2 _ _ F2 => ?_)
  refine b_pop C (dk_at ecL17 (i := 25) rfl).1 rfl ?_
  refine b_goto (t := 1072) C (dk_at ecL17 (i := 26) rfl).1 (by decide) ?_
  exact hN _ _ _ _ _ _ _ F2 (by omega) (by omega)
theorem lw_c18 {γ : bG} {b1 b2 b L x m u i nc ns : Nat} {xs : Nat → Int} {g : Nat → Nat} {τ : bt} {h : bh} (C : bC γ eyL (79 + 1) b1 b2) (X : bX γ) (hS : lS γ b L xs) (hX : ∀ j, brg (xs j)) (hL : L ≤ 3072) (hi : i + 6 ≤ L) (hb1 : nc + 46 ≤ b1) (hb2 : ns + 3670 ≤ b2) (hN : ∀ (g : Nat → Nat) (τ : bt) (h : bh) (nc' ns' : Nat) (l5 l6 : Option Value), lJ γ.1 x m u g τ h → nc' ≤ nc + 46 → ns' ≤ ns + 3670 → bJ γ 1072 [some (.ref b), some (.ref x), some (.ref m), some (.ref u), some (.int (bz (i : Int))), l5, l6] [] τ h nc' ns') (l5 l6 : Option Value) (F : lJ γ.1 x m u g τ h) : bJ γ 693 [some (.ref b), some (.ref x), some (.ref m), some (.ref u), some (.int (bz (i : Int))), l5, l6] [] τ h nc ns := by
  refine b_al0 C (dk_at ecL18 (i := 0) rfl).1 rfl ?_
  refine b_al0 C (dk_at ecL18 (i := 1) rfl).1 rfl ?_
  refine b_iload C (dk_at ecL18 (i := 2) rfl).1 rfl ?_
  refine b_iconst C (dk_at ecL18 (i := 3) rfl).1 ?_
  refine b_iadd C (dk_at ecL18 (i := 4) rfl).1 ?_
  refine hS _ _ _ _ _ _ _ _ (i + 1) (dk_at ecL18 (i := 5) rfl).1 (by omega) (by omega) ?_
  refine b_lcJ (zs := [xs (i + 1)]) (rest := []) C X (dk_at ecL18 (i := 6) rfl) (by decide) rfl eoc179 (by decide) rfl rfl rfl (fun p hp => absurd hp List.not_mem_nil) rfl (by decide +kernel) F F.1.2.2.1 (lz hX [i + 1]) (Nat.le_of_ble_eq_true rfl) (by omega) (by omega) (fun z1 g1 τ1 h1 _ _ F1 => ?_)
  refine b_pop C (dk_at ecL18 (i := 7) rfl).1 rfl ?_
  refine b_al0 C (dk_at ecL18 (i := 8) rfl).1 rfl ?_
  refine b_al0 C (dk_at ecL18 (i := 9) rfl).1 rfl ?_
  refine b_iload C (dk_at ecL18 (i := 10) rfl).1 rfl ?_
  refine b_iconst C (dk_at ecL18 (i := 11) rfl).1 ?_
  refine b_iadd C (dk_at ecL18 (i := 12) rfl).1 ?_
  refine hS _ _ _ _ _ _ _ _ (i + 1) (dk_at ecL18 (i := 13) rfl).1 (by omega) (by omega) ?_
  refine b_lcJ (zs := [xs (i + 1)]) (rest := []) C X (dk_at ecL18 (i := 14) rfl) (by decide) rfl eor91 (by decide) rfl rfl rfl (fun p hp => absurd hp List.not_mem_nil) rfl (by decide +kernel) F1 F1.1.2.2.2.1 (lz hX [i + 1]) (Nat.le_of_ble_eq_true rfl) (by omega) (by omega) (fun z2 g2 τ2 h2 _ _ F2 => ?_)
  refine b_pop C (dk_at ecL18 (i := 15) rfl).1 rfl ?_
  refine b_goto (t := 1072) C (dk_at ecL18 (i := 16) rfl).1 (by decide) ?_
  exact hN _ _ _ _ _ _ _ F2 (by omega) (by omega)
theorem lw_c20 {γ : bG} {b1 b2 b L x m u i nc ns : Nat} {xs : Nat → Int} {g : Nat → Nat} {τ : bt} {h : bh} (C : bC γ eyL (79 + 1) b1 b2) (X : bX γ) (hS : lS γ b L xs) (hX : ∀ j, brg (xs j)) (hL : L ≤ 3072) (hi : i + 6 ≤ L) (hb1 : nc + 46 ≤ b1) (hb2 : ns + 3670 ≤ b2) (hN : ∀ (g : Nat → Nat) (τ : bt) (h : bh) (nc' ns' : Nat) (l5 l6 : Option Value), lJ γ.1 x m u g τ h → nc' ≤ nc + 46 → ns' ≤ ns + 3670 → bJ γ 1072 [some (.ref b), some (.ref x), some (.ref m), some (.ref u), some (.int (bz (i : Int))), l5, l6] [] τ h nc' ns') (l5 l6 : Option Value) (F : lJ γ.1 x m u g τ h) : bJ γ 746 [some (.ref b), some (.ref x), some (.ref m), some (.ref u), some (.int (bz (i : Int))), l5, l6] [] τ h nc ns := by
  refine b_al0 C (dk_at ecL20 (i := 0) rfl).1 rfl ?_
  refine b_lcJ (zs := []) (rest := []) C X (dk_at ecL20 (i := 1) rfl) (by decide) rfl eoc180 (by decide) rfl rfl rfl (fun p hp => absurd hp List.not_mem_nil) rfl (by decide +kernel) F F.1.2.2.1 (lz hX []) (Nat.le_of_ble_eq_true rfl) (by omega) (by omega) (fun z1 g1 τ1 h1 _ _ F1 => ?_)
  refine b_pop C (dk_at ecL20 (i := 2) rfl).1 rfl ?_
  refine b_al0 C (dk_at ecL20 (i := 3) rfl).1 rfl ?_
  refine b_lcJ (zs := []) (rest := []) C X (dk_at ecL20 (i := 4) rfl) (by decide) rfl eor93 (by decide) rfl rfl rfl (fun p hp => absurd hp List.not_mem_nil) rfl (by decide +kernel) F1 F1.1.2.2.2.1 (lz hX []) (Nat.le_of_ble_eq_true rfl) (by omega) (by omega) (fun z2 g2 τ2 h2 _ _ F2 => ?_)
  refine b_pop C (dk_at ecL20 (i := 5) rfl).1 rfl ?_
  refine b_goto (t := 1072) C (dk_at ecL20 (i := 6) rfl).1 (by decide) ?_
  exact hN _ _ _ _ _ _ _ F2 (by omega) (by omega)
theorem lw_c21 {γ : bG} {b1 b2 b L x m u i nc ns : Nat} {xs : Nat → Int} {g : Nat → Nat} {τ : bt} {h : bh} (C : bC γ eyL (79 + 1) b1 b2) (X : bX γ) (hS : lS γ b L xs) (hX : ∀ j, brg (xs j)) (hL : L ≤ 3072) (hi : i + 6 ≤ L) (hb1 : nc + 46 ≤ b1) (hb2 : ns + 3670 ≤ b2) (hN : ∀ (g : Nat → Nat) (τ : bt) (h : bh) (nc' ns' : Nat) (l5 l6 : Option Value), lJ γ.1 x m u g τ h → nc' ≤ nc + 46 → ns' ≤ ns + 3670 → bJ γ 1072 [some (.ref b), some (.ref x), some (.ref m), some (.ref u), some (.int (bz (i : Int))), l5, l6] [] τ h nc' ns') (l5 l6 : Option Value) (F : lJ γ.1 x m u g τ h) : bJ γ 759 [some (.ref b), some (.ref x), some (.ref m), some (.ref u), some (.int (bz (i : Int))), l5, l6] [] τ h nc ns := by
  refine b_al0 C (dk_at ecL21 (i := 0) rfl).1 rfl ?_
  refine b_al0 C (dk_at ecL21 (i := 1) rfl).1 rfl ?_
  refine b_iload C (dk_at ecL21 (i := 2) rfl).1 rfl ?_
  refine b_iconst C (dk_at ecL21 (i := 3) rfl).1 ?_
  refine b_iadd C (dk_at ecL21 (i := 4) rfl).1 ?_
  refine hS _ _ _ _ _ _ _ _ (i + 1) (dk_at ecL21 (i := 5) rfl).1 (by omega) (by omega) ?_
  refine b_lcJ (zs := [xs (i + 1)]) (rest := []) C X (dk_at ecL21 (i := 6) rfl) (by decide) rfl eoc181 (by decide) rfl rfl rfl (fun p hp => absurd hp List.not_mem_nil) rfl (by decide +kernel) F F.1.2.2.1 (lz hX [i + 1]) (Nat.le_of_ble_eq_true rfl) (by omega) (by omega) (fun z1 g1 τ1 h1 _ _ F1 => ?_)
  refine b_pop C (dk_at ecL21 (i := 7) rfl).1 rfl ?_
  refine b_al0 C (dk_at ecL21 (i := 8) rfl).1 rfl ?_
  refine b_al0 C (dk_at ecL21 (i := 9) rfl).1 rfl ?_
  refine b_iload C (dk_at ecL21 (i := 10) rfl).1 rfl ?_
  refine b_iconst C (dk_at ecL21 (i := 11) rfl).1 ?_
  refine b_iadd C (dk_at ecL21 (i := 12) rfl).1 ?_
  refine hS _ _ _ _ _ _ _ _ (i + 1) (dk_at ecL21 (i := 13) rfl).1 (by omega) (by omega) ?_
  refine b_lcJ (zs := [xs (i + 1)]) (rest := []) C X (dk_at ecL21 (i := 14) rfl) (by decide) rfl eor94 (by decide) rfl rfl rfl (fun p hp => absurd hp List.not_mem_nil) rfl (by decide +kernel) F1 F1.1.2.2.2.1 (lz hX [i + 1]) (Nat.le_of_ble_eq_true rfl) (by omega) (by omega) (fun z2 g2 τ2 h2 _ _ F2 => ?_)
  refine b_pop C (dk_at ecL21 (i := 15) rfl).1 rfl ?_
  refine b_goto (t := 1072) C (dk_at ecL21 (i := 16) rfl).1 (by decide) ?_
  exact hN _ _ _ _ _ _ _ F2 (by omega) (by omega)
theorem lw_c22 {γ : bG} {b1 b2 b L x m u i nc ns : Nat} {xs : Nat → Int} {g : Nat → Nat} {τ : bt} {h : bh} (C : bC γ eyL (79 + 1) b1 b2) (X : bX γ) (hS : lS γ b L xs) (hX : ∀ j, brg (xs j)) (hL : L ≤ 3072) (hi : i + 6 ≤ L) (hb1 : nc + 46 ≤ b1) (hb2 : ns + 3670 ≤ b2) (hN : ∀ (g : Nat → Nat) (τ : bt) (h : bh) (nc' ns' : Nat) (l5 l6 : Option Value), lJ γ.1 x m u g τ h → nc' ≤ nc + 46 → ns' ≤ ns + 3670 → bJ γ 1072 [some (.ref b), some (.ref x), some (.ref m), some (.ref u), some (.int (bz (i : Int))), l5, l6] [] τ h nc' ns') (l5 l6 : Option Value) (F : lJ γ.1 x m u g τ h) : bJ γ 784 [some (.ref b), some (.ref x), some (.ref m), some (.ref u), some (.int (bz (i : Int))), l5, l6] [] τ h nc ns := by
  refine b_al0 C (dk_at ecL22 (i := 0) rfl).1 rfl ?_
  refine b_lcJ (zs := []) (rest := []) C X (dk_at ecL22 (i := 1) rfl) (by decide) rfl eoc182 (by decide) rfl rfl rfl (fun p hp => absurd hp List.not_mem_nil) rfl (by decide +kernel) F F.1.2.2.1 (lz hX []) (Nat.le_of_ble_eq_true rfl) (by omega) (by omega) (fun z1 g1 τ1 h1 _ _ F1 => ?_)
  refine b_pop C (dk_at ecL22 (i := 2) rfl).1 rfl ?_
  refine b_al0 C (dk_at ecL22 (i := 3) rfl).1 rfl ?_
  refine b_lcJ (zs := []) (rest := []) C X (dk_at ecL22 (i := 4) rfl) (by decide) rfl eox22 (by decide) rfl rfl rfl (fun p hp => absurd hp List.not_mem_nil) rfl (by decide +kernel) F1 F1.1.2.2.2.1 (lz hX []) (Nat.le_of_ble_eq_true rfl) (by omega) (by omega) (fun z2 g2 τ2 h2 _ _ F2 => ?_)
  refine b_pop C (dk_at ecL22 (i := 5) rfl).1 rfl ?_
  refine b_goto (t := 1072) C (dk_at ecL22 (i := 6) rfl).1 (by decide) ?_
  exact hN _ _ _ _ _ _ _ F2 (by omega) (by omega)
theorem lw_c23 {γ : bG} {b1 b2 b L x m u i nc ns : Nat} {xs : Nat → Int} {g : Nat → Nat} {τ : bt} {h : bh} (C : bC γ eyL (79 + 1) b1 b2) (X : bX γ) (hS : lS γ b L xs) (hX : ∀ j, brg (xs j)) (hL : L ≤ 3072) (hi : i + 6 ≤ L) (hb1 : nc + 46 ≤ b1) (hb2 : ns + 3670 ≤ b2) (hN : ∀ (g : Nat → Nat) (τ : bt) (h : bh) (nc' ns' : Nat) (l5 l6 : Option Value), lJ γ.1 x m u g τ h → nc' ≤ nc + 46 → ns' ≤ ns + 3670 → bJ γ 1072 [some (.ref b), some (.ref x), some (.ref m), some (.ref u), some (.int (bz (i : Int))), l5, l6] [] τ h nc' ns') (l5 l6 : Option Value) (F : lJ γ.1 x m u g τ h) : bJ γ 797 [some (.ref b), some (.ref x), some (.ref m), some (.ref u), some (.int (bz (i : Int))), l5, l6] [] τ h nc ns := by
  refine b_al0 C (dk_at ecL23 (i := 0) rfl).1 rfl ?_
  refine b_lcJ (zs := []) (rest := []) C X (dk_at ecL23 (i := 1) rfl) (by decide) rfl eoc193 (by decide) rfl rfl rfl (fun p hp => absurd hp List.not_mem_nil) rfl (by decide +kernel) F F.1.2.2.1 (lz hX []) (Nat.le_of_ble_eq_true rfl) (by omega) (by omega) (fun z1 g1 τ1 h1 _ _ F1 => ?_)
  refine b_pop C (dk_at ecL23 (i := 2) rfl).1 rfl ?_
  refine b_al0 C (dk_at ecL23 (i := 3) rfl).1 rfl ?_
  refine b_lcJ (zs := []) (rest := []) C X (dk_at ecL23 (i := 4) rfl) (by decide) rfl eor96 (by decide) rfl rfl rfl (fun p hp => absurd hp List.not_mem_nil) rfl (by decide +kernel) F1 F1.1.2.2.2.1 (lz hX []) (Nat.le_of_ble_eq_true rfl) (by omega) (by omega) (fun z2 g2 τ2 h2 _ _ F2 => ?_)
  refine b_pop C (dk_at ecL23 (i := 5) rfl).1 rfl ?_
  refine b_goto (t := 1072) C (dk_at ecL23 (i := 6) rfl).1 (by decide) ?_
  exact hN _ _ _ _ _ _ _ F2 (by omega) (by omega)
theorem lw_c24 {γ : bG} {b1 b2 b L x m u i nc ns : Nat} {xs : Nat → Int} {g : Nat → Nat} {τ : bt} {h : bh} (C : bC γ eyL (79 + 1) b1 b2) (X : bX γ) (hS : lS γ b L xs) (hX : ∀ j, brg (xs j)) (hL : L ≤ 3072) (hi : i + 6 ≤ L) (hb1 : nc + 46 ≤ b1) (hb2 : ns + 3670 ≤ b2) (hN : ∀ (g : Nat → Nat) (τ : bt) (h : bh) (nc' ns' : Nat) (l5 l6 : Option Value), lJ γ.1 x m u g τ h → nc' ≤ nc + 46 → ns' ≤ ns + 3670 → bJ γ 1072 [some (.ref b), some (.ref x), some (.ref m), some (.ref u), some (.int (bz (i : Int))), l5, l6] [] τ h nc' ns') (l5 l6 : Option Value) (F : lJ γ.1 x m u g τ h) : bJ γ 810 [some (.ref b), some (.ref x), some (.ref m), some (.ref u), some (.int (bz (i : Int))), l5, l6] [] τ h nc ns := by
  refine b_al0 C (dk_at ecL24 (i := 0) rfl).1 rfl ?_
  refine b_al0 C (dk_at ecL24 (i := 1) rfl).1 rfl ?_
  refine b_iload C (dk_at ecL24 (i := 2) rfl).1 rfl ?_
  refine b_iconst C (dk_at ecL24 (i := 3) rfl).1 ?_
  refine b_iadd C (dk_at ecL24 (i := 4) rfl).1 ?_
  refine hS _ _ _ _ _ _ _ _ (i + 1) (dk_at ecL24 (i := 5) rfl).1 (by omega) (by omega) ?_
  refine b_lcJ (zs := [xs (i + 1)]) (rest := []) C X (dk_at ecL24 (i := 6) rfl) (by decide) rfl eoc183 (by decide) rfl rfl rfl (fun p hp => absurd hp List.not_mem_nil) rfl (by decide +kernel) F F.1.2.2.1 (lz hX [i + 1]) (Nat.le_of_ble_eq_true rfl) (by omega) (by omega) (fun z1 g1 τ1 h1 _ _ F1 => ?_)
  refine b_pop C (dk_at ecL24 (i := 7) rfl).1 rfl ?_
  refine b_al0 C (dk_at ecL24 (i := 8) rfl).1 rfl ?_
  refine b_al0 C (dk_at ecL24 (i := 9) rfl).1 rfl ?_
  refine b_iload C (dk_at ecL24 (i := 10) rfl).1 rfl ?_
  refine b_iconst C (dk_at ecL24 (i := 11) rfl).1 ?_
  refine b_iadd C (dk_at ecL24 (i := 12) rfl).1 ?_
  refine hS _ _ _ _ _ _ _ _ (i + 1) (dk_at ecL24 (i := 13) rfl).1 (by omega) (by omega) ?_
  refine b_lcJ (zs := [xs (i + 1)]) (rest := []) C X (dk_at ecL24 (i := 14) rfl) (by decide) rfl eor97 (by decide) rfl rfl rfl (fun p hp => absurd hp List.not_mem_nil) rfl (by decide +kernel) F1 F1.1.2.2.2.1 (lz hX [i + 1]) (Nat.le_of_ble_eq_true rfl) (by omega) (by omega) (fun z2 g2 τ2 h2 _ _ F2 => ?_)
  refine b_pop C (dk_at ecL24 (i := 15) rfl).1 rfl ?_
  refine b_goto (t := 1072) C (dk_at ecL24 (i := 16) rfl).1 (by decide) ?_
  exact hN _ _ _ _ _ _ _ F2 (by omega) (by omega)
theorem lw_c25 {γ : bG} {b1 b2 b L x m u i nc ns : Nat} {xs : Nat → Int} {g : Nat → Nat} {τ : bt} {h : bh} (C : bC γ eyL (79 + 1) b1 b2) (X : bX γ) (hS : lS γ b L xs) (hX : ∀ j, brg (xs j)) (hL : L ≤ 3072) (hi : i + 6 ≤ L) (hb1 : nc + 46 ≤ b1) (hb2 : ns + 3670 ≤ b2) (hN : ∀ (g : Nat → Nat) (τ : bt) (h : bh) (nc' ns' : Nat) (l5 l6 : Option Value), lJ γ.1 x m u g τ h → nc' ≤ nc + 46 → ns' ≤ ns + 3670 → bJ γ 1072 [some (.ref b), some (.ref x), some (.ref m), some (.ref u), some (.int (bz (i : Int))), l5, l6] [] τ h nc' ns') (l5 l6 : Option Value) (F : lJ γ.1 x m u g τ h) : bJ γ 835 [some (.ref b), some (.ref x), some (.ref m), some (.ref u), some (.int (bz (i : Int))), l5, l6] [] τ h nc ns := by
  refine b_al0 C (dk_at ecL25 (i := 0) rfl).1 rfl ?_
  refine b_al0 C (dk_at ecL25 (i := 1) rfl).1 rfl ?_
  refine b_iload C (dk_at ecL25 (i := 2) rfl).1 rfl ?_
  refine b_iconst C (dk_at ecL25 (i := 3) rfl).1 ?_
  refine b_iadd C (dk_at ecL25 (i := 4) rfl).1 ?_
  refine hS _ _ _ _ _ _ _ _ (i + 1) (dk_at ecL25 (i := 5) rfl).1 (by omega) (by omega) ?_
  refine b_al0 C (dk_at ecL25 (i := 6) rfl).1 rfl ?_
  refine b_iload C (dk_at ecL25 (i := 7) rfl).1 rfl ?_
  refine b_iconst C (dk_at ecL25 (i := 8) rfl).1 ?_
  refine b_iadd C (dk_at ecL25 (i := 9) rfl).1 ?_
  refine hS _ _ _ _ _ _ _ _ (i + 2) (dk_at ecL25 (i := 10) rfl).1 (by omega) (by omega) ?_
  refine b_lv (zs := [xs (i + 1), xs (i + 2)]) (rest := []) C X (dk_at ecL25 (i := 11) rfl) (by decide) rfl eovdrawn (by decide) rfl rfl rfl rfl rfl (by decide +kernel) F (lz hX [i + 1, i + 2]) (Nat.le_of_ble_eq_true rfl) (by omega) (by omega) (fun z1 g1 τ1 h1 _ F1 => ?_)
  refine b_pop C (dk_at ecL25 (i := 12) rfl).1 rfl ?_
  refine b_al0 C (dk_at ecL25 (i := 13) rfl).1 rfl ?_
  refine b_al0 C (dk_at ecL25 (i := 14) rfl).1 rfl ?_
  refine b_iload C (dk_at ecL25 (i := 15) rfl).1 rfl ?_
  refine b_iconst C (dk_at ecL25 (i := 16) rfl).1 ?_
  refine b_iadd C (dk_at ecL25 (i := 17) rfl).1 ?_
  refine hS _ _ _ _ _ _ _ _ (i + 1) (dk_at ecL25 (i := 18) rfl).1 (by omega) (by omega) ?_
  refine b_al0 C (dk_at ecL25 (i := 19) rfl).1 rfl ?_
  refine b_iload C (dk_at ecL25 (i := 20) rfl).1 rfl ?_
  refine b_iconst C (dk_at ecL25 (i := 21) rfl).1 ?_
  refine b_iadd C (dk_at ecL25 (i := 22) rfl).1 ?_
  refine hS _ _ _ _ _ _ _ _ (i + 2) (dk_at ecL25 (i := 23) rfl).1 (by omega) (by omega) ?_
  refine b_lcJ (zs := [xs (i + 1), xs (i + 2)]) (rest := []) C X (dk_at ecL25 (i := 24) rfl) (by decide) rfl eor104 (by decide) rfl rfl rfl (fun p hp => absurd hp List.not_mem_nil) rfl (by decide +kernel) F1 F1.1.2.2.2.1 (lz hX [i + 1, i + 2]) (Nat.le_of_ble_eq_true rfl) (by omega) (by omega) (fun z2 g2 τ2 h2 _ _ F2 => ?_)
  refine b_pop C (dk_at ecL25 (i := 25) rfl).1 rfl ?_
  refine b_goto (t := 1072) C (dk_at ecL25 (i := 26) rfl).1 (by decide) ?_
  exact hN _ _ _ _ _ _ _ F2 (by omega) (by omega)
theorem lw_c26 {γ : bG} {b1 b2 b L x m u i nc ns : Nat} {xs : Nat → Int} {g : Nat → Nat} {τ : bt} {h : bh} (C : bC γ eyL (79 + 1) b1 b2) (X : bX γ) (hS : lS γ b L xs) (hX : ∀ j, brg (xs j)) (hL : L ≤ 3072) (hi : i + 6 ≤ L) (hb1 : nc + 46 ≤ b1) (hb2 : ns + 3670 ≤ b2) (hN : ∀ (g : Nat → Nat) (τ : bt) (h : bh) (nc' ns' : Nat) (l5 l6 : Option Value), lJ γ.1 x m u g τ h → nc' ≤ nc + 46 → ns' ≤ ns + 3670 → bJ γ 1072 [some (.ref b), some (.ref x), some (.ref m), some (.ref u), some (.int (bz (i : Int))), l5, l6] [] τ h nc' ns') (l5 l6 : Option Value) (F : lJ γ.1 x m u g τ h) : bJ γ 872 [some (.ref b), some (.ref x), some (.ref m), some (.ref u), some (.int (bz (i : Int))), l5, l6] [] τ h nc ns := by
  refine b_al0 C (dk_at ecL26 (i := 0) rfl).1 rfl ?_
  refine b_al0 C (dk_at ecL26 (i := 1) rfl).1 rfl ?_
  refine b_iload C (dk_at ecL26 (i := 2) rfl).1 rfl ?_
  refine b_iconst C (dk_at ecL26 (i := 3) rfl).1 ?_
  refine b_iadd C (dk_at ecL26 (i := 4) rfl).1 ?_
  refine hS _ _ _ _ _ _ _ _ (i + 1) (dk_at ecL26 (i := 5) rfl).1 (by omega) (by omega) ?_
  refine b_al0 C (dk_at ecL26 (i := 6) rfl).1 rfl ?_
  refine b_iload C (dk_at ecL26 (i := 7) rfl).1 rfl ?_
  refine b_iconst C (dk_at ecL26 (i := 8) rfl).1 ?_
  refine b_iadd C (dk_at ecL26 (i := 9) rfl).1 ?_
  refine hS _ _ _ _ _ _ _ _ (i + 2) (dk_at ecL26 (i := 10) rfl).1 (by omega) (by omega) ?_
  refine b_lcJ (zs := [xs (i + 1), xs (i + 2)]) (rest := []) C X (dk_at ecL26 (i := 11) rfl) (by decide) rfl eoc192 (by decide) rfl rfl rfl (fun p hp => absurd hp List.not_mem_nil) rfl (by decide +kernel) F F.1.2.2.1 (lz hX [i + 1, i + 2]) (Nat.le_of_ble_eq_true rfl) (by omega) (by omega) (fun z1 g1 τ1 h1 _ _ F1 => ?_)
  refine b_pop C (dk_at ecL26 (i := 12) rfl).1 rfl ?_
  refine b_al0 C (dk_at ecL26 (i := 13) rfl).1 rfl ?_
  refine b_al0 C (dk_at ecL26 (i := 14) rfl).1 rfl ?_
  refine b_iload C (dk_at ecL26 (i := 15) rfl).1 rfl ?_
  refine b_iconst C (dk_at ecL26 (i := 16) rfl).1 ?_
  refine b_iadd C (dk_at ecL26 (i := 17) rfl).1 ?_
  refine hS _ _ _ _ _ _ _ _ (i + 1) (dk_at ecL26 (i := 18) rfl).1 (by omega) (by omega) ?_
  refine b_al0 C (dk_at ecL26 (i := 19) rfl).1 rfl ?_
  refine b_iload C (dk_at ecL26 (i := 20) rfl).1 rfl ?_
  refine b_iconst C (dk_at ecL26 (i := 21) rfl).1 ?_
  refine b_iadd C (dk_at ecL26 (i := 22) rfl).1 ?_
  refine hS _ _ _ _ _ _ _ _ (i + 2) (dk_at ecL26 (i := 23) rfl).1 (by omega) (by omega) ?_
  refine b_lcJ (zs := [xs (i + 1), xs (i + 2)]) (rest := []) C X (dk_at ecL26 (i := 24) rfl) (by decide) rfl eor105 (by decide) rfl rfl rfl (fun p hp => absurd hp List.not_mem_nil) rfl (by decide +kernel) F1 F1.1.2.2.2.1 (lz hX [i + 1, i + 2]) (Nat.le_of_ble_eq_true rfl) (by omega) (by omega) (fun z2 g2 τ2 h2 _ _ F2 => ?_)
  refine b_pop C (dk_at ecL26 (i := 25) rfl).1 rfl ?_
  refine b_goto (t := 1072) C (dk_at ecL26 (i := 26) rfl).1 (by decide) ?_
  exact hN _ _ _ _ _ _ _ F2 (by omega) (by omega)
theorem lw_c27 {γ : bG} {b1 b2 b L x m u i nc ns : Nat} {xs : Nat → Int} {g : Nat → Nat} {τ : bt} {h : bh} (C : bC γ eyL (79 + 1) b1 b2) (X : bX γ) (hS : lS γ b L xs) (hX : ∀ j, brg (xs j)) (hL : L ≤ 3072) (hi : i + 6 ≤ L) (hb1 : nc + 46 ≤ b1) (hb2 : ns + 3670 ≤ b2) (hN : ∀ (g : Nat → Nat) (τ : bt) (h : bh) (nc' ns' : Nat) (l5 l6 : Option Value), lJ γ.1 x m u g τ h → nc' ≤ nc + 46 → ns' ≤ ns + 3670 → bJ γ 1072 [some (.ref b), some (.ref x), some (.ref m), some (.ref u), some (.int (bz (i : Int))), l5, l6] [] τ h nc' ns') (l5 l6 : Option Value) (F : lJ γ.1 x m u g τ h) : bJ γ 909 [some (.ref b), some (.ref x), some (.ref m), some (.ref u), some (.int (bz (i : Int))), l5, l6] [] τ h nc ns := by
  refine b_al0 C (dk_at ecL27 (i := 0) rfl).1 rfl ?_
  refine b_al0 C (dk_at ecL27 (i := 1) rfl).1 rfl ?_
  refine b_iload C (dk_at ecL27 (i := 2) rfl).1 rfl ?_
  refine b_iconst C (dk_at ecL27 (i := 3) rfl).1 ?_
  refine b_iadd C (dk_at ecL27 (i := 4) rfl).1 ?_
  refine hS _ _ _ _ _ _ _ _ (i + 1) (dk_at ecL27 (i := 5) rfl).1 (by omega) (by omega) ?_
  refine b_lv (zs := [xs (i + 1)]) (rest := []) C X (dk_at ecL27 (i := 6) rfl) (by decide) rfl eovbook (by decide) rfl rfl rfl rfl rfl (by decide +kernel) F (lz hX [i + 1]) (Nat.le_of_ble_eq_true rfl) (by omega) (by omega) (fun z1 g1 τ1 h1 _ F1 => ?_)
  refine b_pop C (dk_at ecL27 (i := 7) rfl).1 rfl ?_
  refine b_al0 C (dk_at ecL27 (i := 8) rfl).1 rfl ?_
  refine b_al0 C (dk_at ecL27 (i := 9) rfl).1 rfl ?_
  refine b_iload C (dk_at ecL27 (i := 10) rfl).1 rfl ?_
  refine b_iconst C (dk_at ecL27 (i := 11) rfl).1 ?_
  refine b_iadd C (dk_at ecL27 (i := 12) rfl).1 ?_
  refine hS _ _ _ _ _ _ _ _ (i + 1) (dk_at ecL27 (i := 13) rfl).1 (by omega) (by omega) ?_
  refine b_lcJ (zs := [xs (i + 1)]) (rest := []) C X (dk_at ecL27 (i := 14) rfl) (by decide) rfl eor109 (by decide) rfl rfl rfl (fun p hp => absurd hp List.not_mem_nil) rfl (by decide +kernel) F1 F1.1.2.2.2.1 (lz hX [i + 1]) (Nat.le_of_ble_eq_true rfl) (by omega) (by omega) (fun z2 g2 τ2 h2 _ _ F2 => ?_)
  refine b_pop C (dk_at ecL27 (i := 15) rfl).1 rfl ?_
  refine b_goto (t := 1072) C (dk_at ecL27 (i := 16) rfl).1 (by decide) ?_
  exact hN _ _ _ _ _ _ _ F2 (by omega) (by omega)
theorem lw_c28 {γ : bG} {b1 b2 b L x m u i nc ns : Nat} {xs : Nat → Int} {g : Nat → Nat} {τ : bt} {h : bh} (C : bC γ eyL (79 + 1) b1 b2) (X : bX γ) (hS : lS γ b L xs) (hX : ∀ j, brg (xs j)) (hL : L ≤ 3072) (hi : i + 6 ≤ L) (hb1 : nc + 46 ≤ b1) (hb2 : ns + 3670 ≤ b2) (hN : ∀ (g : Nat → Nat) (τ : bt) (h : bh) (nc' ns' : Nat) (l5 l6 : Option Value), lJ γ.1 x m u g τ h → nc' ≤ nc + 46 → ns' ≤ ns + 3670 → bJ γ 1072 [some (.ref b), some (.ref x), some (.ref m), some (.ref u), some (.int (bz (i : Int))), l5, l6] [] τ h nc' ns') (l5 l6 : Option Value) (F : lJ γ.1 x m u g τ h) : bJ γ 934 [some (.ref b), some (.ref x), some (.ref m), some (.ref u), some (.int (bz (i : Int))), l5, l6] [] τ h nc ns := by
  refine b_al0 C (dk_at ecL28 (i := 0) rfl).1 rfl ?_
  refine b_al0 C (dk_at ecL28 (i := 1) rfl).1 rfl ?_
  refine b_iload C (dk_at ecL28 (i := 2) rfl).1 rfl ?_
  refine b_iconst C (dk_at ecL28 (i := 3) rfl).1 ?_
  refine b_iadd C (dk_at ecL28 (i := 4) rfl).1 ?_
  refine hS _ _ _ _ _ _ _ _ (i + 1) (dk_at ecL28 (i := 5) rfl).1 (by omega) (by omega) ?_
  refine b_lcJ (zs := [xs (i + 1)]) (rest := []) C X (dk_at ecL28 (i := 6) rfl) (by decide) rfl eoc184 (by decide) rfl rfl rfl (fun p hp => absurd hp List.not_mem_nil) rfl (by decide +kernel) F F.1.2.2.1 (lz hX [i + 1]) (Nat.le_of_ble_eq_true rfl) (by omega) (by omega) (fun z1 g1 τ1 h1 _ _ F1 => ?_)
  refine b_pop C (dk_at ecL28 (i := 7) rfl).1 rfl ?_
  refine b_al0 C (dk_at ecL28 (i := 8) rfl).1 rfl ?_
  refine b_al0 C (dk_at ecL28 (i := 9) rfl).1 rfl ?_
  refine b_iload C (dk_at ecL28 (i := 10) rfl).1 rfl ?_
  refine b_iconst C (dk_at ecL28 (i := 11) rfl).1 ?_
  refine b_iadd C (dk_at ecL28 (i := 12) rfl).1 ?_
  refine hS _ _ _ _ _ _ _ _ (i + 1) (dk_at ecL28 (i := 13) rfl).1 (by omega) (by omega) ?_
  refine b_lcJ (zs := [xs (i + 1)]) (rest := []) C X (dk_at ecL28 (i := 14) rfl) (by decide) rfl eor110 (by decide) rfl rfl rfl (fun p hp => absurd hp List.not_mem_nil) rfl (by decide +kernel) F1 F1.1.2.2.2.1 (lz hX [i + 1]) (Nat.le_of_ble_eq_true rfl) (by omega) (by omega) (fun z2 g2 τ2 h2 _ _ F2 => ?_)
  refine b_pop C (dk_at ecL28 (i := 15) rfl).1 rfl ?_
  refine b_goto (t := 1072) C (dk_at ecL28 (i := 16) rfl).1 (by decide) ?_
  exact hN _ _ _ _ _ _ _ F2 (by omega) (by omega)
theorem lw_c29 {γ : bG} {b1 b2 b L x m u i nc ns : Nat} {xs : Nat → Int} {g : Nat → Nat} {τ : bt} {h : bh} (C : bC γ eyL (79 + 1) b1 b2) (X : bX γ) (hS : lS γ b L xs) (hX : ∀ j, brg (xs j)) (hL : L ≤ 3072) (hi : i + 6 ≤ L) (hb1 : nc + 46 ≤ b1) (hb2 : ns + 3670 ≤ b2) (hN : ∀ (g : Nat → Nat) (τ : bt) (h : bh) (nc' ns' : Nat) (l5 l6 : Option Value), lJ γ.1 x m u g τ h → nc' ≤ nc + 46 → ns' ≤ ns + 3670 → bJ γ 1072 [some (.ref b), some (.ref x), some (.ref m), some (.ref u), some (.int (bz (i : Int))), l5, l6] [] τ h nc' ns') (l5 l6 : Option Value) (F : lJ γ.1 x m u g τ h) : bJ γ 959 [some (.ref b), some (.ref x), some (.ref m), some (.ref u), some (.int (bz (i : Int))), l5, l6] [] τ h nc ns := by
  refine b_al0 C (dk_at ecL29 (i := 0) rfl).1 rfl ?_
  refine b_lcJ (zs := []) (rest := []) C X (dk_at ecL29 (i := 1) rfl) (by decide) rfl eoc197 (by decide) rfl rfl rfl (fun p hp => absurd hp List.not_mem_nil) rfl (by decide +kernel) F F.1.2.2.1 (lz hX []) (Nat.le_of_ble_eq_true rfl) (by omega) (by omega) (fun z1 g1 τ1 h1 _ _ F1 => ?_)
  refine b_pop C (dk_at ecL29 (i := 2) rfl).1 rfl ?_
  refine b_al0 C (dk_at ecL29 (i := 3) rfl).1 rfl ?_
  refine b_lcJ (zs := []) (rest := []) C X (dk_at ecL29 (i := 4) rfl) (by decide) rfl eox25 (by decide) rfl rfl rfl (fun p hp => absurd hp List.not_mem_nil) rfl (by decide +kernel) F1 F1.1.2.2.2.1 (lz hX []) (Nat.le_of_ble_eq_true rfl) (by omega) (by omega) (fun z2 g2 τ2 h2 _ _ F2 => ?_)
  refine b_pop C (dk_at ecL29 (i := 5) rfl).1 rfl ?_
  refine b_goto (t := 1072) C (dk_at ecL29 (i := 6) rfl).1 (by decide) ?_
  exact hN _ _ _ _ _ _ _ F2 (by omega) (by omega)
theorem lw_c30 {γ : bG} {b1 b2 b L x m u i nc ns : Nat} {xs : Nat → Int} {g : Nat → Nat} {τ : bt} {h : bh} (C : bC γ eyL (79 + 1) b1 b2) (X : bX γ) (hS : lS γ b L xs) (hX : ∀ j, brg (xs j)) (hL : L ≤ 3072) (hi : i + 6 ≤ L) (hb1 : nc + 46 ≤ b1) (hb2 : ns + 3670 ≤ b2) (hN : ∀ (g : Nat → Nat) (τ : bt) (h : bh) (nc' ns' : Nat) (l5 l6 : Option Value), lJ γ.1 x m u g τ h → nc' ≤ nc + 46 → ns' ≤ ns + 3670 → bJ γ 1072 [some (.ref b), some (.ref x), some (.ref m), some (.ref u), some (.int (bz (i : Int))), l5, l6] [] τ h nc' ns') (l5 l6 : Option Value) (F : lJ γ.1 x m u g τ h) : bJ γ 972 [some (.ref b), some (.ref x), some (.ref m), some (.ref u), some (.int (bz (i : Int))), l5, l6] [] τ h nc ns := by
  refine b_al0 C (dk_at ecL30 (i := 0) rfl).1 rfl ?_
  refine b_al0 C (dk_at ecL30 (i := 1) rfl).1 rfl ?_
  refine b_iload C (dk_at ecL30 (i := 2) rfl).1 rfl ?_
  refine b_iconst C (dk_at ecL30 (i := 3) rfl).1 ?_
  refine b_iadd C (dk_at ecL30 (i := 4) rfl).1 ?_
  refine hS _ _ _ _ _ _ _ _ (i + 1) (dk_at ecL30 (i := 5) rfl).1 (by omega) (by omega) ?_
  refine b_lcJ (zs := [xs (i + 1)]) (rest := []) C X (dk_at ecL30 (i := 6) rfl) (by decide) rfl eoc198 (by decide) rfl rfl rfl (fun p hp => absurd hp List.not_mem_nil) rfl (by decide +kernel) F F.1.2.2.1 (lz hX [i + 1]) (Nat.le_of_ble_eq_true rfl) (by omega) (by omega) (fun z1 g1 τ1 h1 _ _ F1 => ?_)
  refine b_pop C (dk_at ecL30 (i := 7) rfl).1 rfl ?_
  refine b_al0 C (dk_at ecL30 (i := 8) rfl).1 rfl ?_
  refine b_al0 C (dk_at ecL30 (i := 9) rfl).1 rfl ?_
  refine b_iload C (dk_at ecL30 (i := 10) rfl).1 rfl ?_
  refine b_iconst C (dk_at ecL30 (i := 11) rfl).1 ?_
  refine b_iadd C (dk_at ecL30 (i := 12) rfl).1 ?_
  refine hS _ _ _ _ _ _ _ _ (i + 1) (dk_at ecL30 (i := 13) rfl).1 (by omega) (by omega) ?_
  refine b_lcJ (zs := [xs (i + 1)]) (rest := []) C X (dk_at ecL30 (i := 14) rfl) (by decide) rfl eor158 (by decide) rfl rfl rfl (fun p hp => absurd hp List.not_mem_nil) rfl (by decide +kernel) F1 F1.1.2.2.2.1 (lz hX [i + 1]) (Nat.le_of_ble_eq_true rfl) (by omega) (by omega) (fun z2 g2 τ2 h2 _ _ F2 => ?_)
  refine b_pop C (dk_at ecL30 (i := 15) rfl).1 rfl ?_
  refine b_goto (t := 1072) C (dk_at ecL30 (i := 16) rfl).1 (by decide) ?_
  exact hN _ _ _ _ _ _ _ F2 (by omega) (by omega)
theorem lw_c33 {γ : bG} {b1 b2 b L x m u i nc ns : Nat} {xs : Nat → Int} {g : Nat → Nat} {τ : bt} {h : bh} (C : bC γ eyL (79 + 1) b1 b2) (X : bX γ) (hS : lS γ b L xs) (hX : ∀ j, brg (xs j)) (hL : L ≤ 3072) (hi : i + 6 ≤ L) (hb1 : nc + 46 ≤ b1) (hb2 : ns + 3670 ≤ b2) (hN : ∀ (g : Nat → Nat) (τ : bt) (h : bh) (nc' ns' : Nat) (l5 l6 : Option Value), lJ γ.1 x m u g τ h → nc' ≤ nc + 46 → ns' ≤ ns + 3670 → bJ γ 1072 [some (.ref b), some (.ref x), some (.ref m), some (.ref u), some (.int (bz (i : Int))), l5, l6] [] τ h nc' ns') (l5 l6 : Option Value) (F : lJ γ.1 x m u g τ h) : bJ γ 1047 [some (.ref b), some (.ref x), some (.ref m), some (.ref u), some (.int (bz (i : Int))), l5, l6] [] τ h nc ns := by
  refine b_al0 C (dk_at ecL33 (i := 0) rfl).1 rfl ?_
  refine b_al0 C (dk_at ecL33 (i := 1) rfl).1 rfl ?_
  refine b_iload C (dk_at ecL33 (i := 2) rfl).1 rfl ?_
  refine b_iconst C (dk_at ecL33 (i := 3) rfl).1 ?_
  refine b_iadd C (dk_at ecL33 (i := 4) rfl).1 ?_
  refine hS _ _ _ _ _ _ _ _ (i + 1) (dk_at ecL33 (i := 5) rfl).1 (by omega) (by omega) ?_
  refine b_lcJ (zs := [xs (i + 1)]) (rest := []) C X (dk_at ecL33 (i := 6) rfl) (by decide) rfl eoc186 (by decide) rfl rfl rfl (fun p hp => absurd hp List.not_mem_nil) rfl (by decide +kernel) F F.1.2.2.1 (lz hX [i + 1]) (Nat.le_of_ble_eq_true rfl) (by omega) (by omega) (fun z1 g1 τ1 h1 _ _ F1 => ?_)
  refine b_pop C (dk_at ecL33 (i := 7) rfl).1 rfl ?_
  refine b_al0 C (dk_at ecL33 (i := 8) rfl).1 rfl ?_
  refine b_al0 C (dk_at ecL33 (i := 9) rfl).1 rfl ?_
  refine b_iload C (dk_at ecL33 (i := 10) rfl).1 rfl ?_
  refine b_iconst C (dk_at ecL33 (i := 11) rfl).1 ?_
  refine b_iadd C (dk_at ecL33 (i := 12) rfl).1 ?_
  refine hS _ _ _ _ _ _ _ _ (i + 1) (dk_at ecL33 (i := 13) rfl).1 (by omega) (by omega) ?_
  refine b_lcJ (zs := [xs (i + 1)]) (rest := []) C X (dk_at ecL33 (i := 14) rfl) (by decide) rfl eor159 (by decide) rfl rfl rfl (fun p hp => absurd hp List.not_mem_nil) rfl (by decide +kernel) F1 F1.1.2.2.2.1 (lz hX [i + 1]) (Nat.le_of_ble_eq_true rfl) (by omega) (by omega) (fun z2 g2 τ2 h2 _ _ F2 => ?_)
  refine b_pop C (dk_at ecL33 (i := 15) rfl).1 rfl ?_
  refine b_goto (t := 1072) C (dk_at ecL33 (i := 16) rfl).1 (by decide) ?_
  exact hN _ _ _ _ _ _ _ F2 (by omega) (by omega)
