/-! ===== the law: its loop, its beginning ===== -/
def lLn (γ : bG) (b L : Nat) : Prop := ∀ (pc : Nat) (lo : List (Option Value)) (st : List Value) (τ : bt) (h : bh) (nc ns : Nat), decode eyL.2.1 pc = .ok (.arraylength, 1) → bJ γ (pc + 1) lo (.int (bz (L : Int)) :: st) τ h nc ns → bJ γ pc lo (.ref b :: st) τ h nc ns
theorem lw_loop {γ : bG} {b1 b2 b L x m u : Nat} {xs : Nat → Int} (C : bC γ eyL (79 + 1) b1 b2) (X : bX γ) (hn : γ.2.2.1 = 7) (hS : lS γ b L xs) (hLn : lLn γ b L) (hX : ∀ j, brg (xs j)) (hL : L ≤ 3072) (hR : ∀ (lo : List (Option Value)) (τ : bt) (h : bh) (nc ns : Nat), nc ≤ b1 → ns ≤ b2 → bJ γ 1079 lo [.int (bz 1)] τ h nc ns) : ∀ (r i : Nat) (g : Nat → Nat) (τ : bt) (h : bh) (nc ns : Nat) (l5 l6 : Option Value), L < i + 6 * r + 6 → i ≤ 3078 → nc + 46 * r ≤ b1 → ns + 3670 * r ≤ b2 → lJ γ.1 x m u g τ h → bJ γ 23 [some (.ref b), some (.ref x), some (.ref m), some (.ref u), some (.int (bz (i : Int))), l5, l6] [] τ h nc ns := by
  intro r
  induction r with
  | zero =>
    intro i g τ h nc ns l5 l6 hr hi hb1 hb2 F
    refine b_iload C (dk_at ecLH (i := 0) rfl).1 rfl ?_
    refine b_al0 C (dk_at ecLH (i := 1) rfl).1 rfl ?_
    refine hLn _ _ _ _ _ _ _ (dk_at ecLH (i := 2) rfl).1 ?_
    refine b_bipush C (dk_at ecLH (i := 3) rfl).1 ⟨by omega, by omega⟩ ?_
    refine b_isub C (dk_at ecLH (i := 4) rfl).1 ?_
    refine b_icmp_gt (t := 1078) C (dk_at ecLH (i := 5) rfl).1 (by decide) ⟨by omega, by omega⟩ ⟨by omega, by omega⟩ (fun z => ?_) (fun z => ?_)
    · refine b_iconst C (dk_at ecLT (i := 2) rfl).1 ?_
      exact hR _ _ _ _ _ (by omega) (by omega)
    · omega
  | succ r ih =>
    intro i g τ h nc ns l5 l6 hr hi hb1 hb2 F
    rw [show 3670 * (r + 1) = 3670 * r + 3670 from Nat.mul_succ _ _] at hb2
    refine b_iload C (dk_at ecLH (i := 0) rfl).1 rfl ?_
    refine b_al0 C (dk_at ecLH (i := 1) rfl).1 rfl ?_
    refine hLn _ _ _ _ _ _ _ (dk_at ecLH (i := 2) rfl).1 ?_
    refine b_bipush C (dk_at ecLH (i := 3) rfl).1 ⟨by omega, by omega⟩ ?_
    refine b_isub C (dk_at ecLH (i := 4) rfl).1 ?_
    refine b_icmp_gt (t := 1078) C (dk_at ecLH (i := 5) rfl).1 (by decide) ⟨by omega, by omega⟩ ⟨by omega, by omega⟩ (fun z => ?_) (fun z => ?_)
    · refine b_iconst C (dk_at ecLT (i := 2) rfl).1 ?_
      exact hR _ _ _ _ _ (by omega) (by omega)
    · have hi6 : i + 6 ≤ L := by omega
      have n1 : nc + 46 ≤ b1 := by omega
      have n2 : ns + 3670 ≤ b2 := Nat.le_trans (Nat.add_le_add_left (Nat.le_add_left _ _) _) hb2
      have hN : ∀ (g : Nat → Nat) (τ : bt) (h : bh) (nc' ns' : Nat) (l5 l6 : Option Value), lJ γ.1 x m u g τ h → nc' ≤ nc + 46 → ns' ≤ ns + 3670 → bJ γ 1072 [some (.ref b), some (.ref x), some (.ref m), some (.ref u), some (.int (bz (i : Int))), l5, l6] [] τ h nc' ns' := by
        intro g τ h nc' ns' l5 l6 F n1 n2
        refine b_iinc (a := (i : Int)) C (dk_at ecLT (i := 0) rfl).1 (by rw [hn]; decide) rfl (bno2_of (fun w hw _ => by cases hw; exact (show (1 : Nat) ≠ 2 by decide))) ?_
        refine b_goto (t := 23) C (dk_at ecLT (i := 1) rfl).1 (by decide) ?_
        have := ih (i + 6) g τ h nc' ns' l5 l6 (by omega) (by omega) (by omega) (by omega) F
        rw [show (((i + 6 : Nat) : Int)) = (i : Int) + 6 by omega] at this
        exact this
      refine b_al0 C (dk_at ecLH (i := 6) rfl).1 rfl ?_
      refine b_iload C (dk_at ecLH (i := 7) rfl).1 rfl ?_
      refine hS _ _ _ _ _ _ _ _ i (dk_at ecLH (i := 8) rfl).1 rfl (by omega) ?_
      refine b_bipush C (dk_at ecLH (i := 9) rfl).1 ⟨by omega, by omega⟩ ?_
      refine b_iand C (dk_at ecLH (i := 10) rfl).1 ?_
      refine b_any (fun s hs => ?_)
      by_cases c : 0 ≤ s ∧ s ≤ 33
      · have hc : s = 0 ∨ s = 1 ∨ s = 2 ∨ s = 3 ∨ s = 4 ∨ s = 5 ∨ s = 6 ∨ s = 7 ∨ s = 8 ∨ s = 9 ∨ s = 10 ∨ s = 11 ∨ s = 12 ∨ s = 13 ∨ s = 14 ∨ s = 15 ∨ s = 16 ∨ s = 17 ∨ s = 18 ∨ s = 19 ∨ s = 20 ∨ s = 21 ∨ s = 22 ∨ s = 23 ∨ s = 24 ∨ s = 25 ∨ s = 26 ∨ s = 27 ∨ s = 28 ∨ s = 29 ∨ s = 30 ∨ s = 31 ∨ s = 32 ∨ s = 33 := by omega
        rcases hc with rfl | rfl | rfl | rfl | rfl | rfl | rfl | rfl | rfl | rfl | rfl | rfl | rfl | rfl | rfl | rfl | rfl | rfl | rfl | rfl | rfl | rfl | rfl | rfl | rfl | rfl | rfl | rfl | rfl | rfl | rfl | rfl | rfl | rfl
        · refine b_tableIn (off := 152) (t := 192) C (dk_at ecLH (i := 11) rfl).1 ⟨by decide, by decide⟩ ⟨by decide, by decide⟩ rfl (by decide) ?_
          exact lw_c0 C X hS hX hL hi6 n1 n2 hN l5 l6 F
        · refine b_tableIn (off := 225) (t := 265) C (dk_at ecLH (i := 11) rfl).1 ⟨by decide, by decide⟩ ⟨by decide, by decide⟩ rfl (by decide) ?_
          exact lw_c1 C X hS hX hL hi6 n1 n2 hN l5 l6 F
        · refine b_tableIn (off := 250) (t := 290) C (dk_at ecLH (i := 11) rfl).1 ⟨by decide, by decide⟩ ⟨by decide, by decide⟩ rfl (by decide) ?_
          exact lw_c2 C X hS hX hL hi6 n1 n2 hN l5 l6 F
        · refine b_tableIn (off := 263) (t := 303) C (dk_at ecLH (i := 11) rfl).1 ⟨by decide, by decide⟩ ⟨by decide, by decide⟩ rfl (by decide) ?_
          exact lw_c3 C X hS hX hL hi6 n1 n2 hN l5 l6 F
        · refine b_tableIn (off := 276) (t := 316) C (dk_at ecLH (i := 11) rfl).1 ⟨by decide, by decide⟩ ⟨by decide, by decide⟩ rfl (by decide) ?_
          exact lw_c4 C X hS hX hL hi6 n1 n2 hN l5 l6 F
        · refine b_tableIn (off := 289) (t := 329) C (dk_at ecLH (i := 11) rfl).1 ⟨by decide, by decide⟩ ⟨by decide, by decide⟩ rfl (by decide) ?_
          exact lw_c5 C X hS hX hL hi6 n1 n2 hN l5 l6 F
        · refine b_tableIn (off := 314) (t := 354) C (dk_at ecLH (i := 11) rfl).1 ⟨by decide, by decide⟩ ⟨by decide, by decide⟩ rfl (by decide) ?_
          exact lw_c6 C X hS hX hL hi6 n1 n2 hN l5 l6 F
        · refine b_tableIn (off := 339) (t := 379) C (dk_at ecLH (i := 11) rfl).1 ⟨by decide, by decide⟩ ⟨by decide, by decide⟩ rfl (by decide) ?_
          exact lw_c7 C X hS hX hL hi6 n1 n2 hN l5 l6 F
        · refine b_tableIn (off := 364) (t := 404) C (dk_at ecLH (i := 11) rfl).1 ⟨by decide, by decide⟩ ⟨by decide, by decide⟩ rfl (by decide) ?_
          exact lw_c8 C X hS hX hL hi6 n1 n2 hN l5 l6 F
        · refine b_tableIn (off := 401) (t := 441) C (dk_at ecLH (i := 11) rfl).1 ⟨by decide, by decide⟩ ⟨by decide, by decide⟩ rfl (by decide) ?_
          exact lw_c9 C X hS hX hL hi6 n1 n2 hN l5 l6 F
        · refine b_tableIn (off := 426) (t := 466) C (dk_at ecLH (i := 11) rfl).1 ⟨by decide, by decide⟩ ⟨by decide, by decide⟩ rfl (by decide) ?_
          exact lw_c10 C X hS hX hL hi6 n1 n2 hN l5 l6 F
        · refine b_tableIn (off := 439) (t := 479) C (dk_at ecLH (i := 11) rfl).1 ⟨by decide, by decide⟩ ⟨by decide, by decide⟩ rfl (by decide) ?_
          exact lw_c11 C X hS hX hL hi6 n1 n2 hN l5 l6 F
        · refine b_tableIn (off := 452) (t := 492) C (dk_at ecLH (i := 11) rfl).1 ⟨by decide, by decide⟩ ⟨by decide, by decide⟩ rfl (by decide) ?_
          exact lw_c12 C X hS hX hL hi6 n1 n2 hN l5 l6 F
        · refine b_tableIn (off := 465) (t := 505) C (dk_at ecLH (i := 11) rfl).1 ⟨by decide, by decide⟩ ⟨by decide, by decide⟩ rfl (by decide) ?_
          exact lw_c13 C X hS hX hL hi6 n1 n2 hN l5 l6 F
        · refine b_tableIn (off := 490) (t := 530) C (dk_at ecLH (i := 11) rfl).1 ⟨by decide, by decide⟩ ⟨by decide, by decide⟩ rfl (by decide) ?_
          exact lw_c14 C X hS hX hL hi6 n1 n2 hN hn l5 l6 F
        · refine b_tableIn (off := 530) (t := 570) C (dk_at ecLH (i := 11) rfl).1 ⟨by decide, by decide⟩ ⟨by decide, by decide⟩ rfl (by decide) ?_
          exact lw_c15 C X hS hX hL hi6 n1 n2 hN l5 l6 F
        · refine b_tableIn (off := 579) (t := 619) C (dk_at ecLH (i := 11) rfl).1 ⟨by decide, by decide⟩ ⟨by decide, by decide⟩ rfl (by decide) ?_
          exact lw_c16 C X hS hX hL hi6 n1 n2 hN l5 l6 F
        · refine b_tableIn (off := 616) (t := 656) C (dk_at ecLH (i := 11) rfl).1 ⟨by decide, by decide⟩ ⟨by decide, by decide⟩ rfl (by decide) ?_
          exact lw_c17 C X hS hX hL hi6 n1 n2 hN l5 l6 F
        · refine b_tableIn (off := 653) (t := 693) C (dk_at ecLH (i := 11) rfl).1 ⟨by decide, by decide⟩ ⟨by decide, by decide⟩ rfl (by decide) ?_
          exact lw_c18 C X hS hX hL hi6 n1 n2 hN l5 l6 F
        · refine b_tableIn (off := 678) (t := 718) C (dk_at ecLH (i := 11) rfl).1 ⟨by decide, by decide⟩ ⟨by decide, by decide⟩ rfl (by decide) ?_
          exact lw_c19 C X hS hX hL hi6 n1 n2 hN hn l5 l6 F
        · refine b_tableIn (off := 706) (t := 746) C (dk_at ecLH (i := 11) rfl).1 ⟨by decide, by decide⟩ ⟨by decide, by decide⟩ rfl (by decide) ?_
          exact lw_c20 C X hS hX hL hi6 n1 n2 hN l5 l6 F
        · refine b_tableIn (off := 719) (t := 759) C (dk_at ecLH (i := 11) rfl).1 ⟨by decide, by decide⟩ ⟨by decide, by decide⟩ rfl (by decide) ?_
          exact lw_c21 C X hS hX hL hi6 n1 n2 hN l5 l6 F
        · refine b_tableIn (off := 744) (t := 784) C (dk_at ecLH (i := 11) rfl).1 ⟨by decide, by decide⟩ ⟨by decide, by decide⟩ rfl (by decide) ?_
          exact lw_c22 C X hS hX hL hi6 n1 n2 hN l5 l6 F
        · refine b_tableIn (off := 757) (t := 797) C (dk_at ecLH (i := 11) rfl).1 ⟨by decide, by decide⟩ ⟨by decide, by decide⟩ rfl (by decide) ?_
          exact lw_c23 C X hS hX hL hi6 n1 n2 hN l5 l6 F
        · refine b_tableIn (off := 770) (t := 810) C (dk_at ecLH (i := 11) rfl).1 ⟨by decide, by decide⟩ ⟨by decide, by decide⟩ rfl (by decide) ?_
          exact lw_c24 C X hS hX hL hi6 n1 n2 hN l5 l6 F
        · refine b_tableIn (off := 795) (t := 835) C (dk_at ecLH (i := 11) rfl).1 ⟨by decide, by decide⟩ ⟨by decide, by decide⟩ rfl (by decide) ?_
          exact lw_c25 C X hS hX hL hi6 n1 n2 hN l5 l6 F
        · refine b_tableIn (off := 832) (t := 872) C (dk_at ecLH (i := 11) rfl).1 ⟨by decide, by decide⟩ ⟨by decide, by decide⟩ rfl (by decide) ?_
          exact lw_c26 C X hS hX hL hi6 n1 n2 hN l5 l6 F
        · refine b_tableIn (off := 869) (t := 909) C (dk_at ecLH (i := 11) rfl).1 ⟨by decide, by decide⟩ ⟨by decide, by decide⟩ rfl (by decide) ?_
          exact lw_c27 C X hS hX hL hi6 n1 n2 hN l5 l6 F
        · refine b_tableIn (off := 894) (t := 934) C (dk_at ecLH (i := 11) rfl).1 ⟨by decide, by decide⟩ ⟨by decide, by decide⟩ rfl (by decide) ?_
          exact lw_c28 C X hS hX hL hi6 n1 n2 hN l5 l6 F
        · refine b_tableIn (off := 919) (t := 959) C (dk_at ecLH (i := 11) rfl).1 ⟨by decide, by decide⟩ ⟨by decide, by decide⟩ rfl (by decide) ?_
          exact lw_c29 C X hS hX hL hi6 n1 n2 hN l5 l6 F
        · refine b_tableIn (off := 932) (t := 972) C (dk_at ecLH (i := 11) rfl).1 ⟨by decide, by decide⟩ ⟨by decide, by decide⟩ rfl (by decide) ?_
          exact lw_c30 C X hS hX hL hi6 n1 n2 hN l5 l6 F
        · refine b_tableIn (off := 957) (t := 997) C (dk_at ecLH (i := 11) rfl).1 ⟨by decide, by decide⟩ ⟨by decide, by decide⟩ rfl (by decide) ?_
          exact lw_c31 C X hS hX hL hi6 n1 n2 hN l5 l6 F
        · refine b_tableIn (off := 982) (t := 1022) C (dk_at ecLH (i := 11) rfl).1 ⟨by decide, by decide⟩ ⟨by decide, by decide⟩ rfl (by decide) ?_
          exact lw_c32 C X hS hX hL hi6 n1 n2 hN l5 l6 F
        · refine b_tableIn (off := 1007) (t := 1047) C (dk_at ecLH (i := 11) rfl).1 ⟨by decide, by decide⟩ ⟨by decide, by decide⟩ rfl (by decide) ?_
          exact lw_c33 C X hS hX hL hi6 n1 n2 hN l5 l6 F
      · refine b_tableOut (t := 1072) C (dk_at ecLH (i := 11) rfl).1 hs (by omega) (by decide) ?_
        exact hN _ _ _ _ _ _ _ F (by omega) (by omega)
theorem t1_back {g : Nat → Nat} {τ : bt} {h : bh} (hw : cWT cT0 g τ h) (n : ∀ a, g a ≠ 52) : cWT cT1 g τ h := by
  intro a ha
  obtain ⟨R, r1, r2⟩ := hw a ha
  exact ⟨R, by rw [t1_eq (n a)]; exact r1, r2⟩
theorem lw_all {γ : bG} {b1 b2 b L : Nat} {xs : Nat → Int} {g0 : Nat → Nat} {τ0 : bt} {h0 : bh} (C : bC γ eyL (79 + 1) b1 b2) (X : bX γ) (hn : γ.2.2.1 = 7) (hS : lS γ b L xs) (hLn : lLn γ b L) (hX : ∀ j, brg (xs j)) (hL : L ≤ 3072) (hR : ∀ (lo : List (Option Value)) (τ : bt) (h : bh) (nc ns : Nat), nc ≤ b1 → ns ≤ b2 → bJ γ 1079 lo [.int (bz 1)] τ h nc ns) (hb1 : 24000 ≤ b1) (hb2 : 2000000 ≤ b2) (hw0 : cWT cT0 g0 τ0 h0) (h52 : ∀ a, g0 a ≠ 52) (hk0 : cKt γ.1 g0) : bJ γ 0 [some (.ref b), none, none, none, none, none, none] [] τ0 h0 0 0 := by
  have hw0 := t1_back hw0 h52
  refine b_nO C (dk_at ecLP (i := 0) rfl) (by omega) (by omega) (fun x zx => ?_)
  have w1 := nw_wt (k := 11) (n := 0) hw0 zx
  refine b_dup C (dk_at ecLP (i := 1) rfl).1 rfl ?_
  have tx : (bnT τ0 x 11 0).1 x = 11 := if_pos rfl
  have lx : (bnT τ0 x 11 0).2 x = 0 := if_pos rfl
  have gx := nw_g hw0 zx
  have nx : ∀ k, (bnH h0 x).2 x k = none := fun k => if_pos rfl
  have ix : ∀ k, (bnH h0 x).1 x k = 0 := fun k => if_pos rfl
  refine b_isp (As := []) (rest := [.ref x]) C X (dk_at ecLP (i := 2) rfl) (by decide) rfl (etc156 g0 (fun _ => 0) (fun _ => some x)) (by decide) rfl ⟨w1, hk0, fun _ => brg0, ⟨⟨fun _ => brg0, fun q hq => absurd hq List.not_mem_nil⟩, fun q hq => absurd hq List.not_mem_nil, fun q hq => ?_, fun q hq => ?_⟩, ⟨cv_P rfl, trivial⟩⟩ (Nat.le_of_ble_eq_true rfl) (by omega) (by omega) ?_
  · obtain rfl := List.mem_singleton.mp hq
    exact Or.inr ⟨x, rfl, tx, by decide, gx, by show ((bnT τ0 x 11 0).2 x : Int) = 0 + 0; rw [lx]; rfl⟩
  · have key : ∀ q ∈ enc156.1.2.2.1.2.2.2, q.1 = 0 ∧ (q.2.2.1 = 2 ∨ q.2.2 = (0, 0, (0, []))) := by decide
    obtain ⟨k1, k2⟩ := key q hq
    refine ⟨x, by rw [k1], fun z => ?_, fun z => ?_, fun _ => nx _⟩
    · rcases k2 with k2 | k2
      · omega
      · rw [k2, ix]; rfl
    · rcases k2 with k2 | k2
      · omega
      · rw [k2] at z; cases z
  rintro v τ2 h2 ⟨g2, ρ2, σ2, w2, k2, H2, a2, s2, v2⟩
  cases v with
  | some v => exact (show False from v2).elim
  | none =>
    obtain ⟨tx2, gx2, lx2⟩ : τ2.1 x = 11 ∧ g2 x = 11 ∧ τ2.2 x = 0 := by
      rcases s2.2.2.1 _ List.mem_cons_self with ⟨e, -⟩ | ⟨x', e1, e2, -, e4, e5⟩
      · cases e
      · have e1 : σ2 0 = some x' := e1
        have a3 : σ2 0 = some x := a2.2.2 0 (by decide)
        rw [a3] at e1
        cases e1
        have e5 : (τ2.2 x : Int) = 0 + 0 := e5
        exact ⟨e2, e4, by omega⟩
    obtain ⟨J, iJ, gJ, -, tJ, -, -⟩ := m_arr w2 (k := 3) (r := 52) gx2 (by decide) rfl t1_52.1
    have tJ : τ2.1 J = 26 := tJ
    have nJ := fun k hk => t1_null w2 (I := J) (k := k) gJ hk
    have w2 := t1_wt w2
    refine b_astore_n (o := some x) C (dk_at ecLP (i := 3) rfl).1 (by rw [hn]; decide) (bno2_of (fun w hw _ => by cases hw; exact (show (1 : Nat) ≠ 2 by decide))) ?_
    refine b_nO C (dk_at ecLP (i := 4) rfl) (by omega) (by omega) (fun m zm => ?_)
    have w3 := nw_wt (k := 12) (n := 0) w2 zm
    refine b_dup C (dk_at ecLP (i := 5) rfl).1 rfl ?_
    have tm : (bnT τ2 m 12 0).1 m = 12 := if_pos rfl
    have lm : (bnT τ2 m 12 0).2 m = 0 := if_pos rfl
    have gm := nw_g w2 zm
    have xm : x ≠ m := fun e => by rw [e] at tx2; omega
    refine b_isp (As := []) (rest := [.ref m]) C X (dk_at ecLP (i := 6) rfl) (by decide) rfl (in_fun m) (by decide) rfl ⟨rfl, tm⟩ (Nat.le_of_ble_eq_true rfl) (by omega) (by omega) ?_
    rintro v τ4 h4 ⟨h3, l, a, r, o, I, hl, ha, hr, ho, rfl, rfl⟩
    obtain ⟨w4, k4, old, -, tm4, lm4⟩ := in_wt w3 k2 gm tm lm (fun i => if_pos rfl) I hl ha hr ho
    have x3 : (bnT τ2 m 12 0).1 x = 11 := by show (if x = m then 12 else _) = _; rw [if_neg xm]; exact tx2
    have x32 : (bnT τ2 m 12 0).2 x = 0 := by show (if x = m then 0 else _) = _; rw [if_neg xm]; exact lx2
    obtain ⟨y1, y2, -, y4⟩ := I.1 x (by rw [x3]; decide)
    have Jm : J ≠ m := fun e => by rw [e, zm] at tJ; cases tJ
    have J3 : (bnT τ2 m 12 0).1 J = 26 := by show (if J = m then 12 else _) = _; rw [if_neg Jm]; exact tJ
    obtain ⟨j1, -, -, j4⟩ := I.1 J (by rw [J3]; decide)
    obtain ⟨B, hB, tB, lB, qB⟩ := I.get hl (k := 23) (kd := 43) (n := 2) (by decide)
    obtain ⟨a', ha', ta', -, -⟩ := I.get hl (k := 14) (kd := 41) (n := 3266) (by decide)
    obtain ⟨r', hr', tr', -, -⟩ := I.get hl (k := 15) (kd := 41) (n := 28) (by decide)
    obtain ⟨o', ho', -, lo', -⟩ := I.get hl (k := 24) (kd := 43) (n := 7) (by decide)
    rw [ha] at ha'
    rw [hr] at hr'
    rw [ho] at ho'
    cases ha'
    cases hr'
    cases ho'
    have vB : ∀ k, (inH h3 a r o).1 B k = 0 := fun k => by
      rw [inH_oth (fun e => by rw [e] at tB; omega) (fun e => by rw [e] at tB; omega) (fun e => by rw [e] at lB; omega)]
      exact (I.2.1 _ qB).2.2.2.1 k
    refine b_astore_n (o := some m) C (dk_at ecLP (i := 7) rfl).1 (by rw [hn]; decide) (bno2_of (fun w hw _ => by cases hw; exact (show (1 : Nat) ≠ 2 by decide))) ?_
    refine b_iconst C (dk_at ecLP (i := 8) rfl).1 ?_
    refine b_nA C (dk_at ecLP (i := 9) rfl) (by decide) (by decide) (by omega) (by show _ + 1 ≤ b2; omega) (fun u zu => ?_)
    have ux : x ≠ u := fun e => by rw [← e, y1, x3] at zu; cases zu
    have um : m ≠ u := fun e => by rw [← e, tm4] at zu; cases zu
    have w5 := nw_wt (k := 44) (n := Int.toNat 1) w4 zu
    refine b_astore_n (o := some u) C (dk_at ecLP (i := 10) rfl).1 (by rw [hn]; decide) (bno2_of (fun w hw _ => by cases hw; exact (show (1 : Nat) ≠ 2 by decide))) ?_
    refine b_iconst C (dk_at ecLP (i := 11) rfl).1 ?_
    refine b_istore C (dk_at ecLP (i := 12) rfl).1 (by rw [hn]; decide) (bno2_of (fun w hw _ => by cases hw; exact (show (1 : Nat) ≠ 2 by decide))) ?_
    refine lw_loop (b := b) (L := L) (x := x) (m := m) (u := u) C X hn hS hLn hX hL hR 513 0 (inG g2 m l) _ _ _ _ none none (by omega) (by omega) (by omega) (by show _ + 1 + 3670 * 513 ≤ b2; omega) ⟨⟨w5, k4, ⟨?_, ?_, ?_⟩, ⟨?_, inG_m, ?_⟩, if_pos rfl, if_pos rfl⟩, J, B, ?_, ?_, fun k hk => ?_⟩
    · show (if x = u then 44 else _) = _; rw [if_neg ux, y1]; exact x3
    · rw [old x (by rw [gx2]; decide)]; exact gx2
    · show (if x = u then _ else _) = _; rw [if_neg ux, y2]; exact x32
    · show (if m = u then 44 else _) = _; rw [if_neg um]; exact tm4
    · show (if m = u then _ else _) = _; rw [if_neg um]; exact lm4
    · show (if x = u then none else h3.2 x 3) = some J
      rw [if_neg ux, y4 3 xm]
      show (if x = m then none else h2.2 x 3) = some J
      rw [if_neg xm]
      exact iJ
    · show (if m = u then none else h3.2 m 23) = some B
      rw [if_neg um]
      exact hB
    · have Ju : J ≠ u := fun e => by rw [← e, j1, J3] at zu; cases zu
      have Bu : B ≠ u := fun e => by rw [← e, tB] at zu; cases zu
      have eJ : (bnH (inH h3 a r o) u).2 J k = none := by
        show (if J = u then none else h3.2 J k) = none
        rw [if_neg Ju, j4 k Jm]
        show (if J = m then none else h2.2 J k) = none
        rw [if_neg Jm]
        exact nJ k hk
      have eB : (bnH (inH h3 a r o) u).1 B k = 0 := by
        show (if B = u then (0 : Int) else (inH h3 a r o).1 B k) = 0
        rw [if_neg Bu]
        exact vB k
      exact ⟨fun z => absurd eJ z, fun z => by rw [eB] at z; cases z⟩
