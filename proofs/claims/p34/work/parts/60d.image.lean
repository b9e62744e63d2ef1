/-! ===== p34: image and restore of the class, exact ===== -/
theorem vre_fun (g0 : Nat → Nat) (x I : Nat) (z : Int) : bOk ey167 3 4 0 0 (fun ι avs τ h => avs = [.ref x, .int (bz z)] ∧ brg z ∧ cWT cT0 g0 τ h ∧ cKt ι g0 ∧ (τ.1 x = 11 ∧ g0 x = 11 ∧ τ.2 x = 0) ∧ h.2 x 3 = some I) (fun ι avs τ h v τ' h' => ∃ (g' : Nat → Nat) (v' : Int), cWT cT0 g' τ' h' ∧ cKt ι g' ∧ cHi enc185.2.2 g0 τ h g' τ' h' ∧ v = some (.int (bz v')) ∧ h'.2 x 3 = some I ∧ (∀ j, h'.2 I j = h.2 I j) ∧ ((v' = 1 ∧ ∃ k : Nat, (k : Int) = z ∧ k < 2 ∧ h.2 I k ≠ none) ∨ (v' = 0 ∧ ¬ ∃ k : Nat, (k : Int) = z ∧ k < 2 ∧ h.2 I k ≠ none))) := by
  refine bOk_of emp167.1.2.2.2.2.2.1 ?_ ?_
  · rintro ι avs τ h ⟨rfl, -⟩
    exact Nat.le_of_ble_eq_true rfl
  · intro γ ι τ h avs d hd hp Bg C
    obtain ⟨rfl, hz, hw, hk, ⟨tx, gx, lx⟩, i1⟩ := hp
    have hz1 := hz.1
    have hz2 := hz.2
    have hn : γ.2.2.1 = 3 := Bg.2.1
    obtain rfl : γ.1 = ι := Bg.1
    obtain ⟨d, rfl⟩ : ∃ d', d = d' + 1 := ⟨d - 1, by omega⟩
    obtain ⟨iI, tI, lI'⟩ : g0 I = 52 ∧ τ.1 I = 26 ∧ τ.2 I = 2 := by
      obtain ⟨a, a1, a2, -, a4, a5, a6⟩ := m_arr hw (k := 3) (r := 52) gx (by decide) rfl cR52
      rw [i1] at a1
      cases a1
      have a5 : (2 : Int) ≤ τ.2 I := a5
      have a6 : (τ.2 I : Int) ≤ 2 := a6
      exact ⟨a2, a4, by omega⟩
    have nxI : x ≠ I := fun e => by rw [e] at gx; omega
    have noE : ∀ j, cef enc138.2.2 26 j = false := by
      intro j
      cases e : cef enc138.2.2 26 j with
      | false => rfl
      | true =>
        obtain ⟨q, q1, q2⟩ := cany_iff e
        obtain ⟨f1, -⟩ := c_and q2
        have key : ∀ q ∈ enc138.2.2, Nat.beq q.1 26 = false := by decide +kernel
        rw [key q q1] at f1
        cases f1
    refine b_iload_n C (dk_at ec167 (i := 0) rfl).1 rfl ?_
    refine b_if_lt (t := 13) C (dk_at ec167 (i := 1) rfl).1 (by decide) hz (fun z1 => ?_) (fun z1 => ?_)
    · refine b_iconst C (dk_at ec167 (i := 7) rfl).1 ?_
      exact b_iret C Bg (dk_at ec167 (i := 8) rfl).1 (Or.inr ⟨rfl, Or.inl rfl⟩) (Nat.zero_le _) (Nat.zero_le _) ⟨g0, 0, hw, hk, cHi.rfl, rfl, i1, fun j => rfl, Or.inr ⟨rfl, fun ⟨k', e1, e2, _⟩ => by omega⟩⟩
    · refine b_iload_n C (dk_at ec167 (i := 2) rfl).1 rfl ?_
      refine b_al0 C (dk_at ec167 (i := 3) rfl).1 rfl ?_
      refine b_gR C (dk_at ec167 (i := 4) rfl) tx i1 ?_
      refine b_alen C (dk_at ec167 (i := 5) rfl).1 ⟨by rw [tI]; decide, Or.inr (by rw [tI]; decide)⟩ (fun _ => ?_)
      rw [lI']
      refine b_icmp_lt (t := 15) C (dk_at ec167 (i := 6) rfl).1 (by decide) hz ⟨by omega, by omega⟩ (fun z10 => ?_) (fun z10 => ?_)
      · obtain ⟨k, ek⟩ : ∃ k : Nat, (k : Int) = z := ⟨z.toNat, by omega⟩
        subst ek
        refine b_al0 C (dk_at ec167 (i := 9) rfl).1 rfl ?_
        refine b_gR C (dk_at ec167 (i := 10) rfl) tx i1 ?_
        refine b_iload_n C (dk_at ec167 (i := 11) rfl).1 rfl ?_
        refine b_aald C (dk_at ec167 (i := 12) rfl).1 (Or.inr tI) (by omega) (by rw [lI']; omega) ?_
        rw [show ((k : Int)).toNat = k by omega]
        refine b_astore_n (o := h.2 I k) C (dk_at ec167 (i := 13) rfl).1 (by rw [hn]; decide) (bno2_of (fun w hw _ => by cases hw; exact (show (1 : Nat) ≠ 2 by decide))) ?_
        refine b_aload_n (o := h.2 I k) C (dk_at ec167 (i := 14) rfl).1 rfl ?_
        have pI := w_slot hw iI (by decide) cR52 (s53.2 k (by omega))
        refine b_ifnonnull (t := 28) C (dk_at ec167 (i := 15) rfl).1 (by decide) (fun dz ez => ?_) (fun ez => ?_)
        · rcases pI with e | ⟨w9, e, gw, tw, lw⟩
          · rw [e] at ez; cases ez
          · obtain ⟨wd, q1, q2, q3, q4⟩ := c_obj (k := 2) hw gx (by decide) rfl cR10'
            refine b_al0 C (dk_at ec167 (i := 18) rfl).1 rfl ?_
            refine b_gR C (dk_at ec167 (i := 19) rfl) tx q1 ?_
            refine b_aload_n (o := h.2 I k) C (dk_at ec167 (i := 20) rfl).1 rfl ?_
            rw [e]
            refine b_cF (rest := []) C Bg.x (dk_at ec167 (i := 21) rfl) (by decide) rfl (by omega) rfl hw hk ⟨q3, q2, q4⟩ ⟨tw, gw, lw⟩ (Nat.le_of_ble_eq_true rfl) (Nat.le_refl _) (Nat.le_refl _) (fun g2 τ2 h2 w2 k2 H2 => ?_)
            obtain ⟨t2, g2x, -⟩ := c_keep H2 tx (by decide) gx (by decide) lx
            have Hx := (H2 x (by omega)).2.2.2
            have HI := (H2 I (by rw [tI]; decide)).2.2.2
            refine b_al0 C (dk_at ec167 (i := 22) rfl).1 rfl ?_
            refine b_iconst C (dk_at ec167 (i := 23) rfl).1 ?_
            refine b_pI C (dk_at ec167 (i := 24) rfl) brg0 t2 ?_
            refine b_iconst C (dk_at ec167 (i := 25) rfl).1 ?_
            have w3 : cWT cT0 g2 τ2 (bsetI h2 x 10 0) := cWT.fld w2 (by rw [g2x]; exact cR11) (by decide) (by omega) (by omega) (fun z => absurd (show (cseg (cSg 11) 10).1 = 0 from z) (by rw [s11.2.2]; decide))
            exact b_iret C Bg (dk_at ec167 (i := 26) rfl).1 (Or.inr ⟨rfl, Or.inr rfl⟩) (Nat.zero_le _) (Nat.zero_le _) ⟨g2, 1, w3, k2, cHi.trans (E' := enc185.2.2) (by decide +kernel) (cHi.trans (E' := enc138.2.2) (by decide +kernel) cHi.rfl H2) (fld_hi (by rw [t2]; decide +kernel)), rfl, by rw [show (bsetI h2 x 10 0).2 x 3 = h2.2 x 3 from rfl, (Hx 3 (by rw [tx]; decide +kernel)).2]; exact i1, fun j => (HI j (by rw [tI]; exact noE j)).2, Or.inl ⟨rfl, k, rfl, by omega, by rw [e]; exact (fun z => (by cases z))⟩⟩
        · refine b_iconst C (dk_at ec167 (i := 16) rfl).1 ?_
          exact b_iret C Bg (dk_at ec167 (i := 17) rfl).1 (Or.inr ⟨rfl, Or.inl rfl⟩) (Nat.zero_le _) (Nat.zero_le _) ⟨g0, 0, hw, hk, cHi.rfl, rfl, i1, fun j => rfl, Or.inr ⟨rfl, fun ⟨k', e1, e2, e3⟩ => e3 (by rw [show k' = k by omega]; exact ez)⟩⟩
      · refine b_iconst C (dk_at ec167 (i := 7) rfl).1 ?_
        exact b_iret C Bg (dk_at ec167 (i := 8) rfl).1 (Or.inr ⟨rfl, Or.inl rfl⟩) (Nat.zero_le _) (Nat.zero_le _) ⟨g0, 0, hw, hk, cHi.rfl, rfl, i1, fun j => rfl, Or.inr ⟨rfl, fun ⟨k', e1, e2, _⟩ => by omega⟩⟩
theorem vim_fun (g0 : Nat → Nat) (x I : Nat) (z : Int) : bOk ey166 3 4 23 1835 (fun ι avs τ h => avs = [.ref x, .int (bz z)] ∧ brg z ∧ cWT cT0 g0 τ h ∧ cKt ι g0 ∧ (τ.1 x = 11 ∧ g0 x = 11 ∧ τ.2 x = 0) ∧ h.2 x 3 = some I) (fun ι avs τ h v τ' h' => ∃ (g' : Nat → Nat) (v' : Int), cWT cT0 g' τ' h' ∧ cKt ι g' ∧ cHi enc187.2.2 g0 τ h g' τ' h' ∧ v = some (.int (bz v')) ∧ h'.2 x 3 = some I ∧ ((v' = 1 ∧ ∃ k : Nat, (k : Int) = z ∧ k < 2 ∧ h'.2 I k ≠ none ∧ ∀ j, j < 2 → j ≠ k → h'.2 I j = h.2 I j) ∨ (v' = 0 ∧ ¬ (0 ≤ z ∧ z ≤ 1) ∧ ∀ j, h'.2 I j = h.2 I j))) := by
  refine bOk_of emp166.1.2.2.2.2.2.1 ?_ ?_
  · rintro ι avs τ h ⟨rfl, -⟩
    exact Nat.le_of_ble_eq_true rfl
  · intro γ ι τ h avs d hd hp Bg C
    obtain ⟨rfl, hz, hw, hk, ⟨tx, gx, lx⟩, i1⟩ := hp
    have hz1 := hz.1
    have hz2 := hz.2
    have hn : γ.2.2.1 = 3 := Bg.2.1
    obtain rfl : γ.1 = ι := Bg.1
    obtain ⟨d, rfl⟩ : ∃ d', d = d' + 1 := ⟨d - 1, by omega⟩
    obtain ⟨iI, tI, lI'⟩ : g0 I = 52 ∧ τ.1 I = 26 ∧ τ.2 I = 2 := by
      obtain ⟨a, a1, a2, -, a4, a5, a6⟩ := m_arr hw (k := 3) (r := 52) gx (by decide) rfl cR52
      rw [i1] at a1
      cases a1
      have a5 : (2 : Int) ≤ τ.2 I := a5
      have a6 : (τ.2 I : Int) ≤ 2 := a6
      exact ⟨a2, a4, by omega⟩
    have nxI : x ≠ I := fun e => by rw [e] at gx; omega
    have noE : ∀ j, cef enc138.2.2 26 j = false := by
      intro j
      cases e : cef enc138.2.2 26 j with
      | false => rfl
      | true =>
        obtain ⟨q, q1, q2⟩ := cany_iff e
        obtain ⟨f1, -⟩ := c_and q2
        have key : ∀ q ∈ enc138.2.2, Nat.beq q.1 26 = false := by decide +kernel
        rw [key q q1] at f1
        cases f1
    have noW : ∀ j, cef enc137.2.2 26 j = false := by
      intro j
      cases e : cef enc137.2.2 26 j with
      | false => rfl
      | true =>
        obtain ⟨q, q1, q2⟩ := cany_iff e
        obtain ⟨f1, -⟩ := c_and q2
        have key : ∀ q ∈ enc137.2.2, Nat.beq q.1 26 = false := by decide +kernel
        rw [key q q1] at f1
        cases f1
    refine b_iload_n C (dk_at ec166 (i := 0) rfl).1 rfl ?_
    refine b_if_lt (t := 13) C (dk_at ec166 (i := 1) rfl).1 (by decide) hz (fun z1 => ?_) (fun z1 => ?_)
    · refine b_iconst C (dk_at ec166 (i := 7) rfl).1 ?_
      exact b_iret C Bg (dk_at ec166 (i := 8) rfl).1 (Or.inr ⟨rfl, Or.inl rfl⟩) (Nat.zero_le _) (Nat.zero_le _) ⟨g0, 0, hw, hk, cHi.rfl, rfl, i1, Or.inr ⟨rfl, by omega, fun j => rfl⟩⟩
    · refine b_iload_n C (dk_at ec166 (i := 2) rfl).1 rfl ?_
      refine b_al0 C (dk_at ec166 (i := 3) rfl).1 rfl ?_
      refine b_gR C (dk_at ec166 (i := 4) rfl) tx i1 ?_
      refine b_alen C (dk_at ec166 (i := 5) rfl).1 ⟨by rw [tI]; decide, Or.inr (by rw [tI]; decide)⟩ (fun _ => ?_)
      rw [lI']
      refine b_icmp_lt (t := 15) C (dk_at ec166 (i := 6) rfl).1 (by decide) hz ⟨by omega, by omega⟩ (fun z10 => ?_) (fun z10 => ?_)
      · obtain ⟨k, ek⟩ : ∃ k : Nat, (k : Int) = z := ⟨z.toNat, by omega⟩
        subst ek
        have tail : ∀ (g2 : Nat → Nat) (τ2 : bt) (h2 : bh) (w9 nc ns : Nat) (lo : List (Option Value)), lo[0]? = some (some (.ref x)) → lo[2]? = some (some (.ref w9)) → cWT cT0 g2 τ2 h2 → cKt γ.1 g2 → cHi enc187.2.2 g0 τ h g2 τ2 h2 → h2.2 x 3 = some I → h2.2 I k = some w9 → (∀ j, j < 2 → j ≠ k → h2.2 I j = h.2 I j) → τ2.1 w9 = 10 → g2 w9 = 10 → τ2.2 w9 = 0 → nc ≤ 23 → ns ≤ 1835 → bJ γ 41 lo [] τ2 h2 nc ns := by
          intro g2 τ2 h2 w9 nc ns lo hl0 hl2 w2 k2 H2 q1 q2 q3 tw gw lw n1 n2
          obtain ⟨t2, g2x, l2x⟩ := c_keep H2 tx (by decide) gx (by decide) lx
          have tI2 : τ2.1 I = 26 := (H2 I (by rw [tI]; decide)).1.trans tI
          obtain ⟨wd, u1, u2, u3, u4⟩ := c_obj (k := 2) w2 g2x (by decide) rfl cR10'
          refine b_aload_n (o := some w9) C (dk_at ec166 (i := 25) rfl).1 hl2 ?_
          refine b_al0 C (dk_at ec166 (i := 26) rfl).1 hl0 ?_
          refine b_gR C (dk_at ec166 (i := 27) rfl) t2 u1 ?_
          refine b_cF (rest := []) C Bg.x (dk_at ec166 (i := 28) rfl) (by decide) rfl (by omega) rfl w2 k2 ⟨tw, gw, lw⟩ ⟨u3, u2, u4⟩ (Nat.le_of_ble_eq_true rfl) n1 n2 (fun g3 τ3 h3 w3 k3 H3 => ?_)
          have Hx := (H3 x (by rw [t2]; decide)).2.2.2
          have HI := (H3 I (by rw [tI2]; decide)).2.2.2
          refine b_iconst C (dk_at ec166 (i := 29) rfl).1 ?_
          exact b_iret C Bg (dk_at ec166 (i := 30) rfl).1 (Or.inr ⟨rfl, Or.inr rfl⟩) n1 n2 ⟨g3, 1, w3, k3, cHi.trans (E' := enc138.2.2) (by decide +kernel) H2 H3, rfl, by rw [(Hx 3 (by rw [t2]; decide +kernel)).2]; exact q1, Or.inl ⟨rfl, k, rfl, by omega, by rw [(HI k (by rw [tI2]; exact noE k)).2, q2]; exact (fun z => (by cases z)), fun j hj hjk => by rw [(HI j (by rw [tI2]; exact noE j)).2]; exact q3 j hj hjk⟩⟩
        refine b_al0 C (dk_at ec166 (i := 9) rfl).1 rfl ?_
        refine b_gR C (dk_at ec166 (i := 10) rfl) tx i1 ?_
        refine b_iload_n C (dk_at ec166 (i := 11) rfl).1 rfl ?_
        refine b_aald C (dk_at ec166 (i := 12) rfl).1 (Or.inr tI) (by omega) (by rw [lI']; omega) ?_
        rw [show ((k : Int)).toNat = k by omega]
        refine b_astore_n (o := h.2 I k) C (dk_at ec166 (i := 13) rfl).1 (by rw [hn]; decide) (bno2_of (fun w hw _ => by cases hw; exact (show (1 : Nat) ≠ 2 by decide))) ?_
        refine b_aload_n (o := h.2 I k) C (dk_at ec166 (i := 14) rfl).1 rfl ?_
        have pI := w_slot hw iI (by decide) cR52 (s53.2 k (by omega))
        refine b_ifnonnull (t := 41) C (dk_at ec166 (i := 15) rfl).1 (by decide) (fun dz ez => ?_) (fun ez => ?_)
        · rcases pI with e | ⟨w9, e, gw, tw, lw⟩
          · rw [e] at ez; cases ez
          · refine tail g0 τ h w9 0 0 _ rfl ?_ hw hk cHi.rfl i1 e (fun j _ _ => rfl) tw gw lw (Nat.zero_le _) (Nat.zero_le _)
            show some (some (va_rf (h.2 I k))) = _
            rw [e]
            rfl
        · refine b_nW (st := []) C Bg.x (dk_at ec166 (i := 16) rfl) (dk_at ec166 (i := 17) rfl).1 (dk_at ec166 (i := 18) rfl) rfl (by omega) hw hk (fun w => Nat.le_of_ble_eq_true rfl) (by decide) (by decide) (fun w9 g2 τ2 h2 w2 k2 H2 tw gw lw => ?_)
          obtain ⟨t2, g2x, l2x⟩ := c_keep H2 tx (by decide) gx (by decide) lx
          obtain ⟨u1, u2, u3, u4⟩ := H2 I (by rw [tI]; decide)
          have gI2 : g2 I = 52 := by rcases u3 with u3 | ⟨u3, -⟩ <;> omega
          have x2 : h2.2 x 3 = some I := by rw [((H2 x (by omega)).2.2.2 3 (by rw [tx]; decide +kernel)).2]; exact i1
          refine b_astore_n (o := some w9) C (dk_at ec166 (i := 19) rfl).1 (by rw [hn]; decide) (bno2_of (fun w hw _ => by cases hw; exact (show (1 : Nat) ≠ 2 by decide))) ?_
          refine b_al0 C (dk_at ec166 (i := 20) rfl).1 rfl ?_
          refine b_gR C (dk_at ec166 (i := 21) rfl) t2 x2 ?_
          refine b_iload_n C (dk_at ec166 (i := 22) rfl).1 rfl ?_
          refine b_aload_n (o := some w9) C (dk_at ec166 (i := 23) rfl).1 rfl ?_
          refine b_aastW C (dk_at ec166 (i := 24) rfl).1 (by rw [u1]; exact tI) tw (by omega) (by rw [u2, lI']; omega) ?_
          rw [show ((k : Int)).toNat = k by omega]
          have w3 : cWT cT0 g2 τ2 (bsetR h2 I k (some w9)) := ref_wt w2 (by rw [gI2]; exact cR52) (by omega) (fun _ => by show g2 w9 = (cseg (cSg 52) k).2.2.2.1 ∧ _; rw [s53.2 k (by omega)]; exact ⟨gw, by omega⟩)
          refine tail g2 τ2 (bsetR h2 I k (some w9)) w9 _ _ _ rfl rfl w3 k2 (cHi.trans (E' := enc187.2.2) (by decide +kernel) (cHi.trans (E' := enc137.2.2) (by decide +kernel) cHi.rfl H2) (ref_hi (by rw [u1, tI]; exact cefR_ok (l := 0) (u := 1) (by decide +kernel) (by omega) (by omega)))) ?_ (if_pos ⟨rfl, rfl⟩) (fun j hj hjk => ?_) tw gw lw (by decide) (by decide)
          · rw [show (bsetR h2 I k (some w9)).2 x 3 = h2.2 x 3 from if_neg (fun e => nxI e.1)]; exact x2
          · rw [show (bsetR h2 I k (some w9)).2 I j = h2.2 I j from if_neg (fun e => hjk e.2)]
            exact (u4 j (by rw [tI]; exact noW j)).2
      · refine b_iconst C (dk_at ec166 (i := 7) rfl).1 ?_
        exact b_iret C Bg (dk_at ec166 (i := 8) rfl).1 (Or.inr ⟨rfl, Or.inl rfl⟩) (Nat.zero_le _) (Nat.zero_le _) ⟨g0, 0, hw, hk, cHi.rfl, rfl, i1, Or.inr ⟨rfl, by omega, fun j => rfl⟩⟩
