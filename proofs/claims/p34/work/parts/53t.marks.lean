/-! ===== a call of a static method; families of contracts; the marks ===== -/
theorem b_ins {γ : bG} {y : bY} {d b1 b2 pc : Nat} {lo : List (Option Value)} {τ : bt} {h : bh} {nc ns : Nat} {Γ : List (bY × Nat)} {mid k mode r4 ci idx d0 c1 c2 : Nat} {q : bY × Nat} {As rest : List Value} {Pre : bI → List Value → bt → bh → Prop} {Post : bPost} (C : bC γ y (d + 1) b1 b2) (X : bX γ) (hE : dk_ok y Γ (pc, .invokestatic idx, 3, mid, k, mode, r4, ci)) (hm : 4 ≤ mode ∧ mode ≤ 6) (hq : Γ[mid]? = some q) (K : bOk q.1 q.2 d0 c1 c2 Pre Post) (hd0 : d0 ≤ d) (hlen : As.length = k) (hp : Pre γ.1 As τ h) (hsum : (rest.map fun v => v.category).sum ≤ 8) (hc : nc + c1 ≤ b1) (hs : ns + c2 ≤ b2) (kk : ∀ (v : Option Value) (τ' : bt) (h' : bh), Post γ.1 As τ h v τ' h' → bJ γ (pc + 3) lo (v.toList ++ rest) τ' h' (nc + c1) (ns + c2)) : bJ γ pc lo (As.reverse ++ rest) τ h nc ns := by
  obtain ⟨hd, -, hl⟩ := hE
  rcases hl with ⟨h6, hci, ⟨q', hq', hy, hmd, hk⟩, hop⟩ | ⟨h7, -⟩ | ⟨h7, -⟩ | ⟨h7, -⟩
  · rw [hq] at hq'
    cases hq'
    exact b_call (avs := As) (rest := rest) (lo := lo) C X K hd0 hy hmd hk (Or.inr (Or.inr ⟨hm.1, hd⟩)) hlen (fun z => by omega) hp hsum hc hs kk
  · have h7 : mode = 7 := h7
    omega
  · have h7 : mode = 8 := h7
    omega
  · have h7 : mode = 9 := h7
    omega
theorem bOk_ex {P : Type} {y : bY} {nL d0 b1 b2 : Nat} {Pre : P → bI → List Value → bt → bh → Prop} {Post : P → bPost} (K : ∀ p, bOk y nL d0 b1 b2 (Pre p) (Post p)) : bOk y nL d0 b1 b2 (fun ι avs τ h => ∃ p, Pre p ι avs τ h) (fun ι avs τ h v τ' h' => ∃ p, Pre p ι avs τ h ∧ Post p ι avs τ h v τ' h') := by
  rintro l hl d hd ι τ h avs ⟨p, hp⟩
  refine Jvm.Free.MetFree.mono (K p l hl d hd ι τ h avs hp) (fun _ _ h => h) (fun _ _ _ _ _ h => h) (fun a s0 oc t _ hq => ⟨?_, hq.2⟩)
  obtain ⟨⟨⟨v, τ', h', e1, e2, e3⟩, e4⟩, -⟩ := hq
  exact ⟨⟨v, τ', h', e1, ⟨p, hp, e2⟩, e3⟩, e4⟩
theorem bOk_by {y : bY} {nL d0 b1 b2 : Nat} {Pre Pre' : bI → List Value → bt → bh → Prop} {Post Post' : bPost} (K : bOk y nL d0 b1 b2 Pre Post) (h1 : ∀ ι avs τ h, Pre' ι avs τ h → Pre ι avs τ h) (h2 : ∀ ι avs τ h v τ' h', Pre' ι avs τ h → Post ι avs τ h v τ' h' → Post' ι avs τ h v τ' h') : bOk y nL d0 b1 b2 Pre' Post' := by
  intro l hl d hd ι τ h avs hp
  refine Jvm.Free.MetFree.mono (K l hl d hd ι τ h avs (h1 _ _ _ _ hp)) (fun _ _ h => h) (fun _ _ _ _ _ h => h) (fun a s0 oc t _ hq => ⟨?_, hq.2⟩)
  obtain ⟨⟨⟨v, τ', h', e1, e2, e3⟩, e4⟩, -⟩ := hq
  exact ⟨⟨v, τ', h', e1, h2 _ _ _ _ _ _ _ hp e2, e3⟩, e4⟩
/-- unitAt, with what stays named as before -/
theorem un_f2 (z : Int) : bOk ey214 2 1 0 0 (fun _ avs _ _ => ∃ m, avs = [.ref m, .int (bz z)]) (fun _ _ τ h v τ' h' => v = some (.int (bz (1504 + 38 * z))) ∧ τ = τ' ∧ h = h') := bOk_by (un_fun z) (fun _ _ _ _ h => h) (fun _ _ _ _ _ _ _ _ h => ⟨h.1, h.2.1.symm, h.2.2.symm⟩)
theorem is_fun (x l u : Int) : bOk ey174 3 1 0 0 (fun _ avs τ h => avs = [.int (bz x), .int (bz l), .int (bz u)] ∧ brg x ∧ brg l ∧ brg u) (fun _ avs τ h v τ' h' => τ = τ' ∧ h = h' ∧ ∃ r : Int, v = some (.int (bz r)) ∧ ((r = 1 ∧ l ≤ x ∧ x ≤ u) ∨ (r = 0 ∧ ¬ (l ≤ x ∧ x ≤ u)))) := by
  refine bOk_of emp174.1.2.2.2.2.2.1 ?_ ?_
  · rintro ι avs τ h ⟨rfl, -⟩
    exact Nat.le_of_ble_eq_true rfl
  · intro γ ι τ h avs d hd hp Bg C
    obtain ⟨rfl, hx, hl, hu⟩ := hp
    have hn : γ.2.2.1 = 3 := Bg.2.1
    refine b_iload_n C (dk_at ec174 (i := 0) rfl).1 rfl ?_
    refine b_iload_n C (dk_at ec174 (i := 1) rfl).1 rfl ?_
    refine b_icmp_lt (t := 14) C (dk_at ec174 (i := 2) rfl).1 (by decide) hx hl (fun z2 => ?_) (fun z2 => ?_)
    · refine b_iconst C (dk_at ec174 (i := 8) rfl).1 ?_
      exact b_iret C Bg (dk_at ec174 (i := 9) rfl).1 (Or.inr ⟨rfl, by omega⟩) (Nat.le_refl _) (Nat.le_refl _) ⟨rfl, rfl, 0, rfl, by omega⟩
    · refine b_iload_n C (dk_at ec174 (i := 3) rfl).1 rfl ?_
      refine b_iload_n C (dk_at ec174 (i := 4) rfl).1 rfl ?_
      refine b_icmp_gt (t := 14) C (dk_at ec174 (i := 5) rfl).1 (by decide) hx hu (fun z7 => ?_) (fun z7 => ?_)
      · refine b_iconst C (dk_at ec174 (i := 8) rfl).1 ?_
        exact b_iret C Bg (dk_at ec174 (i := 9) rfl).1 (Or.inr ⟨rfl, by omega⟩) (Nat.le_refl _) (Nat.le_refl _) ⟨rfl, rfl, 0, rfl, by omega⟩
      · refine b_iconst C (dk_at ec174 (i := 6) rfl).1 ?_
        refine b_goto (t := 15) C (dk_at ec174 (i := 7) rfl).1 (by decide) ?_
        exact b_iret C Bg (dk_at ec174 (i := 9) rfl).1 (Or.inr ⟨rfl, by omega⟩) (Nat.le_refl _) (Nat.le_refl _) ⟨rfl, rfl, 1, rfl, by omega⟩
theorem le_fun (x u : Int) : bOk ey176 2 1 0 0 (fun _ avs τ h => avs = [.int (bz x), .int (bz u)] ∧ brg x ∧ brg u) (fun _ avs τ h v τ' h' => τ = τ' ∧ h = h' ∧ ∃ r : Int, v = some (.int (bz r)) ∧ ((r = x ∧ x ≤ u) ∨ (r = u ∧ u ≤ x))) := by
  refine bOk_of emp176.1.2.2.2.2.2.1 ?_ ?_
  · rintro ι avs τ h ⟨rfl, -⟩
    exact Nat.le_of_ble_eq_true rfl
  · intro γ ι τ h avs d hd hp Bg C
    obtain ⟨rfl, hx, hu⟩ := hp
    have hn : γ.2.2.1 = 2 := Bg.2.1
    refine b_iload_n C (dk_at ec176 (i := 0) rfl).1 rfl ?_
    refine b_iload_n C (dk_at ec176 (i := 1) rfl).1 rfl ?_
    refine b_icmp_ge (t := 9) C (dk_at ec176 (i := 2) rfl).1 (by decide) hx hu (fun z2 => ?_) (fun z2 => ?_)
    · refine b_iload_n C (dk_at ec176 (i := 5) rfl).1 rfl ?_
      exact b_iret C Bg (dk_at ec176 (i := 6) rfl).1 (Or.inl rfl) (Nat.le_refl _) (Nat.le_refl _) ⟨rfl, rfl, _, rfl, by omega⟩
    · refine b_iload_n C (dk_at ec176 (i := 3) rfl).1 rfl ?_
      refine b_goto (t := 10) C (dk_at ec176 (i := 4) rfl).1 (by decide) ?_
      exact b_iret C Bg (dk_at ec176 (i := 6) rfl).1 (Or.inl rfl) (Nat.le_refl _) (Nat.le_refl _) ⟨rfl, rfl, _, rfl, by omega⟩
theorem ig_fun (m a i : Nat) : bOk ey209 2 1 0 0 (fun _ avs τ h => avs = [.ref m, .int (bz (i : Int))] ∧ i < 240 ∧ τ.1 m = 12 ∧ h.2 m 14 = some a ∧ τ.1 a = 41 ∧ τ.2 a = 3266) (fun _ avs τ h v τ' h' => τ = τ' ∧ h = h' ∧ ∃ r : Int, v = some (.int (bz r)) ∧ ((r = 1 ∧ (i : Int) < h.1 a 47 ∧ h.1 a (55 + i) = 0) ∨ (r = 0 ∧ ¬ ((i : Int) < h.1 a 47 ∧ h.1 a (55 + i) = 0)))) := by
  refine bOk_of emp209.1.2.2.2.2.2.1 ?_ ?_
  · rintro ι avs τ h ⟨rfl, -⟩
    exact Nat.le_of_ble_eq_true rfl
  · intro γ ι τ h avs d hd hp Bg C
    obtain ⟨rfl, hi, hm, ha, hta, hla⟩ := hp
    have hn : γ.2.2.1 = 2 := Bg.2.1
    refine b_iload_n C (dk_at ec209 (i := 0) rfl).1 rfl ?_
    refine b_al0 C (dk_at ec209 (i := 1) rfl).1 rfl ?_
    refine b_gR C (dk_at ec209 (i := 2) rfl) hm ha ?_
    refine b_bipush C (dk_at ec209 (i := 3) rfl).1 ⟨by omega, by omega⟩ ?_
    refine b_rd (j := 47) C (dk_at ec209 (i := 4) rfl).1 hta (by omega) (by omega) (fun hb => ?_)
    refine b_icmp_ge (t := 27) C (dk_at ec209 (i := 5) rfl).1 (by decide) ⟨by omega, by omega⟩ hb (fun z8 => ?_) (fun z8 => ?_)
    · refine b_iconst C (dk_at ec209 (i := 15) rfl).1 ?_
      exact b_iret C Bg (dk_at ec209 (i := 16) rfl).1 (Or.inr ⟨rfl, by omega⟩) (Nat.le_refl _) (Nat.le_refl _) ⟨rfl, rfl, 0, rfl, by omega⟩
    · refine b_al0 C (dk_at ec209 (i := 6) rfl).1 rfl ?_
      refine b_gR C (dk_at ec209 (i := 7) rfl) hm ha ?_
      refine b_bipush C (dk_at ec209 (i := 8) rfl).1 ⟨by omega, by omega⟩ ?_
      refine b_iload_n C (dk_at ec209 (i := 9) rfl).1 rfl ?_
      refine b_iadd C (dk_at ec209 (i := 10) rfl).1 ?_
      refine b_rd (j := 55 + i) C (dk_at ec209 (i := 11) rfl).1 hta (by omega) (by omega) (fun hb2 => ?_)
      refine b_if_ne (t := 27) C (dk_at ec209 (i := 12) rfl).1 (by decide) hb2 (fun z20 => ?_) (fun z20 => ?_)
      · refine b_iconst C (dk_at ec209 (i := 15) rfl).1 ?_
        exact b_iret C Bg (dk_at ec209 (i := 16) rfl).1 (Or.inr ⟨rfl, by omega⟩) (Nat.le_refl _) (Nat.le_refl _) ⟨rfl, rfl, 0, rfl, by omega⟩
      · refine b_iconst C (dk_at ec209 (i := 13) rfl).1 ?_
        refine b_goto (t := 28) C (dk_at ec209 (i := 14) rfl).1 (by decide) ?_
        exact b_iret C Bg (dk_at ec209 (i := 16) rfl).1 (Or.inr ⟨rfl, by omega⟩) (Nat.le_refl _) (Nat.le_refl _) ⟨rfl, rfl, 1, rfl, by omega⟩
def mkz (f : Nat → Int) (w : Int) (i : Nat) : Prop := (w = 0 → (i : Int) < f 47 ∧ f (55 + i) = 0) ∧ (w = 1 → f (1264 + i) = 1) ∧ (w ≠ 0 → w ≠ 1 → (i : Int) < f 30 ∧ f (55 + i) = 0)
theorem im_fun (m a i : Nat) (w : Int) : bOk ey210 3 2 0 0 (fun _ avs τ h => avs = [.ref m, .int (bz w), .int (bz (i : Int))] ∧ i < 240 ∧ brg w ∧ τ.1 m = 12 ∧ h.2 m 14 = some a ∧ τ.1 a = 41 ∧ τ.2 a = 3266) (fun _ avs τ h v τ' h' => τ = τ' ∧ h = h' ∧ ∃ r : Int, v = some (.int (bz r)) ∧ ((r = 1 ∧ mkz (h.1 a) w i) ∨ (r = 0 ∧ ¬ mkz (h.1 a) w i))) := by
  refine bOk_of emp210.1.2.2.2.2.2.1 ?_ ?_
  · rintro ι avs τ h ⟨rfl, -⟩
    exact Nat.le_of_ble_eq_true rfl
  · intro γ ι τ h avs d hd hp Bg C
    obtain ⟨rfl, hi, hw, hm, ha, hta, hla⟩ := hp
    have hn : γ.2.2.1 = 3 := Bg.2.1
    obtain ⟨d, rfl⟩ : ∃ d', d = d' + 1 := ⟨d - 1, by omega⟩
    refine b_iload_n C (dk_at ec210 (i := 0) rfl).1 rfl ?_
    refine b_sipush C (dk_at ec210 (i := 1) rfl).1 ⟨by omega, by omega⟩ ?_
    refine b_icmp_ge (t := 71) C (dk_at ec210 (i := 2) rfl).1 (by decide) ⟨by omega, by omega⟩ ⟨by omega, by omega⟩ (fun z4 => ?_) (fun z4 => ?_)
    · refine b_iconst C (dk_at ec210 (i := 37) rfl).1 ?_
      exact b_iret C Bg (dk_at ec210 (i := 38) rfl).1 (Or.inr ⟨rfl, by omega⟩) (Nat.le_refl _) (Nat.le_refl _) ⟨rfl, rfl, 0, rfl, by unfold mkz; omega⟩
    · refine b_iload_n C (dk_at ec210 (i := 3) rfl).1 rfl ?_
      refine b_if_ne (t := 22) C (dk_at ec210 (i := 4) rfl).1 (by decide) hw (fun z8 => ?_) (fun z8 => ?_)
      · refine b_iload_n C (dk_at ec210 (i := 10) rfl).1 rfl ?_
        refine b_iconst C (dk_at ec210 (i := 11) rfl).1 ?_
        refine b_icmp_ne (t := 44) C (dk_at ec210 (i := 12) rfl).1 (by decide) hw ⟨by omega, by omega⟩ (fun z24 => ?_) (fun z24 => ?_)
        · refine b_iload_n C (dk_at ec210 (i := 22) rfl).1 rfl ?_
          refine b_al0 C (dk_at ec210 (i := 23) rfl).1 rfl ?_
          refine b_gR C (dk_at ec210 (i := 24) rfl) hm ha ?_
          refine b_bipush C (dk_at ec210 (i := 25) rfl).1 ⟨by omega, by omega⟩ ?_
          refine b_rd (j := 30) C (dk_at ec210 (i := 26) rfl).1 hta (by omega) (by omega) (fun hb => ?_)
          refine b_icmp_ge (t := 71) C (dk_at ec210 (i := 27) rfl).1 (by decide) ⟨by omega, by omega⟩ hb (fun z52 => ?_) (fun z52 => ?_)
          · refine b_iconst C (dk_at ec210 (i := 37) rfl).1 ?_
            exact b_iret C Bg (dk_at ec210 (i := 38) rfl).1 (Or.inr ⟨rfl, by omega⟩) (Nat.le_refl _) (Nat.le_refl _) ⟨rfl, rfl, 0, rfl, by unfold mkz; omega⟩
          · refine b_al0 C (dk_at ec210 (i := 28) rfl).1 rfl ?_
            refine b_gR C (dk_at ec210 (i := 29) rfl) hm ha ?_
            refine b_bipush C (dk_at ec210 (i := 30) rfl).1 ⟨by omega, by omega⟩ ?_
            refine b_iload_n C (dk_at ec210 (i := 31) rfl).1 rfl ?_
            refine b_iadd C (dk_at ec210 (i := 32) rfl).1 ?_
            refine b_rd (j := 55 + i) C (dk_at ec210 (i := 33) rfl).1 hta (by omega) (by omega) (fun hb2 => ?_)
            refine b_if_ne (t := 71) C (dk_at ec210 (i := 34) rfl).1 (by decide) hb2 (fun z64 => ?_) (fun z64 => ?_)
            · refine b_iconst C (dk_at ec210 (i := 37) rfl).1 ?_
              exact b_iret C Bg (dk_at ec210 (i := 38) rfl).1 (Or.inr ⟨rfl, by omega⟩) (Nat.le_refl _) (Nat.le_refl _) ⟨rfl, rfl, 0, rfl, by unfold mkz; omega⟩
            · refine b_iconst C (dk_at ec210 (i := 35) rfl).1 ?_
              refine b_goto (t := 72) C (dk_at ec210 (i := 36) rfl).1 (by decide) ?_
              exact b_iret C Bg (dk_at ec210 (i := 38) rfl).1 (Or.inr ⟨rfl, by omega⟩) (Nat.le_refl _) (Nat.le_refl _) ⟨rfl, rfl, 1, rfl, by unfold mkz; omega⟩
        · refine b_al0 C (dk_at ec210 (i := 13) rfl).1 rfl ?_
          refine b_gR C (dk_at ec210 (i := 14) rfl) hm ha ?_
          refine b_sipush C (dk_at ec210 (i := 15) rfl).1 ⟨by omega, by omega⟩ ?_
          refine b_iload_n C (dk_at ec210 (i := 16) rfl).1 rfl ?_
          refine b_iadd C (dk_at ec210 (i := 17) rfl).1 ?_
          refine b_rd (j := 1264 + i) C (dk_at ec210 (i := 18) rfl).1 hta (by omega) (by omega) (fun hb => ?_)
          refine b_iconst C (dk_at ec210 (i := 19) rfl).1 ?_
          refine b_icmp_ne (t := 71) C (dk_at ec210 (i := 20) rfl).1 (by decide) hb ⟨by omega, by omega⟩ (fun z38 => ?_) (fun z38 => ?_)
          · refine b_iconst C (dk_at ec210 (i := 37) rfl).1 ?_
            exact b_iret C Bg (dk_at ec210 (i := 38) rfl).1 (Or.inr ⟨rfl, by omega⟩) (Nat.le_refl _) (Nat.le_refl _) ⟨rfl, rfl, 0, rfl, by unfold mkz; omega⟩
          · refine b_goto (t := 67) C (dk_at ec210 (i := 21) rfl).1 (by decide) ?_
            refine b_iconst C (dk_at ec210 (i := 35) rfl).1 ?_
            refine b_goto (t := 72) C (dk_at ec210 (i := 36) rfl).1 (by decide) ?_
            exact b_iret C Bg (dk_at ec210 (i := 38) rfl).1 (Or.inr ⟨rfl, by omega⟩) (Nat.le_refl _) (Nat.le_refl _) ⟨rfl, rfl, 1, rfl, by unfold mkz; omega⟩
      · refine b_al0 C (dk_at ec210 (i := 5) rfl).1 rfl ?_
        refine b_iload_n C (dk_at ec210 (i := 6) rfl).1 rfl ?_
        refine b_inv (As := [.int (bz (i : Int))]) (rest := []) C Bg.x (dk_at ec210 (i := 7) rfl) (by decide) rfl (ig_fun m a i) (by omega) rfl hm ⟨rfl, hi, hm, ha, hta, hla⟩ (Nat.le_of_ble_eq_true rfl) (Nat.le_refl _) (Nat.le_refl _) ?_
        rintro v τ' h' ⟨rfl, rfl, r, rfl, hr⟩
        refine b_if_eq (t := 71) C (dk_at ec210 (i := 8) rfl).1 (by decide) ⟨by omega, by omega⟩ (fun z16 => ?_) (fun z16 => ?_)
        · refine b_iconst C (dk_at ec210 (i := 37) rfl).1 ?_
          exact b_iret C Bg (dk_at ec210 (i := 38) rfl).1 (Or.inr ⟨rfl, by omega⟩) (Nat.le_refl _) (Nat.le_refl _) ⟨rfl, rfl, 0, rfl, by unfold mkz; omega⟩
        · refine b_goto (t := 67) C (dk_at ec210 (i := 9) rfl).1 (by decide) ?_
          refine b_iconst C (dk_at ec210 (i := 35) rfl).1 ?_
          refine b_goto (t := 72) C (dk_at ec210 (i := 36) rfl).1 (by decide) ?_
          exact b_iret C Bg (dk_at ec210 (i := 38) rfl).1 (Or.inr ⟨rfl, by omega⟩) (Nat.le_refl _) (Nat.le_refl _) ⟨rfl, rfl, 1, rfl, by unfold mkz; omega⟩
theorem mk_or {P : Prop} {r b : Int} (e : r = b) (hr : (r = 1 ∧ P) ∨ (r = 0 ∧ ¬ P)) : (b = 1 ∧ P) ∨ (b = 0 ∧ ¬ P) := by
  subst e
  exact hr
theorem nm_fun (m a i : Nat) (w b : Int) : bOk ey211 5 3 0 0 (fun _ avs τ h => avs = [.ref m, .int (bz w), .int (bz (i : Int)), .int (bz b)] ∧ i ≤ 240 ∧ brg w ∧ (b = 0 ∨ b = 1) ∧ τ.1 m = 12 ∧ h.2 m 14 = some a ∧ τ.1 a = 41 ∧ τ.2 a = 3266) (fun _ avs τ h v τ' h' => τ = τ' ∧ h = h' ∧ ∃ k : Nat, v = some (.int (bz (k : Int))) ∧ i ≤ k ∧ k ≤ 240 ∧ (k < 240 → ((b = 1 ∧ mkz (h.1 a) w k) ∨ (b = 0 ∧ ¬ mkz (h.1 a) w k)))) := by
  refine bOk_of emp211.1.2.2.2.2.2.1 ?_ ?_
  · rintro ι avs τ h ⟨rfl, -⟩
    exact Nat.le_of_ble_eq_true rfl
  · intro γ ι τ h avs d hd hp Bg C
    obtain ⟨rfl, hi, hw, hb, hm, ha, hta, hla⟩ := hp
    have hn : γ.2.2.1 = 5 := Bg.2.1
    obtain ⟨d, rfl⟩ : ∃ d', d = d' + 1 := ⟨d - 1, by omega⟩
    have loop : ∀ r k : Nat, k + r = 240 → i ≤ k → bJ γ 3 [some (.ref m), some (.int (bz w)), some (.int (bz (i : Int))), some (.int (bz b)), some (.int (bz (k : Int)))] [] τ h 0 0 := by
      intro r
      induction r with
      | zero =>
        intro k hk hik
        refine b_iload C (dk_at ec211 (i := 2) rfl).1 rfl ?_
        refine b_sipush C (dk_at ec211 (i := 3) rfl).1 ⟨by omega, by omega⟩ ?_
        refine b_icmp_ge (t := 28) C (dk_at ec211 (i := 4) rfl).1 (by decide) ⟨by omega, by omega⟩ ⟨by omega, by omega⟩ (fun z8 => ?_) (fun z8 => ?_)
        · refine b_iload C (dk_at ec211 (i := 13) rfl).1 rfl ?_
          exact b_iret C Bg (dk_at ec211 (i := 14) rfl).1 (Or.inl rfl) (Nat.le_refl _) (Nat.le_refl _) ⟨rfl, rfl, k, rfl, by omega, by omega, fun z => by omega⟩
        · omega
      | succ r ih =>
        intro k hk hik
        refine b_iload C (dk_at ec211 (i := 2) rfl).1 rfl ?_
        refine b_sipush C (dk_at ec211 (i := 3) rfl).1 ⟨by omega, by omega⟩ ?_
        refine b_icmp_ge (t := 28) C (dk_at ec211 (i := 4) rfl).1 (by decide) ⟨by omega, by omega⟩ ⟨by omega, by omega⟩ (fun z8 => ?_) (fun z8 => ?_)
        · refine b_iload C (dk_at ec211 (i := 13) rfl).1 rfl ?_
          exact b_iret C Bg (dk_at ec211 (i := 14) rfl).1 (Or.inl rfl) (Nat.le_refl _) (Nat.le_refl _) ⟨rfl, rfl, k, rfl, by omega, by omega, fun z => absurd z8 (by omega)⟩
        · refine b_al0 C (dk_at ec211 (i := 5) rfl).1 rfl ?_
          refine b_iload_n C (dk_at ec211 (i := 6) rfl).1 rfl ?_
          refine b_iload C (dk_at ec211 (i := 7) rfl).1 rfl ?_
          refine b_inv (As := [.int (bz w), .int (bz (k : Int))]) (rest := []) C Bg.x (dk_at ec211 (i := 8) rfl) (by decide) rfl (im_fun m a k w) (by omega) rfl hm ⟨rfl, by omega, hw, hm, ha, hta, hla⟩ (Nat.le_of_ble_eq_true rfl) (Nat.le_refl _) (Nat.le_refl _) ?_
          rintro v τ' h' ⟨rfl, rfl, r, rfl, hr⟩
          refine b_iload_n C (dk_at ec211 (i := 9) rfl).1 rfl ?_
          refine b_icmp_eq (t := 28) C (dk_at ec211 (i := 10) rfl).1 (by decide) ⟨by omega, by omega⟩ ⟨by omega, by omega⟩ (fun z19 => ?_) (fun z19 => ?_)
          · refine b_iload C (dk_at ec211 (i := 13) rfl).1 rfl ?_
            exact b_iret C Bg (dk_at ec211 (i := 14) rfl).1 (Or.inl rfl) (Nat.le_refl _) (Nat.le_refl _) ⟨rfl, rfl, k, rfl, by omega, by omega, fun z => mk_or (by omega) hr⟩
          · refine b_iinc (a := (k : Int)) C (dk_at ec211 (i := 11) rfl).1 (by rw [hn]; decide) rfl (bno2_of (fun w hw _ => by cases hw; exact (show (1 : Nat) ≠ 2 by decide))) ?_
            refine b_goto (t := 3) C (dk_at ec211 (i := 12) rfl).1 (by decide) ?_
            have := ih (k + 1) (by omega) (by omega)
            rw [show (((k + 1 : Nat) : Int)) = (k : Int) + 1 by omega] at this
            exact this
    refine b_iload_n C (dk_at ec211 (i := 0) rfl).1 rfl ?_
    refine b_istore C (dk_at ec211 (i := 1) rfl).1 (by rw [hn]; decide) (bno2_of (fun w hw _ => by cases hw; exact (show (1 : Nat) ≠ 2 by decide))) ?_
    exact loop (240 - i) i (by omega) (Nat.le_refl _)
theorem mk_no {P : Prop} (h : ((0 : Int) = 1 ∧ P) ∨ ((0 : Int) = 0 ∧ ¬ P)) : ¬ P := by
  rcases h with ⟨e, -⟩ | ⟨-, e⟩
  · omega
  · exact e
theorem mk_yes {P : Prop} (h : ((1 : Int) = 1 ∧ P) ∨ ((1 : Int) = 0 ∧ ¬ P)) : P := by
  rcases h with ⟨-, e⟩ | ⟨e, -⟩
  · exact e
  · omega
theorem sp_fun (m a : Nat) (w : Int) : bOk ey212 4 4 0 0 (fun _ avs τ h => avs = [.ref m, .int (bz w)] ∧ brg w ∧ τ.1 m = 12 ∧ h.2 m 14 = some a ∧ τ.1 a = 41 ∧ τ.2 a = 3266) (fun _ avs τ h v τ' h' => τ = τ' ∧ h = h' ∧ ∃ n : Nat, v = some (.int (bz (n : Int))) ∧ n ≤ 240) := by
  refine bOk_of emp212.1.2.2.2.2.2.1 ?_ ?_
  · rintro ι avs τ h ⟨rfl, -⟩
    exact Nat.le_of_ble_eq_true rfl
  · intro γ ι τ h avs d hd hp Bg C
    obtain ⟨rfl, hw, hm, ha, hta, hla⟩ := hp
    have hn : γ.2.2.1 = 4 := Bg.2.1
    obtain ⟨d, rfl⟩ : ∃ d', d = d' + 1 := ⟨d - 1, by omega⟩
    have loop : ∀ r n k : Nat, 240 ≤ k + r → k ≤ 240 → n ≤ k → (k < 240 → mkz (h.1 a) w k) → bJ γ 10 [some (.ref m), some (.int (bz w)), some (.int (bz (n : Int))), some (.int (bz (k : Int)))] [] τ h 0 0 := by
      intro r
      induction r with
      | zero =>
        intro n k hk hk2 hnk hmk
        refine b_iload_n C (dk_at ec212 (i := 8) rfl).1 rfl ?_
        refine b_sipush C (dk_at ec212 (i := 9) rfl).1 ⟨by omega, by omega⟩ ?_
        refine b_icmp_ge (t := 37) C (dk_at ec212 (i := 10) rfl).1 (by decide) ⟨by omega, by omega⟩ ⟨by omega, by omega⟩ (fun z14 => ?_) (fun z14 => ?_)
        · refine b_iload_n C (dk_at ec212 (i := 23) rfl).1 rfl ?_
          exact b_iret C Bg (dk_at ec212 (i := 24) rfl).1 (Or.inl rfl) (Nat.le_refl _) (Nat.le_refl _) ⟨rfl, rfl, n, rfl, by omega⟩
        · omega
      | succ r ih =>
        intro n k hk hk2 hnk hmk
        refine b_iload_n C (dk_at ec212 (i := 8) rfl).1 rfl ?_
        refine b_sipush C (dk_at ec212 (i := 9) rfl).1 ⟨by omega, by omega⟩ ?_
        refine b_icmp_ge (t := 37) C (dk_at ec212 (i := 10) rfl).1 (by decide) ⟨by omega, by omega⟩ ⟨by omega, by omega⟩ (fun z14 => ?_) (fun z14 => ?_)
        · refine b_iload_n C (dk_at ec212 (i := 23) rfl).1 rfl ?_
          exact b_iret C Bg (dk_at ec212 (i := 24) rfl).1 (Or.inl rfl) (Nat.le_refl _) (Nat.le_refl _) ⟨rfl, rfl, n, rfl, by omega⟩
        · refine b_iinc (a := (n : Int)) C (dk_at ec212 (i := 11) rfl).1 (by rw [hn]; decide) rfl (bno2_of (fun w hw _ => by cases hw; exact (show (1 : Nat) ≠ 2 by decide))) ?_
          refine b_al0 C (dk_at ec212 (i := 12) rfl).1 rfl ?_
          refine b_iload_n C (dk_at ec212 (i := 13) rfl).1 rfl ?_
          refine b_al0 C (dk_at ec212 (i := 14) rfl).1 rfl ?_
          refine b_iload_n C (dk_at ec212 (i := 15) rfl).1 rfl ?_
          refine b_iload_n C (dk_at ec212 (i := 16) rfl).1 rfl ?_
          refine b_iconst C (dk_at ec212 (i := 17) rfl).1 ?_
          refine b_inv (As := [.int (bz w), .int (bz (k : Int)), .int (bz 0)]) (rest := [.int (bz w), .ref m]) C Bg.x (dk_at ec212 (i := 18) rfl) (by decide) rfl (nm_fun m a k w 0) (by omega) rfl hm ⟨rfl, by omega, hw, by omega, hm, ha, hta, hla⟩ (Nat.le_of_ble_eq_true rfl) (Nat.le_refl _) (Nat.le_refl _) ?_
          rintro v τ' h' ⟨rfl, rfl, j, rfl, j1, j2, j3⟩
          refine b_iconst C (dk_at ec212 (i := 19) rfl).1 ?_
          refine b_inv (As := [.int (bz w), .int (bz (j : Int)), .int (bz 1)]) (rest := []) C Bg.x (dk_at ec212 (i := 20) rfl) (by decide) rfl (nm_fun m a j w 1) (by omega) rfl hm ⟨rfl, by omega, hw, by omega, hm, ha, hta, hla⟩ (Nat.le_of_ble_eq_true rfl) (Nat.le_refl _) (Nat.le_refl _) ?_
          rintro v τ' h' ⟨rfl, rfl, k2, rfl, k2l, k2u, k3⟩
          refine b_istore_n C (dk_at ec212 (i := 21) rfl).1 (by rw [hn]; decide) (bno2_of (fun w hw _ => by cases hw; exact (show (1 : Nat) ≠ 2 by decide))) ?_
          refine b_goto (t := 10) C (dk_at ec212 (i := 22) rfl).1 (by decide) ?_
          have hjk : k < j := by
            refine Classical.byContradiction fun e => ?_
            obtain rfl : j = k := by omega
            exact mk_no (j3 (by omega)) (hmk (by omega))
          have := ih (n + 1) k2 (by omega) k2u (by omega) (fun z => mk_yes (k3 z))
          rw [show (((n + 1 : Nat) : Int)) = (n : Int) + 1 by omega] at this
          exact this
    refine b_iconst C (dk_at ec212 (i := 0) rfl).1 ?_
    refine b_istore_n C (dk_at ec212 (i := 1) rfl).1 (by rw [hn]; decide) (bno2_of (fun w hw _ => by cases hw; exact (show (1 : Nat) ≠ 2 by decide))) ?_
    refine b_al0 C (dk_at ec212 (i := 2) rfl).1 rfl ?_
    refine b_iload_n C (dk_at ec212 (i := 3) rfl).1 rfl ?_
    refine b_iconst C (dk_at ec212 (i := 4) rfl).1 ?_
    refine b_iconst C (dk_at ec212 (i := 5) rfl).1 ?_
    refine b_inv (As := [.int (bz w), .int (bz ((0 : Nat) : Int)), .int (bz 1)]) (rest := []) C Bg.x (dk_at ec212 (i := 6) rfl) (by decide) rfl (nm_fun m a 0 w 1) (by omega) rfl hm ⟨rfl, by omega, hw, by omega, hm, ha, hta, hla⟩ (Nat.le_of_ble_eq_true rfl) (Nat.le_refl _) (Nat.le_refl _) ?_
    rintro v τ' h' ⟨rfl, rfl, k2, rfl, k2l, k2u, k3⟩
    refine b_istore_n C (dk_at ec212 (i := 7) rfl).1 (by rw [hn]; decide) (bno2_of (fun w hw _ => by cases hw; exact (show (1 : Nat) ≠ 2 by decide))) ?_
    exact loop 240 0 k2 (by omega) k2u (by omega) (fun z => mk_yes (k3 z))
theorem sq_fun (m a : Nat) (w x e : Int) : bOk ey213 6 5 0 0 (fun _ avs τ h => avs = [.ref m, .int (bz w), .int (bz x), .int (bz e)] ∧ brg w ∧ brg x ∧ brg e ∧ τ.1 m = 12 ∧ h.2 m 14 = some a ∧ τ.1 a = 41 ∧ τ.2 a = 3266) (fun _ avs τ h v τ' h' => τ = τ' ∧ h = h' ∧ ∃ z : Int, v = some (.int (bz z)) ∧ -1 ≤ z ∧ z ≤ 240) := by
  refine bOk_of emp213.1.2.2.2.2.2.1 ?_ ?_
  · rintro ι avs τ h ⟨rfl, -⟩
    exact Nat.le_of_ble_eq_true rfl
  · intro γ ι τ h avs d hd hp Bg C
    obtain ⟨rfl, hw, hx, he, hm, ha, hta, hla⟩ := hp
    have hn : γ.2.2.1 = 6 := Bg.2.1
    obtain ⟨d, rfl⟩ : ∃ d', d = d' + 1 := ⟨d - 1, by omega⟩
    have hxl := hx.1
    have hxu := hx.2
    have loop : ∀ r n k : Nat, (n : Int) + (r : Int) = x → k ≤ 240 → bJ γ 38 [some (.ref m), some (.int (bz w)), some (.int (bz x)), some (.int (bz e)), some (.int (bz (k : Int))), some (.int (bz (n : Int)))] [] τ h 0 0 := by
      intro r
      induction r with
      | zero =>
        intro n k hk hk2
        refine b_iload C (dk_at ec213 (i := 24) rfl).1 rfl ?_
        refine b_iload_n C (dk_at ec213 (i := 25) rfl).1 rfl ?_
        refine b_icmp_ge (t := 66) C (dk_at ec213 (i := 26) rfl).1 (by decide) ⟨by omega, by omega⟩ hx (fun z41 => ?_) (fun z41 => ?_)
        · refine b_iload_n C (dk_at ec213 (i := 39) rfl).1 rfl ?_
          refine b_if_ne (t := 75) C (dk_at ec213 (i := 40) rfl).1 (by decide) he (fun z67 => ?_) (fun z67 => ?_)
          · refine b_al0 C (dk_at ec213 (i := 43) rfl).1 rfl ?_
            refine b_iload_n C (dk_at ec213 (i := 44) rfl).1 rfl ?_
            refine b_iload C (dk_at ec213 (i := 45) rfl).1 rfl ?_
            refine b_iconst C (dk_at ec213 (i := 46) rfl).1 ?_
            refine b_inv (As := [.int (bz w), .int (bz (k : Int)), .int (bz 0)]) (rest := []) C Bg.x (dk_at ec213 (i := 47) rfl) (by decide) rfl (nm_fun m a k w 0) (by omega) rfl hm ⟨rfl, by omega, hw, by omega, hm, ha, hta, hla⟩ (Nat.le_of_ble_eq_true rfl) (Nat.le_refl _) (Nat.le_refl _) ?_
            rintro v τ' h' ⟨rfl, rfl, j, rfl, j1, j2, j3⟩
            exact b_iret C Bg (dk_at ec213 (i := 48) rfl).1 (Or.inl rfl) (Nat.le_refl _) (Nat.le_refl _) ⟨rfl, rfl, _, rfl, by omega, by omega⟩
          · refine b_iload C (dk_at ec213 (i := 41) rfl).1 rfl ?_
            refine b_goto (t := 83) C (dk_at ec213 (i := 42) rfl).1 (by decide) ?_
            exact b_iret C Bg (dk_at ec213 (i := 48) rfl).1 (Or.inl rfl) (Nat.le_refl _) (Nat.le_refl _) ⟨rfl, rfl, _, rfl, by omega, by omega⟩
        · omega
      | succ r ih =>
        intro n k hk hk2
        refine b_iload C (dk_at ec213 (i := 24) rfl).1 rfl ?_
        refine b_iload_n C (dk_at ec213 (i := 25) rfl).1 rfl ?_
        refine b_icmp_ge (t := 66) C (dk_at ec213 (i := 26) rfl).1 (by decide) ⟨by omega, by omega⟩ hx (fun z41 => ?_) (fun z41 => ?_)
        · refine b_iload_n C (dk_at ec213 (i := 39) rfl).1 rfl ?_
          refine b_if_ne (t := 75) C (dk_at ec213 (i := 40) rfl).1 (by decide) he (fun z67 => ?_) (fun z67 => ?_)
          · refine b_al0 C (dk_at ec213 (i := 43) rfl).1 rfl ?_
            refine b_iload_n C (dk_at ec213 (i := 44) rfl).1 rfl ?_
            refine b_iload C (dk_at ec213 (i := 45) rfl).1 rfl ?_
            refine b_iconst C (dk_at ec213 (i := 46) rfl).1 ?_
            refine b_inv (As := [.int (bz w), .int (bz (k : Int)), .int (bz 0)]) (rest := []) C Bg.x (dk_at ec213 (i := 47) rfl) (by decide) rfl (nm_fun m a k w 0) (by omega) rfl hm ⟨rfl, by omega, hw, by omega, hm, ha, hta, hla⟩ (Nat.le_of_ble_eq_true rfl) (Nat.le_refl _) (Nat.le_refl _) ?_
            rintro v τ' h' ⟨rfl, rfl, j, rfl, j1, j2, j3⟩
            exact b_iret C Bg (dk_at ec213 (i := 48) rfl).1 (Or.inl rfl) (Nat.le_refl _) (Nat.le_refl _) ⟨rfl, rfl, _, rfl, by omega, by omega⟩
          · refine b_iload C (dk_at ec213 (i := 41) rfl).1 rfl ?_
            refine b_goto (t := 83) C (dk_at ec213 (i := 42) rfl).1 (by decide) ?_
            exact b_iret C Bg (dk_at ec213 (i := 48) rfl).1 (Or.inl rfl) (Nat.le_refl _) (Nat.le_refl _) ⟨rfl, rfl, _, rfl, by omega, by omega⟩
        · refine b_al0 C (dk_at ec213 (i := 27) rfl).1 rfl ?_
          refine b_iload_n C (dk_at ec213 (i := 28) rfl).1 rfl ?_
          refine b_al0 C (dk_at ec213 (i := 29) rfl).1 rfl ?_
          refine b_iload_n C (dk_at ec213 (i := 30) rfl).1 rfl ?_
          refine b_iload C (dk_at ec213 (i := 31) rfl).1 rfl ?_
          refine b_iconst C (dk_at ec213 (i := 32) rfl).1 ?_
          refine b_inv (As := [.int (bz w), .int (bz (k : Int)), .int (bz 0)]) (rest := [.int (bz w), .ref m]) C Bg.x (dk_at ec213 (i := 33) rfl) (by decide) rfl (nm_fun m a k w 0) (by omega) rfl hm ⟨rfl, by omega, hw, by omega, hm, ha, hta, hla⟩ (Nat.le_of_ble_eq_true rfl) (Nat.le_refl _) (Nat.le_refl _) ?_
          rintro v τ' h' ⟨rfl, rfl, j, rfl, j1, j2, j3⟩
          refine b_iconst C (dk_at ec213 (i := 34) rfl).1 ?_
          refine b_inv (As := [.int (bz w), .int (bz (j : Int)), .int (bz 1)]) (rest := []) C Bg.x (dk_at ec213 (i := 35) rfl) (by decide) rfl (nm_fun m a j w 1) (by omega) rfl hm ⟨rfl, by omega, hw, by omega, hm, ha, hta, hla⟩ (Nat.le_of_ble_eq_true rfl) (Nat.le_refl _) (Nat.le_refl _) ?_
          rintro v τ' h' ⟨rfl, rfl, k2, rfl, k2l, k2u, k3⟩
          refine b_istore C (dk_at ec213 (i := 36) rfl).1 (by rw [hn]; decide) (bno2_of (fun w hw _ => by cases hw; exact (show (1 : Nat) ≠ 2 by decide))) ?_
          refine b_iinc (a := (n : Int)) C (dk_at ec213 (i := 37) rfl).1 (by rw [hn]; decide) rfl (bno2_of (fun w hw _ => by cases hw; exact (show (1 : Nat) ≠ 2 by decide))) ?_
          refine b_goto (t := 38) C (dk_at ec213 (i := 38) rfl).1 (by decide) ?_
          have := ih (n + 1) k2 (by omega) k2u
          rw [show (((n + 1 : Nat) : Int)) = (n : Int) + 1 by omega] at this
          exact this
    refine b_iload_n C (dk_at ec213 (i := 0) rfl).1 rfl ?_
    refine b_iconst C (dk_at ec213 (i := 1) rfl).1 ?_
    refine b_al0 C (dk_at ec213 (i := 2) rfl).1 rfl ?_
    refine b_iload_n C (dk_at ec213 (i := 3) rfl).1 rfl ?_
    refine b_inv (As := [.int (bz w)]) (rest := [.int (bz 0), .int (bz x)]) C Bg.x (dk_at ec213 (i := 4) rfl) (by decide) rfl (sp_fun m a w) (by omega) rfl hm ⟨rfl, hw, hm, ha, hta, hla⟩ (Nat.le_of_ble_eq_true rfl) (Nat.le_refl _) (Nat.le_refl _) ?_
    rintro v τ' h' ⟨rfl, rfl, N, rfl, hN⟩
    refine b_iconst C (dk_at ec213 (i := 5) rfl).1 ?_
    refine b_isub C (dk_at ec213 (i := 6) rfl).1 ?_
    refine b_ins (As := [.int (bz x), .int (bz 0), .int (bz ((N : Int) - 1))]) (rest := []) C Bg.x (dk_at ec213 (i := 7) rfl) (by decide) rfl (is_fun x 0 ((N : Int) - 1)) (by omega) rfl ⟨rfl, hx, ⟨by omega, by omega⟩, ⟨by omega, by omega⟩⟩ (Nat.le_of_ble_eq_true rfl) (Nat.le_refl _) (Nat.le_refl _) ?_
    rintro v τ' h' ⟨rfl, rfl, r, rfl, hr⟩
    refine b_if_eq (t := 24) C (dk_at ec213 (i := 8) rfl).1 (by decide) ⟨by omega, by omega⟩ (fun z12 => ?_) (fun z12 => ?_)
    · refine b_iconst C (dk_at ec213 (i := 14) rfl).1 ?_
      exact b_iret C Bg (dk_at ec213 (i := 15) rfl).1 (Or.inl rfl) (Nat.le_refl _) (Nat.le_refl _) ⟨rfl, rfl, _, rfl, by omega, by omega⟩
    · refine b_iload_n C (dk_at ec213 (i := 9) rfl).1 rfl ?_
      refine b_iconst C (dk_at ec213 (i := 10) rfl).1 ?_
      refine b_iconst C (dk_at ec213 (i := 11) rfl).1 ?_
      refine b_ins (As := [.int (bz e), .int (bz 0), .int (bz 1)]) (rest := []) C Bg.x (dk_at ec213 (i := 12) rfl) (by decide) rfl (is_fun e 0 1) (by omega) rfl ⟨rfl, he, ⟨by omega, by omega⟩, ⟨by omega, by omega⟩⟩ (Nat.le_of_ble_eq_true rfl) (Nat.le_refl _) (Nat.le_refl _) ?_
      rintro v τ' h' ⟨rfl, rfl, q, rfl, hq⟩
      refine b_if_ne (t := 26) C (dk_at ec213 (i := 13) rfl).1 (by decide) ⟨by omega, by omega⟩ (fun z21 => ?_) (fun z21 => ?_)
      · refine b_al0 C (dk_at ec213 (i := 16) rfl).1 rfl ?_
        refine b_iload_n C (dk_at ec213 (i := 17) rfl).1 rfl ?_
        refine b_iconst C (dk_at ec213 (i := 18) rfl).1 ?_
        refine b_iconst C (dk_at ec213 (i := 19) rfl).1 ?_
        refine b_inv (As := [.int (bz w), .int (bz ((0 : Nat) : Int)), .int (bz 1)]) (rest := []) C Bg.x (dk_at ec213 (i := 20) rfl) (by decide) rfl (nm_fun m a 0 w 1) (by omega) rfl hm ⟨rfl, by omega, hw, by omega, hm, ha, hta, hla⟩ (Nat.le_of_ble_eq_true rfl) (Nat.le_refl _) (Nat.le_refl _) ?_
        rintro v τ' h' ⟨rfl, rfl, k2, rfl, k2l, k2u, k3⟩
        refine b_istore C (dk_at ec213 (i := 21) rfl).1 (by rw [hn]; decide) (bno2_of (fun w hw _ => by cases hw; exact (show (1 : Nat) ≠ 2 by decide))) ?_
        refine b_iconst C (dk_at ec213 (i := 22) rfl).1 ?_
        refine b_istore C (dk_at ec213 (i := 23) rfl).1 (by rw [hn]; decide) (bno2_of (fun w hw _ => by cases hw; exact (show (1 : Nat) ≠ 2 by decide))) ?_
        exact loop x.toNat 0 k2 (by omega) k2u
      · refine b_iconst C (dk_at ec213 (i := 14) rfl).1 ?_
        exact b_iret C Bg (dk_at ec213 (i := 15) rfl).1 (Or.inl rfl) (Nat.le_refl _) (Nat.le_refl _) ⟨rfl, rfl, _, rfl, by omega, by omega⟩
