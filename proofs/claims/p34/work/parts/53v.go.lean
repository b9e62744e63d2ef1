/-! ===== go: the next word, number or sign ===== -/
section GOROWS
variable {γ : bG} {y : bY} {d b1 b2 pc : Nat} {lo : List (Option Value)} {st : List Value} {τ : bt} {h : bh} {nc ns : Nat} {Γ : List (bY × Nat)}
theorem b_gL {idx k ci r3 r4 a : Nat} (C : bC γ y d b1 b2) (hE : dk_ok y Γ (pc, .getfield idx, 3, k, ci, r3, r4, 3)) (ht : τ.1 a = ci + 1) (kk : ∀ v, bJ γ (pc + 3) lo (.long v :: st) τ h nc ns) : bJ γ pc lo (.ref a :: st) τ h nc ns := by
  obtain ⟨hd, -, q, h1, h2, h3, h4, h5⟩ := hE
  exact b_getL C h1 h2 h3 h4 hd h5 ht kk
theorem b_pL {idx k ci r3 r4 a : Nat} {v : Int64} (C : bC γ y d b1 b2) (hE : dk_ok y Γ (pc, .putfield idx, 3, k, ci, r3, r4, 3)) (ht : τ.1 a = ci + 1) (kk : bJ γ (pc + 3) lo st τ h nc ns) : bJ γ pc lo (.long v :: .ref a :: st) τ h nc ns := by
  obtain ⟨hd, -, q, ty, h1, h2, h3, h4, h5, h6, -⟩ := hE
  exact b_putL C h1 h2 h3 h4 hd h5 h6 ht kk
theorem b_l2 {i r1 r2 r3 r4 r5 : Nat} (C : bC γ y d b1 b2) (hE : dk_ok y Γ (pc, .ldc2_w i, 3, r1, r2, r3, r4, r5)) (kk : ∀ v, bJ γ (pc + 3) lo (.long v :: st) τ h nc ns) : bJ γ pc lo st τ h nc ns := by
  obtain ⟨hd, -, v, hv⟩ := hE
  exact b_ldc2 C hv hd kk
end GOROWS
def gI (h H : bh) (m : Nat) : Prop := H.2 = h.2 ∧ ∀ b i, (b ≠ m ∨ i < 5 ∨ 9 < i) → H.1 b i = h.1 b i
theorem gI.put {h H : bh} {m k : Nat} {z : Int} (hg : gI h H m) (h5 : 5 ≤ k) (h9 : k ≤ 9) : gI h (bsetI H m k z) m := ⟨hg.1, fun b i hb => by rw [← hg.2 b i hb]; exact if_neg (by omega)⟩
theorem il_fun (x : Int) : bOk ey179 1 1 0 0 (fun _ avs τ h => avs = [.int (bz x)] ∧ brg x) (fun _ avs τ h v τ' h' => τ = τ' ∧ h = h' ∧ ∃ r : Int, v = some (.int (bz r)) ∧ ((r = 1 ∧ 97 ≤ x ∧ x ≤ 122) ∨ (r = 0 ∧ ¬ (97 ≤ x ∧ x ≤ 122)))) := by
  refine bOk_of emp179.1.2.2.2.2.2.1 ?_ ?_
  · rintro ι avs τ h ⟨rfl, -⟩
    exact Nat.le_of_ble_eq_true rfl
  · intro γ ι τ h avs d hd hp Bg C
    obtain ⟨rfl, hx⟩ := hp
    have hn : γ.2.2.1 = 1 := Bg.2.1
    refine b_iload_n C (dk_at ec179 (i := 0) rfl).1 rfl ?_
    refine b_bipush C (dk_at ec179 (i := 1) rfl).1 ⟨by omega, by omega⟩ ?_
    refine b_icmp_lt (t := 16) C (dk_at ec179 (i := 2) rfl).1 (by decide) hx ⟨by omega, by omega⟩ (fun z3 => ?_) (fun z3 => ?_)
    · refine b_iconst C (dk_at ec179 (i := 8) rfl).1 ?_
      exact b_iret C Bg (dk_at ec179 (i := 9) rfl).1 (Or.inr ⟨rfl, by omega⟩) (Nat.le_refl _) (Nat.le_refl _) ⟨rfl, rfl, 0, rfl, by omega⟩
    · refine b_iload_n C (dk_at ec179 (i := 3) rfl).1 rfl ?_
      refine b_bipush C (dk_at ec179 (i := 4) rfl).1 ⟨by omega, by omega⟩ ?_
      refine b_icmp_gt (t := 16) C (dk_at ec179 (i := 5) rfl).1 (by decide) hx ⟨by omega, by omega⟩ (fun z9 => ?_) (fun z9 => ?_)
      · refine b_iconst C (dk_at ec179 (i := 8) rfl).1 ?_
        exact b_iret C Bg (dk_at ec179 (i := 9) rfl).1 (Or.inr ⟨rfl, by omega⟩) (Nat.le_refl _) (Nat.le_refl _) ⟨rfl, rfl, 0, rfl, by omega⟩
      · refine b_iconst C (dk_at ec179 (i := 6) rfl).1 ?_
        refine b_goto (t := 17) C (dk_at ec179 (i := 7) rfl).1 (by decide) ?_
        exact b_iret C Bg (dk_at ec179 (i := 9) rfl).1 (Or.inr ⟨rfl, by omega⟩) (Nat.le_refl _) (Nat.le_refl _) ⟨rfl, rfl, 1, rfl, by omega⟩
theorem id_fun (x : Int) : bOk ey178 1 1 0 0 (fun _ avs τ h => avs = [.int (bz x)] ∧ brg x) (fun _ avs τ h v τ' h' => τ = τ' ∧ h = h' ∧ ∃ r : Int, v = some (.int (bz r)) ∧ ((r = 1 ∧ 48 ≤ x ∧ x ≤ 57) ∨ (r = 0 ∧ ¬ (48 ≤ x ∧ x ≤ 57)))) := by
  refine bOk_of emp178.1.2.2.2.2.2.1 ?_ ?_
  · rintro ι avs τ h ⟨rfl, -⟩
    exact Nat.le_of_ble_eq_true rfl
  · intro γ ι τ h avs d hd hp Bg C
    obtain ⟨rfl, hx⟩ := hp
    have hn : γ.2.2.1 = 1 := Bg.2.1
    refine b_iload_n C (dk_at ec178 (i := 0) rfl).1 rfl ?_
    refine b_bipush C (dk_at ec178 (i := 1) rfl).1 ⟨by omega, by omega⟩ ?_
    refine b_icmp_lt (t := 16) C (dk_at ec178 (i := 2) rfl).1 (by decide) hx ⟨by omega, by omega⟩ (fun z3 => ?_) (fun z3 => ?_)
    · refine b_iconst C (dk_at ec178 (i := 8) rfl).1 ?_
      exact b_iret C Bg (dk_at ec178 (i := 9) rfl).1 (Or.inr ⟨rfl, by omega⟩) (Nat.le_refl _) (Nat.le_refl _) ⟨rfl, rfl, 0, rfl, by omega⟩
    · refine b_iload_n C (dk_at ec178 (i := 3) rfl).1 rfl ?_
      refine b_bipush C (dk_at ec178 (i := 4) rfl).1 ⟨by omega, by omega⟩ ?_
      refine b_icmp_gt (t := 16) C (dk_at ec178 (i := 5) rfl).1 (by decide) hx ⟨by omega, by omega⟩ (fun z9 => ?_) (fun z9 => ?_)
      · refine b_iconst C (dk_at ec178 (i := 8) rfl).1 ?_
        exact b_iret C Bg (dk_at ec178 (i := 9) rfl).1 (Or.inr ⟨rfl, by omega⟩) (Nat.le_refl _) (Nat.le_refl _) ⟨rfl, rfl, 0, rfl, by omega⟩
      · refine b_iconst C (dk_at ec178 (i := 6) rfl).1 ?_
        refine b_goto (t := 17) C (dk_at ec178 (i := 7) rfl).1 (by decide) ?_
        exact b_iret C Bg (dk_at ec178 (i := 9) rfl).1 (Or.inr ⟨rfl, by omega⟩) (Nat.le_refl _) (Nat.le_refl _) ⟨rfl, rfl, 1, rfl, by omega⟩
theorem ta_fun (m t T : Nat) : bOk ey177 2 1 0 0 (fun _ avs τ h => avs = [.ref m, .int (bz (T : Int))] ∧ τ.1 m = 12 ∧ h.2 m 1 = some t ∧ τ.1 t = 41 ∧ τ.2 t = 940 ∧ 0 ≤ h.1 m 3 ∧ h.1 m 3 ≤ 940 ∧ T ≤ 940) (fun _ avs τ h v τ' h' => τ = τ' ∧ h = h' ∧ ∃ z : Int, v = some (.int (bz z)) ∧ brg z ∧ (((T : Int) < h.1 m 3 ∧ z = h.1 t T) ∨ (h.1 m 3 ≤ (T : Int) ∧ z = 0))) := by
  refine bOk_of emp177.1.2.2.2.2.2.1 ?_ ?_
  · rintro ι avs τ h ⟨rfl, -⟩
    exact Nat.le_of_ble_eq_true rfl
  · intro γ ι τ h avs d hd hp Bg C
    obtain ⟨rfl, hm, hT, htt, hlt, s0, s1, hT9⟩ := hp
    have hn : γ.2.2.1 = 2 := Bg.2.1
    refine b_iload_n C (dk_at ec177 (i := 0) rfl).1 rfl ?_
    refine b_al0 C (dk_at ec177 (i := 1) rfl).1 rfl ?_
    refine b_gI C (dk_at ec177 (i := 2) rfl) hm (fun _ => ?_)
    refine b_icmp_ge (t := 17) C (dk_at ec177 (i := 3) rfl).1 (by decide) ⟨by omega, by omega⟩ ⟨by omega, by omega⟩ (fun z5 => ?_) (fun z5 => ?_)
    · refine b_iconst C (dk_at ec177 (i := 9) rfl).1 ?_
      exact b_iret C Bg (dk_at ec177 (i := 10) rfl).1 (Or.inl rfl) (Nat.le_refl _) (Nat.le_refl _) ⟨rfl, rfl, _, rfl, ⟨by omega, by omega⟩, by omega⟩
    · refine b_al0 C (dk_at ec177 (i := 4) rfl).1 rfl ?_
      refine b_gR C (dk_at ec177 (i := 5) rfl) hm hT ?_
      refine b_iload_n C (dk_at ec177 (i := 6) rfl).1 rfl ?_
      refine b_rd (j := T) C (dk_at ec177 (i := 7) rfl).1 htt (by omega) (by omega) (fun hb => ?_)
      refine b_goto (t := 18) C (dk_at ec177 (i := 8) rfl).1 (by decide) ?_
      exact b_iret C Bg (dk_at ec177 (i := 10) rfl).1 (Or.inl rfl) (Nat.le_refl _) (Nat.le_refl _) ⟨rfl, rfl, _, rfl, hb, by omega⟩
theorem gg_fun (m t T0 : Nat) : bOk ey180 5 3 0 0 (fun _ avs τ h => avs = [.ref m] ∧ τ.1 m = 12 ∧ h.2 m 1 = some t ∧ τ.1 t = 41 ∧ τ.2 t = 940 ∧ 0 ≤ h.1 m 3 ∧ h.1 m 3 ≤ 940 ∧ h.1 m 5 = (T0 : Int) ∧ T0 ≤ 940) (fun _ avs τ h v τ' h' => τ' = τ ∧ v = none ∧ gI h h' m ∧ ∃ T k : Nat, h'.1 m 5 = (T : Int) ∧ h'.1 m 7 = (k : Int) ∧ T0 ≤ T ∧ T ≤ 940 ∧ k ≤ 4 ∧ k ≤ 3 * (T - T0) + 1) := by
  refine bOk_of emp180.1.2.2.2.2.2.1 ?_ ?_
  · rintro ι avs τ h ⟨rfl, -⟩
    exact Nat.le_of_ble_eq_true rfl
  · intro γ ι τ h avs d hd hp Bg C
    obtain ⟨rfl, hm, hT0, htt, hlt, s0, s1, eT0, hT09⟩ := hp
    have hn : γ.2.2.1 = 5 := Bg.2.1
    obtain ⟨d, rfl⟩ : ∃ d', d = d' + 1 := ⟨d - 1, by omega⟩
    have nt : t ≠ m := fun e => by rw [e] at htt; omega
    have E390 : ∀ (T k : Nat) (H : bh) (lo : List (Option Value)), gI h H m → H.1 m 5 = (T : Int) → T0 ≤ T → T ≤ 940 → k ≤ 4 → k ≤ 3 * (T - T0) + 1 → bJ γ 390 lo [.int (bz (k : Int)), .ref m] τ H 0 0 := by
      intro T k H lo hg eT h1 h2 h3 h4
      refine b_pI C (dk_at ec180 (i := 204) rfl) ⟨by omega, by omega⟩ hm ?_
      exact b_vret C Bg (dk_at ec180 (i := 205) rfl).1 rfl (Nat.le_refl _) (Nat.le_refl _) ⟨rfl, rfl, hg.put (by omega) (by omega), T, k, by rw [bsetI_ne (by omega)]; exact eT, bsetI_at _ _ _, by omega, by omega, by omega, by omega⟩
    have W215 : ∀ (T1 : Nat) (c : Int), T0 ≤ T1 → (T1 : Int) < h.1 m 3 → ((97 ≤ c ∧ c ≤ 122) ∨ (48 ≤ c ∧ c ≤ 57)) → h.1 t T1 = c → ∀ x2 : Int, x2 = 0 ∨ x2 = 1 → ∀ H, gI h H m → H.1 m 5 = (T1 : Int) → H.1 m 6 = (T1 : Int) → bJ γ 215 [some (.ref m), some (.int (bz c)), some (.int (bz x2)), some (.int (bz 1)), none] [] τ H 0 0 := by
      intro T1 c hT01 hT1S hcl ec x2 hx20 H0 hg0 eT0 eF0
      have hx2 : brg x2 := ⟨by omega, by omega⟩
      have E350 : ∀ (T : Nat) (H : bh) (x3 : Int) (x4 : Option Value), gI h H m → H.1 m 5 = (T : Int) → H.1 m 6 = (T1 : Int) → T1 < T → T ≤ 940 → brg x3 → bJ γ 350 [some (.ref m), some (.int (bz c)), some (.int (bz x2)), some (.int (bz x3)), x4] [] τ H 0 0 := by
        intro T H x3 x4 hg eT eF h1 h2 hx3
        refine b_al0 C (dk_at ec180 (i := 183) rfl).1 rfl ?_
        refine b_iload_n C (dk_at ec180 (i := 184) rfl).1 rfl ?_
        refine b_if_eq (t := 377) C (dk_at ec180 (i := 185) rfl).1 (by decide) hx3 (fun z352 => ?_) (fun z352 => ?_)
        · refine b_iconst C (dk_at ec180 (i := 197) rfl).1 ?_
          refine b_goto (t := 390) C (dk_at ec180 (i := 198) rfl).1 (by decide) ?_
          exact E390 T 1 H _ hg eT (by omega) (by omega) (by omega) (by omega)
        · refine b_al0 C (dk_at ec180 (i := 186) rfl).1 rfl ?_
          refine b_gI C (dk_at ec180 (i := 187) rfl) hm (fun _ => ?_)
          rw [eT]
          refine b_al0 C (dk_at ec180 (i := 188) rfl).1 rfl ?_
          refine b_gI C (dk_at ec180 (i := 189) rfl) hm (fun _ => ?_)
          rw [eF]
          refine b_isub C (dk_at ec180 (i := 190) rfl).1 ?_
          refine b_iload_n C (dk_at ec180 (i := 191) rfl).1 rfl ?_
          refine b_if_eq (t := 373) C (dk_at ec180 (i := 192) rfl).1 (by decide) hx2 (fun z365 => ?_) (fun z365 => ?_)
          · refine b_iconst C (dk_at ec180 (i := 195) rfl).1 ?_
            refine b_icmp_le (t := 381) C (dk_at ec180 (i := 196) rfl).1 (by decide) ⟨by omega, by omega⟩ ⟨by omega, by omega⟩ (fun z374 => ?_) (fun z374 => ?_)
            · refine b_iload_n C (dk_at ec180 (i := 199) rfl).1 rfl ?_
              refine b_if_eq (t := 389) C (dk_at ec180 (i := 200) rfl).1 (by decide) hx2 (fun z382 => ?_) (fun z382 => ?_)
              · refine b_iconst C (dk_at ec180 (i := 203) rfl).1 ?_
                exact E390 T 3 H _ hg eT (by omega) (by omega) (by omega) (by omega)
              · refine b_iconst C (dk_at ec180 (i := 201) rfl).1 ?_
                refine b_goto (t := 390) C (dk_at ec180 (i := 202) rfl).1 (by decide) ?_
                exact E390 T 2 H _ hg eT (by omega) (by omega) (by omega) (by omega)
            · refine b_iconst C (dk_at ec180 (i := 197) rfl).1 ?_
              refine b_goto (t := 390) C (dk_at ec180 (i := 198) rfl).1 (by decide) ?_
              exact E390 T 1 H _ hg eT (by omega) (by omega) (by omega) (by omega)
          · refine b_bipush C (dk_at ec180 (i := 193) rfl).1 ⟨by omega, by omega⟩ ?_
            refine b_goto (t := 374) C (dk_at ec180 (i := 194) rfl).1 (by decide) ?_
            refine b_icmp_le (t := 381) C (dk_at ec180 (i := 196) rfl).1 (by decide) ⟨by omega, by omega⟩ ⟨by omega, by omega⟩ (fun z374 => ?_) (fun z374 => ?_)
            · refine b_iload_n C (dk_at ec180 (i := 199) rfl).1 rfl ?_
              refine b_if_eq (t := 389) C (dk_at ec180 (i := 200) rfl).1 (by decide) hx2 (fun z382 => ?_) (fun z382 => ?_)
              · refine b_iconst C (dk_at ec180 (i := 203) rfl).1 ?_
                exact E390 T 3 H _ hg eT (by omega) (by omega) (by omega) (by omega)
              · refine b_iconst C (dk_at ec180 (i := 201) rfl).1 ?_
                refine b_goto (t := 390) C (dk_at ec180 (i := 202) rfl).1 (by decide) ?_
                exact E390 T 2 H _ hg eT (by omega) (by omega) (by omega) (by omega)
            · refine b_iconst C (dk_at ec180 (i := 197) rfl).1 ?_
              refine b_goto (t := 390) C (dk_at ec180 (i := 198) rfl).1 (by decide) ?_
              exact E390 T 1 H _ hg eT (by omega) (by omega) (by omega) (by omega)
      have loop : ∀ (r T : Nat) (H : bh) (x3 : Int) (x4 : Option Value), gI h H m → H.1 m 5 = (T : Int) → H.1 m 6 = (T1 : Int) → T1 ≤ T → T ≤ 940 → T + r = 941 → (T = T1 → (97 ≤ h.1 t T1 ∧ h.1 t T1 ≤ 122) ∨ (48 ≤ h.1 t T1 ∧ h.1 t T1 ≤ 57)) → brg x3 → bJ γ 215 [some (.ref m), some (.int (bz c)), some (.int (bz x2)), some (.int (bz x3)), x4] [] τ H 0 0 := by
        intro r
        induction r with
        | zero =>
          intro T H x3 x4 hg eT eF h1 h2 h3 hcc hx3
          omega
        | succ r ih =>
          intro T H x3 x4 hg eT eF h1 h2 h3 hcc hx3
          have hT : H.2 m 1 = some t := by rw [hg.1]; exact hT0
          have eS : H.1 m 3 = h.1 m 3 := hg.2 m 3 (Or.inr (Or.inl (by omega)))
          have B272 : (T : Int) < h.1 m 3 → ∀ (dv x3' : Int), brg x3' → bJ γ 272 [some (.ref m), some (.int (bz c)), some (.int (bz x2)), some (.int (bz x3)), some (.int (bz dv))] [.int (bz x3')] τ H 0 0 := by
            intro hTS dv x3' hx3'
            have B337 : ∀ H', gI h H' m → H'.1 m 5 = (T : Int) → H'.1 m 6 = (T1 : Int) → bJ γ 337 [some (.ref m), some (.int (bz c)), some (.int (bz x2)), some (.int (bz x3')), some (.int (bz dv))] [] τ H' 0 0 := by
              intro H' hg' eT' eF'
              refine b_al0 C (dk_at ec180 (i := 176) rfl).1 rfl ?_
              refine b_dup C (dk_at ec180 (i := 177) rfl).1 rfl ?_
              refine b_gI C (dk_at ec180 (i := 178) rfl) hm (fun _ => ?_)
              rw [eT']
              refine b_iconst C (dk_at ec180 (i := 179) rfl).1 ?_
              refine b_iadd C (dk_at ec180 (i := 180) rfl).1 ?_
              refine b_pI C (dk_at ec180 (i := 181) rfl) ⟨by omega, by omega⟩ hm ?_
              refine b_goto (t := 215) C (dk_at ec180 (i := 182) rfl).1 (by decide) ?_
              have := ih (T + 1) (bsetI H' m 5 ((T : Int) + 1)) x3' (some (.int (bz dv))) (hg'.put (by omega) (by omega)) (by rw [bsetI_at]; omega) (by rw [bsetI_ne (by omega)]; exact eF') (by omega) (by omega) (by omega) (fun e => by omega) hx3'
              exact this
            have B307 : bJ γ 307 [some (.ref m), some (.int (bz c)), some (.int (bz x2)), some (.int (bz x3')), some (.int (bz dv))] [] τ H 0 0 := by
              refine b_al0 C (dk_at ec180 (i := 159) rfl).1 rfl ?_
              refine b_gI C (dk_at ec180 (i := 160) rfl) hm (fun _ => ?_)
              rw [eT]
              refine b_al0 C (dk_at ec180 (i := 161) rfl).1 rfl ?_
              refine b_gI C (dk_at ec180 (i := 162) rfl) hm (fun _ => ?_)
              rw [eF]
              refine b_isub C (dk_at ec180 (i := 163) rfl).1 ?_
              refine b_iconst C (dk_at ec180 (i := 164) rfl).1 ?_
              refine b_icmp_ge (t := 337) C (dk_at ec180 (i := 165) rfl).1 (by decide) ⟨by omega, by omega⟩ ⟨by omega, by omega⟩ (fun z317 => ?_) (fun z317 => ?_)
              · exact B337 H hg eT eF
              · refine b_al0 C (dk_at ec180 (i := 166) rfl).1 rfl ?_
                refine b_bipush C (dk_at ec180 (i := 167) rfl).1 ⟨by omega, by omega⟩ ?_
                refine b_al0 C (dk_at ec180 (i := 168) rfl).1 rfl ?_
                refine b_gI C (dk_at ec180 (i := 169) rfl) hm (fun _ => ?_)
                refine b_imul C (dk_at ec180 (i := 170) rfl).1 ?_
                refine b_iload C (dk_at ec180 (i := 171) rfl).1 rfl ?_
                refine b_iadd C (dk_at ec180 (i := 172) rfl).1 ?_
                refine b_bipush C (dk_at ec180 (i := 173) rfl).1 ⟨by omega, by omega⟩ ?_
                refine b_isub C (dk_at ec180 (i := 174) rfl).1 ?_
                refine b_norm (fun u tt hu _ => ?_)
                refine b_pI C (dk_at ec180 (i := 175) rfl) hu hm ?_
                exact B337 _ (hg.put (by omega) (by omega)) (by rw [bsetI_ne (by omega)]; exact eT) (by rw [bsetI_ne (by omega)]; exact eF)
            refine b_istore_n C (dk_at ec180 (i := 140) rfl).1 (by rw [hn]; decide) (bno2_of (fun w hw _ => by cases hw; exact (show (1 : Nat) ≠ 2 by decide))) ?_
            refine b_al0 C (dk_at ec180 (i := 141) rfl).1 rfl ?_
            refine b_gI C (dk_at ec180 (i := 142) rfl) hm (fun _ => ?_)
            rw [eT]
            refine b_al0 C (dk_at ec180 (i := 143) rfl).1 rfl ?_
            refine b_gI C (dk_at ec180 (i := 144) rfl) hm (fun _ => ?_)
            rw [eF]
            refine b_isub C (dk_at ec180 (i := 145) rfl).1 ?_
            refine b_bipush C (dk_at ec180 (i := 146) rfl).1 ⟨by omega, by omega⟩ ?_
            refine b_icmp_ge (t := 307) C (dk_at ec180 (i := 147) rfl).1 (by decide) ⟨by omega, by omega⟩ ⟨by omega, by omega⟩ (fun z284 => ?_) (fun z284 => ?_)
            · exact B307
            · refine b_al0 C (dk_at ec180 (i := 148) rfl).1 rfl ?_
              refine b_l2 C (dk_at ec180 (i := 149) rfl) (fun _ => ?_)
              refine b_al0 C (dk_at ec180 (i := 150) rfl).1 rfl ?_
              refine b_gL C (dk_at ec180 (i := 151) rfl) hm (fun _ => ?_)
              refine b_lmul C (dk_at ec180 (i := 152) rfl).1 (fun _ => ?_)
              refine b_iload C (dk_at ec180 (i := 153) rfl).1 rfl ?_
              refine b_i2l C (dk_at ec180 (i := 154) rfl).1 (fun _ => ?_)
              refine b_ladd C (dk_at ec180 (i := 155) rfl).1 (fun _ => ?_)
              refine b_l2 C (dk_at ec180 (i := 156) rfl) (fun _ => ?_)
              refine b_lsub C (dk_at ec180 (i := 157) rfl).1 (fun _ => ?_)
              refine b_pL C (dk_at ec180 (i := 158) rfl) hm ?_
              exact B307
          have B243 : (T : Int) < h.1 m 3 → bJ γ 243 [some (.ref m), some (.int (bz c)), some (.int (bz x2)), some (.int (bz x3)), x4] [] τ H 0 0 := by
            intro hT9
            refine b_al0 C (dk_at ec180 (i := 125) rfl).1 rfl ?_
            refine b_gR C (dk_at ec180 (i := 126) rfl) hm hT ?_
            refine b_al0 C (dk_at ec180 (i := 127) rfl).1 rfl ?_
            refine b_gI C (dk_at ec180 (i := 128) rfl) hm (fun _ => ?_)
            rw [eT]
            refine b_rd (j := T) C (dk_at ec180 (i := 129) rfl).1 htt (by omega) (by omega) (fun hv => ?_)
            refine b_istore C (dk_at ec180 (i := 130) rfl).1 (by rw [hn]; decide) (bno2_of (fun w hw _ => by cases hw; exact (show (1 : Nat) ≠ 2 by decide))) ?_
            refine b_iload_n C (dk_at ec180 (i := 131) rfl).1 rfl ?_
            refine b_if_eq (t := 271) C (dk_at ec180 (i := 132) rfl).1 (by decide) hx3 (fun z255 => ?_) (fun z255 => ?_)
            · refine b_iconst C (dk_at ec180 (i := 139) rfl).1 ?_
              exact B272 hT9 (H.1 t T) 0 ⟨by omega, by omega⟩
            · refine b_iload C (dk_at ec180 (i := 133) rfl).1 rfl ?_
              refine b_ins (As := [.int (bz (H.1 t T))]) (rest := []) C Bg.x (dk_at ec180 (i := 134) rfl) (by decide) rfl (il_fun (H.1 t T)) (by omega) rfl ⟨rfl, hv⟩ (Nat.le_of_ble_eq_true rfl) (Nat.le_refl _) (Nat.le_refl _) ?_
              rintro v τ' h' ⟨rfl, rfl, q, rfl, hq⟩
              refine b_iload_n C (dk_at ec180 (i := 135) rfl).1 rfl ?_
              refine b_icmp_ne (t := 271) C (dk_at ec180 (i := 136) rfl).1 (by decide) ⟨by omega, by omega⟩ hx2 (fun z264 => ?_) (fun z264 => ?_)
              · refine b_iconst C (dk_at ec180 (i := 139) rfl).1 ?_
                exact B272 hT9 (H.1 t T) 0 ⟨by omega, by omega⟩
              · refine b_iconst C (dk_at ec180 (i := 137) rfl).1 ?_
                refine b_goto (t := 272) C (dk_at ec180 (i := 138) rfl).1 (by decide) ?_
                exact B272 hT9 (H.1 t T) 1 ⟨by omega, by omega⟩
          refine b_al0 C (dk_at ec180 (i := 113) rfl).1 rfl ?_
          refine b_al0 C (dk_at ec180 (i := 114) rfl).1 rfl ?_
          refine b_gI C (dk_at ec180 (i := 115) rfl) hm (fun _ => ?_)
          rw [eT]
          refine b_inv (As := [.int (bz (T : Int))]) (rest := []) C Bg.x (dk_at ec180 (i := 116) rfl) (by decide) rfl (ta_fun m t T) (by omega) rfl hm ⟨rfl, hm, hT, htt, hlt, by omega, by omega, by omega⟩ (Nat.le_of_ble_eq_true rfl) (Nat.le_refl _) (Nat.le_refl _) ?_
          rintro v τ' h' ⟨rfl, rfl, z, rfl, hbz, hz⟩
          refine b_ins (As := [.int (bz z)]) (rest := []) C Bg.x (dk_at ec180 (i := 117) rfl) (by decide) rfl (il_fun z) (by omega) rfl ⟨rfl, hbz⟩ (Nat.le_of_ble_eq_true rfl) (Nat.le_refl _) (Nat.le_refl _) ?_
          rintro v τ' h' ⟨rfl, rfl, q1, rfl, hq1⟩
          refine b_if_ne (t := 243) C (dk_at ec180 (i := 118) rfl).1 (by decide) ⟨by omega, by omega⟩ (fun z226 => ?_) (fun z226 => ?_)
          · exact B243 (by omega)
          · refine b_al0 C (dk_at ec180 (i := 119) rfl).1 rfl ?_
            refine b_al0 C (dk_at ec180 (i := 120) rfl).1 rfl ?_
            refine b_gI C (dk_at ec180 (i := 121) rfl) hm (fun _ => ?_)
            rw [eT]
            refine b_inv (As := [.int (bz (T : Int))]) (rest := []) C Bg.x (dk_at ec180 (i := 122) rfl) (by decide) rfl (ta_fun m t T) (by omega) rfl hm ⟨rfl, hm, hT, htt, hlt, by omega, by omega, by omega⟩ (Nat.le_of_ble_eq_true rfl) (Nat.le_refl _) (Nat.le_refl _) ?_
            rintro v τ' h' ⟨rfl, rfl, y, rfl, hby, hy⟩
            refine b_ins (As := [.int (bz y)]) (rest := []) C Bg.x (dk_at ec180 (i := 123) rfl) (by decide) rfl (id_fun y) (by omega) rfl ⟨rfl, hby⟩ (Nat.le_of_ble_eq_true rfl) (Nat.le_refl _) (Nat.le_refl _) ?_
            rintro v τ' h' ⟨rfl, rfl, q2, rfl, hq2⟩
            refine b_if_eq (t := 350) C (dk_at ec180 (i := 124) rfl).1 (by decide) ⟨by omega, by omega⟩ (fun z240 => ?_) (fun z240 => ?_)
            · have ht : T1 < T := Classical.byContradiction fun e => by
                have eTT : T = T1 := by omega
                have q3 := hcc eTT
                have q4 := hg.2 t T (Or.inl nt)
                have q5 : h.1 t T = h.1 t T1 := by rw [eTT]
                omega
              exact E350 T H x3 x4 hg eT eF ht (by omega) hx3
            · exact B243 (by omega)
      exact loop (941 - T1) T1 H0 1 none hg0 eT0 eF0 (Nat.le_refl _) (by omega) (by omega) (fun _ => by omega) ⟨by omega, by omega⟩
    have S123 : ∀ (T1 : Nat) (c : Int) (H : bh), gI h H m → H.1 m 5 = (T1 : Int) → H.1 m 6 = (T1 : Int) → T0 ≤ T1 → (T1 : Int) < h.1 m 3 → c = h.1 t T1 → brg c → bJ γ 123 [some (.ref m), some (.int (bz c)), none, none, none] [] τ H 0 0 := by
      intro T1 c H hg eT eF h1 h2 ec hc
      have S198 : ((97 ≤ c ∧ c ≤ 122) ∨ (48 ≤ c ∧ c ≤ 57)) → bJ γ 198 [some (.ref m), some (.int (bz c)), none, none, none] [] τ H 0 0 := by
        intro hcl
        have W215 := W215 T1 c h1 h2 hcl ec.symm
        refine b_iload_n C (dk_at ec180 (i := 102) rfl).1 rfl ?_
        refine b_ins (As := [.int (bz c)]) (rest := []) C Bg.x (dk_at ec180 (i := 103) rfl) (by decide) rfl (il_fun c) (by omega) rfl ⟨rfl, hc⟩ (Nat.le_of_ble_eq_true rfl) (Nat.le_refl _) (Nat.le_refl _) ?_
        rintro v τ' h' ⟨rfl, rfl, x2, rfl, hx2⟩
        refine b_istore_n C (dk_at ec180 (i := 104) rfl).1 (by rw [hn]; decide) (bno2_of (fun w hw _ => by cases hw; exact (show (1 : Nat) ≠ 2 by decide))) ?_
        refine b_iconst C (dk_at ec180 (i := 105) rfl).1 ?_
        refine b_istore_n C (dk_at ec180 (i := 106) rfl).1 (by rw [hn]; decide) (bno2_of (fun w hw _ => by cases hw; exact (show (1 : Nat) ≠ 2 by decide))) ?_
        refine b_al0 C (dk_at ec180 (i := 107) rfl).1 rfl ?_
        refine b_lconst C (dk_at ec180 (i := 108) rfl).1 (fun _ => ?_)
        refine b_pL C (dk_at ec180 (i := 109) rfl) hm ?_
        refine b_al0 C (dk_at ec180 (i := 110) rfl).1 rfl ?_
        refine b_iconst C (dk_at ec180 (i := 111) rfl).1 ?_
        refine b_pI C (dk_at ec180 (i := 112) rfl) ⟨by omega, by omega⟩ hm ?_
        exact W215 x2 (by omega) _ (hg.put (by omega) (by omega)) (by rw [bsetI_ne (by omega)]; exact eT) (by rw [bsetI_ne (by omega)]; exact eF)
      have S179 : ∀ kd : Int, kd = 4 ∨ kd = 1 → bJ γ 179 [some (.ref m), some (.int (bz c)), none, none, none] [.int (bz kd), .ref m] τ H 0 0 := by
        intro kd hkd
        refine b_pI C (dk_at ec180 (i := 91) rfl) ⟨by omega, by omega⟩ hm ?_
        refine b_al0 C (dk_at ec180 (i := 92) rfl).1 rfl ?_
        refine b_iload_n C (dk_at ec180 (i := 93) rfl).1 rfl ?_
        refine b_pI C (dk_at ec180 (i := 94) rfl) hc hm ?_
        refine b_al0 C (dk_at ec180 (i := 95) rfl).1 rfl ?_
        refine b_dup C (dk_at ec180 (i := 96) rfl).1 rfl ?_
        refine b_gI C (dk_at ec180 (i := 97) rfl) hm (fun _ => ?_)
        rw [show (bsetI (bsetI H m 7 kd) m 9 c).1 m 5 = (T1 : Int) by rw [bsetI_ne (by omega), bsetI_ne (by omega)]; exact eT]
        refine b_iconst C (dk_at ec180 (i := 98) rfl).1 ?_
        refine b_iadd C (dk_at ec180 (i := 99) rfl).1 ?_
        refine b_pI C (dk_at ec180 (i := 100) rfl) ⟨by omega, by omega⟩ hm ?_
        exact b_vret C Bg (dk_at ec180 (i := 101) rfl).1 rfl (Nat.le_refl _) (Nat.le_refl _) ⟨rfl, rfl, ((hg.put (by omega) (by omega)).put (by omega) (by omega)).put (by omega) (by omega), T1 + 1, kd.toNat, by rw [bsetI_at]; omega, by rw [bsetI_ne (by omega), bsetI_ne (by omega), bsetI_at]; omega, by omega, by omega, by omega, by omega⟩
      refine b_iload_n C (dk_at ec180 (i := 63) rfl).1 rfl ?_
      refine b_ins (As := [.int (bz c)]) (rest := []) C Bg.x (dk_at ec180 (i := 64) rfl) (by decide) rfl (il_fun c) (by omega) rfl ⟨rfl, hc⟩ (Nat.le_of_ble_eq_true rfl) (Nat.le_refl _) (Nat.le_refl _) ?_
      rintro v τ' h' ⟨rfl, rfl, q1, rfl, hq1⟩
      refine b_if_ne (t := 198) C (dk_at ec180 (i := 65) rfl).1 (by decide) ⟨by omega, by omega⟩ (fun z127 => ?_) (fun z127 => ?_)
      · exact S198 (by omega)
      · refine b_iload_n C (dk_at ec180 (i := 66) rfl).1 rfl ?_
        refine b_ins (As := [.int (bz c)]) (rest := []) C Bg.x (dk_at ec180 (i := 67) rfl) (by decide) rfl (id_fun c) (by omega) rfl ⟨rfl, hc⟩ (Nat.le_of_ble_eq_true rfl) (Nat.le_refl _) (Nat.le_refl _) ?_
        rintro v τ' h' ⟨rfl, rfl, q2, rfl, hq2⟩
        refine b_if_ne (t := 198) C (dk_at ec180 (i := 68) rfl).1 (by decide) ⟨by omega, by omega⟩ (fun z134 => ?_) (fun z134 => ?_)
        · exact S198 (by omega)
        · refine b_al0 C (dk_at ec180 (i := 69) rfl).1 rfl ?_
          refine b_iload_n C (dk_at ec180 (i := 70) rfl).1 rfl ?_
          refine b_bipush C (dk_at ec180 (i := 71) rfl).1 ⟨by omega, by omega⟩ ?_
          refine b_icmp_eq (t := 174) C (dk_at ec180 (i := 72) rfl).1 (by decide) hc ⟨by omega, by omega⟩ (fun z141 => ?_) (fun z141 => ?_)
          · refine b_iconst C (dk_at ec180 (i := 88) rfl).1 ?_
            refine b_goto (t := 179) C (dk_at ec180 (i := 89) rfl).1 (by decide) ?_
            exact S179 4 (by omega)
          · refine b_iload_n C (dk_at ec180 (i := 73) rfl).1 rfl ?_
            refine b_bipush C (dk_at ec180 (i := 74) rfl).1 ⟨by omega, by omega⟩ ?_
            refine b_icmp_eq (t := 174) C (dk_at ec180 (i := 75) rfl).1 (by decide) hc ⟨by omega, by omega⟩ (fun z147 => ?_) (fun z147 => ?_)
            · refine b_iconst C (dk_at ec180 (i := 88) rfl).1 ?_
              refine b_goto (t := 179) C (dk_at ec180 (i := 89) rfl).1 (by decide) ?_
              exact S179 4 (by omega)
            · refine b_iload_n C (dk_at ec180 (i := 76) rfl).1 rfl ?_
              refine b_bipush C (dk_at ec180 (i := 77) rfl).1 ⟨by omega, by omega⟩ ?_
              refine b_icmp_eq (t := 174) C (dk_at ec180 (i := 78) rfl).1 (by decide) hc ⟨by omega, by omega⟩ (fun z153 => ?_) (fun z153 => ?_)
              · refine b_iconst C (dk_at ec180 (i := 88) rfl).1 ?_
                refine b_goto (t := 179) C (dk_at ec180 (i := 89) rfl).1 (by decide) ?_
                exact S179 4 (by omega)
              · refine b_iload_n C (dk_at ec180 (i := 79) rfl).1 rfl ?_
                refine b_bipush C (dk_at ec180 (i := 80) rfl).1 ⟨by omega, by omega⟩ ?_
                refine b_icmp_eq (t := 174) C (dk_at ec180 (i := 81) rfl).1 (by decide) hc ⟨by omega, by omega⟩ (fun z159 => ?_) (fun z159 => ?_)
                · refine b_iconst C (dk_at ec180 (i := 88) rfl).1 ?_
                  refine b_goto (t := 179) C (dk_at ec180 (i := 89) rfl).1 (by decide) ?_
                  exact S179 4 (by omega)
                · refine b_iload_n C (dk_at ec180 (i := 82) rfl).1 rfl ?_
                  refine b_bipush C (dk_at ec180 (i := 83) rfl).1 ⟨by omega, by omega⟩ ?_
                  refine b_icmp_eq (t := 174) C (dk_at ec180 (i := 84) rfl).1 (by decide) hc ⟨by omega, by omega⟩ (fun z165 => ?_) (fun z165 => ?_)
                  · refine b_iconst C (dk_at ec180 (i := 88) rfl).1 ?_
                    refine b_goto (t := 179) C (dk_at ec180 (i := 89) rfl).1 (by decide) ?_
                    exact S179 4 (by omega)
                  · refine b_iload_n C (dk_at ec180 (i := 85) rfl).1 rfl ?_
                    refine b_bipush C (dk_at ec180 (i := 86) rfl).1 ⟨by omega, by omega⟩ ?_
                    refine b_icmp_ne (t := 178) C (dk_at ec180 (i := 87) rfl).1 (by decide) hc ⟨by omega, by omega⟩ (fun z171 => ?_) (fun z171 => ?_)
                    · refine b_iconst C (dk_at ec180 (i := 90) rfl).1 ?_
                      exact S179 1 (by omega)
                    · refine b_iconst C (dk_at ec180 (i := 88) rfl).1 ?_
                      refine b_goto (t := 179) C (dk_at ec180 (i := 89) rfl).1 (by decide) ?_
                      exact S179 4 (by omega)
    have S60 : ∀ (T1 : Nat) (H : bh), gI h H m → H.1 m 5 = (T1 : Int) → H.1 m 6 = (T1 : Int) → T0 ≤ T1 → T1 ≤ 940 → bJ γ 60 [some (.ref m), none, none, none, none] [] τ H 0 0 := by
      intro T1 H hg eT eF h1 h2
      have hT : H.2 m 1 = some t := by rw [hg.1]; exact hT0
      have eS : H.1 m 3 = h.1 m 3 := hg.2 m 3 (Or.inr (Or.inl (by omega)))
      refine b_al0 C (dk_at ec180 (i := 30) rfl).1 rfl ?_
      refine b_gI C (dk_at ec180 (i := 31) rfl) hm (fun _ => ?_)
      rw [eS]
      refine b_al0 C (dk_at ec180 (i := 32) rfl).1 rfl ?_
      refine b_gI C (dk_at ec180 (i := 33) rfl) hm (fun hL => ?_)
      refine b_icmp_le (t := 96) C (dk_at ec180 (i := 34) rfl).1 (by decide) ⟨by omega, by omega⟩ hL (fun z68 => ?_) (fun z68 => ?_)
      · refine b_al0 C (dk_at ec180 (i := 48) rfl).1 rfl ?_
        refine b_gI C (dk_at ec180 (i := 49) rfl) hm (fun _ => ?_)
        rw [eT]
        refine b_al0 C (dk_at ec180 (i := 50) rfl).1 rfl ?_
        refine b_gI C (dk_at ec180 (i := 51) rfl) hm (fun _ => ?_)
        rw [eS]
        refine b_icmp_lt (t := 113) C (dk_at ec180 (i := 52) rfl).1 (by decide) ⟨by omega, by omega⟩ ⟨by omega, by omega⟩ (fun z104 => ?_) (fun z104 => ?_)
        · refine b_al0 C (dk_at ec180 (i := 57) rfl).1 rfl ?_
          refine b_gR C (dk_at ec180 (i := 58) rfl) hm hT ?_
          refine b_al0 C (dk_at ec180 (i := 59) rfl).1 rfl ?_
          refine b_gI C (dk_at ec180 (i := 60) rfl) hm (fun _ => ?_)
          rw [eT]
          refine b_rd (j := T1) C (dk_at ec180 (i := 61) rfl).1 htt (by omega) (by omega) (fun hc => ?_)
          refine b_istore_n C (dk_at ec180 (i := 62) rfl).1 (by rw [hn]; decide) (bno2_of (fun w hw _ => by cases hw; exact (show (1 : Nat) ≠ 2 by decide))) ?_
          exact S123 T1 (H.1 t T1) H hg eT eF (by omega) (by omega) (hg.2 t T1 (Or.inl nt)) hc
        · refine b_al0 C (dk_at ec180 (i := 53) rfl).1 rfl ?_
          refine b_iconst C (dk_at ec180 (i := 54) rfl).1 ?_
          refine b_pI C (dk_at ec180 (i := 55) rfl) ⟨by omega, by omega⟩ hm ?_
          exact b_vret C Bg (dk_at ec180 (i := 56) rfl).1 rfl (Nat.le_refl _) (Nat.le_refl _) ⟨rfl, rfl, (hg.put (by omega) (by omega)), T1, 0, by rw [bsetI_ne (by omega)]; exact eT, bsetI_at _ _ _, by omega, by omega, by omega, by omega⟩
      · refine b_al0 C (dk_at ec180 (i := 35) rfl).1 rfl ?_
        refine b_gI C (dk_at ec180 (i := 36) rfl) hm (fun _ => ?_)
        rw [eF]
        refine b_al0 C (dk_at ec180 (i := 37) rfl).1 rfl ?_
        refine b_gI C (dk_at ec180 (i := 38) rfl) hm (fun hL => ?_)
        refine b_icmp_lt (t := 96) C (dk_at ec180 (i := 39) rfl).1 (by decide) ⟨by omega, by omega⟩ hL (fun z79 => ?_) (fun z79 => ?_)
        · refine b_al0 C (dk_at ec180 (i := 48) rfl).1 rfl ?_
          refine b_gI C (dk_at ec180 (i := 49) rfl) hm (fun _ => ?_)
          rw [eT]
          refine b_al0 C (dk_at ec180 (i := 50) rfl).1 rfl ?_
          refine b_gI C (dk_at ec180 (i := 51) rfl) hm (fun _ => ?_)
          rw [eS]
          refine b_icmp_lt (t := 113) C (dk_at ec180 (i := 52) rfl).1 (by decide) ⟨by omega, by omega⟩ ⟨by omega, by omega⟩ (fun z104 => ?_) (fun z104 => ?_)
          · refine b_al0 C (dk_at ec180 (i := 57) rfl).1 rfl ?_
            refine b_gR C (dk_at ec180 (i := 58) rfl) hm hT ?_
            refine b_al0 C (dk_at ec180 (i := 59) rfl).1 rfl ?_
            refine b_gI C (dk_at ec180 (i := 60) rfl) hm (fun _ => ?_)
            rw [eT]
            refine b_rd (j := T1) C (dk_at ec180 (i := 61) rfl).1 htt (by omega) (by omega) (fun hc => ?_)
            refine b_istore_n C (dk_at ec180 (i := 62) rfl).1 (by rw [hn]; decide) (bno2_of (fun w hw _ => by cases hw; exact (show (1 : Nat) ≠ 2 by decide))) ?_
            exact S123 T1 (H.1 t T1) H hg eT eF (by omega) (by omega) (hg.2 t T1 (Or.inl nt)) hc
          · refine b_al0 C (dk_at ec180 (i := 53) rfl).1 rfl ?_
            refine b_iconst C (dk_at ec180 (i := 54) rfl).1 ?_
            refine b_pI C (dk_at ec180 (i := 55) rfl) ⟨by omega, by omega⟩ hm ?_
            exact b_vret C Bg (dk_at ec180 (i := 56) rfl).1 rfl (Nat.le_refl _) (Nat.le_refl _) ⟨rfl, rfl, (hg.put (by omega) (by omega)), T1, 0, by rw [bsetI_ne (by omega)]; exact eT, bsetI_at _ _ _, by omega, by omega, by omega, by omega⟩
        · refine b_al0 C (dk_at ec180 (i := 40) rfl).1 rfl ?_
          refine b_al0 C (dk_at ec180 (i := 41) rfl).1 rfl ?_
          refine b_gI C (dk_at ec180 (i := 42) rfl) hm (fun hL => ?_)
          refine b_pI C (dk_at ec180 (i := 43) rfl) hL hm ?_
          refine b_al0 C (dk_at ec180 (i := 44) rfl).1 rfl ?_
          refine b_iconst C (dk_at ec180 (i := 45) rfl).1 ?_
          refine b_pI C (dk_at ec180 (i := 46) rfl) ⟨by omega, by omega⟩ hm ?_
          exact b_vret C Bg (dk_at ec180 (i := 47) rfl).1 rfl (Nat.le_refl _) (Nat.le_refl _) ⟨rfl, rfl, ((hg.put (by omega) (by omega)).put (by omega) (by omega)), T1, 1, by rw [bsetI_ne (by omega), bsetI_ne (by omega)]; exact eT, bsetI_at _ _ _, by omega, by omega, by omega, by omega⟩
    have S52 : ∀ (T : Nat) (H : bh), gI h H m → H.1 m 5 = (T : Int) → T0 ≤ T → T ≤ 940 → bJ γ 52 [some (.ref m), none, none, none, none] [] τ H 0 0 := by
      intro T H hg eT h1 h2
      refine b_al0 C (dk_at ec180 (i := 26) rfl).1 rfl ?_
      refine b_al0 C (dk_at ec180 (i := 27) rfl).1 rfl ?_
      refine b_gI C (dk_at ec180 (i := 28) rfl) hm (fun _ => ?_)
      rw [eT]
      refine b_pI C (dk_at ec180 (i := 29) rfl) ⟨by omega, by omega⟩ hm ?_
      exact S60 T _ (hg.put (by omega) (by omega)) (by rw [bsetI_ne (by omega)]; exact eT) (by rw [bsetI_at]) (by omega) (by omega)
    have loop : ∀ (r T : Nat) (H : bh), gI h H m → H.1 m 5 = (T : Int) → T0 ≤ T → T + r = 940 → bJ γ 0 [some (.ref m), none, none, none, none] [] τ H 0 0 := by
      intro r
      induction r with
      | zero =>
        intro T H hg eT h1 h2
        have hT : H.2 m 1 = some t := by rw [hg.1]; exact hT0
        have eS : H.1 m 3 = h.1 m 3 := hg.2 m 3 (Or.inr (Or.inl (by omega)))
        refine b_al0 C (dk_at ec180 (i := 0) rfl).1 rfl ?_
        refine b_gI C (dk_at ec180 (i := 1) rfl) hm (fun _ => ?_)
        rw [eT]
        refine b_al0 C (dk_at ec180 (i := 2) rfl).1 rfl ?_
        refine b_gI C (dk_at ec180 (i := 3) rfl) hm (fun _ => ?_)
        rw [eS]
        refine b_icmp_ge (t := 52) C (dk_at ec180 (i := 4) rfl).1 (by decide) ⟨by omega, by omega⟩ ⟨by omega, by omega⟩ (fun z8 => ?_) (fun z8 => ?_)
        · exact S52 T H hg eT (by omega) (by omega)
        · omega
      | succ r ih =>
        intro T H hg eT h1 h2
        have hT : H.2 m 1 = some t := by rw [hg.1]; exact hT0
        have eS : H.1 m 3 = h.1 m 3 := hg.2 m 3 (Or.inr (Or.inl (by omega)))
        refine b_al0 C (dk_at ec180 (i := 0) rfl).1 rfl ?_
        refine b_gI C (dk_at ec180 (i := 1) rfl) hm (fun _ => ?_)
        rw [eT]
        refine b_al0 C (dk_at ec180 (i := 2) rfl).1 rfl ?_
        refine b_gI C (dk_at ec180 (i := 3) rfl) hm (fun _ => ?_)
        rw [eS]
        refine b_icmp_ge (t := 52) C (dk_at ec180 (i := 4) rfl).1 (by decide) ⟨by omega, by omega⟩ ⟨by omega, by omega⟩ (fun z8 => ?_) (fun z8 => ?_)
        · exact S52 T H hg eT (by omega) (by omega)
        · refine b_al0 C (dk_at ec180 (i := 5) rfl).1 rfl ?_
          refine b_gR C (dk_at ec180 (i := 6) rfl) hm hT ?_
          refine b_al0 C (dk_at ec180 (i := 7) rfl).1 rfl ?_
          refine b_gI C (dk_at ec180 (i := 8) rfl) hm (fun _ => ?_)
          rw [eT]
          refine b_rd (j := T) C (dk_at ec180 (i := 9) rfl).1 htt (by omega) (by omega) (fun hv => ?_)
          refine b_bipush C (dk_at ec180 (i := 10) rfl).1 ⟨by omega, by omega⟩ ?_
          refine b_icmp_eq (t := 39) C (dk_at ec180 (i := 11) rfl).1 (by decide) hv ⟨by omega, by omega⟩ (fun z22 => ?_) (fun z22 => ?_)
          · refine b_al0 C (dk_at ec180 (i := 19) rfl).1 rfl ?_
            refine b_dup C (dk_at ec180 (i := 20) rfl).1 rfl ?_
            refine b_gI C (dk_at ec180 (i := 21) rfl) hm (fun _ => ?_)
            rw [eT]
            refine b_iconst C (dk_at ec180 (i := 22) rfl).1 ?_
            refine b_iadd C (dk_at ec180 (i := 23) rfl).1 ?_
            refine b_pI C (dk_at ec180 (i := 24) rfl) ⟨by omega, by omega⟩ hm ?_
            refine b_goto (t := 0) C (dk_at ec180 (i := 25) rfl).1 (by decide) ?_
            exact ih (T + 1) (bsetI H m 5 ((T : Int) + 1)) (hg.put (by omega) (by omega)) (by rw [bsetI_at]; omega) (by omega) (by omega)
          · refine b_al0 C (dk_at ec180 (i := 12) rfl).1 rfl ?_
            refine b_gR C (dk_at ec180 (i := 13) rfl) hm hT ?_
            refine b_al0 C (dk_at ec180 (i := 14) rfl).1 rfl ?_
            refine b_gI C (dk_at ec180 (i := 15) rfl) hm (fun _ => ?_)
            rw [eT]
            refine b_rd (j := T) C (dk_at ec180 (i := 16) rfl).1 htt (by omega) (by omega) (fun hv => ?_)
            refine b_bipush C (dk_at ec180 (i := 17) rfl).1 ⟨by omega, by omega⟩ ?_
            refine b_icmp_ne (t := 52) C (dk_at ec180 (i := 18) rfl).1 (by decide) hv ⟨by omega, by omega⟩ (fun z36 => ?_) (fun z36 => ?_)
            · exact S52 T H hg eT (by omega) (by omega)
            · refine b_al0 C (dk_at ec180 (i := 19) rfl).1 rfl ?_
              refine b_dup C (dk_at ec180 (i := 20) rfl).1 rfl ?_
              refine b_gI C (dk_at ec180 (i := 21) rfl) hm (fun _ => ?_)
              rw [eT]
              refine b_iconst C (dk_at ec180 (i := 22) rfl).1 ?_
              refine b_iadd C (dk_at ec180 (i := 23) rfl).1 ?_
              refine b_pI C (dk_at ec180 (i := 24) rfl) ⟨by omega, by omega⟩ hm ?_
              refine b_goto (t := 0) C (dk_at ec180 (i := 25) rfl).1 (by decide) ?_
              exact ih (T + 1) (bsetI H m 5 ((T : Int) + 1)) (hg.put (by omega) (by omega)) (by rw [bsetI_at]; omega) (by omega) (by omega)
    exact loop (940 - T0) T0 h ⟨rfl, fun _ _ _ => rfl⟩ eT0 (Nat.le_refl _) (by omega)
theorem gI_eq {h H : bh} {m : Nat} (hg : gI h H m) : H = bsetI (bsetI (bsetI (bsetI (bsetI h m 5 (H.1 m 5)) m 6 (H.1 m 6)) m 7 (H.1 m 7)) m 8 (H.1 m 8)) m 9 (H.1 m 9) := by
  refine Prod.ext (funext fun b => funext fun i => ?_) hg.1
  show _ = if b = m ∧ i = 9 then H.1 m 9 else if b = m ∧ i = 8 then H.1 m 8 else if b = m ∧ i = 7 then H.1 m 7 else if b = m ∧ i = 6 then H.1 m 6 else if b = m ∧ i = 5 then H.1 m 5 else h.1 b i
  by_cases e : b = m
  · subst e
    by_cases e9 : i = 9
    · rw [if_pos ⟨rfl, e9⟩, e9]
    · rw [if_neg (fun z => e9 z.2)]
      by_cases e8 : i = 8
      · rw [if_pos ⟨rfl, e8⟩, e8]
      · rw [if_neg (fun z => e8 z.2)]
        by_cases e7 : i = 7
        · rw [if_pos ⟨rfl, e7⟩, e7]
        · rw [if_neg (fun z => e7 z.2)]
          by_cases e6 : i = 6
          · rw [if_pos ⟨rfl, e6⟩, e6]
          · rw [if_neg (fun z => e6 z.2)]
            by_cases e5 : i = 5
            · rw [if_pos ⟨rfl, e5⟩, e5]
            · rw [if_neg (fun z => e5 z.2)]
              exact hg.2 b i (by omega)
  · rw [if_neg (fun z => e z.1), if_neg (fun z => e z.1), if_neg (fun z => e z.1), if_neg (fun z => e z.1), if_neg (fun z => e z.1)]
    exact hg.2 b i (Or.inl e)
theorem w5 : cseg (cSg 12) 5 = (0, 0, 940, 0, false) ∧ cseg (cSg 12) 7 = (0, 0, 4, 0, false) ∧ cseg (cSg 12) 3 = (0, 0, 940, 0, false) ∧ (cseg (cSg 12) 6).1 = 2 ∧ (cseg (cSg 12) 8).1 = 2 ∧ (cseg (cSg 12) 9).1 = 2 := by decide +kernel
theorem gI_wt {g : Nat → Nat} {τ : bt} {h H : bh} {m : Nat} (hg : gI h H m) (hw : cWT cT0 g τ h) (gm : g m = 12) (h5 : 0 ≤ H.1 m 5 ∧ H.1 m 5 ≤ 940) (h7 : 0 ≤ H.1 m 7 ∧ H.1 m 7 ≤ 4) : cWT cT0 g τ H := by
  rw [gI_eq hg]
  have st : ∀ {k : Nat} {z : Int} {h : bh}, cWT cT0 g τ h → ((cseg (cSg 12) k).1 = 0 → (cseg (cSg 12) k).2.1 ≤ z ∧ z ≤ (cseg (cSg 12) k).2.2.1) → cWT cT0 g τ (bsetI h m k z) := fun hw hz => cWT.fld hw (by rw [gm]; exact cR12) (by decide) (by omega) (by omega) hz
  obtain ⟨e5, e7, -, e6, e8, e9⟩ := w5
  refine st (st (st (st (st hw (fun _ => ?_)) (fun z => by omega)) (fun _ => ?_)) (fun z => by omega)) (fun z => by omega)
  · rw [e5]; exact h5
  · rw [e7]; exact h7
theorem m_tape {g : Nat → Nat} {τ : bt} {h : bh} {m : Nat} (hw : cWT cT0 g τ h) (gm : g m = 12) : ∃ t, h.2 m 1 = some t ∧ τ.1 t = 41 ∧ τ.2 t = 940 ∧ (0 ≤ h.1 m 3 ∧ h.1 m 3 ≤ 940) ∧ (0 ≤ h.1 m 5 ∧ h.1 m 5 ≤ 940) := by
  obtain ⟨a, a1, a2, -, a4, a5, a6⟩ := m_arr hw (k := 1) (r := 60) gm (by decide) rfl (by rfl)
  have a5 : (940 : Int) ≤ τ.2 a := a5
  have a6 : (τ.2 a : Int) ≤ 940 := a6
  obtain ⟨e5, -, e3, -⟩ := w5
  have o3 := (o_arr hw gm (by decide) cR12).1 3 (by rw [e3])
  have o5 := (o_arr hw gm (by decide) cR12).1 5 (by rw [e5])
  rw [e3] at o3
  rw [e5] at o5
  exact ⟨a, a1, a4, by omega, o3, o5⟩
theorem go_pre {c : cCn} {ι : bI} {avs : List Value} {τ : bt} {h : bh} {g : Nat → Nat} {ρ : Nat → Int} {σ : Nat → Option Nat} (hp : cPr cT0 c ι avs τ h g ρ σ) (hr : c.1.2.2.1.2.2.1 = [(0, 12, 12, false, (0, []))]) (ha : c.1.2.2.2 = [(1, 0, (0, []))]) : ∃ p : Nat × Nat × Nat, avs = [.ref p.1] ∧ τ.1 p.1 = 12 ∧ h.2 p.1 1 = some p.2.1 ∧ τ.1 p.2.1 = 41 ∧ τ.2 p.2.1 = 940 ∧ 0 ≤ h.1 p.1 3 ∧ h.1 p.1 3 ≤ 940 ∧ h.1 p.1 5 = (p.2.2 : Int) ∧ p.2.2 ≤ 940 := by
  obtain ⟨m, xs, rfl, -, m2, m3, hxs⟩ := m_this hp hr ha
  obtain ⟨t, t1, t2, t3, t4, t5⟩ := m_tape hp.1 m3
  cases xs with
  | cons => exact hxs.elim
  | nil => exact ⟨(m, t, (h.1 m 5).toNat), rfl, m2, t1, t2, t3, t4.1, t4.2, by show h.1 m 5 = (((h.1 m 5).toNat : Nat) : Int); omega, by show (h.1 m 5).toNat ≤ 940; omega⟩
theorem go_ft {ρ : Nat → Int} {σ : Nat → Option Nat} {h : bh} {m i s : Nat} (m1 : σ 0 = some m) (e : h.1 m i = ρ s) : cft ρ σ h (0, i, (0, 0, (0, [(s, 1)]))) := by
  refine ⟨m, m1, fun _ => ?_, fun w => absurd (show (0 : Nat) = 1 from w) (by decide), fun w => absurd (show (0 : Nat) = 2 from w) (by decide)⟩
  show h.1 m i = 0 + (1 * ρ s + 0)
  omega
theorem eox0 : cOk cT0 ey180 5 4 0 0 enx0 := by
  refine (cOk_of (bOk_ex (fun p : Nat × Nat × Nat => gg_fun p.1 p.2.1 p.2.2)) (fun ι avs τ h g ρ σ hp => go_pre hp rfl rfl) ?_).mono (by decide)
  rintro ι avs τ h g ρ σ v τ' h' hp ⟨⟨m, t, T0⟩, ⟨rfl, tm, -, -, -, -, -, e0, -⟩, rfl, rfl, hg, T, k, eT, ek, h1, h2, h3, h4⟩
  obtain ⟨m', xs, e, m1, -, m3, -⟩ := m_this hp rfl rfl
  cases e
  have e0 : h.1 m 5 = (T0 : Int) := e0
  have hg : gI h h' m := hg
  have eT : h'.1 m 5 = (T : Int) := eT
  have ek : h'.1 m 7 = (k : Int) := ek
  have h1 : T0 ≤ T := h1
  have h4 : k ≤ 3 * (T - T0) + 1 := h4
  obtain ⟨y, y1, y2, -⟩ := hp.2.2.2.1.2.2.2 (0, 5, (0, 0, (0, [(0, 1)]))) List.mem_cons_self
  have y1 : σ 0 = some y := y1
  rw [m1] at y1
  cases y1
  have y2 : h.1 m 5 = 0 + (1 * ρ 0 + 0) := y2 rfl
  have hR : ∀ s, brg (if s = 1 then (T : Int) else if s = 2 then (k : Int) else ρ s) := by
    intro s
    by_cases e : s = 1
    · rw [if_pos e]; exact ⟨by omega, by omega⟩
    · rw [if_neg e]
      by_cases e : s = 2
      · rw [if_pos e]; exact ⟨by omega, by omega⟩
      · rw [if_neg e]; exact hp.2.2.1 s
  refine ⟨g, fun s => if s = 1 then (T : Int) else if s = 2 then (k : Int) else ρ s, σ, gI_wt hg hp.1 m3 (by omega) (by omega), hp.2.1, cHi_upd (a := m) (l := 5) (u := 9) hg.1 hg.2 (by rw [show τ'.1 m = 12 from tm]; decide +kernel), ⟨hR, fun s hs => ?_, fun _ _ => rfl⟩, ⟨⟨hR, fun q hq => ?_⟩, fun q hq => ?_, fun q hq => absurd hq List.not_mem_nil, fun q hq => ?_⟩, trivial⟩
  · have hs : s < 1 := hs
    show (if s = 1 then (T : Int) else if s = 2 then (k : Int) else ρ s) = ρ s
    rw [if_neg (by omega), if_neg (by omega)]
  · rcases List.mem_cons.mp hq with rfl | hq
    · show (0 : Int) ≤ (T : Int) ∧ (T : Int) ≤ 940
      omega
    · obtain rfl := List.mem_singleton.mp hq
      show (0 : Int) ≤ (k : Int) ∧ (k : Int) ≤ 4
      omega
  · rcases List.mem_cons.mp hq with rfl | hq
    · show 0 ≤ 0 + (-3 * ρ 0 + (3 * (T : Int) + 0))
      omega
    · obtain rfl := List.mem_singleton.mp hq
      show 0 ≤ 1 + (-3 * ρ 0 + (3 * (T : Int) + (-1 * (k : Int) + 0)))
      omega
  · rcases List.mem_cons.mp hq with rfl | hq
    · exact go_ft (s := 1) m1 eT
    · obtain rfl := List.mem_singleton.mp hq
      exact go_ft (s := 2) m1 ek
theorem eox1 : cOk cT0 ey180 5 4 0 0 enx1 := by
  refine (cOk_of (bOk_ex (fun p : Nat × Nat × Nat => gg_fun p.1 p.2.1 p.2.2)) (fun ι avs τ h g ρ σ hp => go_pre hp rfl rfl) ?_).mono (by decide)
  rintro ι avs τ h g ρ σ v τ' h' hp ⟨⟨m, t, T0⟩, ⟨rfl, tm, -, -, -, -, -, e0, -⟩, rfl, rfl, hg, T, k, eT, ek, h1, h2, h3, h4⟩
  obtain ⟨m', xs, e, m1, -, m3, -⟩ := m_this hp rfl rfl
  cases e
  have hg : gI h h' m := hg
  have eT : h'.1 m 5 = (T : Int) := eT
  have ek : h'.1 m 7 = (k : Int) := ek
  have hR : ∀ s, brg (if s = 0 then (T : Int) else if s = 1 then (k : Int) else ρ s) := by
    intro s
    by_cases e : s = 0
    · rw [if_pos e]; exact ⟨by omega, by omega⟩
    · rw [if_neg e]
      by_cases e : s = 1
      · rw [if_pos e]; exact ⟨by omega, by omega⟩
      · rw [if_neg e]; exact hp.2.2.1 s
  refine ⟨g, fun s => if s = 0 then (T : Int) else if s = 1 then (k : Int) else ρ s, σ, gI_wt hg hp.1 m3 (by omega) (by omega), hp.2.1, cHi_upd (a := m) (l := 5) (u := 9) hg.1 hg.2 (by rw [show τ'.1 m = 12 from tm]; decide +kernel), ⟨hR, fun s hs => absurd hs (Nat.not_lt_zero _), fun _ _ => rfl⟩, ⟨⟨hR, fun q hq => ?_⟩, fun q hq => absurd hq List.not_mem_nil, fun q hq => absurd hq List.not_mem_nil, fun q hq => ?_⟩, trivial⟩
  · rcases List.mem_cons.mp hq with rfl | hq
    · show (0 : Int) ≤ (T : Int) ∧ (T : Int) ≤ 940
      omega
    · obtain rfl := List.mem_singleton.mp hq
      show (0 : Int) ≤ (k : Int) ∧ (k : Int) ≤ 4
      omega
  · rcases List.mem_cons.mp hq with rfl | hq
    · exact go_ft (s := 0) m1 eT
    · obtain rfl := List.mem_singleton.mp hq
      exact go_ft (s := 1) m1 ek
