/-! ===== holds ===== -/
theorem da_fun (m a p q : Nat) : bOk ey259 3 2 0 0 (fun _ avs τ h => avs = [.ref m, .int (bz (p : Int)), .int (bz (q : Int))] ∧ p < 40 ∧ q < 38 ∧ τ.1 m = 12 ∧ h.2 m 14 = some a ∧ τ.1 a = 41 ∧ τ.2 a = 3266) (fun _ avs τ h v τ' h' => τ = τ' ∧ h = h' ∧ ∃ r : Int, v = some (.int (bz r)) ∧ brg r) := by
  refine bOk_of emp259.1.2.2.2.2.2.1 ?_ ?_
  · rintro ι avs τ h ⟨rfl, -⟩
    exact Nat.le_of_ble_eq_true rfl
  · intro γ ι τ h avs d hd hp Bg C
    obtain ⟨rfl, hp40, hq38, hm, ha, hta, hla⟩ := hp
    have hn : γ.2.2.1 = 3 := Bg.2.1
    obtain ⟨d, rfl⟩ : ∃ d', d = d' + 1 := ⟨d - 1, by omega⟩
    refine b_al0 C (dk_at ec259 (i := 0) rfl).1 rfl ?_
    refine b_gR C (dk_at ec259 (i := 1) rfl) hm ha ?_
    refine b_al0 C (dk_at ec259 (i := 2) rfl).1 rfl ?_
    refine b_iload_n C (dk_at ec259 (i := 3) rfl).1 rfl ?_
    refine b_inv (As := [.int (bz (p : Int))]) (rest := [.ref a]) C Bg.x (dk_at ec259 (i := 4) rfl) (by decide) rfl (un_f2 (p : Int)) (by omega) rfl hm ⟨m, rfl⟩ (Nat.le_of_ble_eq_true rfl) (Nat.le_refl _) (Nat.le_refl _) ?_
    rintro v τ' h' ⟨rfl, rfl, rfl⟩
    refine b_rd (j := 1504 + 38 * p) C (dk_at ec259 (i := 5) rfl).1 hta (by omega) (by omega) (fun hv => ?_)
    refine b_if_ne (t := 28) C (dk_at ec259 (i := 6) rfl).1 (by decide) hv (fun z10 => ?_) (fun z10 => ?_)
    · refine b_iconst C (dk_at ec259 (i := 16) rfl).1 ?_
      exact b_iret C Bg (dk_at ec259 (i := 17) rfl).1 (Or.inl rfl) (Nat.le_refl _) (Nat.le_refl _) ⟨rfl, rfl, _, rfl, ⟨by omega, by omega⟩⟩
    · refine b_al0 C (dk_at ec259 (i := 7) rfl).1 rfl ?_
      refine b_gR C (dk_at ec259 (i := 8) rfl) hm ha ?_
      refine b_al0 C (dk_at ec259 (i := 9) rfl).1 rfl ?_
      refine b_iload_n C (dk_at ec259 (i := 10) rfl).1 rfl ?_
      refine b_inv (As := [.int (bz (p : Int))]) (rest := [.ref a]) C Bg.x (dk_at ec259 (i := 11) rfl) (by decide) rfl (un_f2 (p : Int)) (by omega) rfl hm ⟨m, rfl⟩ (Nat.le_of_ble_eq_true rfl) (Nat.le_refl _) (Nat.le_refl _) ?_
      rintro v τ' h' ⟨rfl, rfl, rfl⟩
      refine b_iload_n C (dk_at ec259 (i := 12) rfl).1 rfl ?_
      refine b_iadd C (dk_at ec259 (i := 13) rfl).1 ?_
      refine b_rd (j := 1504 + 38 * p + q) C (dk_at ec259 (i := 14) rfl).1 hta (by omega) (by omega) (fun hv2 => ?_)
      refine b_goto (t := 29) C (dk_at ec259 (i := 15) rfl).1 (by decide) ?_
      exact b_iret C Bg (dk_at ec259 (i := 17) rfl).1 (Or.inl rfl) (Nat.le_refl _) (Nat.le_refl _) ⟨rfl, rfl, _, rfl, hv2⟩
theorem gt_fun (x : Int) : bOk ey222 1 1 0 0 (fun _ avs τ h => avs = [.int (bz x)] ∧ brg x) (fun _ avs τ h v τ' h' => τ = τ' ∧ h = h' ∧ ∃ r : Int, v = some (.int (bz r)) ∧ (r = 0 ∨ r = 1)) := by
  refine bOk_of emp222.1.2.2.2.2.2.1 ?_ ?_
  · rintro ι avs τ h ⟨rfl, -⟩
    exact Nat.le_of_ble_eq_true rfl
  · intro γ ι τ h avs d hd hp Bg C
    obtain ⟨rfl, hx⟩ := hp
    have hn : γ.2.2.1 = 1 := Bg.2.1
    refine b_iload_n C (dk_at ec222 (i := 0) rfl).1 rfl ?_
    refine b_if_eq (t := 20) C (dk_at ec222 (i := 1) rfl).1 (by decide) hx (fun z1 => ?_) (fun z1 => ?_)
    · refine b_iconst C (dk_at ec222 (i := 11) rfl).1 ?_
      refine b_goto (t := 25) C (dk_at ec222 (i := 12) rfl).1 (by decide) ?_
      exact b_iret C Bg (dk_at ec222 (i := 14) rfl).1 (Or.inr ⟨rfl, by omega⟩) (Nat.le_refl _) (Nat.le_refl _) ⟨rfl, rfl, 1, rfl, by omega⟩
    · refine b_iload_n C (dk_at ec222 (i := 2) rfl).1 rfl ?_
      refine b_iconst C (dk_at ec222 (i := 3) rfl).1 ?_
      refine b_icmp_eq (t := 20) C (dk_at ec222 (i := 4) rfl).1 (by decide) hx ⟨by omega, by omega⟩ (fun z6 => ?_) (fun z6 => ?_)
      · refine b_iconst C (dk_at ec222 (i := 11) rfl).1 ?_
        refine b_goto (t := 25) C (dk_at ec222 (i := 12) rfl).1 (by decide) ?_
        exact b_iret C Bg (dk_at ec222 (i := 14) rfl).1 (Or.inr ⟨rfl, by omega⟩) (Nat.le_refl _) (Nat.le_refl _) ⟨rfl, rfl, 1, rfl, by omega⟩
      · refine b_iload_n C (dk_at ec222 (i := 5) rfl).1 rfl ?_
        refine b_iconst C (dk_at ec222 (i := 6) rfl).1 ?_
        refine b_icmp_eq (t := 20) C (dk_at ec222 (i := 7) rfl).1 (by decide) hx ⟨by omega, by omega⟩ (fun z11 => ?_) (fun z11 => ?_)
        · refine b_iconst C (dk_at ec222 (i := 11) rfl).1 ?_
          refine b_goto (t := 25) C (dk_at ec222 (i := 12) rfl).1 (by decide) ?_
          exact b_iret C Bg (dk_at ec222 (i := 14) rfl).1 (Or.inr ⟨rfl, by omega⟩) (Nat.le_refl _) (Nat.le_refl _) ⟨rfl, rfl, 1, rfl, by omega⟩
        · refine b_iload_n C (dk_at ec222 (i := 8) rfl).1 rfl ?_
          refine b_bipush C (dk_at ec222 (i := 9) rfl).1 ⟨by omega, by omega⟩ ?_
          refine b_icmp_ne (t := 24) C (dk_at ec222 (i := 10) rfl).1 (by decide) hx ⟨by omega, by omega⟩ (fun z17 => ?_) (fun z17 => ?_)
          · refine b_iconst C (dk_at ec222 (i := 13) rfl).1 ?_
            exact b_iret C Bg (dk_at ec222 (i := 14) rfl).1 (Or.inr ⟨rfl, by omega⟩) (Nat.le_refl _) (Nat.le_refl _) ⟨rfl, rfl, 0, rfl, by omega⟩
          · refine b_iconst C (dk_at ec222 (i := 11) rfl).1 ?_
            refine b_goto (t := 25) C (dk_at ec222 (i := 12) rfl).1 (by decide) ?_
            exact b_iret C Bg (dk_at ec222 (i := 14) rfl).1 (Or.inr ⟨rfl, by omega⟩) (Nat.le_refl _) (Nat.le_refl _) ⟨rfl, rfl, 1, rfl, by omega⟩
theorem ho_fun (m a p : Nat) : ∀ N k : Nat, k < N → bOk ey295 8 (k + 3) 0 0 (fun _ avs τ h => avs = [.ref m, .int (bz (k : Int)), .int (bz (p : Int))] ∧ k < 60 ∧ p < 40 ∧ (∀ n : Nat, n < 60 → tnod (h.1 a) (3026 + 4 * n) n) ∧ τ.1 m = 12 ∧ h.2 m 14 = some a ∧ τ.1 a = 41 ∧ τ.2 a = 3266) (fun _ avs τ h v τ' h' => τ = τ' ∧ h = h' ∧ ∃ r : Int, v = some (.int (bz r)) ∧ (r = 0 ∨ r = 1)) := by
  intro N
  induction N with
  | zero => intro k hk; omega
  | succ N ih =>
    intro k hkN
    refine bOk_of emp295.1.2.2.2.2.2.1 ?_ ?_
    · rintro ι avs τ h ⟨rfl, -⟩
      exact Nat.le_of_ble_eq_true rfl
    · intro γ ι τ h avs d hd hp Bg C
      obtain ⟨rfl, hk60, hp40, htn, hm, ha, hta, hla⟩ := hp
      have hn : γ.2.2.1 = 8 := Bg.2.1
      obtain ⟨d, rfl⟩ : ∃ d', d = d' + 1 := ⟨d - 1, by omega⟩
      refine b_sipush C (dk_at ec295 (i := 0) rfl).1 ⟨by omega, by omega⟩ ?_
      refine b_iconst C (dk_at ec295 (i := 1) rfl).1 ?_
      refine b_iload_n C (dk_at ec295 (i := 2) rfl).1 rfl ?_
      refine b_imul C (dk_at ec295 (i := 3) rfl).1 ?_
      refine b_iadd C (dk_at ec295 (i := 4) rfl).1 ?_
      refine b_istore_n C (dk_at ec295 (i := 5) rfl).1 (by rw [hn]; decide) (bno2_of (fun w hw _ => by cases hw; exact (show (1 : Nat) ≠ 2 by decide))) ?_
      refine b_al0 C (dk_at ec295 (i := 6) rfl).1 rfl ?_
      refine b_gR C (dk_at ec295 (i := 7) rfl) hm ha ?_
      refine b_iload_n C (dk_at ec295 (i := 8) rfl).1 rfl ?_
      refine b_iconst C (dk_at ec295 (i := 9) rfl).1 ?_
      refine b_iadd C (dk_at ec295 (i := 10) rfl).1 ?_
      refine b_rd (j := 3026 + 4 * k + 1) C (dk_at ec295 (i := 11) rfl).1 hta (by omega) (by omega) (fun hbx => ?_)
      refine b_istore C (dk_at ec295 (i := 12) rfl).1 (by rw [hn]; decide) (bno2_of (fun w hw _ => by cases hw; exact (show (1 : Nat) ≠ 2 by decide))) ?_
      refine b_al0 C (dk_at ec295 (i := 13) rfl).1 rfl ?_
      refine b_gR C (dk_at ec295 (i := 14) rfl) hm ha ?_
      refine b_iload_n C (dk_at ec295 (i := 15) rfl).1 rfl ?_
      refine b_iconst C (dk_at ec295 (i := 16) rfl).1 ?_
      refine b_iadd C (dk_at ec295 (i := 17) rfl).1 ?_
      refine b_rd (j := 3026 + 4 * k + 2) C (dk_at ec295 (i := 18) rfl).1 hta (by omega) (by omega) (fun hby => ?_)
      refine b_istore C (dk_at ec295 (i := 19) rfl).1 (by rw [hn]; decide) (bno2_of (fun w hw _ => by cases hw; exact (show (1 : Nat) ≠ 2 by decide))) ?_
      refine b_al0 C (dk_at ec295 (i := 20) rfl).1 rfl ?_
      refine b_gR C (dk_at ec295 (i := 21) rfl) hm ha ?_
      refine b_iload_n C (dk_at ec295 (i := 22) rfl).1 rfl ?_
      refine b_rd (j := 3026 + 4 * k) C (dk_at ec295 (i := 23) rfl).1 hta (by omega) (by omega) (fun hz => ?_)
      have B415 : ∀ w6 vv : Int, brg vv → bJ γ 415 [some (.ref m), some (.int (bz (k : Int))), some (.int (bz (p : Int))), some (.int (bz (3026 + 4 * (k : Int)))), some (.int (bz (h.1 a (3026 + 4 * k + 1)))), some (.int (bz (h.1 a (3026 + 4 * k + 2)))), some (.int (bz w6)), none] [.int (bz vv)] τ h 0 0 := by
        intro w6 vv hvv
        refine b_istore C (dk_at ec295 (i := 192) rfl).1 (by rw [hn]; decide) (bno2_of (fun w hw _ => by cases hw; exact (show (1 : Nat) ≠ 2 by decide))) ?_
        refine b_al0 C (dk_at ec295 (i := 193) rfl).1 rfl ?_
        refine b_gR C (dk_at ec295 (i := 194) rfl) hm ha ?_
        refine b_iload_n C (dk_at ec295 (i := 195) rfl).1 rfl ?_
        refine b_iconst C (dk_at ec295 (i := 196) rfl).1 ?_
        refine b_iadd C (dk_at ec295 (i := 197) rfl).1 ?_
        refine b_rd (j := 3026 + 4 * k + 3) C (dk_at ec295 (i := 198) rfl).1 hta (by omega) (by omega) (fun hv424 => ?_)
        refine b_bipush C (dk_at ec295 (i := 199) rfl).1 ⟨by omega, by omega⟩ ?_
        refine b_icmp_ne (t := 445) C (dk_at ec295 (i := 200) rfl).1 (by decide) hv424 ⟨by omega, by omega⟩ (fun z427 => ?_) (fun z427 => ?_)
        · refine b_al0 C (dk_at ec295 (i := 208) rfl).1 rfl ?_
          refine b_gR C (dk_at ec295 (i := 209) rfl) hm ha ?_
          refine b_iload_n C (dk_at ec295 (i := 210) rfl).1 rfl ?_
          refine b_iconst C (dk_at ec295 (i := 211) rfl).1 ?_
          refine b_iadd C (dk_at ec295 (i := 212) rfl).1 ?_
          refine b_rd (j := 3026 + 4 * k + 3) C (dk_at ec295 (i := 213) rfl).1 hta (by omega) (by omega) (fun hv452 => ?_)
          refine b_bipush C (dk_at ec295 (i := 214) rfl).1 ⟨by omega, by omega⟩ ?_
          refine b_icmp_ne (t := 473) C (dk_at ec295 (i := 215) rfl).1 (by decide) hv452 ⟨by omega, by omega⟩ (fun z455 => ?_) (fun z455 => ?_)
          · refine b_iload C (dk_at ec295 (i := 223) rfl).1 rfl ?_
            refine b_iload C (dk_at ec295 (i := 224) rfl).1 rfl ?_
            refine b_icmp_le (t := 484) C (dk_at ec295 (i := 225) rfl).1 (by decide) hvv hby (fun z477 => ?_) (fun z477 => ?_)
            · refine b_iconst C (dk_at ec295 (i := 228) rfl).1 ?_
              exact b_iret C Bg (dk_at ec295 (i := 229) rfl).1 (Or.inr ⟨rfl, by omega⟩) (Nat.le_refl _) (Nat.le_refl _) ⟨rfl, rfl, 0, rfl, by omega⟩
            · refine b_iconst C (dk_at ec295 (i := 226) rfl).1 ?_
              refine b_goto (t := 485) C (dk_at ec295 (i := 227) rfl).1 (by decide) ?_
              exact b_iret C Bg (dk_at ec295 (i := 229) rfl).1 (Or.inr ⟨rfl, by omega⟩) (Nat.le_refl _) (Nat.le_refl _) ⟨rfl, rfl, 1, rfl, by omega⟩
          · refine b_iload C (dk_at ec295 (i := 216) rfl).1 rfl ?_
            refine b_iload C (dk_at ec295 (i := 217) rfl).1 rfl ?_
            refine b_icmp_ne (t := 469) C (dk_at ec295 (i := 218) rfl).1 (by decide) hvv hby (fun z462 => ?_) (fun z462 => ?_)
            · refine b_iconst C (dk_at ec295 (i := 221) rfl).1 ?_
              refine b_goto (t := 485) C (dk_at ec295 (i := 222) rfl).1 (by decide) ?_
              exact b_iret C Bg (dk_at ec295 (i := 229) rfl).1 (Or.inr ⟨rfl, by omega⟩) (Nat.le_refl _) (Nat.le_refl _) ⟨rfl, rfl, 0, rfl, by omega⟩
            · refine b_iconst C (dk_at ec295 (i := 219) rfl).1 ?_
              refine b_goto (t := 485) C (dk_at ec295 (i := 220) rfl).1 (by decide) ?_
              exact b_iret C Bg (dk_at ec295 (i := 229) rfl).1 (Or.inr ⟨rfl, by omega⟩) (Nat.le_refl _) (Nat.le_refl _) ⟨rfl, rfl, 1, rfl, by omega⟩
        · refine b_iload C (dk_at ec295 (i := 201) rfl).1 rfl ?_
          refine b_iload C (dk_at ec295 (i := 202) rfl).1 rfl ?_
          refine b_icmp_ge (t := 441) C (dk_at ec295 (i := 203) rfl).1 (by decide) hvv hby (fun z434 => ?_) (fun z434 => ?_)
          · refine b_iconst C (dk_at ec295 (i := 206) rfl).1 ?_
            refine b_goto (t := 485) C (dk_at ec295 (i := 207) rfl).1 (by decide) ?_
            exact b_iret C Bg (dk_at ec295 (i := 229) rfl).1 (Or.inr ⟨rfl, by omega⟩) (Nat.le_refl _) (Nat.le_refl _) ⟨rfl, rfl, 0, rfl, by omega⟩
          · refine b_iconst C (dk_at ec295 (i := 204) rfl).1 ?_
            refine b_goto (t := 485) C (dk_at ec295 (i := 205) rfl).1 (by decide) ?_
            exact b_iret C Bg (dk_at ec295 (i := 229) rfl).1 (Or.inr ⟨rfl, by omega⟩) (Nat.le_refl _) (Nat.le_refl _) ⟨rfl, rfl, 1, rfl, by omega⟩
      rcases c_off [(1, 90), (2, 106), (3, 132), (76, 158), (77, 177), (78, 197), (79, 217), (80, 251), (81, 271), (82, 285)] 307 (h.1 a (3026 + 4 * k)) with e2 | ⟨q, hq, e1, e2⟩
      · refine b_lookup (t := 341) C (dk_at ec295 (i := 24) rfl).1 (by decide) hz e2 (by decide) ?_
        refine b_al0 C (dk_at ec295 (i := 151) rfl).1 rfl ?_
        refine b_gR C (dk_at ec295 (i := 152) rfl) hm ha ?_
        refine b_iload_n C (dk_at ec295 (i := 153) rfl).1 rfl ?_
        refine b_rd (j := 3026 + 4 * k) C (dk_at ec295 (i := 154) rfl).1 hta (by omega) (by omega) (fun hv346 => ?_)
        refine b_bipush C (dk_at ec295 (i := 155) rfl).1 ⟨by omega, by omega⟩ ?_
        refine b_isub C (dk_at ec295 (i := 156) rfl).1 ?_
        refine b_norm (fun w6 tt hw6 _ => ?_)
        refine b_istore C (dk_at ec295 (i := 157) rfl).1 (by rw [hn]; decide) (bno2_of (fun w hw _ => by cases hw; exact (show (1 : Nat) ≠ 2 by decide))) ?_
        refine b_iload C (dk_at ec295 (i := 158) rfl).1 rfl ?_
        refine b_bipush C (dk_at ec295 (i := 159) rfl).1 ⟨by omega, by omega⟩ ?_
        refine b_icmp_ne (t := 368) C (dk_at ec295 (i := 160) rfl).1 (by decide) hw6 ⟨by omega, by omega⟩ (fun z356 => ?_) (fun z356 => ?_)
        · refine b_iload C (dk_at ec295 (i := 166) rfl).1 rfl ?_
          refine b_bipush C (dk_at ec295 (i := 167) rfl).1 ⟨by omega, by omega⟩ ?_
          refine b_icmp_ne (t := 384) C (dk_at ec295 (i := 168) rfl).1 (by decide) hw6 ⟨by omega, by omega⟩ (fun z372 => ?_) (fun z372 => ?_)
          · refine b_iload C (dk_at ec295 (i := 174) rfl).1 rfl ?_
            refine b_bipush C (dk_at ec295 (i := 175) rfl).1 ⟨by omega, by omega⟩ ?_
            refine b_icmp_ne (t := 414) C (dk_at ec295 (i := 176) rfl).1 (by decide) hw6 ⟨by omega, by omega⟩ (fun z388 => ?_) (fun z388 => ?_)
            · refine b_iload_n C (dk_at ec295 (i := 191) rfl).1 rfl ?_
              exact B415 w6 (p : Int) ⟨by omega, by omega⟩
            · refine b_al0 C (dk_at ec295 (i := 177) rfl).1 rfl ?_
              refine b_gR C (dk_at ec295 (i := 178) rfl) hm ha ?_
              refine b_al0 C (dk_at ec295 (i := 179) rfl).1 rfl ?_
              refine b_iload_n C (dk_at ec295 (i := 180) rfl).1 rfl ?_
              refine b_inv (As := [.int (bz (p : Int))]) (rest := [.ref a]) C Bg.x (dk_at ec295 (i := 181) rfl) (by decide) rfl (un_f2 (p : Int)) (by omega) rfl hm ⟨m, rfl⟩ (Nat.le_of_ble_eq_true rfl) (Nat.le_refl _) (Nat.le_refl _) ?_
              rintro v τ' h' ⟨rfl, rfl, rfl⟩
              refine b_iconst C (dk_at ec295 (i := 182) rfl).1 ?_
              refine b_iadd C (dk_at ec295 (i := 183) rfl).1 ?_
              refine b_rd (j := 1504 + 38 * p + 1) C (dk_at ec295 (i := 184) rfl).1 hta (by omega) (by omega) (fun hv402 => ?_)
              refine b_al0 C (dk_at ec295 (i := 185) rfl).1 rfl ?_
              refine b_gR C (dk_at ec295 (i := 186) rfl) hm ha ?_
              refine b_bipush C (dk_at ec295 (i := 187) rfl).1 ⟨by omega, by omega⟩ ?_
              refine b_rd (j := 28) C (dk_at ec295 (i := 188) rfl).1 hta (by omega) (by omega) (fun hv409 => ?_)
              refine b_isub C (dk_at ec295 (i := 189) rfl).1 ?_
              refine b_norm (fun q410 tt hq410 _ => ?_)
              refine b_goto (t := 415) C (dk_at ec295 (i := 190) rfl).1 (by decide) ?_
              exact B415 w6 q410 hq410
          · refine b_al0 C (dk_at ec295 (i := 169) rfl).1 rfl ?_
            refine b_iload_n C (dk_at ec295 (i := 170) rfl).1 rfl ?_
            refine b_iconst C (dk_at ec295 (i := 171) rfl).1 ?_
            refine b_inv (As := [.int (bz (p : Int)), .int (bz ((3 : Nat) : Int))]) (rest := []) C Bg.x (dk_at ec295 (i := 172) rfl) (by decide) rfl (da_fun m a p 3) (by omega) rfl hm ⟨rfl, hp40, by omega, hm, ha, hta, hla⟩ (Nat.le_of_ble_eq_true rfl) (Nat.le_refl _) (Nat.le_refl _) ?_
            rintro v τ' h' ⟨rfl, rfl, q378, rfl, hq378⟩
            refine b_goto (t := 415) C (dk_at ec295 (i := 173) rfl).1 (by decide) ?_
            exact B415 w6 q378 hq378
        · refine b_al0 C (dk_at ec295 (i := 161) rfl).1 rfl ?_
          refine b_iload_n C (dk_at ec295 (i := 162) rfl).1 rfl ?_
          refine b_iconst C (dk_at ec295 (i := 163) rfl).1 ?_
          refine b_inv (As := [.int (bz (p : Int)), .int (bz ((2 : Nat) : Int))]) (rest := []) C Bg.x (dk_at ec295 (i := 164) rfl) (by decide) rfl (da_fun m a p 2) (by omega) rfl hm ⟨rfl, hp40, by omega, hm, ha, hta, hla⟩ (Nat.le_of_ble_eq_true rfl) (Nat.le_refl _) (Nat.le_refl _) ?_
          rintro v τ' h' ⟨rfl, rfl, q362, rfl, hq362⟩
          refine b_goto (t := 415) C (dk_at ec295 (i := 165) rfl).1 (by decide) ?_
          exact B415 w6 q362 hq362
      · rcases List.mem_cons.mp hq with rfl | hq
        · have e1 : (1 : Int) = h.1 a (3026 + 4 * k) := e1
          refine b_lookup (t := 124) C (dk_at ec295 (i := 24) rfl).1 (by decide) hz e2 (by decide) ?_
          obtain ⟨⟨t1, t2⟩, -⟩ := htn k hk60 (Or.inl e1.symm)
          obtain ⟨x, ex⟩ : ∃ x : Nat, (x : Int) = h.1 a (3026 + 4 * k + 1) := ⟨(h.1 a (3026 + 4 * k + 1)).toNat, by omega⟩
          refine b_al0 C (dk_at ec295 (i := 25) rfl).1 rfl ?_
          refine b_iload C (dk_at ec295 (i := 26) rfl).1 rfl ?_
          refine b_iload_n C (dk_at ec295 (i := 27) rfl).1 rfl ?_
          refine b_inv (As := [.int (bz (h.1 a (3026 + 4 * k + 1))), .int (bz (p : Int))]) (rest := []) C Bg.x (dk_at ec295 (i := 28) rfl) (by decide) rfl (ih x (by omega)) (by omega) rfl hm ⟨by rw [ex], by omega, hp40, htn, hm, ha, hta, hla⟩ (Nat.le_of_ble_eq_true rfl) (Nat.le_refl _) (Nat.le_refl _) ?_
          rintro v τ' h' ⟨rfl, rfl, r128, rfl, hr128⟩
          refine b_if_ne (t := 138) C (dk_at ec295 (i := 29) rfl).1 (by decide) ⟨by omega, by omega⟩ (fun z131 => ?_) (fun z131 => ?_)
          · refine b_iconst C (dk_at ec295 (i := 32) rfl).1 ?_
            exact b_iret C Bg (dk_at ec295 (i := 33) rfl).1 (Or.inr ⟨rfl, by omega⟩) (Nat.le_refl _) (Nat.le_refl _) ⟨rfl, rfl, 0, rfl, by omega⟩
          · refine b_iconst C (dk_at ec295 (i := 30) rfl).1 ?_
            refine b_goto (t := 139) C (dk_at ec295 (i := 31) rfl).1 (by decide) ?_
            exact b_iret C Bg (dk_at ec295 (i := 33) rfl).1 (Or.inr ⟨rfl, by omega⟩) (Nat.le_refl _) (Nat.le_refl _) ⟨rfl, rfl, 1, rfl, by omega⟩
        · rcases List.mem_cons.mp hq with rfl | hq
          · have e1 : (2 : Int) = h.1 a (3026 + 4 * k) := e1
            refine b_lookup (t := 140) C (dk_at ec295 (i := 24) rfl).1 (by decide) hz e2 (by decide) ?_
            obtain ⟨⟨t1, t2⟩, t3⟩ := htn k hk60 (Or.inr (Or.inl e1.symm))
            obtain ⟨t4, t5⟩ := t3 (by omega)
            obtain ⟨x, ex⟩ : ∃ x : Nat, (x : Int) = h.1 a (3026 + 4 * k + 1) := ⟨(h.1 a (3026 + 4 * k + 1)).toNat, by omega⟩
            obtain ⟨y, ey⟩ : ∃ y : Nat, (y : Int) = h.1 a (3026 + 4 * k + 2) := ⟨(h.1 a (3026 + 4 * k + 2)).toNat, by omega⟩
            refine b_al0 C (dk_at ec295 (i := 34) rfl).1 rfl ?_
            refine b_iload C (dk_at ec295 (i := 35) rfl).1 rfl ?_
            refine b_iload_n C (dk_at ec295 (i := 36) rfl).1 rfl ?_
            refine b_inv (As := [.int (bz (h.1 a (3026 + 4 * k + 1))), .int (bz (p : Int))]) (rest := []) C Bg.x (dk_at ec295 (i := 37) rfl) (by decide) rfl (ih x (by omega)) (by omega) rfl hm ⟨by rw [ex], by omega, hp40, htn, hm, ha, hta, hla⟩ (Nat.le_of_ble_eq_true rfl) (Nat.le_refl _) (Nat.le_refl _) ?_
            rintro v τ' h' ⟨rfl, rfl, r144, rfl, hr144⟩
            refine b_if_eq (t := 164) C (dk_at ec295 (i := 38) rfl).1 (by decide) ⟨by omega, by omega⟩ (fun z147 => ?_) (fun z147 => ?_)
            · refine b_iconst C (dk_at ec295 (i := 46) rfl).1 ?_
              exact b_iret C Bg (dk_at ec295 (i := 47) rfl).1 (Or.inr ⟨rfl, by omega⟩) (Nat.le_refl _) (Nat.le_refl _) ⟨rfl, rfl, 0, rfl, by omega⟩
            · refine b_al0 C (dk_at ec295 (i := 39) rfl).1 rfl ?_
              refine b_iload C (dk_at ec295 (i := 40) rfl).1 rfl ?_
              refine b_iload_n C (dk_at ec295 (i := 41) rfl).1 rfl ?_
              refine b_inv (As := [.int (bz (h.1 a (3026 + 4 * k + 2))), .int (bz (p : Int))]) (rest := []) C Bg.x (dk_at ec295 (i := 42) rfl) (by decide) rfl (ih y (by omega)) (by omega) rfl hm ⟨by rw [ey], by omega, hp40, htn, hm, ha, hta, hla⟩ (Nat.le_of_ble_eq_true rfl) (Nat.le_refl _) (Nat.le_refl _) ?_
              rintro v τ' h' ⟨rfl, rfl, r154, rfl, hr154⟩
              refine b_if_eq (t := 164) C (dk_at ec295 (i := 43) rfl).1 (by decide) ⟨by omega, by omega⟩ (fun z157 => ?_) (fun z157 => ?_)
              · refine b_iconst C (dk_at ec295 (i := 46) rfl).1 ?_
                exact b_iret C Bg (dk_at ec295 (i := 47) rfl).1 (Or.inr ⟨rfl, by omega⟩) (Nat.le_refl _) (Nat.le_refl _) ⟨rfl, rfl, 0, rfl, by omega⟩
              · refine b_iconst C (dk_at ec295 (i := 44) rfl).1 ?_
                refine b_goto (t := 165) C (dk_at ec295 (i := 45) rfl).1 (by decide) ?_
                exact b_iret C Bg (dk_at ec295 (i := 47) rfl).1 (Or.inr ⟨rfl, by omega⟩) (Nat.le_refl _) (Nat.le_refl _) ⟨rfl, rfl, 1, rfl, by omega⟩
          · rcases List.mem_cons.mp hq with rfl | hq
            · have e1 : (3 : Int) = h.1 a (3026 + 4 * k) := e1
              refine b_lookup (t := 166) C (dk_at ec295 (i := 24) rfl).1 (by decide) hz e2 (by decide) ?_
              obtain ⟨⟨t1, t2⟩, t3⟩ := htn k hk60 (Or.inr (Or.inr e1.symm))
              obtain ⟨t4, t5⟩ := t3 (by omega)
              obtain ⟨x, ex⟩ : ∃ x : Nat, (x : Int) = h.1 a (3026 + 4 * k + 1) := ⟨(h.1 a (3026 + 4 * k + 1)).toNat, by omega⟩
              obtain ⟨y, ey⟩ : ∃ y : Nat, (y : Int) = h.1 a (3026 + 4 * k + 2) := ⟨(h.1 a (3026 + 4 * k + 2)).toNat, by omega⟩
              refine b_al0 C (dk_at ec295 (i := 48) rfl).1 rfl ?_
              refine b_iload C (dk_at ec295 (i := 49) rfl).1 rfl ?_
              refine b_iload_n C (dk_at ec295 (i := 50) rfl).1 rfl ?_
              refine b_inv (As := [.int (bz (h.1 a (3026 + 4 * k + 1))), .int (bz (p : Int))]) (rest := []) C Bg.x (dk_at ec295 (i := 51) rfl) (by decide) rfl (ih x (by omega)) (by omega) rfl hm ⟨by rw [ex], by omega, hp40, htn, hm, ha, hta, hla⟩ (Nat.le_of_ble_eq_true rfl) (Nat.le_refl _) (Nat.le_refl _) ?_
              rintro v τ' h' ⟨rfl, rfl, r170, rfl, hr170⟩
              refine b_if_ne (t := 186) C (dk_at ec295 (i := 52) rfl).1 (by decide) ⟨by omega, by omega⟩ (fun z173 => ?_) (fun z173 => ?_)
              · refine b_iconst C (dk_at ec295 (i := 58) rfl).1 ?_
                refine b_goto (t := 191) C (dk_at ec295 (i := 59) rfl).1 (by decide) ?_
                exact b_iret C Bg (dk_at ec295 (i := 61) rfl).1 (Or.inr ⟨rfl, by omega⟩) (Nat.le_refl _) (Nat.le_refl _) ⟨rfl, rfl, 1, rfl, by omega⟩
              · refine b_al0 C (dk_at ec295 (i := 53) rfl).1 rfl ?_
                refine b_iload C (dk_at ec295 (i := 54) rfl).1 rfl ?_
                refine b_iload_n C (dk_at ec295 (i := 55) rfl).1 rfl ?_
                refine b_inv (As := [.int (bz (h.1 a (3026 + 4 * k + 2))), .int (bz (p : Int))]) (rest := []) C Bg.x (dk_at ec295 (i := 56) rfl) (by decide) rfl (ih y (by omega)) (by omega) rfl hm ⟨by rw [ey], by omega, hp40, htn, hm, ha, hta, hla⟩ (Nat.le_of_ble_eq_true rfl) (Nat.le_refl _) (Nat.le_refl _) ?_
                rintro v τ' h' ⟨rfl, rfl, r180, rfl, hr180⟩
                refine b_if_eq (t := 190) C (dk_at ec295 (i := 57) rfl).1 (by decide) ⟨by omega, by omega⟩ (fun z183 => ?_) (fun z183 => ?_)
                · refine b_iconst C (dk_at ec295 (i := 60) rfl).1 ?_
                  exact b_iret C Bg (dk_at ec295 (i := 61) rfl).1 (Or.inr ⟨rfl, by omega⟩) (Nat.le_refl _) (Nat.le_refl _) ⟨rfl, rfl, 0, rfl, by omega⟩
                · refine b_iconst C (dk_at ec295 (i := 58) rfl).1 ?_
                  refine b_goto (t := 191) C (dk_at ec295 (i := 59) rfl).1 (by decide) ?_
                  exact b_iret C Bg (dk_at ec295 (i := 61) rfl).1 (Or.inr ⟨rfl, by omega⟩) (Nat.le_refl _) (Nat.le_refl _) ⟨rfl, rfl, 1, rfl, by omega⟩
            · rcases List.mem_cons.mp hq with rfl | hq
              · have e1 : (76 : Int) = h.1 a (3026 + 4 * k) := e1
                refine b_lookup (t := 192) C (dk_at ec295 (i := 24) rfl).1 (by decide) hz e2 (by decide) ?_
                refine b_al0 C (dk_at ec295 (i := 62) rfl).1 rfl ?_
                refine b_gR C (dk_at ec295 (i := 63) rfl) hm ha ?_
                refine b_al0 C (dk_at ec295 (i := 64) rfl).1 rfl ?_
                refine b_iload_n C (dk_at ec295 (i := 65) rfl).1 rfl ?_
                refine b_inv (As := [.int (bz (p : Int))]) (rest := [.ref a]) C Bg.x (dk_at ec295 (i := 66) rfl) (by decide) rfl (un_f2 (p : Int)) (by omega) rfl hm ⟨m, rfl⟩ (Nat.le_of_ble_eq_true rfl) (Nat.le_refl _) (Nat.le_refl _) ?_
                rintro v τ' h' ⟨rfl, rfl, rfl⟩
                refine b_rd (j := 1504 + 38 * p) C (dk_at ec295 (i := 67) rfl).1 hta (by omega) (by omega) (fun hv201 => ?_)
                refine b_if_ne (t := 209) C (dk_at ec295 (i := 68) rfl).1 (by decide) hv201 (fun z202 => ?_) (fun z202 => ?_)
                · refine b_iconst C (dk_at ec295 (i := 71) rfl).1 ?_
                  exact b_iret C Bg (dk_at ec295 (i := 72) rfl).1 (Or.inr ⟨rfl, by omega⟩) (Nat.le_refl _) (Nat.le_refl _) ⟨rfl, rfl, 0, rfl, by omega⟩
                · refine b_iconst C (dk_at ec295 (i := 69) rfl).1 ?_
                  refine b_goto (t := 210) C (dk_at ec295 (i := 70) rfl).1 (by decide) ?_
                  exact b_iret C Bg (dk_at ec295 (i := 72) rfl).1 (Or.inr ⟨rfl, by omega⟩) (Nat.le_refl _) (Nat.le_refl _) ⟨rfl, rfl, 1, rfl, by omega⟩
              · rcases List.mem_cons.mp hq with rfl | hq
                · have e1 : (77 : Int) = h.1 a (3026 + 4 * k) := e1
                  refine b_lookup (t := 211) C (dk_at ec295 (i := 24) rfl).1 (by decide) hz e2 (by decide) ?_
                  refine b_al0 C (dk_at ec295 (i := 73) rfl).1 rfl ?_
                  refine b_gR C (dk_at ec295 (i := 74) rfl) hm ha ?_
                  refine b_al0 C (dk_at ec295 (i := 75) rfl).1 rfl ?_
                  refine b_iload_n C (dk_at ec295 (i := 76) rfl).1 rfl ?_
                  refine b_inv (As := [.int (bz (p : Int))]) (rest := [.ref a]) C Bg.x (dk_at ec295 (i := 77) rfl) (by decide) rfl (un_f2 (p : Int)) (by omega) rfl hm ⟨m, rfl⟩ (Nat.le_of_ble_eq_true rfl) (Nat.le_refl _) (Nat.le_refl _) ?_
                  rintro v τ' h' ⟨rfl, rfl, rfl⟩
                  refine b_rd (j := 1504 + 38 * p) C (dk_at ec295 (i := 78) rfl).1 hta (by omega) (by omega) (fun hv220 => ?_)
                  refine b_iconst C (dk_at ec295 (i := 79) rfl).1 ?_
                  refine b_icmp_ne (t := 229) C (dk_at ec295 (i := 80) rfl).1 (by decide) hv220 ⟨by omega, by omega⟩ (fun z222 => ?_) (fun z222 => ?_)
                  · refine b_iconst C (dk_at ec295 (i := 83) rfl).1 ?_
                    exact b_iret C Bg (dk_at ec295 (i := 84) rfl).1 (Or.inr ⟨rfl, by omega⟩) (Nat.le_refl _) (Nat.le_refl _) ⟨rfl, rfl, 0, rfl, by omega⟩
                  · refine b_iconst C (dk_at ec295 (i := 81) rfl).1 ?_
                    refine b_goto (t := 230) C (dk_at ec295 (i := 82) rfl).1 (by decide) ?_
                    exact b_iret C Bg (dk_at ec295 (i := 84) rfl).1 (Or.inr ⟨rfl, by omega⟩) (Nat.le_refl _) (Nat.le_refl _) ⟨rfl, rfl, 1, rfl, by omega⟩
                · rcases List.mem_cons.mp hq with rfl | hq
                  · have e1 : (78 : Int) = h.1 a (3026 + 4 * k) := e1
                    refine b_lookup (t := 231) C (dk_at ec295 (i := 24) rfl).1 (by decide) hz e2 (by decide) ?_
                    refine b_al0 C (dk_at ec295 (i := 85) rfl).1 rfl ?_
                    refine b_gR C (dk_at ec295 (i := 86) rfl) hm ha ?_
                    refine b_al0 C (dk_at ec295 (i := 87) rfl).1 rfl ?_
                    refine b_iload_n C (dk_at ec295 (i := 88) rfl).1 rfl ?_
                    refine b_inv (As := [.int (bz (p : Int))]) (rest := [.ref a]) C Bg.x (dk_at ec295 (i := 89) rfl) (by decide) rfl (un_f2 (p : Int)) (by omega) rfl hm ⟨m, rfl⟩ (Nat.le_of_ble_eq_true rfl) (Nat.le_refl _) (Nat.le_refl _) ?_
                    rintro v τ' h' ⟨rfl, rfl, rfl⟩
                    refine b_rd (j := 1504 + 38 * p) C (dk_at ec295 (i := 90) rfl).1 hta (by omega) (by omega) (fun hv240 => ?_)
                    refine b_iconst C (dk_at ec295 (i := 91) rfl).1 ?_
                    refine b_icmp_ne (t := 249) C (dk_at ec295 (i := 92) rfl).1 (by decide) hv240 ⟨by omega, by omega⟩ (fun z242 => ?_) (fun z242 => ?_)
                    · refine b_iconst C (dk_at ec295 (i := 95) rfl).1 ?_
                      exact b_iret C Bg (dk_at ec295 (i := 96) rfl).1 (Or.inr ⟨rfl, by omega⟩) (Nat.le_refl _) (Nat.le_refl _) ⟨rfl, rfl, 0, rfl, by omega⟩
                    · refine b_iconst C (dk_at ec295 (i := 93) rfl).1 ?_
                      refine b_goto (t := 250) C (dk_at ec295 (i := 94) rfl).1 (by decide) ?_
                      exact b_iret C Bg (dk_at ec295 (i := 96) rfl).1 (Or.inr ⟨rfl, by omega⟩) (Nat.le_refl _) (Nat.le_refl _) ⟨rfl, rfl, 1, rfl, by omega⟩
                  · rcases List.mem_cons.mp hq with rfl | hq
                    · have e1 : (79 : Int) = h.1 a (3026 + 4 * k) := e1
                      refine b_lookup (t := 251) C (dk_at ec295 (i := 24) rfl).1 (by decide) hz e2 (by decide) ?_
                      refine b_al0 C (dk_at ec295 (i := 97) rfl).1 rfl ?_
                      refine b_gR C (dk_at ec295 (i := 98) rfl) hm ha ?_
                      refine b_al0 C (dk_at ec295 (i := 99) rfl).1 rfl ?_
                      refine b_iload_n C (dk_at ec295 (i := 100) rfl).1 rfl ?_
                      refine b_inv (As := [.int (bz (p : Int))]) (rest := [.ref a]) C Bg.x (dk_at ec295 (i := 101) rfl) (by decide) rfl (un_f2 (p : Int)) (by omega) rfl hm ⟨m, rfl⟩ (Nat.le_of_ble_eq_true rfl) (Nat.le_refl _) (Nat.le_refl _) ?_
                      rintro v τ' h' ⟨rfl, rfl, rfl⟩
                      refine b_rd (j := 1504 + 38 * p) C (dk_at ec295 (i := 102) rfl).1 hta (by omega) (by omega) (fun hv260 => ?_)
                      refine b_iconst C (dk_at ec295 (i := 103) rfl).1 ?_
                      refine b_icmp_eq (t := 279) C (dk_at ec295 (i := 104) rfl).1 (by decide) hv260 ⟨by omega, by omega⟩ (fun z262 => ?_) (fun z262 => ?_)
                      · refine b_iconst C (dk_at ec295 (i := 113) rfl).1 ?_
                        refine b_goto (t := 284) C (dk_at ec295 (i := 114) rfl).1 (by decide) ?_
                        exact b_iret C Bg (dk_at ec295 (i := 116) rfl).1 (Or.inr ⟨rfl, by omega⟩) (Nat.le_refl _) (Nat.le_refl _) ⟨rfl, rfl, 1, rfl, by omega⟩
                      · refine b_al0 C (dk_at ec295 (i := 105) rfl).1 rfl ?_
                        refine b_gR C (dk_at ec295 (i := 106) rfl) hm ha ?_
                        refine b_al0 C (dk_at ec295 (i := 107) rfl).1 rfl ?_
                        refine b_iload_n C (dk_at ec295 (i := 108) rfl).1 rfl ?_
                        refine b_inv (As := [.int (bz (p : Int))]) (rest := [.ref a]) C Bg.x (dk_at ec295 (i := 109) rfl) (by decide) rfl (un_f2 (p : Int)) (by omega) rfl hm ⟨m, rfl⟩ (Nat.le_of_ble_eq_true rfl) (Nat.le_refl _) (Nat.le_refl _) ?_
                        rintro v τ' h' ⟨rfl, rfl, rfl⟩
                        refine b_rd (j := 1504 + 38 * p) C (dk_at ec295 (i := 110) rfl).1 hta (by omega) (by omega) (fun hv274 => ?_)
                        refine b_iconst C (dk_at ec295 (i := 111) rfl).1 ?_
                        refine b_icmp_ne (t := 283) C (dk_at ec295 (i := 112) rfl).1 (by decide) hv274 ⟨by omega, by omega⟩ (fun z276 => ?_) (fun z276 => ?_)
                        · refine b_iconst C (dk_at ec295 (i := 115) rfl).1 ?_
                          exact b_iret C Bg (dk_at ec295 (i := 116) rfl).1 (Or.inr ⟨rfl, by omega⟩) (Nat.le_refl _) (Nat.le_refl _) ⟨rfl, rfl, 0, rfl, by omega⟩
                        · refine b_iconst C (dk_at ec295 (i := 113) rfl).1 ?_
                          refine b_goto (t := 284) C (dk_at ec295 (i := 114) rfl).1 (by decide) ?_
                          exact b_iret C Bg (dk_at ec295 (i := 116) rfl).1 (Or.inr ⟨rfl, by omega⟩) (Nat.le_refl _) (Nat.le_refl _) ⟨rfl, rfl, 1, rfl, by omega⟩
                    · rcases List.mem_cons.mp hq with rfl | hq
                      · have e1 : (80 : Int) = h.1 a (3026 + 4 * k) := e1
                        refine b_lookup (t := 285) C (dk_at ec295 (i := 24) rfl).1 (by decide) hz e2 (by decide) ?_
                        refine b_al0 C (dk_at ec295 (i := 117) rfl).1 rfl ?_
                        refine b_gR C (dk_at ec295 (i := 118) rfl) hm ha ?_
                        refine b_al0 C (dk_at ec295 (i := 119) rfl).1 rfl ?_
                        refine b_iload_n C (dk_at ec295 (i := 120) rfl).1 rfl ?_
                        refine b_inv (As := [.int (bz (p : Int))]) (rest := [.ref a]) C Bg.x (dk_at ec295 (i := 121) rfl) (by decide) rfl (un_f2 (p : Int)) (by omega) rfl hm ⟨m, rfl⟩ (Nat.le_of_ble_eq_true rfl) (Nat.le_refl _) (Nat.le_refl _) ?_
                        rintro v τ' h' ⟨rfl, rfl, rfl⟩
                        refine b_rd (j := 1504 + 38 * p) C (dk_at ec295 (i := 122) rfl).1 hta (by omega) (by omega) (fun hv294 => ?_)
                        refine b_iconst C (dk_at ec295 (i := 123) rfl).1 ?_
                        refine b_icmp_ne (t := 303) C (dk_at ec295 (i := 124) rfl).1 (by decide) hv294 ⟨by omega, by omega⟩ (fun z296 => ?_) (fun z296 => ?_)
                        · refine b_iconst C (dk_at ec295 (i := 127) rfl).1 ?_
                          exact b_iret C Bg (dk_at ec295 (i := 128) rfl).1 (Or.inr ⟨rfl, by omega⟩) (Nat.le_refl _) (Nat.le_refl _) ⟨rfl, rfl, 0, rfl, by omega⟩
                        · refine b_iconst C (dk_at ec295 (i := 125) rfl).1 ?_
                          refine b_goto (t := 304) C (dk_at ec295 (i := 126) rfl).1 (by decide) ?_
                          exact b_iret C Bg (dk_at ec295 (i := 128) rfl).1 (Or.inr ⟨rfl, by omega⟩) (Nat.le_refl _) (Nat.le_refl _) ⟨rfl, rfl, 1, rfl, by omega⟩
                      · rcases List.mem_cons.mp hq with rfl | hq
                        · have e1 : (81 : Int) = h.1 a (3026 + 4 * k) := e1
                          refine b_lookup (t := 305) C (dk_at ec295 (i := 24) rfl).1 (by decide) hz e2 (by decide) ?_
                          refine b_al0 C (dk_at ec295 (i := 129) rfl).1 rfl ?_
                          refine b_gR C (dk_at ec295 (i := 130) rfl) hm ha ?_
                          refine b_al0 C (dk_at ec295 (i := 131) rfl).1 rfl ?_
                          refine b_iload_n C (dk_at ec295 (i := 132) rfl).1 rfl ?_
                          refine b_inv (As := [.int (bz (p : Int))]) (rest := [.ref a]) C Bg.x (dk_at ec295 (i := 133) rfl) (by decide) rfl (un_f2 (p : Int)) (by omega) rfl hm ⟨m, rfl⟩ (Nat.le_of_ble_eq_true rfl) (Nat.le_refl _) (Nat.le_refl _) ?_
                          rintro v τ' h' ⟨rfl, rfl, rfl⟩
                          refine b_rd (j := 1504 + 38 * p) C (dk_at ec295 (i := 134) rfl).1 hta (by omega) (by omega) (fun hv314 => ?_)
                          refine b_ins (As := [.int (bz (h.1 a (1504 + 38 * p)))]) (rest := []) C Bg.x (dk_at ec295 (i := 135) rfl) (by decide) rfl (gt_fun (h.1 a (1504 + 38 * p))) (by omega) rfl ⟨rfl, hv314⟩ (Nat.le_of_ble_eq_true rfl) (Nat.le_refl _) (Nat.le_refl _) ?_
                          rintro v τ' h' ⟨rfl, rfl, r315, rfl, hr315⟩
                          exact b_iret C Bg (dk_at ec295 (i := 136) rfl).1 (Or.inr ⟨rfl, by omega⟩) (Nat.le_refl _) (Nat.le_refl _) ⟨rfl, rfl, r315, rfl, hr315⟩
                        · obtain rfl := List.mem_singleton.mp hq
                          have e1 : (82 : Int) = h.1 a (3026 + 4 * k) := e1
                          refine b_lookup (t := 319) C (dk_at ec295 (i := 24) rfl).1 (by decide) hz e2 (by decide) ?_
                          refine b_al0 C (dk_at ec295 (i := 137) rfl).1 rfl ?_
                          refine b_gR C (dk_at ec295 (i := 138) rfl) hm ha ?_
                          refine b_al0 C (dk_at ec295 (i := 139) rfl).1 rfl ?_
                          refine b_iload_n C (dk_at ec295 (i := 140) rfl).1 rfl ?_
                          refine b_inv (As := [.int (bz (p : Int))]) (rest := [.ref a]) C Bg.x (dk_at ec295 (i := 141) rfl) (by decide) rfl (un_f2 (p : Int)) (by omega) rfl hm ⟨m, rfl⟩ (Nat.le_of_ble_eq_true rfl) (Nat.le_refl _) (Nat.le_refl _) ?_
                          rintro v τ' h' ⟨rfl, rfl, rfl⟩
                          refine b_iconst C (dk_at ec295 (i := 142) rfl).1 ?_
                          refine b_iadd C (dk_at ec295 (i := 143) rfl).1 ?_
                          refine b_rd (j := 1504 + 38 * p + 4) C (dk_at ec295 (i := 144) rfl).1 hta (by omega) (by omega) (fun hv330 => ?_)
                          refine b_iconst C (dk_at ec295 (i := 145) rfl).1 ?_
                          refine b_icmp_ne (t := 339) C (dk_at ec295 (i := 146) rfl).1 (by decide) hv330 ⟨by omega, by omega⟩ (fun z332 => ?_) (fun z332 => ?_)
                          · refine b_iconst C (dk_at ec295 (i := 149) rfl).1 ?_
                            exact b_iret C Bg (dk_at ec295 (i := 150) rfl).1 (Or.inr ⟨rfl, by omega⟩) (Nat.le_refl _) (Nat.le_refl _) ⟨rfl, rfl, 0, rfl, by omega⟩
                          · refine b_iconst C (dk_at ec295 (i := 147) rfl).1 ?_
                            refine b_goto (t := 340) C (dk_at ec295 (i := 148) rfl).1 (by decide) ?_
                            exact b_iret C Bg (dk_at ec295 (i := 150) rfl).1 (Or.inr ⟨rfl, by omega⟩) (Nat.le_refl _) (Nat.le_refl _) ⟨rfl, rfl, 1, rfl, by omega⟩
theorem eox26 : cOk cT0 ey295 8 70 0 0 enx26 := by
  intro g ρ σ
  by_cases h0 : (0 ≤ ρ 0 ∧ ρ 0 ≤ 59) ∧ 0 ≤ ρ 1 ∧ ρ 1 ≤ 39
  · have K : bOk ey295 8 ((ρ 0).toNat + 3) 0 0 (fun ι avs τ h => cPr cT0 enx26 ι avs τ h g ρ σ) (cPst cT0 enx26 g ρ σ) := by
      refine bOk_to (bOk_ex (fun p : Nat × Nat => ho_fun p.1 p.2 (ρ 1).toNat ((ρ 0).toNat + 1) (ρ 0).toNat (by omega))) ?_ ?_
      · intro ι avs τ h hp
        obtain ⟨m, xs, rfl, -, m2, m3, hxs⟩ := m_this hp rfl rfl
        obtain ⟨a, a1, a2, a3, a4⟩ := m_now hp.1 m3
        exact ⟨(m, a), by rw [c2_i2 hxs, show (((ρ 0).toNat : Nat) : Int) = ρ 0 by omega, show (((ρ 1).toNat : Nat) : Int) = ρ 1 by omega], by omega, by omega, (o_now hp.1 a2).2.2.2.1 rfl, m2, a1, a3, a4⟩
      · rintro ι avs τ h v τ' h' hp ⟨q, -, rfl, rfl, r, rfl, hr⟩
        exact cPst_int hp rfl rfl ⟨by omega, by omega⟩ ⟨by omega, by omega⟩ hp.1 cHi.rfl
    intro l hl d hd
    exact K l hl d (by omega)
  · intro l hl d hd ι τ h avs hp
    have b0 := cBo_at hp.2.2.2.1.1 (s := 0) (x := 0) (y := 59) (by decide)
    have b1 := cBo_at hp.2.2.2.1.1 (s := 1) (x := 0) (y := 39) (by decide)
    exact absurd ⟨b0, b1⟩ h0
