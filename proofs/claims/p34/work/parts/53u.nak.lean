/-! ===== spansOf, sendNak, need, span ===== -/
theorem cPst_any {T : cTb} {c : cCn} {g : Nat → Nat} {ρ : Nat → Int} {σ : Nat → Option Nat} {ι : bI} {avs : List Value} {τ : bt} {h h' : bh} {n : Nat} {z : Int} (hp : cPr T c ι avs τ h g ρ σ) (hc : c.2.1.2.2 = (([], [], [], []), [(0, 0, (0, [(n, 1)]))])) (hn : c.1.1 = n) (hz : brg z) (hw : cWT T g τ h') (hH : cHi c.2.2 g τ h g τ h') : cPst T c g ρ σ ι avs τ h (some (.int (bz z))) τ h' := by
  have hr : ∀ s, brg (if s = n then z else ρ s) := by
    intro s
    by_cases e : s = n
    · rw [if_pos e]; exact hz
    · rw [if_neg e]; exact hp.2.2.1 s
  refine ⟨g, fun s => if s = n then z else ρ s, σ, hw, hp.2.1, hH, ⟨hr, fun s hs => if_neg (by omega), fun _ _ => rfl⟩, ?_, ?_⟩
  · rw [hc]
    exact ⟨⟨hr, fun q hq => absurd hq List.not_mem_nil⟩, fun q hq => absurd hq List.not_mem_nil, fun q hq => absurd hq List.not_mem_nil, fun q hq => absurd hq List.not_mem_nil⟩
  · rw [hc]
    refine ⟨cv_I (e := (0, [(n, 1)])) hz ?_, trivial⟩
    show 0 + (1 * (if n = n then z else ρ n) + 0) = z
    rw [if_pos rfl]
    omega
theorem eox11 : cOk cT0 ey212 4 5 0 0 enx11 := by
  refine (cOk_ofp (fun ρ => bOk_ex (fun p : Nat × Nat => sp_fun p.1 p.2 (ρ 0))) ?_ ?_).mono (by decide)
  · intro ι avs τ h g ρ σ hp
    obtain ⟨m, xs, rfl, -, m2, m3, hxs⟩ := m_this hp rfl rfl
    obtain ⟨a, a1, a2, a3, a4⟩ := m_now hp.1 m3
    exact ⟨(m, a), by rw [c2_i1 hxs], hp.2.2.1 0, m2, a1, a3, a4⟩
  · rintro ι avs τ h g ρ σ v τ' h' hp ⟨p, -, rfl, rfl, n, rfl, hn⟩
    exact cPst_int hp rfl rfl ⟨by omega, by omega⟩ ⟨by omega, by omega⟩ hp.1 cHi.rfl
theorem nk_fun (m a : Nat) : bOk ey220 4 6 0 0 (fun _ avs τ h => avs = [.ref m] ∧ 0 ≤ h.1 a 45 ∧ h.1 a 45 ≤ 40 ∧ τ.1 m = 12 ∧ h.2 m 14 = some a ∧ τ.1 a = 41 ∧ τ.2 a = 3266) (fun _ avs τ h v τ' h' => τ' = τ ∧ v = none ∧ ∃ w : Int, h' = bsetI h a 35 w ∨ ∃ (n M : Nat) (w1 t : Int), (n : Int) = h.1 a 45 ∧ n < 40 ∧ w1 = h.1 a 28 + h.1 a 2 - 4294967296 * t ∧ M ≤ 8 ∧ h'.2 = h.2 ∧ (∀ b i, (b ≠ a ∨ i < 1504 + 38 * n + 6 ∨ 1504 + 38 * n + 6 + 2 * M ≤ i) → h'.1 b i = (bsetI (seH h a n w 2 w1 (M : Int) 0) a (1504 + 38 * n + 5) (2 * (M : Int))).1 b i) ∧ ∀ i, i < 2 * M → -1 ≤ h'.1 a (1504 + 38 * n + 6 + i) ∧ h'.1 a (1504 + 38 * n + 6 + i) ≤ 240) := by
  refine bOk_of emp220.1.2.2.2.2.2.1 ?_ ?_
  · rintro ι avs τ h ⟨rfl, -⟩
    exact Nat.le_of_ble_eq_true rfl
  · intro γ ι τ h avs d hd hp Bg C
    obtain ⟨rfl, l45, u45, hm, ha, hta, hla⟩ := hp
    have hn : γ.2.2.1 = 4 := Bg.2.1
    obtain ⟨d, rfl⟩ : ∃ d', d = d' + 1 := ⟨d - 1, by omega⟩
    have loop : ∀ (w : Int) (n M : Nat) (w1 t : Int), (n : Int) = h.1 a 45 → n < 40 → w1 = h.1 a 28 + h.1 a 2 - 4294967296 * t → M ≤ 8 → ∀ (r k : Nat) (H : bh), k + r = 2 * M → H.2 = h.2 → (∀ b i, (b ≠ a ∨ i < 1504 + 38 * n + 6 ∨ 1504 + 38 * n + 6 + k ≤ i) → H.1 b i = (bsetI (seH h a n w 2 w1 (M : Int) 0) a (1504 + 38 * n + 5) (2 * (M : Int))).1 b i) → (∀ i, i < k → -1 ≤ H.1 a (1504 + 38 * n + 6 + i) ∧ H.1 a (1504 + 38 * n + 6 + i) ≤ 240) → bJ γ 38 [some (.ref m), some (.int (bz (M : Int))), some (.int (bz (1504 + 38 * (n : Int)))), some (.int (bz (k : Int)))] [] τ H 0 0 := by
      intro w n M w1 t en hn40 et hM r
      induction r with
      | zero =>
        intro k H hk H2 Ho Hr
        have ek : k = 2 * M := by omega
        subst ek
        refine b_iload_n C (dk_at ec220 (i := 27) rfl).1 rfl ?_
        refine b_iconst C (dk_at ec220 (i := 28) rfl).1 ?_
        refine b_iload_n C (dk_at ec220 (i := 29) rfl).1 rfl ?_
        refine b_imul C (dk_at ec220 (i := 30) rfl).1 ?_
        refine b_icmp_ge (t := 73) C (dk_at ec220 (i := 31) rfl).1 (by decide) ⟨by omega, by omega⟩ ⟨by omega, by omega⟩ (fun z42 => ?_) (fun z42 => ?_)
        · exact b_vret C Bg (dk_at ec220 (i := 51) rfl).1 rfl (Nat.le_refl _) (Nat.le_refl _) ⟨rfl, rfl, w, Or.inr ⟨n, M, w1, t, en, hn40, et, hM, H2, Ho, fun i hi => Hr i (by omega)⟩⟩
        · omega
      | succ r ih =>
        intro k H hk H2 Ho Hr
        have hb : H.2 m 14 = some a := by rw [H2]; exact ha
        refine b_iload_n C (dk_at ec220 (i := 27) rfl).1 rfl ?_
        refine b_iconst C (dk_at ec220 (i := 28) rfl).1 ?_
        refine b_iload_n C (dk_at ec220 (i := 29) rfl).1 rfl ?_
        refine b_imul C (dk_at ec220 (i := 30) rfl).1 ?_
        refine b_icmp_ge (t := 73) C (dk_at ec220 (i := 31) rfl).1 (by decide) ⟨by omega, by omega⟩ ⟨by omega, by omega⟩ (fun z42 => ?_) (fun z42 => ?_)
        · omega
        · refine b_al0 C (dk_at ec220 (i := 32) rfl).1 rfl ?_
          refine b_gR C (dk_at ec220 (i := 33) rfl) hm hb ?_
          refine b_iload_n C (dk_at ec220 (i := 34) rfl).1 rfl ?_
          refine b_bipush C (dk_at ec220 (i := 35) rfl).1 ⟨by omega, by omega⟩ ?_
          refine b_iadd C (dk_at ec220 (i := 36) rfl).1 ?_
          refine b_iload_n C (dk_at ec220 (i := 37) rfl).1 rfl ?_
          refine b_iadd C (dk_at ec220 (i := 38) rfl).1 ?_
          refine b_al0 C (dk_at ec220 (i := 39) rfl).1 rfl ?_
          refine b_iconst C (dk_at ec220 (i := 40) rfl).1 ?_
          refine b_iload_n C (dk_at ec220 (i := 41) rfl).1 rfl ?_
          refine b_iconst C (dk_at ec220 (i := 42) rfl).1 ?_
          refine b_idiv C (dk_at ec220 (i := 43) rfl).1 ⟨by omega, by omega⟩ ⟨by omega, by omega⟩ (by omega) (fun q hq => ?_)
          refine b_iload_n C (dk_at ec220 (i := 44) rfl).1 rfl ?_
          refine b_iconst C (dk_at ec220 (i := 45) rfl).1 ?_
          refine b_irem C (dk_at ec220 (i := 46) rfl).1 ⟨by omega, by omega⟩ ⟨by omega, by omega⟩ (by omega) (fun r r1 r2 _ => ?_)
          refine b_inv (As := [.int (bz 0), .int (bz q), .int (bz r)]) (rest := [.int (bz (1504 + 38 * (n : Int) + 6 + (k : Int))), .ref a]) C Bg.x (dk_at ec220 (i := 47) rfl) (by decide) rfl (sq_fun m a 0 q r) (by omega) rfl hm ⟨rfl, ⟨by omega, by omega⟩, ⟨by omega, by omega⟩, ⟨by omega, by omega⟩, hm, hb, hta, hla⟩ (Nat.le_of_ble_eq_true rfl) (Nat.le_refl _) (Nat.le_refl _) ?_
          rintro v τ' h' ⟨rfl, rfl, z, rfl, z1, z2⟩
          refine b_wr (j := 1504 + 38 * n + 6 + k) C (dk_at ec220 (i := 48) rfl).1 hta (by omega) (by omega) ⟨by omega, by omega⟩ ?_
          refine b_iinc (a := (k : Int)) C (dk_at ec220 (i := 49) rfl).1 (by rw [hn]; decide) rfl (bno2_of (fun w hw _ => by cases hw; exact (show (1 : Nat) ≠ 2 by decide))) ?_
          refine b_goto (t := 38) C (dk_at ec220 (i := 50) rfl).1 (by decide) ?_
          have := ih (k + 1) (bsetI H a (1504 + 38 * n + 6 + k) z) (by omega) H2 (fun b i hb => ?_) (fun i hi => ?_)
          · rw [show (((k + 1 : Nat) : Int)) = (k : Int) + 1 by omega] at this
            exact this
          · rw [← Ho b i (by omega)]
            exact if_neg (by omega)
          · by_cases e : i = k
            · subst e
              rw [bsetI_at]
              exact ⟨z1, z2⟩
            · rw [bsetI_ne (by omega)]
              exact Hr i (by omega)
    refine b_bipush C (dk_at ec220 (i := 0) rfl).1 ⟨by omega, by omega⟩ ?_
    refine b_al0 C (dk_at ec220 (i := 1) rfl).1 rfl ?_
    refine b_iconst C (dk_at ec220 (i := 2) rfl).1 ?_
    refine b_inv (As := [.int (bz 0)]) (rest := [.int (bz 8)]) C Bg.x (dk_at ec220 (i := 3) rfl) (by decide) rfl (sp_fun m a 0) (by omega) rfl hm ⟨rfl, ⟨by omega, by omega⟩, hm, ha, hta, hla⟩ (Nat.le_of_ble_eq_true rfl) (Nat.le_refl _) (Nat.le_refl _) ?_
    rintro v τ' h' ⟨rfl, rfl, N, rfl, hN⟩
    refine b_ins (As := [.int (bz 8), .int (bz (N : Int))]) (rest := []) C Bg.x (dk_at ec220 (i := 4) rfl) (by decide) rfl (le_fun 8 (N : Int)) (by omega) rfl ⟨rfl, ⟨by omega, by omega⟩, ⟨by omega, by omega⟩⟩ (Nat.le_of_ble_eq_true rfl) (Nat.le_refl _) (Nat.le_refl _) ?_
    rintro v τ' h' ⟨rfl, rfl, r, rfl, hr⟩
    obtain ⟨M, rfl⟩ : ∃ M : Nat, r = (M : Int) := ⟨r.toNat, by omega⟩
    have hM : M ≤ 8 := by omega
    refine b_istore_n C (dk_at ec220 (i := 5) rfl).1 (by rw [hn]; decide) (bno2_of (fun w hw _ => by cases hw; exact (show (1 : Nat) ≠ 2 by decide))) ?_
    refine b_al0 C (dk_at ec220 (i := 6) rfl).1 rfl ?_
    refine b_iconst C (dk_at ec220 (i := 7) rfl).1 ?_
    refine b_iload_n C (dk_at ec220 (i := 8) rfl).1 rfl ?_
    refine b_iconst C (dk_at ec220 (i := 9) rfl).1 ?_
    refine b_inv (As := [.int (bz 2), .int (bz (M : Int)), .int (bz 0)]) (rest := []) C Bg.x (dk_at ec220 (i := 10) rfl) (by decide) rfl (se_fun 2 (M : Int) 0) (by omega) rfl hm ⟨⟨by omega, by omega⟩, ⟨by omega, by omega⟩, ⟨by omega, by omega⟩, m, a, rfl, hm, ha, hta, hla, l45, u45⟩ (Nat.le_of_ble_eq_true rfl) (Nat.le_refl _) (Nat.le_refl _) ?_
    rintro v τ' h' ⟨m', a', w, e1, e2, rfl, hq⟩
    injection e1 with e1
    injection e1 with e1
    subst e1
    rw [ha] at e2
    cases e2
    rcases hq with ⟨rfl, rfl⟩ | ⟨n, w1, t, en, hn40, et, rfl, rfl⟩
    · refine b_istore_n C (dk_at ec220 (i := 11) rfl).1 (by rw [hn]; decide) (bno2_of (fun w hw _ => by cases hw; exact (show (1 : Nat) ≠ 2 by decide))) ?_
      refine b_iload_n C (dk_at ec220 (i := 12) rfl).1 rfl ?_
      refine b_iconst C (dk_at ec220 (i := 13) rfl).1 ?_
      refine b_icmp_ne (t := 25) C (dk_at ec220 (i := 14) rfl).1 (by decide) ⟨by omega, by omega⟩ ⟨by omega, by omega⟩ (fun z21 => ?_) (fun z21 => ?_)
      · omega
      · exact b_vret C Bg (dk_at ec220 (i := 15) rfl).1 rfl (Nat.le_refl _) (Nat.le_refl _) ⟨rfl, rfl, w, Or.inl rfl⟩
    · refine b_istore_n C (dk_at ec220 (i := 11) rfl).1 (by rw [hn]; decide) (bno2_of (fun w hw _ => by cases hw; exact (show (1 : Nat) ≠ 2 by decide))) ?_
      refine b_iload_n C (dk_at ec220 (i := 12) rfl).1 rfl ?_
      refine b_iconst C (dk_at ec220 (i := 13) rfl).1 ?_
      refine b_icmp_ne (t := 25) C (dk_at ec220 (i := 14) rfl).1 (by decide) ⟨by omega, by omega⟩ ⟨by omega, by omega⟩ (fun z21 => ?_) (fun z21 => ?_)
      · refine b_al0 C (dk_at ec220 (i := 16) rfl).1 rfl ?_
        refine b_gR C (dk_at ec220 (i := 17) rfl) hm (show (seH h a n w 2 w1 (M : Int) 0).2 m 14 = some a from ha) ?_
        refine b_iload_n C (dk_at ec220 (i := 18) rfl).1 rfl ?_
        refine b_iconst C (dk_at ec220 (i := 19) rfl).1 ?_
        refine b_iadd C (dk_at ec220 (i := 20) rfl).1 ?_
        refine b_iconst C (dk_at ec220 (i := 21) rfl).1 ?_
        refine b_iload_n C (dk_at ec220 (i := 22) rfl).1 rfl ?_
        refine b_imul C (dk_at ec220 (i := 23) rfl).1 ?_
        refine b_wr (j := 1504 + 38 * n + 5) C (dk_at ec220 (i := 24) rfl).1 hta (by omega) (by omega) ⟨by omega, by omega⟩ ?_
        refine b_iconst C (dk_at ec220 (i := 25) rfl).1 ?_
        refine b_istore_n C (dk_at ec220 (i := 26) rfl).1 (by rw [hn]; decide) (bno2_of (fun w hw _ => by cases hw; exact (show (1 : Nat) ≠ 2 by decide))) ?_
        exact loop w n M w1 t en hn40 et hM (2 * M) 0 _ (by omega) rfl (fun b i _ => rfl) (fun i hi => by omega)
      · omega
theorem eox12 : cOk cT0 ey220 4 7 0 0 enx12 := by
  refine (cOk_of (bOk_ex (fun p : Nat × Nat => nk_fun p.1 p.2)) ?_ ?_).mono (by decide)
  · intro ι avs τ h g ρ σ hp
    obtain ⟨m, xs, rfl, -, m2, m3, hxs⟩ := m_this hp rfl rfl
    obtain ⟨a, a1, a2, a3, a4⟩ := m_now hp.1 m3
    have b45 := now_45 hp.1 a2
    cases xs with
    | cons => exact hxs.elim
    | nil => exact ⟨(m, a), rfl, b45.1, b45.2, m2, a1, a3, a4⟩
  · rintro ι avs τ h g ρ σ v τ' h' hp ⟨⟨m, a⟩, ⟨rfl, -, -, -, ha1, -, -⟩, rfl, rfl, w, hq⟩
    obtain ⟨m', xs, e, -, -, m3, -⟩ := m_this hp rfl rfl
    cases e
    obtain ⟨a', a1, ga, ta, -⟩ := m_now hp.1 m3
    have ha1 : h.2 m 14 = some a := ha1
    rw [ha1] at a1
    cases a1
    rcases hq with rfl | ⟨n, M, w1, t, en, hn40, et, hM, hh2, ho, hr⟩
    · exact cPst_void hp rfl (wt_35 hp.1 ga) (se_hi ta rfl (fun b i hb => if_neg (by omega)) ⟨by rfl, by rfl, by rfl⟩)
    · have ho : ∀ b i, (b ≠ a ∨ i < 1504 + 38 * n + 6 ∨ 1504 + 38 * n + 6 + 2 * M ≤ i) → h'.1 b i = (bsetI (seH h a n w 2 w1 (M : Int) 0) a (1504 + 38 * n + 5) (2 * (M : Int))).1 b i := ho
      have hr : ∀ i, i < 2 * M → -1 ≤ h'.1 a (1504 + 38 * n + 6 + i) ∧ h'.1 a (1504 + 38 * n + 6 + i) ≤ 240 := hr
      have hho : ∀ b i, (b ≠ a ∨ i < 1504 + 38 * n + 5 ∨ 1504 + 38 * n + 38 ≤ i) → h'.1 b i = (seH h a n w 2 w1 (M : Int) 0).1 b i := by
        intro b i hb
        rw [ho b i (by omega)]
        exact if_neg (by omega)
      refine cPst_void hp rfl (sx_wt (se_wt (w := w) (x1 := 2) (x2 := (M : Int)) (x3 := 0) hp.1 ga en hn40 et ⟨by omega, by omega⟩ ⟨⟨by omega, by omega⟩, fun _ => by omega⟩ (fun z => by omega) (fun z => by omega)) ga hn40 hh2 hho ?_) (se_hi ta hh2 (fun b i hb => ?_) ⟨by rfl, by rfl, by rfl⟩)
      · obtain ⟨v0, v2, v3, v4⟩ := se_v (h := h) (a := a) (n := n) (w := w) (x1 := 2) (w1 := w1) (x2 := (M : Int)) (x3 := 0)
        have v5 : h'.1 a (1504 + 38 * n + 5) = 2 * (M : Int) := by rw [ho a _ (by omega), bsetI_at]
        unfold ublk
        rw [hho a (1504 + 38 * n) (by omega), hho a (1504 + 38 * n + 2) (by omega), hho a (1504 + 38 * n + 3) (by omega), v0, v2, v3, v5]
        refine ⟨by omega, by omega, by omega, fun z => ⟨by omega, by omega, by omega, fun r hr' => ?_⟩⟩
        by_cases e1 : r < 2 * M
        · exact hr r e1
        · rw [ho a _ (by omega), bsetI_ne (by omega), show 1504 + 38 * n + 6 + r = 1504 + 38 * n + (6 + r) by omega, v4 _ (by omega) (by omega)]
          exact ⟨by omega, by omega⟩
      · rw [hho b i (by omega)]
        exact se_out (by omega)
theorem ne_fun (m a : Nat) : bOk ey269 3 4 0 0 (fun _ avs τ h => avs = [.ref m] ∧ 1 ≤ h.1 a 0 ∧ h.1 a 0 ≤ 32 ∧ τ.1 m = 12 ∧ h.2 m 14 = some a ∧ τ.1 a = 41 ∧ τ.2 a = 3266) (fun _ avs τ h v τ' h' => τ' = τ ∧ h' = bsetI h m 0 0 ∧ ∃ z, brg z ∧ v = some (.int (bz z))) := by
  refine bOk_of emp269.1.2.2.2.2.2.1 ?_ ?_
  · rintro ι avs τ h ⟨rfl, -⟩
    exact Nat.le_of_ble_eq_true rfl
  · intro γ ι τ h avs d hd hp Bg C
    obtain ⟨rfl, l0, u0, hm, ha, hta, hla⟩ := hp
    have hn : γ.2.2.1 = 3 := Bg.2.1
    obtain ⟨d, rfl⟩ : ∃ d', d = d' + 1 := ⟨d - 1, by omega⟩
    obtain ⟨H, eH⟩ : ∃ H, H = bsetI h m 0 0 := ⟨_, rfl⟩
    have hb : H.2 m 14 = some a := by rw [eH]; exact ha
    have c0 : 1 ≤ H.1 a 0 ∧ H.1 a 0 ≤ 32 := by
      rw [eH, bsetI_no (fun e => by rw [e] at hta; omega)]
      exact ⟨l0, u0⟩
    have loop : ∀ (r k : Nat) (n : Int), 240 ≤ k + r → k ≤ 240 → (k < 240 → mkz (H.1 a) 2 k) → bJ γ 27 [some (.ref m), some (.int (bz n)), some (.int (bz (k : Int)))] [] τ H 0 0 := by
      intro r
      induction r with
      | zero =>
        intro k n hk hk2 hmk
        refine b_iload_n C (dk_at ec269 (i := 18) rfl).1 rfl ?_
        refine b_sipush C (dk_at ec269 (i := 19) rfl).1 ⟨by omega, by omega⟩ ?_
        refine b_icmp_ge (t := 79) C (dk_at ec269 (i := 20) rfl).1 (by decide) ⟨by omega, by omega⟩ ⟨by omega, by omega⟩ (fun z31 => ?_) (fun z31 => ?_)
        · refine b_iload_n C (dk_at ec269 (i := 54) rfl).1 rfl ?_
          refine b_any (fun u hu => ?_)
          exact b_iret C Bg (dk_at ec269 (i := 55) rfl).1 (Or.inl rfl) (Nat.le_refl _) (Nat.le_refl _) ⟨rfl, eH, u, hu, rfl⟩
        · omega
      | succ r ih =>
        intro k n hk hk2 hmk
        refine b_iload_n C (dk_at ec269 (i := 18) rfl).1 rfl ?_
        refine b_sipush C (dk_at ec269 (i := 19) rfl).1 ⟨by omega, by omega⟩ ?_
        refine b_icmp_ge (t := 79) C (dk_at ec269 (i := 20) rfl).1 (by decide) ⟨by omega, by omega⟩ ⟨by omega, by omega⟩ (fun z31 => ?_) (fun z31 => ?_)
        · refine b_iload_n C (dk_at ec269 (i := 54) rfl).1 rfl ?_
          refine b_any (fun u hu => ?_)
          exact b_iret C Bg (dk_at ec269 (i := 55) rfl).1 (Or.inl rfl) (Nat.le_refl _) (Nat.le_refl _) ⟨rfl, eH, u, hu, rfl⟩
        · refine b_iload_n C (dk_at ec269 (i := 21) rfl).1 rfl ?_
          refine b_al0 C (dk_at ec269 (i := 22) rfl).1 rfl ?_
          refine b_iconst C (dk_at ec269 (i := 23) rfl).1 ?_
          refine b_iload_n C (dk_at ec269 (i := 24) rfl).1 rfl ?_
          refine b_iconst C (dk_at ec269 (i := 25) rfl).1 ?_
          refine b_inv (As := [.int (bz 2), .int (bz (k : Int)), .int (bz 0)]) (rest := [.int (bz n)]) C Bg.x (dk_at ec269 (i := 26) rfl) (by decide) rfl (nm_fun m a k 2 0) (by omega) rfl hm ⟨rfl, by omega, ⟨by omega, by omega⟩, by omega, hm, hb, hta, hla⟩ (Nat.le_of_ble_eq_true rfl) (Nat.le_refl _) (Nat.le_refl _) ?_
          rintro v τ' h' ⟨rfl, rfl, i, rfl, i1, i2, i3⟩
          refine b_iload_n C (dk_at ec269 (i := 27) rfl).1 rfl ?_
          refine b_isub C (dk_at ec269 (i := 28) rfl).1 ?_
          refine b_al0 C (dk_at ec269 (i := 29) rfl).1 rfl ?_
          refine b_gR C (dk_at ec269 (i := 30) rfl) hm hb ?_
          refine b_iconst C (dk_at ec269 (i := 31) rfl).1 ?_
          refine b_rd (j := 0) C (dk_at ec269 (i := 32) rfl).1 hta (by omega) (by omega) (fun _ => ?_)
          refine b_iadd C (dk_at ec269 (i := 33) rfl).1 ?_
          refine b_iconst C (dk_at ec269 (i := 34) rfl).1 ?_
          refine b_isub C (dk_at ec269 (i := 35) rfl).1 ?_
          refine b_al0 C (dk_at ec269 (i := 36) rfl).1 rfl ?_
          refine b_gR C (dk_at ec269 (i := 37) rfl) hm hb ?_
          refine b_iconst C (dk_at ec269 (i := 38) rfl).1 ?_
          refine b_rd (j := 0) C (dk_at ec269 (i := 39) rfl).1 hta (by omega) (by omega) (fun _ => ?_)
          refine b_idiv C (dk_at ec269 (i := 40) rfl).1 ⟨by omega, by omega⟩ ⟨by omega, by omega⟩ (by omega) (fun q _ => ?_)
          refine b_iadd C (dk_at ec269 (i := 41) rfl).1 ?_
          refine b_istore_n C (dk_at ec269 (i := 42) rfl).1 (by rw [hn]; decide) (bno2_of (fun w hw _ => by cases hw; exact (show (1 : Nat) ≠ 2 by decide))) ?_
          refine b_al0 C (dk_at ec269 (i := 43) rfl).1 rfl ?_
          refine b_iconst C (dk_at ec269 (i := 44) rfl).1 ?_
          refine b_al0 C (dk_at ec269 (i := 45) rfl).1 rfl ?_
          refine b_iconst C (dk_at ec269 (i := 46) rfl).1 ?_
          refine b_iload_n C (dk_at ec269 (i := 47) rfl).1 rfl ?_
          refine b_iconst C (dk_at ec269 (i := 48) rfl).1 ?_
          refine b_inv (As := [.int (bz 2), .int (bz (k : Int)), .int (bz 0)]) (rest := [.int (bz 2), .ref m]) C Bg.x (dk_at ec269 (i := 49) rfl) (by decide) rfl (nm_fun m a k 2 0) (by omega) rfl hm ⟨rfl, by omega, ⟨by omega, by omega⟩, by omega, hm, hb, hta, hla⟩ (Nat.le_of_ble_eq_true rfl) (Nat.le_refl _) (Nat.le_refl _) ?_
          rintro v τ' h' ⟨rfl, rfl, j, rfl, j1, j2, j3⟩
          refine b_iconst C (dk_at ec269 (i := 50) rfl).1 ?_
          refine b_inv (As := [.int (bz 2), .int (bz (j : Int)), .int (bz 1)]) (rest := []) C Bg.x (dk_at ec269 (i := 51) rfl) (by decide) rfl (nm_fun m a j 2 1) (by omega) rfl hm ⟨rfl, by omega, ⟨by omega, by omega⟩, by omega, hm, hb, hta, hla⟩ (Nat.le_of_ble_eq_true rfl) (Nat.le_refl _) (Nat.le_refl _) ?_
          rintro v τ' h' ⟨rfl, rfl, k2, rfl, k2l, k2u, k3⟩
          refine b_istore_n C (dk_at ec269 (i := 52) rfl).1 (by rw [hn]; decide) (bno2_of (fun w hw _ => by cases hw; exact (show (1 : Nat) ≠ 2 by decide))) ?_
          refine b_goto (t := 27) C (dk_at ec269 (i := 53) rfl).1 (by decide) ?_
          have hjk : k < j := by
            refine Classical.byContradiction fun e => ?_
            obtain rfl : j = k := by omega
            exact mk_no (j3 (by omega)) (hmk (by omega))
          exact ih k2 _ (by omega) k2u (fun z => mk_yes (k3 z))
    refine b_al0 C (dk_at ec269 (i := 0) rfl).1 rfl ?_
    refine b_iconst C (dk_at ec269 (i := 1) rfl).1 ?_
    refine b_pI C (dk_at ec269 (i := 2) rfl) ⟨by omega, by omega⟩ hm ?_
    rw [← eH]
    refine b_al0 C (dk_at ec269 (i := 3) rfl).1 rfl ?_
    refine b_gR C (dk_at ec269 (i := 4) rfl) hm hb ?_
    refine b_bipush C (dk_at ec269 (i := 5) rfl).1 ⟨by omega, by omega⟩ ?_
    refine b_rd (j := 30) C (dk_at ec269 (i := 6) rfl).1 hta (by omega) (by omega) (fun hv => ?_)
    refine b_if_ne (t := 17) C (dk_at ec269 (i := 7) rfl).1 (by decide) hv (fun z12 => ?_) (fun z12 => ?_)
    · refine b_iconst C (dk_at ec269 (i := 10) rfl).1 ?_
      refine b_istore_n C (dk_at ec269 (i := 11) rfl).1 (by rw [hn]; decide) (bno2_of (fun w hw _ => by cases hw; exact (show (1 : Nat) ≠ 2 by decide))) ?_
      refine b_al0 C (dk_at ec269 (i := 12) rfl).1 rfl ?_
      refine b_iconst C (dk_at ec269 (i := 13) rfl).1 ?_
      refine b_iconst C (dk_at ec269 (i := 14) rfl).1 ?_
      refine b_iconst C (dk_at ec269 (i := 15) rfl).1 ?_
      refine b_inv (As := [.int (bz 2), .int (bz ((0 : Nat) : Int)), .int (bz 1)]) (rest := []) C Bg.x (dk_at ec269 (i := 16) rfl) (by decide) rfl (nm_fun m a 0 2 1) (by omega) rfl hm ⟨rfl, by omega, ⟨by omega, by omega⟩, by omega, hm, hb, hta, hla⟩ (Nat.le_of_ble_eq_true rfl) (Nat.le_refl _) (Nat.le_refl _) ?_
      rintro v τ' h' ⟨rfl, rfl, k2, rfl, k2l, k2u, k3⟩
      refine b_istore_n C (dk_at ec269 (i := 17) rfl).1 (by rw [hn]; decide) (bno2_of (fun w hw _ => by cases hw; exact (show (1 : Nat) ≠ 2 by decide))) ?_
      exact loop 240 k2 0 (by omega) k2u (fun z => mk_yes (k3 z))
    · refine b_iconst C (dk_at ec269 (i := 8) rfl).1 ?_
      refine b_any (fun u hu => ?_)
      exact b_iret C Bg (dk_at ec269 (i := 9) rfl).1 (Or.inl rfl) (Nat.le_refl _) (Nat.le_refl _) ⟨rfl, eH, u, hu, rfl⟩
theorem now_0 {g : Nat → Nat} {τ : bt} {h : bh} {a : Nat} (hw : cWT cT0 g τ h) (ga : g a = 61) : 1 ≤ h.1 a 0 ∧ h.1 a 0 ≤ 32 := by
  have := (o_now hw ga).1 0 (by rfl)
  exact this
theorem thr_wt {g : Nat → Nat} {τ : bt} {h : bh} {m : Nat} (hw : cWT cT0 g τ h) (gm : g m = 12) : cWT cT0 g τ (bsetI h m 0 0) := by
  refine cWT.fld hw (by rw [gm]; exact cR12) (by decide) (by omega) (by omega) (fun z => ?_)
  exact absurd (show (cseg (cSg 12) 0).1 = 0 from z) (by decide +kernel)
theorem thr_hi {E : cEf} {g : Nat → Nat} {τ : bt} {h : bh} {m : Nat} (tm : τ.1 m = 12) (he : cefR E 12 0 0 = true) : cHi E g τ h g τ (bsetI h m 0 0) := cHi_upd (a := m) (l := 0) (u := 0) rfl (fun b i hb => if_neg (by omega)) (by rw [tm]; exact he)
theorem eox22 : cOk cT0 ey269 3 5 0 0 enx22 := by
  refine (cOk_of (bOk_ex (fun p : Nat × Nat => ne_fun p.1 p.2)) ?_ ?_).mono (by decide)
  · intro ι avs τ h g ρ σ hp
    obtain ⟨m, xs, rfl, -, m2, m3, hxs⟩ := m_this hp rfl rfl
    obtain ⟨a, a1, a2, a3, a4⟩ := m_now hp.1 m3
    have b0 := now_0 hp.1 a2
    cases xs with
    | cons => exact hxs.elim
    | nil => exact ⟨(m, a), rfl, b0.1, b0.2, m2, a1, a3, a4⟩
  · rintro ι avs τ h g ρ σ v τ' h' hp ⟨⟨m, a⟩, ⟨rfl, -, -, hm, -⟩, rfl, rfl, z, hz, rfl⟩
    obtain ⟨m', xs, e, -, -, m3, -⟩ := m_this hp rfl rfl
    cases e
    exact cPst_any hp rfl rfl hz (thr_wt hp.1 m3) (thr_hi hm rfl)
theorem iu_fun (m a : Nat) (x : Int) : bOk ey215 2 2 0 0 (fun _ avs τ h => avs = [.ref m, .int (bz x)] ∧ brg x ∧ 0 ≤ h.1 a 45 ∧ h.1 a 45 ≤ 40 ∧ τ.1 m = 12 ∧ h.2 m 14 = some a ∧ τ.1 a = 41 ∧ τ.2 a = 3266) (fun _ avs τ h v τ' h' => τ = τ' ∧ h = h' ∧ ∃ r : Int, v = some (.int (bz r)) ∧ ((r = 1 ∧ 0 ≤ x ∧ x ≤ h.1 a 45 - 1) ∨ (r = 0 ∧ ¬ (0 ≤ x ∧ x ≤ h.1 a 45 - 1)))) := by
  refine bOk_of emp215.1.2.2.2.2.2.1 ?_ ?_
  · rintro ι avs τ h ⟨rfl, -⟩
    exact Nat.le_of_ble_eq_true rfl
  · intro γ ι τ h avs d hd hp Bg C
    obtain ⟨rfl, hx, l45, u45, hm, ha, hta, hla⟩ := hp
    have hn : γ.2.2.1 = 2 := Bg.2.1
    obtain ⟨d, rfl⟩ : ∃ d', d = d' + 1 := ⟨d - 1, by omega⟩
    refine b_iload_n C (dk_at ec215 (i := 0) rfl).1 rfl ?_
    refine b_iconst C (dk_at ec215 (i := 1) rfl).1 ?_
    refine b_al0 C (dk_at ec215 (i := 2) rfl).1 rfl ?_
    refine b_gR C (dk_at ec215 (i := 3) rfl) hm ha ?_
    refine b_bipush C (dk_at ec215 (i := 4) rfl).1 ⟨by omega, by omega⟩ ?_
    refine b_rd (j := 45) C (dk_at ec215 (i := 5) rfl).1 hta (by omega) (by omega) (fun _ => ?_)
    refine b_iconst C (dk_at ec215 (i := 6) rfl).1 ?_
    refine b_isub C (dk_at ec215 (i := 7) rfl).1 ?_
    refine b_ins (As := [.int (bz x), .int (bz 0), .int (bz (h.1 a 45 - 1))]) (rest := []) C Bg.x (dk_at ec215 (i := 8) rfl) (by decide) rfl (is_fun x 0 (h.1 a 45 - 1)) (by omega) rfl ⟨rfl, hx, ⟨by omega, by omega⟩, ⟨by omega, by omega⟩⟩ (Nat.le_of_ble_eq_true rfl) (Nat.le_refl _) (Nat.le_refl _) ?_
    rintro v τ' h' ⟨rfl, rfl, r, rfl, hr⟩
    exact b_iret C Bg (dk_at ec215 (i := 9) rfl).1 (Or.inr ⟨rfl, by omega⟩) (Nat.le_refl _) (Nat.le_refl _) ⟨rfl, rfl, r, rfl, hr⟩
theorem sa_fun (m a : Nat) (x0 x1 x2 : Int) : bOk ey262 4 3 0 0 (fun _ avs τ h => avs = [.ref m, .int (bz x0), .int (bz x1), .int (bz x2)] ∧ brg x0 ∧ brg x1 ∧ brg x2 ∧ (∀ u : Nat, u < 40 → ublk (h.1 a) (1504 + 38 * u)) ∧ 0 ≤ h.1 a 45 ∧ h.1 a 45 ≤ 40 ∧ τ.1 m = 12 ∧ h.2 m 14 = some a ∧ τ.1 a = 41 ∧ τ.2 a = 3266) (fun _ avs τ h v τ' h' => τ' = τ ∧ h' = bsetI h m 0 0 ∧ ∃ z, brg z ∧ v = some (.int (bz z))) := by
  refine bOk_of emp262.1.2.2.2.2.2.1 ?_ ?_
  · rintro ι avs τ h ⟨rfl, -⟩
    exact Nat.le_of_ble_eq_true rfl
  · intro γ ι τ h avs d hd hp Bg C
    obtain ⟨rfl, hx0, hx1, hx2, hU, l45, u45, hm, ha, hta, hla⟩ := hp
    have hn : γ.2.2.1 = 4 := Bg.2.1
    obtain ⟨d, rfl⟩ : ∃ d', d = d' + 1 := ⟨d - 1, by omega⟩
    obtain ⟨H, eH⟩ : ∃ H, H = bsetI h m 0 0 := ⟨_, rfl⟩
    have hb : H.2 m 14 = some a := by rw [eH]; exact ha
    have eq : ∀ i, H.1 a i = h.1 a i := by
      intro i
      rw [eH, bsetI_no (fun e => by rw [e] at hta; omega)]
    rw [← eq] at l45 u45
    have hU : ∀ u : Nat, u < 40 → ublk (H.1 a) (1504 + 38 * u) := fun u hu => ublk_eq (fun i _ _ => eq i) (hU u hu)
    refine b_al0 C (dk_at ec262 (i := 0) rfl).1 rfl ?_
    refine b_iconst C (dk_at ec262 (i := 1) rfl).1 ?_
    refine b_pI C (dk_at ec262 (i := 2) rfl) ⟨by omega, by omega⟩ hm ?_
    rw [← eH]
    refine b_al0 C (dk_at ec262 (i := 3) rfl).1 rfl ?_
    refine b_iload_n C (dk_at ec262 (i := 4) rfl).1 rfl ?_
    refine b_inv (As := [.int (bz x0)]) (rest := []) C Bg.x (dk_at ec262 (i := 5) rfl) (by decide) rfl (iu_fun m a x0) (by omega) rfl hm ⟨rfl, hx0, l45, u45, hm, hb, hta, hla⟩ (Nat.le_of_ble_eq_true rfl) (Nat.le_refl _) (Nat.le_refl _) ?_
    rintro v τ' h' ⟨rfl, rfl, r, rfl, hr⟩
    refine b_if_eq (t := 58) C (dk_at ec262 (i := 6) rfl).1 (by decide) ⟨by omega, by omega⟩ (fun z10 => ?_) (fun z10 => ?_)
    · refine b_iconst C (dk_at ec262 (i := 34) rfl).1 ?_
      refine b_any (fun u hu => ?_)
      exact b_iret C Bg (dk_at ec262 (i := 35) rfl).1 (Or.inl rfl) (Nat.le_refl _) (Nat.le_refl _) ⟨rfl, eH, u, hu, rfl⟩
    · refine b_al0 C (dk_at ec262 (i := 7) rfl).1 rfl ?_
      refine b_gR C (dk_at ec262 (i := 8) rfl) hm hb ?_
      refine b_al0 C (dk_at ec262 (i := 9) rfl).1 rfl ?_
      refine b_iload_n C (dk_at ec262 (i := 10) rfl).1 rfl ?_
      obtain ⟨u, eu⟩ : ∃ u : Nat, (u : Int) = x0 := ⟨x0.toNat, by omega⟩
      have hu := hU u (by omega)
      refine b_inv (As := [.int (bz x0)]) (rest := [.ref a]) C Bg.x (dk_at ec262 (i := 11) rfl) (by decide) rfl (un_f2 x0) (by omega) rfl hm ⟨m, rfl⟩ (Nat.le_of_ble_eq_true rfl) (Nat.le_refl _) (Nat.le_refl _) ?_
      rintro v τ' h' ⟨rfl, rfl, rfl⟩
      refine b_rd (j := 1504 + 38 * u) C (dk_at ec262 (i := 12) rfl).1 hta (by omega) (by omega) (fun hv => ?_)
      refine b_iconst C (dk_at ec262 (i := 13) rfl).1 ?_
      refine b_icmp_ne (t := 58) C (dk_at ec262 (i := 14) rfl).1 (by decide) hv ⟨by omega, by omega⟩ (fun z24 => ?_) (fun z24 => ?_)
      · refine b_iconst C (dk_at ec262 (i := 34) rfl).1 ?_
        refine b_any (fun u hu => ?_)
        exact b_iret C Bg (dk_at ec262 (i := 35) rfl).1 (Or.inl rfl) (Nat.le_refl _) (Nat.le_refl _) ⟨rfl, eH, u, hu, rfl⟩
      · refine b_iload_n C (dk_at ec262 (i := 15) rfl).1 rfl ?_
        refine b_iconst C (dk_at ec262 (i := 16) rfl).1 ?_
        refine b_al0 C (dk_at ec262 (i := 17) rfl).1 rfl ?_
        refine b_gR C (dk_at ec262 (i := 18) rfl) hm hb ?_
        refine b_al0 C (dk_at ec262 (i := 19) rfl).1 rfl ?_
        refine b_iload_n C (dk_at ec262 (i := 20) rfl).1 rfl ?_
        refine b_inv (As := [.int (bz x0)]) (rest := [.ref a, .int (bz 0), .int (bz x1)]) C Bg.x (dk_at ec262 (i := 21) rfl) (by decide) rfl (un_f2 x0) (by omega) rfl hm ⟨m, rfl⟩ (Nat.le_of_ble_eq_true rfl) (Nat.le_refl _) (Nat.le_refl _) ?_
        rintro v τ' h' ⟨rfl, rfl, rfl⟩
        refine b_iconst C (dk_at ec262 (i := 22) rfl).1 ?_
        refine b_iadd C (dk_at ec262 (i := 23) rfl).1 ?_
        refine b_rd (j := 1504 + 38 * u + 2) C (dk_at ec262 (i := 24) rfl).1 hta (by omega) (by omega) (fun hv2 => ?_)
        refine b_iconst C (dk_at ec262 (i := 25) rfl).1 ?_
        refine b_isub C (dk_at ec262 (i := 26) rfl).1 ?_
        have k8 := (hu.2.2.2 z24).1
        refine b_ins (As := [.int (bz x1), .int (bz 0), .int (bz (H.1 a (1504 + 38 * u + 2) - 1))]) (rest := []) C Bg.x (dk_at ec262 (i := 27) rfl) (by decide) rfl (is_fun x1 0 (H.1 a (1504 + 38 * u + 2) - 1)) (by omega) rfl ⟨rfl, hx1, ⟨by omega, by omega⟩, by have := hu.2.1.1; exact ⟨by omega, by omega⟩⟩ (Nat.le_of_ble_eq_true rfl) (Nat.le_refl _) (Nat.le_refl _) ?_
        rintro v τ' h' ⟨rfl, rfl, q, rfl, hq⟩
        refine b_if_eq (t := 58) C (dk_at ec262 (i := 28) rfl).1 (by decide) ⟨by omega, by omega⟩ (fun z46 => ?_) (fun z46 => ?_)
        · refine b_iconst C (dk_at ec262 (i := 34) rfl).1 ?_
          refine b_any (fun u hu => ?_)
          exact b_iret C Bg (dk_at ec262 (i := 35) rfl).1 (Or.inl rfl) (Nat.le_refl _) (Nat.le_refl _) ⟨rfl, eH, u, hu, rfl⟩
        · refine b_iload_n C (dk_at ec262 (i := 29) rfl).1 rfl ?_
          refine b_iconst C (dk_at ec262 (i := 30) rfl).1 ?_
          refine b_iconst C (dk_at ec262 (i := 31) rfl).1 ?_
          refine b_ins (As := [.int (bz x2), .int (bz 0), .int (bz 1)]) (rest := []) C Bg.x (dk_at ec262 (i := 32) rfl) (by decide) rfl (is_fun x2 0 1) (by omega) rfl ⟨rfl, hx2, ⟨by omega, by omega⟩, ⟨by omega, by omega⟩⟩ (Nat.le_of_ble_eq_true rfl) (Nat.le_refl _) (Nat.le_refl _) ?_
          rintro v τ' h' ⟨rfl, rfl, s, rfl, hs⟩
          refine b_if_ne (t := 60) C (dk_at ec262 (i := 33) rfl).1 (by decide) ⟨by omega, by omega⟩ (fun z55 => ?_) (fun z55 => ?_)
          · refine b_al0 C (dk_at ec262 (i := 36) rfl).1 rfl ?_
            refine b_gR C (dk_at ec262 (i := 37) rfl) hm hb ?_
            refine b_al0 C (dk_at ec262 (i := 38) rfl).1 rfl ?_
            refine b_iload_n C (dk_at ec262 (i := 39) rfl).1 rfl ?_
            refine b_inv (As := [.int (bz x0)]) (rest := [.ref a]) C Bg.x (dk_at ec262 (i := 40) rfl) (by decide) rfl (un_f2 x0) (by omega) rfl hm ⟨m, rfl⟩ (Nat.le_of_ble_eq_true rfl) (Nat.le_refl _) (Nat.le_refl _) ?_
            rintro v τ' h' ⟨rfl, rfl, rfl⟩
            refine b_bipush C (dk_at ec262 (i := 41) rfl).1 ⟨by omega, by omega⟩ ?_
            refine b_iadd C (dk_at ec262 (i := 42) rfl).1 ?_
            refine b_iconst C (dk_at ec262 (i := 43) rfl).1 ?_
            refine b_iload_n C (dk_at ec262 (i := 44) rfl).1 rfl ?_
            refine b_imul C (dk_at ec262 (i := 45) rfl).1 ?_
            refine b_iadd C (dk_at ec262 (i := 46) rfl).1 ?_
            refine b_iload_n C (dk_at ec262 (i := 47) rfl).1 rfl ?_
            refine b_iadd C (dk_at ec262 (i := 48) rfl).1 ?_
            refine b_rd (j := 1504 + 38 * u + (6 + 2 * x1.toNat + x2.toNat)) C (dk_at ec262 (i := 49) rfl).1 hta (by omega) (by omega) (fun _ => ?_)
            refine b_any (fun u hu => ?_)
            exact b_iret C Bg (dk_at ec262 (i := 50) rfl).1 (Or.inl rfl) (Nat.le_refl _) (Nat.le_refl _) ⟨rfl, eH, u, hu, rfl⟩
          · refine b_iconst C (dk_at ec262 (i := 34) rfl).1 ?_
            refine b_any (fun u hu => ?_)
            exact b_iret C Bg (dk_at ec262 (i := 35) rfl).1 (Or.inl rfl) (Nat.le_refl _) (Nat.le_refl _) ⟨rfl, eH, u, hu, rfl⟩
theorem eox21 : cOk cT0 ey262 4 5 0 0 enx21 := by
  refine (cOk_ofp (fun ρ => bOk_ex (fun p : Nat × Nat => sa_fun p.1 p.2 (ρ 0) (ρ 1) (ρ 2))) ?_ ?_).mono (by decide)
  · intro ι avs τ h g ρ σ hp
    obtain ⟨m, xs, rfl, -, m2, m3, hxs⟩ := m_this hp rfl rfl
    obtain ⟨a, a1, a2, a3, a4⟩ := m_now hp.1 m3
    have b45 := now_45 hp.1 a2
    exact ⟨(m, a), by rw [c2_i3 hxs], hp.2.2.1 0, hp.2.2.1 1, hp.2.2.1 2, (o_now hp.1 a2).2.1.1 (Or.inr rfl), b45.1, b45.2, m2, a1, a3, a4⟩
  · rintro ι avs τ h g ρ σ v τ' h' hp ⟨⟨m, a⟩, ⟨rfl, -, -, -, -, -, -, hm, -⟩, rfl, rfl, z, hz, rfl⟩
    obtain ⟨m', xs, e, -, -, m3, -⟩ := m_this hp rfl rfl
    cases e
    exact cPst_any hp rfl rfl hz (thr_wt hp.1 m3) (thr_hi hm rfl)
