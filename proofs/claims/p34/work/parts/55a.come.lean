/-! ===== allCome: units that come ===== -/
theorem b_gh {γ : bG} {pc : Nat} {lo : List (Option Value)} {st : List Value} {τ : bt} {h : bh} {nc ns a j : Nat} {z : Int} (ht : τ.1 a = 41) (hj : τ.2 a ≤ j) (k : bJ γ pc lo st τ (bsetI h a j z) nc ns) : bJ γ pc lo st τ h nc ns := by
  intro ws ls H locs hM
  refine k ws ls H locs ⟨hM.1, hM.2.1, hM.2.2.1, fun b hb => ?_, hM.2.2.2.2⟩
  have h3 := hM.2.2.2.1
  by_cases e : b = a
  · subst e
    rcases h3 b hb with ⟨k1, -⟩ | ⟨k1, k, f, k2, k3, k4, k5⟩ | ⟨⟨-, k1⟩, -⟩ | ⟨⟨-, k1⟩, -⟩ | ⟨k1, -⟩ | ⟨k1, -⟩ | ⟨k1, -⟩
    · omega
    · refine Or.inr (Or.inl ⟨k1, k, f, k2, k3, k4, fun i hi => ?_⟩)
      rw [k5 i hi]
      show _ = if b = b ∧ i = j then z else h.1 b i
      rw [if_neg (by omega)]
    · omega
    · omega
    · omega
    · omega
    · omega
  · exact (h3 b hb).other (fun i => if_neg (by omega)) (fun i => rfl) (fun k e he => he)
section COME
variable {g : Nat → Nat} {τ : bt} {h : bh} {a m c : Nat}
theorem m_came (hw : cWT cT0 g τ h) (gm : g m = 12) : ∃ s, h.2 m 26 = some s ∧ g s = 70 ∧ τ.1 s = 41 ∧ τ.2 s = 38 := by
  obtain ⟨a, a1, a2, -, a4, a5, a6⟩ := m_arr hw (k := 26) (r := 70) gm (by decide) rfl cR70
  have a5 : (38 : Int) ≤ τ.2 a := a5
  have a6 : (τ.2 a : Int) ≤ 38 := a6
  exact ⟨a, a1, a2, a4, by omega⟩
theorem g70 : (∀ q ∈ cSg 70, q.2.1 = 3 → q.2.2.1 = 3 ∧ q.2.2.2.1.toNat = 0) ∧ csn (cSg 70) 3 0 38 = true ∧ ∀ q ∈ cSg 70, q.1 ≤ 38 := by decide +kernel
theorem cm_wt {b : Nat} (hw : cWT cT0 g τ h) (gc : g c = 70) (hu : ublk (h.1 a) b) : cWT cT0 g τ (bcp h c 0 a b 38) := by
  refine cWT.upd hw (a := c) (by rw [gc]; exact cR70) (by omega) (by omega) (by omega) rfl (fun b hb i => if_neg (fun e => hb e.1)) (fun i hi => ?_) (fun _ q hq q3 => ?_)
  · have hi : (cseg (cSg 70) i).1 = 0 := hi
    by_cases e : i < 38
    · have := csn_ok 38 g70.2.1 i (by omega) (by omega)
      omega
    · rw [cseg_far (u := 38) (by omega) _ g70.2.2] at hi
      cases hi
  · obtain ⟨e1, e2⟩ := g70.1 q hq q3
    rw [e1, e2]
    exact ⟨fun z => by omega, fun z => by omega, fun _ => ublk_sh (fun i hi => bcp_at hi) hu, fun z => by omega⟩
theorem gh_wt {z : Int} (hw : cWT cT0 g τ h) (ga : g a = 61) (hd : ∀ u : Nat, z ≤ u → (u : Int) < h.1 a 45 → u < 40 → h.1 a (1504 + 38 * u + 1) ≠ h.1 a 28) : cWT cT0 g τ (bsetI h a 5000 z) := by
  obtain ⟨o1, o2, o3⟩ := o_now hw ga
  refine w_now hw ga (l := 5000) (u := 5000) rfl (fun b i hb => if_neg (by omega)) (fun i i1 i2 hi => ?_) ⟨fun _ k hk => ublk_eq (fun i i1 i2 => bsetI_ne (by omega)) (o2.1 (Or.inr rfl) k hk), fun z => by omega, fun z => by omega, fun _ k u1 u2 u3 => ?_⟩ (creg_eq (fun i hi => bsetI_ne ?_) o3)
  · rw [cseg_far (u := 3266) (by omega) _ g61u] at hi
    cases hi
  · rw [bsetI_at] at u1
    rw [bsetI_ne (by omega)] at u2
    rw [bsetI_ne (by omega), bsetI_ne (by omega)]
    exact hd k u1 u2 u3
  · rcases hi with ⟨h1, ⟨-, h2⟩ | ⟨h2, -⟩ | ⟨h2, -⟩⟩ | ⟨h2, -⟩
    · omega
    · omega
    · omega
    · omega
end COME
theorem eox13 : cOk cT0 ey229 3 12 0 0 enx13 := by
  intro g0 ρ σ
  refine bOk_of emp229.1.2.2.2.2.2.1 ?_ ?_
  · rintro ι avs τ h hp
    obtain ⟨m, xs, rfl, -, m2, m3, hxs⟩ := m_this hp rfl rfl
    cases xs with
    | cons => exact hxs.elim
    | nil => exact Nat.le_of_ble_eq_true rfl
  · intro γ ι τ0 h0 avs d hd hp Bg C
    obtain ⟨m, xs, rfl, m1, m2, m3, hxs⟩ := m_this hp rfl rfl
    obtain rfl : xs = [] := by
      cases xs with
      | cons => exact hxs.elim
      | nil => rfl
    have hn : γ.2.2.1 = 3 := Bg.2.1
    have hι : γ.1 = ι := Bg.1
    obtain ⟨d, rfl⟩ : ∃ d', d = d' + 1 := ⟨d - 1, by omega⟩
    obtain ⟨a, a1, ga0, ta0, la0⟩ := m_now hp.1 m3
    have fin : ∀ (g : Nat → Nat) (τ : bt) (h : bh), cWT cT0 g τ h → cKt γ.1 g → cHi enx13.2.2 g0 τ0 h0 g τ h → crf ρ σ g τ (0, 12, 12, false, (0, [])) → h.2 m 14 = some a → ∀ lo, bJ γ 85 lo [] τ h 0 0 := by
      intro g τ h hw hk hH hc ha lo
      have gm : g m = 12 := by
        rcases hc with ⟨e, -⟩ | ⟨m', e1, -, -, e3, -⟩
        · cases e
        · have e1 : σ 0 = some m' := e1
          rw [m1] at e1
          cases e1
          exact e3
      obtain ⟨a', a1', ga, hta, hla⟩ := m_now hw gm
      rw [ha] at a1'
      cases a1'
      refine b_gh (a := a) (j := 5000) (z := 40) hta (by omega) ?_
      refine b_vret C Bg (dk_at ec229 (i := 48) rfl).1 rfl (Nat.le_refl _) (Nat.le_refl _) ⟨g, ρ, cup σ 1 (some a), gh_wt hw ga (fun u u1 _ u3 => by omega), hι ▸ hk, cHi.trans (by decide +kernel) hH (cHi_upd (E := enx13.2.2) (a := a) (l := 5000) (u := 5000) rfl (fun b i hb => if_neg (by omega)) (by rw [hta]; decide +kernel)), ⟨hp.2.2.1, fun s hs => absurd hs (Nat.not_lt_zero _), fun s hs => cup_ne (by have hs : s < 1 := hs; omega)⟩, ⟨⟨hp.2.2.1, fun q hq => absurd hq List.not_mem_nil⟩, fun q hq => absurd hq List.not_mem_nil, fun q hq => ?_, fun q hq => ?_⟩, trivial⟩
      · obtain rfl := List.mem_singleton.mp hq
        refine Or.inr ⟨a, cup_at _ _ _, hta, by decide, ga, ?_⟩
        show (τ.2 a : Int) = 3266 + 0
        omega
      · rcases List.mem_cons.mp hq with rfl | hq
        · refine ⟨m, (cup_ne (by decide)).trans m1, fun w => absurd (show (1 : Nat) = 0 from w) (by decide), fun _ => ?_, fun w => absurd (show (1 : Nat) = 2 from w) (by decide)⟩
          show h.2 m 14 = cup σ 1 (some a) 1
          rw [cup_at, ha]
        · obtain rfl := List.mem_singleton.mp hq
          refine ⟨a, cup_at _ _ _, fun _ => ?_, fun w => absurd (show (0 : Nat) = 1 from w) (by decide), fun w => absurd (show (0 : Nat) = 2 from w) (by decide)⟩
          show (bsetI h a 5000 40).1 a 5000 = 40 + 0
          rw [bsetI_at]
          rfl
    have loop : ∀ (M k o : Nat) (x : Option Value) (g : Nat → Nat) (τ : bt) (h : bh), cWT cT0 g τ h → cKt γ.1 g → cHi enx13.2.2 g0 τ0 h0 g τ h → crf ρ σ g τ (0, 12, 12, false, (0, [])) → h.2 m 14 = some a → h.1 a 5000 = (o : Int) → o ≤ 40 → k ≤ 40 → (o - k) + (40 - k) ≤ M → bJ γ 2 [some (.ref m), some (.int (bz (k : Int))), x] [] τ h 0 0 := by
      intro M
      induction M using Nat.strongRecOn with
      | ind M ih =>
        intro k o x g τ h hw hk hH hc ha ho ho40 hk40 hM
        obtain ⟨tm, gm⟩ : τ.1 m = 12 ∧ g m = 12 := by
          rcases hc with ⟨e, -⟩ | ⟨m', e1, e2, -, e3, -⟩
          · cases e
          · have e1 : σ 0 = some m' := e1
            rw [m1] at e1
            cases e1
            exact ⟨e2, e3⟩
        obtain ⟨a', a1', ga, hta, hla⟩ := m_now hw gm
        rw [ha] at a1'
        cases a1'
        have b45 := now_45 hw ga
        obtain ⟨w1, w2, w3⟩ := o_now hw ga
        refine b_iload_n C (dk_at ec229 (i := 2) rfl).1 rfl ?_
        refine b_al0 C (dk_at ec229 (i := 3) rfl).1 rfl ?_
        refine b_gR C (dk_at ec229 (i := 4) rfl) tm ha ?_
        refine b_bipush C (dk_at ec229 (i := 5) rfl).1 ⟨by omega, by omega⟩ ?_
        refine b_rd (j := 45) C (dk_at ec229 (i := 6) rfl).1 hta (by omega) (by omega) (fun _ => ?_)
        refine b_icmp_ge (t := 85) C (dk_at ec229 (i := 7) rfl).1 (by decide) ⟨by omega, by omega⟩ ⟨by omega, by omega⟩ (fun z10 => ?_) (fun z10 => ?_)
        · exact fin g τ h hw hk hH hc ha _
        · refine b_al0 C (dk_at ec229 (i := 8) rfl).1 rfl ?_
          refine b_gR C (dk_at ec229 (i := 9) rfl) tm ha ?_
          refine b_al0 C (dk_at ec229 (i := 10) rfl).1 rfl ?_
          refine b_iload_n C (dk_at ec229 (i := 11) rfl).1 rfl ?_
          refine b_inv (As := [.int (bz (k : Int))]) (rest := [.ref a]) C Bg.x (dk_at ec229 (i := 12) rfl) (by decide) rfl (un_f2 (k : Int)) (by omega) rfl tm ⟨m, rfl⟩ (Nat.le_of_ble_eq_true rfl) (Nat.le_refl _) (Nat.le_refl _) ?_
          rintro v τ' h' ⟨rfl, rfl, rfl⟩
          refine b_iconst C (dk_at ec229 (i := 13) rfl).1 ?_
          refine b_iadd C (dk_at ec229 (i := 14) rfl).1 ?_
          refine b_rd (j := 1504 + 38 * k + 1) C (dk_at ec229 (i := 15) rfl).1 hta (by omega) (by omega) (fun hv1 => ?_)
          refine b_al0 C (dk_at ec229 (i := 16) rfl).1 rfl ?_
          refine b_gR C (dk_at ec229 (i := 17) rfl) tm ha ?_
          refine b_bipush C (dk_at ec229 (i := 18) rfl).1 ⟨by omega, by omega⟩ ?_
          refine b_rd (j := 28) C (dk_at ec229 (i := 19) rfl).1 hta (by omega) (by omega) (fun hv2 => ?_)
          refine b_icmp_eq (t := 41) C (dk_at ec229 (i := 20) rfl).1 (by decide) hv1 hv2 (fun z32 => ?_) (fun z32 => ?_)
          · have hko : k < o := Classical.byContradiction fun e => w2.2.2.2 rfl k (by omega) (by omega) (by omega) z32
            obtain ⟨c, c1, gc, tc, lc⟩ := m_came hw gm
            have hne : a ≠ c := fun e => by rw [e] at ga; omega
            obtain ⟨N, eN⟩ : ∃ N : Nat, (N : Int) + 1 = h.1 a 45 := ⟨(h.1 a 45 - 1).toNat, by omega⟩
            have hw1 : cWT cT0 g τ (bcp h c 0 a (1504 + 38 * k) 38) := cm_wt hw gc (w2.1 (Or.inr rfl) k (by omega))
            have eN1 : (N : Int) + 1 = (bcp h c 0 a (1504 + 38 * k) 38).1 a 45 := by rw [bcp_rd (Or.inl hne)]; exact eN
            have hw2 := dr_wt (u := k) (N := N) hw1 ga eN1 (by omega) (by omega)
            have cpv : ∀ i, (bcp h c 0 a (1504 + 38 * k) 38).1 a i = h.1 a i := fun i => bcp_rd (Or.inl hne)
            have hw3 : cWT cT0 g τ (bsetI (drH (bcp h c 0 a (1504 + 38 * k) 38) a k N) a 5000 ((o : Int) - 1)) := by
              refine gh_wt hw2 ga (fun u u1 u2 u3 => ?_)
              have v45 : (drH (bcp h c 0 a (1504 + 38 * k) 38) a k N).1 a 45 = (N : Int) := by
                rw [dr_val (by omega), if_neg (by omega), if_neg (by omega), if_pos ⟨rfl, rfl⟩]
              rw [v45] at u2
              rw [dr_val (by omega), if_neg (by omega), if_pos ⟨rfl, by omega, by omega⟩, dr_out (by omega) (by omega), cpv, cpv, show 1504 + 38 * u + 1 + 38 = 1504 + 38 * (u + 1) + 1 by omega]
              exact w2.2.2.2 rfl (u + 1) (by omega) (by omega) (by omega)
            have tail : bJ γ 73 [some (.ref m), some (.int (bz (k : Int))), some (.int (bz ((38 : Nat) : Int)))] [] τ (bcp h c 0 a (1504 + 38 * k) 38) 0 0 := by
              refine b_al0 C (dk_at ec229 (i := 42) rfl).1 rfl ?_
              refine b_iload_n C (dk_at ec229 (i := 43) rfl).1 rfl ?_
              refine b_inv (As := [.int (bz (k : Int))]) (rest := []) C Bg.x (dk_at ec229 (i := 44) rfl) (by decide) rfl (dr_fun k) (by omega) rfl tm ⟨m, a, N, rfl, tm, ha, hta, hla, eN1, by omega, by omega⟩ (Nat.le_of_ble_eq_true rfl) (Nat.le_refl _) (Nat.le_refl _) ?_
              rintro v τ' h' ⟨m', a', N', e1, e2, e3, rfl, eτ, rfl⟩
              replace eτ := eτ.symm
              subst eτ
              injection e1 with e1
              injection e1 with e1
              subst e1
              have e2 : h.2 m 14 = some a' := e2
              rw [ha] at e2
              cases e2
              obtain rfl : N' = N := by omega
              refine b_gh (a := a) (j := 5000) (z := (o : Int) - 1) hta (by omega) ?_
              refine b_al0 C (dk_at ec229 (i := 45) rfl).1 rfl ?_
              refine b_inv (As := []) (rest := []) C Bg.x (dk_at ec229 (i := 46) rfl) (by decide) rfl (eor58 g ρ σ) (by omega) rfl tm ⟨hw3, hk, hp.2.2.1, ⟨⟨hp.2.2.1, fun q hq => absurd hq List.not_mem_nil⟩, fun q hq => absurd hq List.not_mem_nil, fun q hq => by obtain rfl := List.mem_singleton.mp hq; exact hc, fun q hq => absurd hq List.not_mem_nil⟩, ⟨cv_P m1, trivial⟩⟩ (Nat.le_of_ble_eq_true rfl) (Nat.le_refl _) (Nat.le_refl _) ?_
              rintro v τ' h' ⟨g', ρ', σ', hw', hk', hH', -, -, hv⟩
              cases v with
              | some v => exact (show False from hv).elim
              | none =>
                refine b_goto (t := 2) C (dk_at ec229 (i := 47) rfl).1 (by decide) ?_
                have Hm := hH' m (by rw [tm]; decide)
                have Ha := hH' a (by rw [hta]; decide)
                have hH3 : cHi enx13.2.2 g τ h g τ (bsetI (drH (bcp h c 0 a (1504 + 38 * k) 38) a k N') a 5000 ((o : Int) - 1)) := by
                  intro b _
                  refine ⟨rfl, rfl, Or.inl rfl, fun i hi => ⟨?_, rfl⟩⟩
                  have no : ∀ x l u, τ.1 x = 41 → cefR enx13.2.2 41 l u = true → ¬ (b = x ∧ l ≤ i ∧ i ≤ u) := by
                    rintro x l u tx hc ⟨rfl, h1, h2⟩
                    rw [tx, cefR_ok hc h1 h2] at hi
                    cases hi
                  have n1 := no a 5000 5000 hta (by decide +kernel)
                  have n2 := no a 45 45 hta (by decide +kernel)
                  have n3 := no a 1504 3023 hta (by decide +kernel)
                  have n4 := no c 0 37 tc (by decide +kernel)
                  show (if b = a ∧ i = 5000 then (o : Int) - 1 else (drH (bcp h c 0 a (1504 + 38 * k) 38) a k N').1 b i) = _
                  rw [if_neg (by omega), dr_out (by omega) (by omega)]
                  exact if_neg (by omega)
                refine ih ((o - 1 - k) + (40 - k)) (by omega) k (o - 1) _ g' τ' h' hw' hk' (cHi.trans (E' := enr58.2.2) (by decide +kernel) (cHi.trans (E' := enx13.2.2) (by decide +kernel) hH hH3) hH') (Or.inr ⟨m, m1, by rw [Hm.1]; exact tm, by decide, ?_, ?_⟩) ?_ ?_ (by omega) (by omega) (Nat.le_refl _)
                · rcases Hm.2.2.1 with e | ⟨e, -⟩
                  · rw [e]; exact gm
                  · omega
                · rw [Hm.2.1]
                  rcases hc with ⟨e, -⟩ | ⟨m', e1, -, -, -, e4⟩
                  · cases e
                  · have e1 : σ 0 = some m' := e1
                    rw [m1] at e1
                    cases e1
                    exact e4
                · rw [(Hm.2.2.2 14 (by rw [tm]; decide +kernel)).2]
                  exact ha
                · rw [(Ha.2.2.2 5000 (by rw [hta]; decide +kernel)).1, bsetI_at]
                  omega
            have cp : ∀ r j : Nat, j + r = 38 → bJ γ 43 [some (.ref m), some (.int (bz (k : Int))), some (.int (bz (j : Int)))] [] τ (bcp h c 0 a (1504 + 38 * k) j) 0 0 := by
              intro r
              induction r with
              | zero =>
                intro j hj
                obtain rfl : j = 38 := by omega
                refine b_iload_n C (dk_at ec229 (i := 25) rfl).1 rfl ?_
                refine b_bipush C (dk_at ec229 (i := 26) rfl).1 ⟨by omega, by omega⟩ ?_
                refine b_icmp_ge (t := 73) C (dk_at ec229 (i := 27) rfl).1 (by decide) ⟨by omega, by omega⟩ ⟨by omega, by omega⟩ (fun z46 => ?_) (fun z46 => ?_)
                · exact tail
                · omega
              | succ r ih =>
                intro j hj
                refine b_iload_n C (dk_at ec229 (i := 25) rfl).1 rfl ?_
                refine b_bipush C (dk_at ec229 (i := 26) rfl).1 ⟨by omega, by omega⟩ ?_
                refine b_icmp_ge (t := 73) C (dk_at ec229 (i := 27) rfl).1 (by decide) ⟨by omega, by omega⟩ ⟨by omega, by omega⟩ (fun z46 => ?_) (fun z46 => ?_)
                · omega
                · refine b_al0 C (dk_at ec229 (i := 28) rfl).1 rfl ?_
                  refine b_gR C (dk_at ec229 (i := 29) rfl) tm c1 ?_
                  refine b_iload_n C (dk_at ec229 (i := 30) rfl).1 rfl ?_
                  refine b_al0 C (dk_at ec229 (i := 31) rfl).1 rfl ?_
                  refine b_gR C (dk_at ec229 (i := 32) rfl) tm ha ?_
                  refine b_al0 C (dk_at ec229 (i := 33) rfl).1 rfl ?_
                  refine b_iload_n C (dk_at ec229 (i := 34) rfl).1 rfl ?_
                  refine b_inv (As := [.int (bz (k : Int))]) (rest := [.ref a, .int (bz (j : Int)), .ref c]) C Bg.x (dk_at ec229 (i := 35) rfl) (by decide) rfl (un_f2 (k : Int)) (by omega) rfl tm ⟨m, rfl⟩ (Nat.le_of_ble_eq_true rfl) (Nat.le_refl _) (Nat.le_refl _) ?_
                  rintro v τ' h' ⟨rfl, rfl, rfl⟩
                  refine b_iload_n C (dk_at ec229 (i := 36) rfl).1 rfl ?_
                  refine b_iadd C (dk_at ec229 (i := 37) rfl).1 ?_
                  refine b_rd (j := 1504 + 38 * k + j) C (dk_at ec229 (i := 38) rfl).1 hta (by omega) (by omega) (fun hv => ?_)
                  refine b_wr (j := 0 + j) C (dk_at ec229 (i := 39) rfl).1 tc (by omega) (by omega) hv ?_
                  refine b_iinc (a := (j : Int)) C (dk_at ec229 (i := 40) rfl).1 (by rw [hn]; decide) rfl (bno2_of (fun w hw _ => by cases hw; exact (show (1 : Nat) ≠ 2 by decide))) ?_
                  refine b_goto (t := 43) C (dk_at ec229 (i := 41) rfl).1 (by decide) ?_
                  have := ih (j + 1) (by omega)
                  rw [show (((j + 1 : Nat) : Int)) = (j : Int) + 1 by omega, ← bcp_step (Or.inl hne)] at this
                  rw [bcp_rd (Or.inl hne)]
                  exact this
            refine b_iconst C (dk_at ec229 (i := 23) rfl).1 ?_
            refine b_istore_n C (dk_at ec229 (i := 24) rfl).1 (by rw [hn]; decide) (bno2_of (fun w hw _ => by cases hw; exact (show (1 : Nat) ≠ 2 by decide))) ?_
            have := cp 38 0 rfl
            rw [bcp_0] at this
            exact this
          · have := ih ((o - (k + 1)) + (40 - (k + 1))) (by omega) (k + 1) o x g τ h hw hk hH hc ha ho ho40 (by omega) (Nat.le_refl _)
            rw [show (((k + 1 : Nat) : Int)) = (k : Int) + 1 by omega] at this
            refine b_iinc (a := (k : Int)) C (dk_at ec229 (i := 21) rfl).1 (by rw [hn]; decide) rfl (bno2_of (fun w hw _ => by cases hw; exact (show (1 : Nat) ≠ 2 by decide))) ?_
            refine b_goto (t := 2) C (dk_at ec229 (i := 22) rfl).1 (by decide) ?_
            exact this
    refine b_iconst C (dk_at ec229 (i := 0) rfl).1 ?_
    refine b_istore_n C (dk_at ec229 (i := 1) rfl).1 (by rw [hn]; decide) (bno2_of (fun w hw _ => by cases hw; exact (show (1 : Nat) ≠ 2 by decide))) ?_
    refine b_gh (a := a) (j := 5000) (z := 40) ta0 (by omega) ?_
    exact loop 80 0 40 none g0 τ0 (bsetI h0 a 5000 40) (gh_wt hp.1 ga0 (fun u u1 _ u3 => by omega)) (hι.symm ▸ hp.2.1) (cHi_upd (E := enx13.2.2) (a := a) (l := 5000) (u := 5000) rfl (fun b i hb => if_neg (by omega)) (by rw [ta0]; decide +kernel)) (hp.2.2.2.1.2.2.1 _ List.mem_cons_self) a1 (bsetI_at _ _ _) (by omega) (by omega) (by omega)
