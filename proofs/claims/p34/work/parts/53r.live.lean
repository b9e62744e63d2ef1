/-! ===== live: late ===== -/
theorem l2_fun (u : Nat) (x2 : Int) : bOk ey250 6 3 0 0 (fun _ avs τ h => u < 40 ∧ ∃ m a, avs = [.ref m, .int (bz 2), .int (bz (u : Int)), .int (bz x2)] ∧ τ.1 m = 12 ∧ h.2 m 14 = some a ∧ τ.1 a = 41 ∧ τ.2 a = 3266) (fun _ avs τ h v τ' h' => ∃ m a w, avs = [.ref m, .int (bz 2), .int (bz (u : Int)), .int (bz x2)] ∧ h.2 m 14 = some a ∧ v = none ∧ τ' = τ ∧ h' = bsetI h a (1504 + 38 * u + 1) w) := by
  refine bOk_of emp250.1.2.2.2.2.2.1 ?_ ?_
  · rintro ι avs τ h ⟨-, m, a,  rfl, -⟩
    exact Nat.le_of_ble_eq_true rfl
  · intro γ ι τ h avs d hd hp Bg C
    obtain ⟨hu, m, a, rfl, hm, ha, hta, hla⟩ := hp
    have hn : γ.2.2.1 = 6 := Bg.2.1
    obtain ⟨d, rfl⟩ : ∃ d', d = d' + 1 := ⟨d - 1, by omega⟩
    refine b_al0 C (dk_at ec250 (i := 0) rfl).1 rfl ?_
    refine b_iload_n C (dk_at ec250 (i := 1) rfl).1 rfl ?_
    refine b_inv (As := [.int (bz (u : Int))]) (rest := []) C Bg.x (dk_at ec250 (i := 2) rfl) (by decide) rfl (un_fun (u : Int)) (by omega) rfl hm ⟨m, rfl⟩ (Nat.le_of_ble_eq_true rfl) (Nat.le_refl _) (Nat.le_refl _) ?_
    rintro v τ' h' ⟨rfl, rfl, rfl⟩
    refine b_istore C (dk_at ec250 (i := 3) rfl).1 (by rw [hn]; decide) (bno2_of (fun w hw _ => by cases hw; exact (show (1 : Nat) ≠ 2 by decide))) ?_
    refine b_iload_n C (dk_at ec250 (i := 4) rfl).1 rfl ?_
    refine b_tableIn (off := 99) (t := 107) C (dk_at ec250 (i := 5) rfl).1 ⟨by omega, by omega⟩ ⟨by omega, by omega⟩ rfl (by decide) ?_
    refine b_al0 C (dk_at ec250 (i := 43) rfl).1 rfl ?_
    refine b_gR C (dk_at ec250 (i := 44) rfl) hm ha ?_
    refine b_iload C (dk_at ec250 (i := 45) rfl).1 rfl ?_
    refine b_iconst C (dk_at ec250 (i := 46) rfl).1 ?_
    refine b_iadd C (dk_at ec250 (i := 47) rfl).1 ?_
    refine b_dup2 C (dk_at ec250 (i := 48) rfl).1 rfl rfl ?_
    refine b_rd (j := 1504 + 38 * u + 1) C (dk_at ec250 (i := 49) rfl).1 hta (by omega) (by omega) (fun _ => ?_)
    refine b_iload_n C (dk_at ec250 (i := 50) rfl).1 rfl ?_
    refine b_iadd C (dk_at ec250 (i := 51) rfl).1 ?_
    refine b_norm (fun w t hw et => ?_)
    refine b_wr (j := 1504 + 38 * u + 1) C (dk_at ec250 (i := 52) rfl).1 hta (by omega) (by omega) hw ?_
    exact b_vret C Bg (dk_at ec250 (i := 53) rfl).1 rfl (Nat.le_refl _) (Nat.le_refl _) ⟨m, a, w, rfl, ha, rfl, rfl, rfl⟩
theorem g61u : ∀ q ∈ cSg 61, q.1 ≤ 3266 := by decide +kernel
theorem l2_wt {g : Nat → Nat} {τ : bt} {h : bh} {a u : Nat} {w : Int} (hw : cWT cT0 g τ h) (ga : g a = 61) (hu : u < 40) : cWT cT0 g τ (bsetI (bsetI h a (1504 + 38 * u + 1) w) a 5000 40) := by
  obtain ⟨o1, o2, o3⟩ := o_now hw ga
  have val : ∀ b i, (bsetI (bsetI h a (1504 + 38 * u + 1) w) a 5000 40).1 b i = if b = a ∧ i = 5000 then 40 else if b = a ∧ i = 1504 + 38 * u + 1 then w else h.1 b i := fun b i => rfl
  have out : ∀ b i, (b ≠ a ∨ (i ≠ 5000 ∧ i ≠ 1504 + 38 * u + 1)) → (bsetI (bsetI h a (1504 + 38 * u + 1) w) a 5000 40).1 b i = h.1 b i := by
    intro b i hb
    rw [val, if_neg (by omega), if_neg (by omega)]
  refine w_now hw ga (l := 1504) (u := 5000) rfl (fun b i hb => out b i (by omega)) (fun i i1 i2 hi => ?_) ⟨fun _ k hk => ?_, fun z => by omega, fun z => by omega, fun _ k u1 u2 u3 => ?_⟩ (creg_eq (fun i hi => out a i ?_) o3)
  · by_cases e1 : i = 5000
    · rw [cseg_far (u := 3266) (by omega) _ g61u] at hi
      cases hi
    · by_cases e2 : i = 1504 + 38 * u + 1
      · have := csn_ok 1520 se_z.1 i (by omega) (by omega)
        omega
      · rw [out a i (by omega)]
        exact o1 i hi
  · have ou := o2.1 (Or.inr rfl) k hk
    unfold ublk at ou ⊢
    rw [out a (1504 + 38 * k) (by omega), out a (1504 + 38 * k + 2) (by omega), out a (1504 + 38 * k + 3) (by omega), out a (1504 + 38 * k + 5) (by omega)]
    refine ⟨ou.1, ou.2.1, ou.2.2.1, fun z => ?_⟩
    obtain ⟨q1, q2, q3, q4⟩ := ou.2.2.2 z
    refine ⟨q1, q2, q3, fun r hr => ?_⟩
    rw [out a (1504 + 38 * k + 6 + r) (by omega)]
    exact q4 r hr
  · rw [val, if_pos ⟨rfl, rfl⟩] at u1
    omega
  · rcases hi with ⟨h1, ⟨-, h2⟩ | ⟨h2, -⟩ | ⟨h2, -⟩⟩ | ⟨h2, -⟩
    · omega
    · omega
    · omega
    · omega
theorem bOk_to2 {T : cTb} {y : bY} {nL d0 b1 b2 : Nat} {c : cCn} {g : Nat → Nat} {ρ : Nat → Int} {σ : Nat → Option Nat} {Pre : bI → List Value → bt → bh → Prop} {Post : bPost} (K : bOk y nL d0 b1 b2 Pre Post) (h1 : ∀ ι avs τ h, cPr T c ι avs τ h g ρ σ → Pre ι avs τ h) (h2 : ∀ ι avs τ h v τ' h', cPr T c ι avs τ h g ρ σ → Post ι avs τ h v τ' h' → ∃ h'', cPst T c g ρ σ ι avs τ h v τ' h'' ∧ ∀ H, bHp ι τ' h' H → bHp ι τ' h'' H) : bOk y nL d0 b1 b2 (fun ι avs τ h => cPr T c ι avs τ h g ρ σ) (cPst T c g ρ σ) := by
  intro l hl d hd ι τ h avs hp
  refine Jvm.Free.MetFree.mono (K l hl d hd ι τ h avs (h1 _ _ _ _ hp)) (fun _ _ h => h) (fun _ _ _ _ _ h => h) (fun a s0 oc t _ hq => ⟨?_, hq.2⟩)
  obtain ⟨⟨⟨v, τ', h', e1, e2, e3⟩, e4⟩, -⟩ := hq
  obtain ⟨h'', f1, f2⟩ := h2 _ _ _ _ _ _ _ hp e2
  exact ⟨⟨v, τ', h'', e1, f1, f2 _ e3⟩, e4⟩
theorem eox19 : cOk cT0 ey250 6 5 0 0 enx19 := by
  have K : cOk cT0 ey250 6 3 0 0 enx19 := by
    intro g ρ σ
    have rng : ∀ {ι avs τ h}, cPr cT0 enx19 ι avs τ h g ρ σ → ρ 0 = 2 ∧ ((ρ 1).toNat : Int) = ρ 1 ∧ (ρ 1).toNat < 40 := by
      intro ι avs τ h hp
      have b0 := cBo_at hp.2.2.2.1.1 (s := 0) (x := 2) (y := 2) (by decide)
      have b3 := cBo_at hp.2.2.2.1.1 (s := 3) (x := 0) (y := 40) (by decide)
      have c0 : 0 ≤ 0 + (1 * ρ 1 + 0) := hp.2.2.2.1.2.1 (0, [(1, 1)]) List.mem_cons_self
      have c1 : 0 ≤ -1 + (-1 * ρ 1 + (1 * ρ 3 + 0)) := hp.2.2.2.1.2.1 (-1, [(1, -1), (3, 1)]) (List.mem_cons_of_mem _ List.mem_cons_self)
      omega
    refine bOk_to2 (l2_fun (ρ 1).toNat (ρ 2)) ?_ ?_
    · intro ι avs τ h hp
      obtain ⟨e0, e1, e2⟩ := rng hp
      obtain ⟨m, xs, rfl, m1, m2, m3, hxs⟩ := m_this hp rfl rfl
      obtain ⟨a, a1, a2, a3, a4⟩ := m_now hp.1 m3
      exact ⟨e2, m, a, by rw [c2_i3 hxs, e0, e1], m2, a1, a3, a4⟩
    · rintro ι avs τ h v τ' h' hp ⟨m, a, w, rfl, ha1, rfl, rfl, rfl⟩
      obtain ⟨e0, e1, e2⟩ := rng hp
      obtain ⟨m', xs, e, m1, -, m3, -⟩ := m_this hp rfl rfl
      cases e
      obtain ⟨a', a1, ga, ta, la⟩ := m_now hp.1 m3
      rw [ha1] at a1
      cases a1
      refine ⟨bsetI (bsetI h a (1504 + 38 * (ρ 1).toNat + 1) w) a 5000 40, cPst_void hp rfl (l2_wt hp.1 ga e2) ?_, fun H => bHp_gh ta (by omega)⟩
      intro b _
      refine ⟨rfl, rfl, Or.inl rfl, fun i hi => ⟨?_, rfl⟩⟩
      have n1 : ¬ (b = a ∧ i = 5000) := by
        rintro ⟨rfl, rfl⟩
        rw [ta, show cef enx19.2.2 41 5000 = true from cefR_ok (l := 5000) (u := 5000) (by rfl) (by omega) (by omega)] at hi
        cases hi
      have n2 : ¬ (b = a ∧ i = 1504 + 38 * (ρ 1).toNat + 1) := by
        rintro ⟨rfl, h1⟩
        rw [ta, show cef enx19.2.2 41 i = true from cefR_ok (l := 1504) (u := 3023) (by rfl) (by omega) (by omega)] at hi
        cases hi
      show (if b = a ∧ i = 5000 then (40 : Int) else if b = a ∧ i = 1504 + 38 * (ρ 1).toNat + 1 then w else h.1 b i) = _
      rw [if_neg n1, if_neg n2]
  exact K.mono (by decide)
