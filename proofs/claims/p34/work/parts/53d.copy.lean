/-! ===== save, comeBack by hand ===== -/
theorem sv_fun : bOk ey242 4 1 0 0 (fun _ avs τ h => ∃ m a r F, avs = [.ref m, .ref r, .int (bz ((F : Nat) : Int))] ∧ τ.1 m = 12 ∧ h.2 m 14 = some a ∧ τ.1 a = 41 ∧ τ.2 a = 3266 ∧ τ.1 r = 41 ∧ F + 2996 ≤ τ.2 r ∧ τ.2 r ≤ 30000 ∧ r ≠ a) (fun _ avs τ h v τ' h' => ∃ m a r F, avs = [.ref m, .ref r, .int (bz ((F : Nat) : Int))] ∧ h.2 m 14 = some a ∧ F + 2996 ≤ τ.2 r ∧ v = none ∧ τ' = τ ∧ h' = bcp h r F a 28 2996) := by
  refine bOk_of emp242.1.2.2.2.2.2.1 ?_ ?_
  · rintro ι avs τ h ⟨m, a, r, F, rfl, -⟩
    exact Nat.le_of_ble_eq_true rfl
  · intro γ ι τ h avs d hd hp Bg C
    obtain ⟨m, a, r, F, rfl, hm, ha, hta, hla, htr, hlr, hlr2, hne⟩ := hp
    have hn : γ.2.2.1 = 4 := Bg.2.1
    have loop : ∀ n k : Nat, k + n = 2996 → bJ γ 2 [some (.ref m), some (.ref r), some (.int (bz ((F : Nat) : Int))), some (.int (bz (k : Int)))] [] τ (bcp h r F a 28 k) 0 0 := by
      intro n
      induction n with
      | zero =>
        intro k hk
        refine b_iload_n C (dk_at ec242 (i := 2) rfl).1 rfl ?_
        refine b_sipush C (dk_at ec242 (i := 3) rfl).1 ⟨by omega, by omega⟩ ?_
        refine b_icmp_ge (t := 29) C (dk_at ec242 (i := 4) rfl).1 (by decide) ⟨by omega, by omega⟩ ⟨by omega, by omega⟩ (fun z => ?_) (fun z => ?_)
        · exact b_vret C Bg (dk_at ec242 (i := 18) rfl).1 rfl (Nat.le_refl _) (Nat.le_refl _) ⟨m, a, r, F, rfl, ha, hlr, rfl, rfl, by rw [show k = 2996 by omega]⟩
        · omega
      | succ n ih =>
        intro k hk
        refine b_iload_n C (dk_at ec242 (i := 2) rfl).1 rfl ?_
        refine b_sipush C (dk_at ec242 (i := 3) rfl).1 ⟨by omega, by omega⟩ ?_
        refine b_icmp_ge (t := 29) C (dk_at ec242 (i := 4) rfl).1 (by decide) ⟨by omega, by omega⟩ ⟨by omega, by omega⟩ (fun z => ?_) (fun z => ?_)
        · omega
        refine b_al0 C (dk_at ec242 (i := 5) rfl).1 rfl ?_
        refine b_iload_n C (dk_at ec242 (i := 6) rfl).1 rfl ?_
        refine b_iload_n C (dk_at ec242 (i := 7) rfl).1 rfl ?_
        refine b_iadd C (dk_at ec242 (i := 8) rfl).1 ?_
        refine b_al0 C (dk_at ec242 (i := 9) rfl).1 rfl ?_
        refine b_gR C (dk_at ec242 (i := 10) rfl) hm ha ?_
        refine b_bipush C (dk_at ec242 (i := 11) rfl).1 ⟨by omega, by omega⟩ ?_
        refine b_iload_n C (dk_at ec242 (i := 12) rfl).1 rfl ?_
        refine b_iadd C (dk_at ec242 (i := 13) rfl).1 ?_
        refine b_rd (j := 28 + k) C (dk_at ec242 (i := 14) rfl).1 hta (by omega) (by omega) (fun hb => ?_)
        refine b_wr (j := F + k) C (dk_at ec242 (i := 15) rfl).1 htr (by omega) (by omega) hb ?_
        refine b_iinc (a := (k : Int)) C (dk_at ec242 (i := 16) rfl).1 (by rw [hn]; decide) rfl (bno2_of (fun w hw _ => by cases hw; exact (show (1 : Nat) ≠ 2 by decide))) ?_
        refine b_goto (t := 2) C (dk_at ec242 (i := 17) rfl).1 (by decide) ?_
        have := ih (k + 1) (by omega)
        rw [show (((k + 1 : Nat) : Int)) = (k : Int) + 1 by omega] at this
        rw [bcp_rd (Or.inl hne.symm), bcp_step (Or.inl hne.symm)]
        exact this
    refine b_iconst C (dk_at ec242 (i := 0) rfl).1 ?_
    refine b_istore_n C (dk_at ec242 (i := 1) rfl).1 (by rw [hn]; decide) (bno2_of (fun w hw _ => by cases hw; exact (show (1 : Nat) ≠ 2 by decide))) ?_
    have := loop 2996 0 rfl
    rw [bcp_0] at this
    exact this
theorem cb_fun : bOk ey243 4 1 0 0 (fun _ avs τ h => ∃ m a r F, avs = [.ref m, .ref r, .int (bz ((F : Nat) : Int))] ∧ τ.1 m = 12 ∧ h.2 m 14 = some a ∧ τ.1 a = 41 ∧ τ.2 a = 3266 ∧ τ.1 r = 41 ∧ F + 2996 ≤ τ.2 r ∧ τ.2 r ≤ 30000 ∧ r ≠ a) (fun _ avs τ h v τ' h' => ∃ m a r F, avs = [.ref m, .ref r, .int (bz ((F : Nat) : Int))] ∧ h.2 m 14 = some a ∧ F + 2996 ≤ τ.2 r ∧ v = none ∧ τ' = τ ∧ h' = bcp h a 28 r F 2996) := by
  refine bOk_of emp243.1.2.2.2.2.2.1 ?_ ?_
  · rintro ι avs τ h ⟨m, a, r, F, rfl, -⟩
    exact Nat.le_of_ble_eq_true rfl
  · intro γ ι τ h avs d hd hp Bg C
    obtain ⟨m, a, r, F, rfl, hm, ha, hta, hla, htr, hlr, hlr2, hne⟩ := hp
    have hn : γ.2.2.1 = 4 := Bg.2.1
    have loop : ∀ n k : Nat, k + n = 2996 → bJ γ 2 [some (.ref m), some (.ref r), some (.int (bz ((F : Nat) : Int))), some (.int (bz (k : Int)))] [] τ (bcp h a 28 r F k) 0 0 := by
      intro n
      induction n with
      | zero =>
        intro k hk
        refine b_iload_n C (dk_at ec243 (i := 2) rfl).1 rfl ?_
        refine b_sipush C (dk_at ec243 (i := 3) rfl).1 ⟨by omega, by omega⟩ ?_
        refine b_icmp_ge (t := 29) C (dk_at ec243 (i := 4) rfl).1 (by decide) ⟨by omega, by omega⟩ ⟨by omega, by omega⟩ (fun z => ?_) (fun z => ?_)
        · exact b_vret C Bg (dk_at ec243 (i := 18) rfl).1 rfl (Nat.le_refl _) (Nat.le_refl _) ⟨m, a, r, F, rfl, ha, hlr, rfl, rfl, by rw [show k = 2996 by omega]⟩
        · omega
      | succ n ih =>
        intro k hk
        refine b_iload_n C (dk_at ec243 (i := 2) rfl).1 rfl ?_
        refine b_sipush C (dk_at ec243 (i := 3) rfl).1 ⟨by omega, by omega⟩ ?_
        refine b_icmp_ge (t := 29) C (dk_at ec243 (i := 4) rfl).1 (by decide) ⟨by omega, by omega⟩ ⟨by omega, by omega⟩ (fun z => ?_) (fun z => ?_)
        · omega
        refine b_al0 C (dk_at ec243 (i := 5) rfl).1 rfl ?_
        refine b_gR C (dk_at ec243 (i := 6) rfl) hm ha ?_
        refine b_bipush C (dk_at ec243 (i := 7) rfl).1 ⟨by omega, by omega⟩ ?_
        refine b_iload_n C (dk_at ec243 (i := 8) rfl).1 rfl ?_
        refine b_iadd C (dk_at ec243 (i := 9) rfl).1 ?_
        refine b_al0 C (dk_at ec243 (i := 10) rfl).1 rfl ?_
        refine b_iload_n C (dk_at ec243 (i := 11) rfl).1 rfl ?_
        refine b_iload_n C (dk_at ec243 (i := 12) rfl).1 rfl ?_
        refine b_iadd C (dk_at ec243 (i := 13) rfl).1 ?_
        refine b_rd (j := F + k) C (dk_at ec243 (i := 14) rfl).1 htr (by omega) (by omega) (fun hb => ?_)
        refine b_wr (j := 28 + k) C (dk_at ec243 (i := 15) rfl).1 hta (by omega) (by omega) hb ?_
        refine b_iinc (a := (k : Int)) C (dk_at ec243 (i := 16) rfl).1 (by rw [hn]; decide) rfl (bno2_of (fun w hw _ => by cases hw; exact (show (1 : Nat) ≠ 2 by decide))) ?_
        refine b_goto (t := 2) C (dk_at ec243 (i := 17) rfl).1 (by decide) ?_
        have := ih (k + 1) (by omega)
        rw [show (((k + 1 : Nat) : Int)) = (k : Int) + 1 by omega] at this
        rw [bcp_rd (Or.inl hne), bcp_step (Or.inl hne)]
        exact this
    refine b_iconst C (dk_at ec243 (i := 0) rfl).1 ?_
    refine b_istore_n C (dk_at ec243 (i := 1) rfl).1 (by rw [hn]; decide) (bno2_of (fun w hw _ => by cases hw; exact (show (1 : Nat) ≠ 2 by decide))) ?_
    have := loop 2996 0 rfl
    rw [bcp_0] at this
    exact this
/-! a slot beyond an array's end -/
theorem bHp_gh {ι : bI} {τ : bt} {h : bh} {H : Heap} {a j : Nat} {z : Int} (ht : τ.1 a = 41) (hj : τ.2 a ≤ j) (hp : bHp ι τ h H) : bHp ι τ (bsetI h a j z) H := by
  obtain ⟨ws, h1, h2, h3⟩ := hp
  refine ⟨ws, h1, h2, fun b hb => ?_⟩
  by_cases e : b = a
  · subst e
    rcases h3 b hb with ⟨k1, -⟩ | ⟨k1, k, f, k2, k3, k4, k5⟩ | ⟨⟨-, k1⟩, -⟩ | ⟨⟨-, k1⟩, -⟩ | ⟨k1, -⟩ | ⟨k1, -⟩ | ⟨k1, -⟩
    · omega
    · refine Or.inr (Or.inl ⟨k1, k, f, k2, k3, k4, fun i hi => ?_⟩)
      rw [k5 i hi]
      show _ = if b = b ∧ i = j then z else h.1 b i
      rw [if_neg (by omega)]
    · omega
    · omega
    · omega
    · omega
    · omega
  · exact (h3 b hb).other (fun i => if_neg (by omega)) (fun i => rfl) (fun k e he => he)
/-- a contract as data out of one by hand; slots beyond the ends may be chosen -/
theorem cOk_of2 {T : cTb} {y : bY} {nL d0 b1 b2 : Nat} {c : cCn} {Pre : bI → List Value → bt → bh → Prop} {Post : bPost} (K : bOk y nL d0 b1 b2 Pre Post) (h1 : ∀ ι avs τ h g ρ σ, cPr T c ι avs τ h g ρ σ → Pre ι avs τ h) (h2 : ∀ ι avs τ h g ρ σ v τ' h', cPr T c ι avs τ h g ρ σ → Post ι avs τ h v τ' h' → ∃ h'', cPst T c g ρ σ ι avs τ h v τ' h'' ∧ ∀ H, bHp ι τ' h' H → bHp ι τ' h'' H) : cOk T y nL d0 b1 b2 c := by
  intro g ρ σ l hl d hd ι τ h avs hp
  refine Jvm.Free.MetFree.mono (K l hl d hd ι τ h avs (h1 _ _ _ _ _ _ _ hp)) (fun _ _ h => h) (fun _ _ _ _ _ h => h) (fun a s0 oc t _ hq => ⟨?_, hq.2⟩)
  obtain ⟨⟨⟨v, τ', h', e1, e2, e3⟩, e4⟩, -⟩ := hq
  obtain ⟨h'', f1, f2⟩ := h2 _ _ _ _ _ _ _ _ _ _ hp e2
  exact ⟨⟨v, τ', h'', e1, f1, f2 _ e3⟩, e4⟩
/-! shapes that are moved -/
theorem ublk_sh {f f' : Nat → Int} {b c : Nat} (h : ∀ i, i < 38 → f' (b + i) = f (c + i)) (hu : ublk f c) : ublk f' b := by
  have h0 := h 0 (by omega)
  simp only [Nat.add_zero] at h0
  unfold ublk at *
  rw [h0, h 2 (by omega), h 3 (by omega), h 5 (by omega)]
  refine ⟨hu.1, hu.2.1, hu.2.2.1, fun z => ?_⟩
  obtain ⟨h1, h2, h3, h4⟩ := hu.2.2.2 z
  refine ⟨h1, h2, h3, fun r hr => ?_⟩
  have := h4 r hr
  rw [show c + 6 + r = c + (6 + r) by omega] at this
  rw [show b + 6 + r = b + (6 + r) by omega, h (6 + r) (by omega)]
  exact this
/-- units from b on are those that were from c on -/
theorem creg1_sh {k : Int} {f f' : Nat → Int} {b c : Nat} (h : ∀ i, i < 1520 → f' (b + i) = f (c + i)) (hu : creg k c f) (hk : k = 1 ∨ k = 5) : creg 1 b f' := by
  refine ⟨fun _ u hl => ublk_sh (c := c + 38 * u) (fun i hi => ?_) (hu.1 hk u hl), fun z => by omega, fun z => by omega, fun z => by omega⟩
  have := h (38 * u + i) (by omega)
  rw [show b + 38 * u + i = b + (38 * u + i) by omega, this]
  congr 1
  omega
theorem creg_51 {f : Nat → Int} {b : Nat} (h1 : creg 1 b f) (h2 : 40 ≤ f 5000) : creg 5 b f := ⟨fun _ => h1.1 (Or.inl rfl), fun z => by omega, fun z => by omega, fun _ u hu _ hl => by omega⟩
/-! their contracts -/
theorem m_sec {T : cTb} {c : cCn} {ι : bI} {avs : List Value} {τ : bt} {h : bh} {g : Nat → Nat} {ρ : Nat → Int} {σ : Nat → Option Nat} {q0 : cRf} {rf : List cRf} {kd ro n : Nat} (hp : cPr T c ι avs τ h g ρ σ) (hr : c.1.2.2.1.2.2.1 = q0 :: (1, kd, ro, false, (n, [])) :: rf) : ∃ r, σ 1 = some r ∧ τ.1 r = kd ∧ g r = ro ∧ τ.2 r = n := by
  obtain ⟨-, -, -, h4, -⟩ := hp
  have hq := h4.2.2.1 (1, kd, ro, false, (n, [])) (by rw [hr]; exact List.mem_cons_of_mem _ List.mem_cons_self)
  rcases hq with ⟨e, -⟩ | ⟨r, m1, m2, -, m4, m5⟩
  · cases e
  · refine ⟨r, m1, m2, m4, ?_⟩
    have m5 : ((τ.2 r : Nat) : Int) = (n : Int) + cev ρ [] := m5
    rw [cev_nil] at m5
    omega
theorem c2_3 {ρ : Nat → Int} {σ : Nat → Option Nat} {e : cL} {xs : List Value} {r : Nat} (hr : σ 1 = some r) (h : c2 (cv ρ σ) [(1, 1, (0, [])), (0, 0, e)] xs) : xs = [.ref r, .int (bz (cE ρ e))] := by
  obtain ⟨v, r1, rfl, hv, h⟩ := c2.cons h
  obtain ⟨w, r2, rfl, hw, h⟩ := c2.cons h
  cases r2 with
  | cons => exact h.elim
  | nil =>
    have e1 : v = .ref r := by
      rcases hv with ⟨e, -⟩ | ⟨-, e⟩ | ⟨e, -⟩ | ⟨e, -⟩
      · cases e
      · rw [e]; show va_rf (σ 1) = _; rw [hr]; rfl
      · cases e
      · cases e
    have e2 : w = .int (bz (cE ρ e)) := by
      rcases hw with ⟨-, e, -⟩ | ⟨e, -⟩ | ⟨e, -⟩ | ⟨e, -⟩
      · exact e
      · cases e
      · cases e
      · cases e
    rw [e1, e2]
theorem sv_words : cwr (cSg 65) (cSg 61) 0 28 2996 = true := by decide +kernel
theorem cb_words : cwr (cSg 61) (cSg 65) 28 0 2996 = true := by decide +kernel
theorem g65 : ∀ q ∈ cSg 65, q.2.1 = 3 → (q.2.2.1 = 1 ∧ q.2.2.2.1.toNat = 1476) := by decide +kernel
theorem g65a : (2996, (3, 1, 1476, 0, false)) ∈ cSg 65 := by decide +kernel
theorem bcp_at {h : bh} {a d t s n k : Nat} (hk : k < n) : (bcp h a d t s n).1 a (d + k) = h.1 t (s + k) := by
  show (if a = a ∧ d ≤ d + k ∧ d + k < d + n then h.1 t (s + (d + k - d)) else h.1 a (d + k)) = _
  rw [if_pos ⟨rfl, by omega, by omega⟩, show d + k - d = k by omega]
theorem eox14 : cOk cT0 ey242 4 2 0 0 enx14 := by
  refine (cOk_of sv_fun ?_ ?_).mono (by decide)
  · intro ι avs τ h g ρ σ hp
    obtain ⟨m, xs, rfl, -, m2, m3, hx⟩ := m_this hp rfl rfl
    obtain ⟨r, r1, r2, r3, r4⟩ := m_sec (n := 2996) hp rfl
    obtain ⟨a, a1, a2, a3, a4⟩ := m_now hp.1 m3
    rw [c2_3 r1 hx]
    exact ⟨m, a, r, 0, rfl, m2, a1, a3, a4, r2, by omega, by omega, fun e => by rw [e, a2] at r3; cases r3⟩
  · rintro ι avs τ h g ρ σ v τ' h' hp ⟨m, a, r, F, eav, ha, hF, rfl, rfl, rfl⟩
    obtain ⟨m', xs, e, -, -, m3, hx⟩ := m_this hp rfl rfl
    obtain ⟨r', r1, r2, r3, r4⟩ := m_sec (n := 2996) hp rfl
    rw [c2_3 r1 hx] at e
    rw [e] at eav
    injection eav with e1 e2
    injection e1 with e1
    injection e2 with e2 e3
    injection e2 with e2
    subst e1 e2
    obtain ⟨a', a1, a2, a3, a4⟩ := m_now hp.1 m3
    rw [ha] at a1
    cases a1
    have F0 : F = 0 := by omega
    subst F0
    have ho : ∀ b i, (b ≠ r' ∨ i < 0 ∨ 2995 < i) → (bcp h r' 0 a 28 2996).1 b i = h.1 b i := fun b i hb => if_neg (by omega)
    obtain ⟨o1, o2, o3⟩ := o_now hp.1 a2
    obtain ⟨p1, p2⟩ := o_arr hp.1 r3 (by decide) cR65
    refine cPst_void hp rfl (cWT.upd hp.1 (a := r') (by rw [r3]; exact cR65) (by omega) (by omega) (by omega) rfl (fun b hb i => ho b i (Or.inl hb)) (fun i hi => ?_) (fun _ q hq q3 => ?_)) (cHi_upd (a := r') (l := 0) (u := 2995) rfl ho ?_)
    · by_cases hl : i < 2996
      · have w := cwr_ok 2996 sv_words i hl (h.1 a (28 + i)) (by rw [Nat.zero_add]; exact hi) (o1 (28 + i))
        rw [Nat.zero_add] at w
        have e := bcp_at (h := h) (a := r') (d := 0) (t := a) (s := 28) hl
        rw [Nat.zero_add] at e
        rw [e]
        exact w
      · rw [ho r' i (by omega)]
        exact p1 i hi
    · obtain ⟨q1, q2⟩ := g65 q hq q3
      rw [q1, q2]
      refine creg1_sh (c := 1504) (f := h.1 a) (fun i hi => ?_) o2 (Or.inr rfl)
      have e := bcp_at (h := h) (a := r') (d := 0) (t := a) (s := 28) (show 1476 + i < 2996 by omega)
      rw [Nat.zero_add] at e
      rw [e, show 28 + (1476 + i) = 1504 + i by omega]
    · rw [r2]
      rfl
