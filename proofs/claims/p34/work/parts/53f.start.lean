/-! ===== a call by hand; startSo ===== -/
theorem b_inv {γ : bG} {y : bY} {d b1 b2 pc : Nat} {lo : List (Option Value)} {τ : bt} {h : bh} {nc ns : Nat} {Γ : List (bY × Nat)} {mid k mode r4 ci idx a d0 c1 c2 : Nat} {q : bY × Nat} {As rest : List Value} {Pre : bI → List Value → bt → bh → Prop} {Post : bPost} (C : bC γ y (d + 1) b1 b2) (X : bX γ) (hE : dk_ok y Γ (pc, .invokevirtual idx, 3, mid, k, mode, r4, ci)) (hm : mode ≤ 1) (hq : Γ[mid]? = some q) (K : bOk q.1 q.2 d0 c1 c2 Pre Post) (hd0 : d0 ≤ d) (hlen : As.length + 1 = k) (ht : τ.1 a = ci + 1) (hp : Pre γ.1 (.ref a :: As) τ h) (hsum : (rest.map fun v => v.category).sum ≤ 8) (hc : nc + c1 ≤ b1) (hs : ns + c2 ≤ b2) (kk : ∀ (v : Option Value) (τ' : bt) (h' : bh), Post γ.1 (.ref a :: As) τ h v τ' h' → bJ γ (pc + 3) lo (v.toList ++ rest) τ' h' (nc + c1) (ns + c2)) : bJ γ pc lo (As.reverse ++ (.ref a :: rest)) τ h nc ns := by
  obtain ⟨hd, -, hl⟩ := hE
  rcases hl with ⟨h6, hci, ⟨q', hq', hy, hmd, hk⟩, hop⟩ | ⟨h7, -⟩ | ⟨h7, -⟩ | ⟨h7, -⟩
  · rw [hq] at hq'
    cases hq'
    have := b_call (avs := .ref a :: As) (rest := rest) (lo := lo) C X K hd0 hy hmd hk (Or.inl ⟨hm, hd⟩) (by simpa using hlen) (fun _ => ⟨a, As, rfl, fun _ => ⟨ht, hci⟩⟩) hp hsum hc hs kk
    rw [List.reverse_cons, List.append_assoc] at this
    exact this
  · have h7 : mode = 7 := h7
    omega
  · have h7 : mode = 8 := h7
    omega
  · have h7 : mode = 9 := h7
    omega
theorem so_fun : bOk ey192 2 2 0 0 (fun _ avs τ h => ∃ m a, avs = [.ref m] ∧ τ.1 m = 12 ∧ h.2 m 14 = some a ∧ τ.1 a = 41 ∧ τ.2 a = 3266) (fun _ avs τ h v τ' h' => ∃ m a, avs = [.ref m] ∧ h.2 m 14 = some a ∧ v = none ∧ τ' = τ ∧ h' = bcp (bfl (bsetI (bsetI (bfl h a 28 0 2996) a 36 ((bfl h a 28 0 2996).1 a 9)) a 53 (-1)) a 37 (-1) 6) a 535 a 46 489) := by
  refine bOk_of emp192.1.2.2.2.2.2.1 ?_ ?_
  · rintro ι avs τ h ⟨m, a, rfl, -⟩
    exact Nat.le_of_ble_eq_true rfl
  · intro γ ι τ h avs d hd hp Bg C
    obtain ⟨m, a, rfl, hm, ha, hta, hla⟩ := hp
    have hn : γ.2.2.1 = 2 := Bg.2.1
    obtain ⟨d, rfl⟩ : ∃ d', d = d' + 1 := ⟨d - 1, by omega⟩
    have ha0 := ha
    have loop2 : ∀ (H : bh), H.2 = h.2 → H = bsetI (bsetI (bfl h a 28 0 2996) a 36 ((bfl h a 28 0 2996).1 a 9)) a 53 (-1) → ∀ n k : Nat, k + n = 6 → bJ γ 47 [some (.ref m), some (.int (bz (k : Int)))] [] τ (bfl H a 37 (-1) k) 0 0 := by
      intro H hH2 hH n
      have ha : H.2 m 14 = some a := by rw [hH2]; exact ha
      induction n with
      | zero =>
        intro k hk
        refine b_iload_n C (dk_at ec192 (i := 27) rfl).1 rfl ?_
        refine b_bipush C (dk_at ec192 (i := 28) rfl).1 ⟨by omega, by omega⟩ ?_
        refine b_icmp_ge (t := 69) C (dk_at ec192 (i := 29) rfl).1 (by decide) ⟨by omega, by omega⟩ ⟨by omega, by omega⟩ (fun z => ?_) (fun z => ?_)
        · refine b_al0 C (dk_at ec192 (i := 39) rfl).1 rfl ?_
          refine b_inv (As := []) (rest := []) C Bg.x (dk_at ec192 (i := 40) rfl) (by decide) rfl st_fun (by omega) rfl hm ⟨m, a, rfl, hm, ha, hta, hla⟩ (by decide) (Nat.le_refl _) (Nat.le_refl _) ?_
          rintro v τ' h' ⟨m', a', e1, e2, rfl, rfl, rfl⟩
          injection e1 with e1
          injection e1 with e1
          subst e1
          have e3 : some a = some a' := by rw [← ha]; exact e2
          cases e3
          have ek : k = 6 := by omega
          subst ek
          exact b_vret C Bg (dk_at ec192 (i := 41) rfl).1 rfl (Nat.le_refl _) (Nat.le_refl _) ⟨m, a, rfl, ha0, rfl, rfl, by rw [hH]⟩
        · omega
      | succ n ih =>
        intro k hk
        refine b_iload_n C (dk_at ec192 (i := 27) rfl).1 rfl ?_
        refine b_bipush C (dk_at ec192 (i := 28) rfl).1 ⟨by omega, by omega⟩ ?_
        refine b_icmp_ge (t := 69) C (dk_at ec192 (i := 29) rfl).1 (by decide) ⟨by omega, by omega⟩ ⟨by omega, by omega⟩ (fun z => ?_) (fun z => ?_)
        · omega
        refine b_al0 C (dk_at ec192 (i := 30) rfl).1 rfl ?_
        refine b_gR C (dk_at ec192 (i := 31) rfl) hm ha ?_
        refine b_bipush C (dk_at ec192 (i := 32) rfl).1 ⟨by omega, by omega⟩ ?_
        refine b_iload_n C (dk_at ec192 (i := 33) rfl).1 rfl ?_
        refine b_iadd C (dk_at ec192 (i := 34) rfl).1 ?_
        refine b_iconst C (dk_at ec192 (i := 35) rfl).1 ?_
        refine b_wr (j := 37 + k) C (dk_at ec192 (i := 36) rfl).1 hta (by omega) (by omega) ⟨by omega, by omega⟩ ?_
        refine b_iinc (a := (k : Int)) C (dk_at ec192 (i := 37) rfl).1 (by rw [hn]; decide) rfl (bno2_of (fun w hw _ => by cases hw; exact (show (1 : Nat) ≠ 2 by decide))) ?_
        refine b_goto (t := 47) C (dk_at ec192 (i := 38) rfl).1 (by decide) ?_
        have := ih (k + 1) (by omega)
        rw [show (((k + 1 : Nat) : Int)) = (k : Int) + 1 by omega] at this
        rw [bfl_step]
        exact this
    have loop1 : ∀ n k : Nat, k + n = 2996 → bJ γ 3 [some (.ref m), some (.int (bz (28 + (k : Int))))] [] τ (bfl h a 28 0 k) 0 0 := by
      intro n
      induction n with
      | zero =>
        intro k hk
        refine b_iload_n C (dk_at ec192 (i := 2) rfl).1 rfl ?_
        refine b_sipush C (dk_at ec192 (i := 3) rfl).1 ⟨by omega, by omega⟩ ?_
        refine b_icmp_ge (t := 23) C (dk_at ec192 (i := 4) rfl).1 (by decide) ⟨by omega, by omega⟩ ⟨by omega, by omega⟩ (fun z => ?_) (fun z => ?_)
        · have ek : k = 2996 := by omega
          subst ek
          refine b_al0 C (dk_at ec192 (i := 12) rfl).1 rfl ?_
          refine b_gR C (dk_at ec192 (i := 13) rfl) hm ha ?_
          refine b_bipush C (dk_at ec192 (i := 14) rfl).1 ⟨by omega, by omega⟩ ?_
          refine b_al0 C (dk_at ec192 (i := 15) rfl).1 rfl ?_
          refine b_gR C (dk_at ec192 (i := 16) rfl) hm ha ?_
          refine b_bipush C (dk_at ec192 (i := 17) rfl).1 ⟨by omega, by omega⟩ ?_
          refine b_rd (j := 9) C (dk_at ec192 (i := 18) rfl).1 hta (by omega) (by omega) (fun hb => ?_)
          refine b_wr (j := 36) C (dk_at ec192 (i := 19) rfl).1 hta (by omega) (by omega) hb ?_
          refine b_al0 C (dk_at ec192 (i := 20) rfl).1 rfl ?_
          refine b_gR C (dk_at ec192 (i := 21) rfl) hm ha ?_
          refine b_bipush C (dk_at ec192 (i := 22) rfl).1 ⟨by omega, by omega⟩ ?_
          refine b_iconst C (dk_at ec192 (i := 23) rfl).1 ?_
          refine b_wr (j := 53) C (dk_at ec192 (i := 24) rfl).1 hta (by omega) (by omega) ⟨by omega, by omega⟩ ?_
          refine b_iconst C (dk_at ec192 (i := 25) rfl).1 ?_
          refine b_istore_n C (dk_at ec192 (i := 26) rfl).1 (by rw [hn]; decide) (bno2_of (fun w hw _ => by cases hw; exact (show (1 : Nat) ≠ 2 by decide))) ?_
          have := loop2 (bsetI (bsetI (bfl h a 28 0 2996) a 36 ((bfl h a 28 0 2996).1 a 9)) a 53 (-1)) rfl rfl 6 0 rfl
          rw [bfl_0] at this
          exact this
        · omega
      | succ n ih =>
        intro k hk
        refine b_iload_n C (dk_at ec192 (i := 2) rfl).1 rfl ?_
        refine b_sipush C (dk_at ec192 (i := 3) rfl).1 ⟨by omega, by omega⟩ ?_
        refine b_icmp_ge (t := 23) C (dk_at ec192 (i := 4) rfl).1 (by decide) ⟨by omega, by omega⟩ ⟨by omega, by omega⟩ (fun z => ?_) (fun z => ?_)
        · omega
        refine b_al0 C (dk_at ec192 (i := 5) rfl).1 rfl ?_
        refine b_gR C (dk_at ec192 (i := 6) rfl) hm ha ?_
        refine b_iload_n C (dk_at ec192 (i := 7) rfl).1 rfl ?_
        refine b_iconst C (dk_at ec192 (i := 8) rfl).1 ?_
        refine b_wr (j := 28 + k) C (dk_at ec192 (i := 9) rfl).1 hta (by omega) (by omega) ⟨by omega, by omega⟩ ?_
        refine b_iinc (a := 28 + (k : Int)) C (dk_at ec192 (i := 10) rfl).1 (by rw [hn]; decide) rfl (bno2_of (fun w hw _ => by cases hw; exact (show (1 : Nat) ≠ 2 by decide))) ?_
        refine b_goto (t := 3) C (dk_at ec192 (i := 11) rfl).1 (by decide) ?_
        have := ih (k + 1) (by omega)
        rw [show 28 + (((k + 1 : Nat) : Int)) = 28 + (k : Int) + 1 by omega] at this
        rw [bfl_step]
        exact this
    refine b_bipush C (dk_at ec192 (i := 0) rfl).1 ⟨by omega, by omega⟩ ?_
    refine b_istore_n C (dk_at ec192 (i := 1) rfl).1 (by rw [hn]; decide) (bno2_of (fun w hw _ => by cases hw; exact (show (1 : Nat) ≠ 2 by decide))) ?_
    have := loop1 2996 0 rfl
    rw [bfl_0] at this
    exact this

/-- the words of slots l to l + n suit a number -/
noncomputable def cwz (S : List (Nat × cS)) (z : Int) (l n : Nat) : Bool := @Nat.rec (fun _ => Bool) true (fun k ih => cond (cond (Nat.beq (cseg S (l + k)).1 0) (cond (cge (z - (cseg S (l + k)).2.1)) (cge ((cseg S (l + k)).2.2.1 - z)) false) true) ih false) n
theorem cwz_ok {S : List (Nat × cS)} {z : Int} {l : Nat} : ∀ n, cwz S z l n = true → ∀ i, l ≤ i → i < l + n → (cseg S i).1 = 0 → (cseg S i).2.1 ≤ z ∧ z ≤ (cseg S i).2.2.1 := by
  intro n
  induction n with
  | zero => intro _ i h1 h2; omega
  | succ n ih =>
    intro h i h1 h2 h0
    obtain ⟨h3, h4⟩ := c_and (show cond (cond (Nat.beq (cseg S (l + n)).1 0) (cond (cge (z - (cseg S (l + n)).2.1)) (cge ((cseg S (l + n)).2.2.1 - z)) false) true) (cwz S z l n) false = true from h)
    by_cases e : i = l + n
    · subst e
      rw [h0] at h3
      obtain ⟨h5, h6⟩ := c_and (show cond (cge (z - (cseg S (l + n)).2.1)) (cge ((cseg S (l + n)).2.2.1 - z)) false = true from h3)
      have h5 := cge_iff.mp h5
      have h6 := cge_iff.mp h6
      omega
    · exact ih h4 i h1 (by omega) h0
theorem so_z : cwz (cSg 61) 0 28 2996 = true ∧ cwz (cSg 61) (-1) 36 7 = true ∧ cwz (cSg 61) (-1) 53 1 = true ∧ (cseg (cSg 61) 36).1 = 2 := by decide +kernel
theorem ublk_0 (b : Nat) : ublk (fun _ => 0) b := by
  unfold ublk
  dsimp only
  refine ⟨⟨by omega, by omega⟩, ⟨⟨by omega, by omega⟩, fun _ => by omega⟩, fun _ => ⟨by omega, by omega, by omega⟩, fun z => by omega⟩
/-- all begins anew -/
theorem so_wt {g : Nat → Nat} {τ : bt} {h : bh} (hw : cWT cT0 g τ h) {a : Nat} (ga : g a = 61) : cWT cT0 g τ (bcp (bfl (bsetI (bsetI (bfl h a 28 0 2996) a 36 ((bfl h a 28 0 2996).1 a 9)) a 53 (-1)) a 37 (-1) 6) a 535 a 46 489) := by
  obtain ⟨o1, o2, o3⟩ := o_now hw ga
  refine st_wt ?_ ga
  generalize hz : (bfl h a 28 0 2996).1 a 9 = z9
  have val : ∀ i, (bfl (bsetI (bsetI (bfl h a 28 0 2996) a 36 z9) a 53 (-1)) a 37 (-1) 6).1 a i = if 37 ≤ i ∧ i < 43 then -1 else if i = 53 then -1 else if i = 36 then z9 else if 28 ≤ i ∧ i < 3024 then 0 else h.1 a i := by
    intro i
    show (if a = a ∧ 37 ≤ i ∧ i < 37 + 6 then (-1 : Int) else if a = a ∧ i = 53 then (-1 : Int) else if a = a ∧ i = 36 then z9 else if a = a ∧ 28 ≤ i ∧ i < 28 + 2996 then (0 : Int) else h.1 a i) = _
    simp only [true_and]
  have ho : ∀ b i, (b ≠ a ∨ i < 28 ∨ 3023 < i) → (bfl (bsetI (bsetI (bfl h a 28 0 2996) a 36 z9) a 53 (-1)) a 37 (-1) 6).1 b i = h.1 b i := by
    intro b i hb
    show (if b = a ∧ 37 ≤ i ∧ i < 37 + 6 then (-1 : Int) else if b = a ∧ i = 53 then (-1 : Int) else if b = a ∧ i = 36 then z9 else if b = a ∧ 28 ≤ i ∧ i < 28 + 2996 then (0 : Int) else h.1 b i) = _
    rw [if_neg (by omega), if_neg (by omega), if_neg (by omega), if_neg (by omega)]
  refine w_now hw ga (l := 28) (u := 3023) rfl ho (fun i i1 i2 hi => ?_) ⟨fun _ u hu => ublk_eq (f := fun _ => 0) (fun i i1 i2 => ?_) (ublk_0 _), fun z => by omega, fun z => by omega, fun _ u h1 h2 _ => ?_⟩ (creg_far (l := 28) (u := 3023) (by decide +kernel) (fun i hi => ho a i (Or.inr hi)) o3)
  · rw [val]
    by_cases e1 : 37 ≤ i ∧ i < 43
    · rw [if_pos e1]; exact cwz_ok 7 so_z.2.1 i (by omega) (by omega) hi
    · rw [if_neg e1]
      by_cases e2 : i = 53
      · rw [if_pos e2]; exact cwz_ok 1 so_z.2.2.1 i (by omega) (by omega) hi
      · rw [if_neg e2]
        by_cases e3 : i = 36
        · subst e3
          have := so_z.2.2.2
          omega
        · rw [if_neg e3, if_pos (by omega)]
          exact cwz_ok 2996 so_z.1 i (by omega) (by omega) hi
  · rw [val, if_neg (by omega), if_neg (by omega), if_neg (by omega), if_pos (by omega)]
  · rw [val, if_neg (by omega), if_neg (by omega), if_neg (by omega), if_pos (by omega)] at h2
    omega
theorem so_hi {E : cEf} {g : Nat → Nat} {τ : bt} {h : bh} {a : Nat} {z9 : Int} (ta : τ.1 a = 41) (hE : cefR E 41 28 3023 = true) : cHi E g τ h g τ (bcp (bfl (bsetI (bsetI (bfl h a 28 0 2996) a 36 z9) a 53 (-1)) a 37 (-1) 6) a 535 a 46 489) := by
  refine cHi_upd (a := a) (l := 28) (u := 3023) rfl (fun b i hb => ?_) (by rw [ta]; exact hE)
  show (if b = a ∧ 535 ≤ i ∧ i < 535 + 489 then _ else if b = a ∧ 37 ≤ i ∧ i < 37 + 6 then (-1 : Int) else if b = a ∧ i = 53 then (-1 : Int) else if b = a ∧ i = 36 then z9 else if b = a ∧ 28 ≤ i ∧ i < 28 + 2996 then (0 : Int) else h.1 b i) = _
  rw [if_neg (by omega), if_neg (by omega), if_neg (by omega), if_neg (by omega), if_neg (by omega)]
theorem eox4 : cOk cT0 ey192 2 3 0 0 enx4 := by
  refine (cOk_of so_fun ?_ ?_).mono (by decide)
  · intro ι avs τ h g ρ σ hp
    obtain ⟨m, xs, rfl, -, m2, m3, hx⟩ := m_this hp rfl rfl
    cases xs with
    | cons => exact hx.elim
    | nil =>
      obtain ⟨a, a1, -, a3, a4⟩ := m_now hp.1 m3
      exact ⟨m, a, rfl, m2, a1, a3, a4⟩
  · rintro ι avs τ h g ρ σ v τ' h' hp ⟨m, a, rfl, ha, rfl, rfl, rfl⟩
    obtain ⟨m', xs, e, -, -, m3, -⟩ := m_this hp rfl rfl
    cases e
    obtain ⟨a', a1, ga, ta, -⟩ := m_now hp.1 m3
    rw [ha] at a1
    cases a1
    exact cPst_void hp rfl (so_wt hp.1 ga) (so_hi ta rfl)
