/-! ===== SpanCopierModel.<init> ===== -/
section INROWS
variable {γ : bG} {y : bY} {d b1 b2 pc : Nat} {lo : List (Option Value)} {st : List Value} {τ : bt} {h : bh} {nc ns : Nat} {Γ : List (bY × Nat)}
theorem b_nA {n : Int} {at_ : ArrayType} {r1 r2 r3 r4 r5 : Nat} (C : bC γ y d b1 b2) (hE : dk_ok y Γ (pc, .newarray at_, 2, r1, r2, r3, r4, r5)) (h1 : 0 ≤ n) (h2 : n ≤ 30000) (hc1 : nc + 1 ≤ b1) (hc2 : ns + n.toNat ≤ b2) (kk : ∀ a, τ.1 a = 0 → bJ γ (pc + 2) lo (.ref a :: st) (bnT τ a r1 n.toNat) (bnH h a) (nc + 1) (ns + n.toNat)) : bJ γ pc lo (.int (bz n) :: st) τ h nc ns := by
  obtain ⟨hd, -, h3, h4, h5⟩ := hE
  exact b_newa C h3 h4 h5 hd h1 h2 hc1 hc2 kk
theorem b_pR {idx k ci r3 r4 a b : Nat} (C : bC γ y d b1 b2) (hE : dk_ok y Γ (pc, .putfield idx, 3, k, ci, r3, r4, 2)) (ht : τ.1 a = ci + 1) (kk : bJ γ (pc + 3) lo st τ (bsetR h a k (some b)) nc ns) : bJ γ pc lo (.ref b :: .ref a :: st) τ h nc ns := by
  obtain ⟨hd, -, q, ty, h1, h2, h3, h4, h5, h6, h7⟩ := hE
  exact b_putR (o := some b) C h1 h2 h3 h4 hd h5 h6 (h7 rfl) ht kk
theorem b_ob {idx a r1 r2 r4 r5 : Nat} {rest : List Value} (C : bC γ y d b1 b2) (hE : dk_ok y Γ (pc, .invokespecial idx, 3, r1, r2, 7, r4, r5)) (hsum : (rest.map fun v => v.category).sum ≤ 8) (kk : bJ γ (pc + 3) lo rest τ h nc ns) : bJ γ pc lo (.ref a :: rest) τ h nc ns := by
  obtain ⟨hd, -, hl⟩ := hE
  rcases hl with ⟨h6, -⟩ | ⟨-, -, hl⟩ | ⟨h7, -⟩ | ⟨h7, -⟩
  · exact absurd (show (7 : Nat) ≤ 6 from h6) (by decide)
  · exact b_obj C hl (bW_of (by decide +kernel) rfl) (bW_of (by decide +kernel) rfl) hd hsum kk
  · exact absurd (show (7 : Nat) = 8 from h7) (by decide)
  · exact absurd (show (7 : Nat) = 9 from h7) (by decide)
end INROWS
/-- of an array that was made: the slot that holds it, kind, length, place -/
abbrev nQ : Type := Nat × Nat × Nat × Nat
def nMk (m : Nat) (τ0 : bt) (h0 : bh) (l : List nQ) (τ : bt) (h : bh) : Prop :=
  (∀ b, τ0.1 b ≠ 0 → τ.1 b = τ0.1 b ∧ τ.2 b = τ0.2 b ∧ (∀ i, h.1 b i = h0.1 b i) ∧ ∀ i, b ≠ m → h.2 b i = h0.2 b i) ∧
  (∀ q ∈ l, τ0.1 q.2.2.2 = 0 ∧ τ.1 q.2.2.2 = q.2.1 ∧ τ.2 q.2.2.2 = q.2.2.1 ∧ (∀ i, h.1 q.2.2.2 i = 0) ∧ (∀ i, h.2 q.2.2.2 i = none) ∧ h.2 m q.1 = some q.2.2.2) ∧
  l.Pairwise (fun p q => p.2.2.2 ≠ q.2.2.2) ∧ ∀ q ∈ l, q.2.1 ≠ 0
theorem nMk.step {m a k kd n : Nat} {τ0 τ : bt} {h0 h : bh} {l : List nQ} (hm : τ0.1 m ≠ 0) (I : nMk m τ0 h0 l τ h) (ha : τ.1 a = 0) (hk : kd ≠ 0) (hs : ∀ q ∈ l, q.1 ≠ k) : nMk m τ0 h0 ((k, kd, n, a) :: l) (bnT τ a kd n) (bsetR (bnH h a) m k (some a)) := by
  obtain ⟨i1, i2, i3, i4⟩ := I
  have nam : m ≠ a := fun e => hm (by rw [← (i1 m hm).1, e]; exact ha)
  have a0 : τ0.1 a = 0 := Classical.byContradiction fun z => z (by rw [← (i1 a z).1]; exact ha)
  refine ⟨fun b hb => ?_, fun q hq => ?_, ?_, fun q hq => ?_⟩
  · have nb : b ≠ a := fun e => hb (by rw [e]; exact a0)
    obtain ⟨j1, j2, j3, j4⟩ := i1 b hb
    refine ⟨by show (if b = a then kd else τ.1 b) = _; rw [if_neg nb]; exact j1, by show (if b = a then n else τ.2 b) = _; rw [if_neg nb]; exact j2, fun i => by show (if b = a then (0 : Int) else h.1 b i) = _; rw [if_neg nb]; exact j3 i, fun i z => ?_⟩
    show (if b = m ∧ i = k then some a else if b = a then none else h.2 b i) = _
    rw [if_neg (fun e => z e.1), if_neg nb]
    exact j4 i z
  · rcases List.mem_cons.mp hq with rfl | hq
    · refine ⟨a0, ?_, ?_, fun i => ?_, fun i => ?_, ?_⟩
      · show (if a = a then kd else _) = _; rw [if_pos rfl]
      · show (if a = a then n else _) = _; rw [if_pos rfl]
      · show (if a = a then (0 : Int) else _) = _; rw [if_pos rfl]
      · show (if a = m ∧ i = k then some a else if a = a then none else _) = _; rw [if_neg (fun e => nam e.1.symm), if_pos rfl]
      · show (if m = m ∧ k = k then some a else _) = _; rw [if_pos ⟨rfl, rfl⟩]
    · obtain ⟨j1, j2, j3, j4, j5, j6⟩ := i2 q hq
      have nq : q.2.2.2 ≠ a := fun e => by rw [e, ha] at j2; exact i4 q hq j2.symm
      have nqm : q.2.2.2 ≠ m := fun e => hm (by rw [← e]; exact j1)
      refine ⟨j1, ?_, ?_, fun i => ?_, fun i => ?_, ?_⟩
      · show (if q.2.2.2 = a then kd else _) = _; rw [if_neg nq]; exact j2
      · show (if q.2.2.2 = a then n else _) = _; rw [if_neg nq]; exact j3
      · show (if q.2.2.2 = a then (0 : Int) else _) = _; rw [if_neg nq]; exact j4 i
      · show (if q.2.2.2 = m ∧ i = k then some a else if q.2.2.2 = a then none else _) = _; rw [if_neg (fun e => nqm e.1), if_neg nq]; exact j5 i
      · show (if m = m ∧ q.1 = k then some a else if m = a then none else _) = _; rw [if_neg (fun e => hs q hq e.2), if_neg nam]; exact j6
  · refine List.pairwise_cons.mpr ⟨fun q hq e => ?_, i3⟩
    have e : a = q.2.2.2 := e
    have := (i2 q hq).2.1
    rw [← e, ha] at this
    exact i4 q hq this.symm
  · rcases List.mem_cons.mp hq with rfl | hq
    · exact hk
    · exact i4 q hq
def inH (h : bh) (a r o : Nat) : bh :=
  let h1 := bsetI (bsetI (bsetI (bsetI (bsetI (bsetI (bsetI (bfl (bfl h r 0 0 28) o 0 0 7) r 0 8) r 1 1) r 2 2) r 3 12) r 4 3) r 5 1) r 6 (-1)
  let h2 := bcp h1 a 0 r 0 28
  bcp (bfl (bsetI (bsetI (bfl h2 a 28 0 2996) a 36 ((bfl h2 a 28 0 2996).1 a 9)) a 53 (-1)) a 37 (-1) 6) a 535 a 46 489
theorem nMk.get {m : Nat} {τ0 τ : bt} {h0 h : bh} {l : List nQ} {T : List (Nat × Nat × Nat)} {k kd n : Nat} (I : nMk m τ0 h0 l τ h) (hl : l.map (fun q => (q.1, q.2.1, q.2.2.1)) = T) (ht : (k, kd, n) ∈ T) : ∃ a, h.2 m k = some a ∧ τ.1 a = kd ∧ τ.2 a = n ∧ (k, kd, n, a) ∈ l := by
  rw [← hl] at ht
  obtain ⟨⟨k', kd', n', a⟩, hq, e⟩ := List.mem_map.mp ht
  cases e
  obtain ⟨-, j2, j3, -, -, j6⟩ := I.2.1 _ hq
  exact ⟨a, j6, j2, j3, hq⟩
theorem in_fun (m : Nat) : bOk ey190 2 4 17 41180 (fun _ avs τ h => avs = [.ref m] ∧ τ.1 m = 12) (fun _ avs τ h v τ' h' => ∃ (h1 : bh) (l : List nQ) (a r o : Nat), nMk m τ h l τ' h1 ∧ l.map (fun q => (q.1, q.2.1, q.2.2.1)) = [(34, 41, 240), (31, 41, 4), (30, 41, 120), (27, 41, 3), (26, 41, 38), (24, 43, 7), (23, 43, 2), (22, 44, 20), (21, 44, 10), (20, 44, 10), (19, 41, 2996), (18, 41, 2996), (17, 41, 23968), (16, 41, 6532), (15, 41, 28), (14, 41, 3266), (1, 41, 940)] ∧ h1.2 m 14 = some a ∧ h1.2 m 15 = some r ∧ h1.2 m 24 = some o ∧ v = none ∧ h' = inH h1 a r o) := by
  refine bOk_of emp190.1.2.2.2.2.2.1 ?_ ?_
  · rintro ι avs τ h ⟨rfl, -⟩
    exact Nat.le_of_ble_eq_true rfl
  · intro γ ι τ h avs d hd hp Bg C
    obtain ⟨rfl, hm⟩ := hp
    have hn : γ.2.2.1 = 2 := Bg.2.1
    obtain ⟨d, rfl⟩ : ∃ d', d = d' + 1 := ⟨d - 1, by omega⟩
    have hm0 : τ.1 m ≠ 0 := by omega
    have A17 : ∀ (τ1 : bt) (h1 : bh) (l : List nQ), nMk m τ h l τ1 h1 → l.map (fun q => (q.1, q.2.1, q.2.2.1)) = [(34, 41, 240), (31, 41, 4), (30, 41, 120), (27, 41, 3), (26, 41, 38), (24, 43, 7), (23, 43, 2), (22, 44, 20), (21, 44, 10), (20, 44, 10), (19, 41, 2996), (18, 41, 2996), (17, 41, 23968), (16, 41, 6532), (15, 41, 28), (14, 41, 3266), (1, 41, 940)] → bJ γ 144 [some (.ref m), none] [] τ1 h1 17 41180 := by
      intro τ1 h1 l I hl
      have tm : τ1.1 m = 12 := (I.1 m hm0).1.trans hm
      obtain ⟨a, ha, hta, hla, qa⟩ := I.get hl (k := 14) (kd := 41) (n := 3266) (by decide)
      obtain ⟨r, hr, htr, hlr, qr⟩ := I.get hl (k := 15) (kd := 41) (n := 28) (by decide)
      obtain ⟨o, ho, hto, hlo, qo⟩ := I.get hl (k := 24) (kd := 43) (n := 7) (by decide)
      have nra : r ≠ a := fun e => by rw [e] at hlr; omega
      have loop : ∀ j i : Nat, i + j = 28 → bJ γ 150 [some (.ref m), some (.int (bz (i : Int)))] [] τ1 (bcp (bsetI (bsetI (bsetI (bsetI (bsetI (bsetI (bsetI (bfl (bfl h1 r 0 0 28) o 0 0 7) r 0 8) r 1 1) r 2 2) r 3 12) r 4 3) r 5 1) r 6 (-1)) a 0 r 0 i) 17 41180 := by
        intro j
        induction j with
        | zero =>
          intro i hi
          obtain rfl : i = 28 := by omega
          refine b_iload_n C (dk_at ec190 (i := 74) rfl).1 rfl ?_
          refine b_bipush C (dk_at ec190 (i := 75) rfl).1 ⟨by omega, by omega⟩ ?_
          refine b_icmp_ge (t := 174) C (dk_at ec190 (i := 76) rfl).1 (by decide) ⟨by omega, by omega⟩ ⟨by omega, by omega⟩ (fun z153 => ?_) (fun z153 => ?_)
          · refine b_al0 C (dk_at ec190 (i := 87) rfl).1 rfl ?_
            refine b_inv (As := []) (rest := []) C Bg.x (dk_at ec190 (i := 88) rfl) (by decide) rfl so_fun (by omega) rfl tm ⟨m, a, rfl, tm, ha, hta, hla⟩ (Nat.le_of_ble_eq_true rfl) (Nat.le_refl _) (Nat.le_refl _) ?_
            rintro v τ3 h3 ⟨m', a', e1, e2, rfl, rfl, rfl⟩
            injection e1 with e1
            injection e1 with e1
            subst e1
            have e2 : h1.2 m 14 = some a' := e2
            rw [ha] at e2
            cases e2
            exact b_vret C Bg (dk_at ec190 (i := 89) rfl).1 rfl (Nat.le_refl _) (Nat.le_refl _) ⟨h1, l, a, r, o, I, hl, ha, hr, ho, rfl, rfl⟩
          · omega
        | succ j ih =>
          intro i hi
          refine b_iload_n C (dk_at ec190 (i := 74) rfl).1 rfl ?_
          refine b_bipush C (dk_at ec190 (i := 75) rfl).1 ⟨by omega, by omega⟩ ?_
          refine b_icmp_ge (t := 174) C (dk_at ec190 (i := 76) rfl).1 (by decide) ⟨by omega, by omega⟩ ⟨by omega, by omega⟩ (fun z153 => ?_) (fun z153 => ?_)
          · omega
          · refine b_al0 C (dk_at ec190 (i := 77) rfl).1 rfl ?_
            refine b_gR C (dk_at ec190 (i := 78) rfl) tm ha ?_
            refine b_iload_n C (dk_at ec190 (i := 79) rfl).1 rfl ?_
            refine b_al0 C (dk_at ec190 (i := 80) rfl).1 rfl ?_
            refine b_gR C (dk_at ec190 (i := 81) rfl) tm hr ?_
            refine b_iload_n C (dk_at ec190 (i := 82) rfl).1 rfl ?_
            refine b_rd (j := 0 + i) C (dk_at ec190 (i := 83) rfl).1 htr (by omega) (by omega) (fun hv => ?_)
            refine b_wr (j := 0 + i) C (dk_at ec190 (i := 84) rfl).1 hta (by omega) (by omega) hv ?_
            refine b_iinc (a := (i : Int)) C (dk_at ec190 (i := 85) rfl).1 (by rw [hn]; decide) rfl (bno2_of (fun w hw _ => by cases hw; exact (show (1 : Nat) ≠ 2 by decide))) ?_
            refine b_goto (t := 150) C (dk_at ec190 (i := 86) rfl).1 (by decide) ?_
            have := ih (i + 1) (by omega)
            rw [show (((i + 1 : Nat) : Int)) = (i : Int) + 1 by omega, ← bcp_step (Or.inl nra)] at this
            rw [bcp_rd (Or.inl nra)]
            exact this
      refine b_al0 C (dk_at ec190 (i := 70) rfl).1 rfl ?_
      refine b_inv (As := []) (rest := []) C Bg.x (dk_at ec190 (i := 71) rfl) (by decide) rfl sr_fun (by omega) rfl tm ⟨m, r, o, rfl, tm, hr, htr, hlr, ho, hto, hlo⟩ (Nat.le_of_ble_eq_true rfl) (Nat.le_refl _) (Nat.le_refl _) ?_
      rintro v τ2 h2 ⟨m', r', o', e1, e2, e3, rfl, eτ, rfl⟩
      replace eτ := eτ.symm
      subst eτ
      injection e1 with e1
      injection e1 with e1
      subst e1
      rw [hr] at e2
      rw [ho] at e3
      cases e2
      cases e3
      refine b_iconst C (dk_at ec190 (i := 72) rfl).1 ?_
      refine b_istore_n C (dk_at ec190 (i := 73) rfl).1 (by rw [hn]; decide) (bno2_of (fun w hw _ => by cases hw; exact (show (1 : Nat) ≠ 2 by decide))) ?_
      have := loop 28 0 rfl
      rw [bcp_0] at this
      exact this
    have A16 : ∀ (τ1 : bt) (h1 : bh) (l : List nQ), nMk m τ h l τ1 h1 → l.map (fun q => (q.1, q.2.1, q.2.2.1)) = [(31, 41, 4), (30, 41, 120), (27, 41, 3), (26, 41, 38), (24, 43, 7), (23, 43, 2), (22, 44, 20), (21, 44, 10), (20, 44, 10), (19, 41, 2996), (18, 41, 2996), (17, 41, 23968), (16, 41, 6532), (15, 41, 28), (14, 41, 3266), (1, 41, 940)] → bJ γ 135 [some (.ref m), none] [] τ1 h1 16 40940 := by
      intro τ1 h1 l I hl
      refine b_al0 C (dk_at ec190 (i := 66) rfl).1 rfl ?_
      refine b_sipush C (dk_at ec190 (i := 67) rfl).1 ⟨by omega, by omega⟩ ?_
      refine b_nA C (dk_at ec190 (i := 68) rfl) (by omega) (by omega) (by decide) (by decide) (fun c z => ?_)
      have I2 := I.step (k := 34) (kd := 41) (n := Int.toNat 240) hm0 z (by decide) (fun q hq => (by decide : ∀ t ∈ [(31, 41, 4), (30, 41, 120), (27, 41, 3), (26, 41, 38), (24, 43, 7), (23, 43, 2), (22, 44, 20), (21, 44, 10), (20, 44, 10), (19, 41, 2996), (18, 41, 2996), (17, 41, 23968), (16, 41, 6532), (15, 41, 28), (14, 41, 3266), (1, 41, 940)], t.1 ≠ 34) _ (hl ▸ List.mem_map_of_mem hq))
      refine b_pR C (dk_at ec190 (i := 69) rfl) ((I2.1 m hm0).1.trans hm) ?_
      exact A17 _ _ _ I2 (by rw [List.map_cons, hl]; rfl)
    have A15 : ∀ (τ1 : bt) (h1 : bh) (l : List nQ), nMk m τ h l τ1 h1 → l.map (fun q => (q.1, q.2.1, q.2.2.1)) = [(30, 41, 120), (27, 41, 3), (26, 41, 38), (24, 43, 7), (23, 43, 2), (22, 44, 20), (21, 44, 10), (20, 44, 10), (19, 41, 2996), (18, 41, 2996), (17, 41, 23968), (16, 41, 6532), (15, 41, 28), (14, 41, 3266), (1, 41, 940)] → bJ γ 128 [some (.ref m), none] [] τ1 h1 15 40936 := by
      intro τ1 h1 l I hl
      refine b_al0 C (dk_at ec190 (i := 62) rfl).1 rfl ?_
      refine b_iconst C (dk_at ec190 (i := 63) rfl).1 ?_
      refine b_nA C (dk_at ec190 (i := 64) rfl) (by omega) (by omega) (by decide) (by decide) (fun c z => ?_)
      have I2 := I.step (k := 31) (kd := 41) (n := Int.toNat 4) hm0 z (by decide) (fun q hq => (by decide : ∀ t ∈ [(30, 41, 120), (27, 41, 3), (26, 41, 38), (24, 43, 7), (23, 43, 2), (22, 44, 20), (21, 44, 10), (20, 44, 10), (19, 41, 2996), (18, 41, 2996), (17, 41, 23968), (16, 41, 6532), (15, 41, 28), (14, 41, 3266), (1, 41, 940)], t.1 ≠ 31) _ (hl ▸ List.mem_map_of_mem hq))
      refine b_pR C (dk_at ec190 (i := 65) rfl) ((I2.1 m hm0).1.trans hm) ?_
      exact A16 _ _ _ I2 (by rw [List.map_cons, hl]; rfl)
    have A14 : ∀ (τ1 : bt) (h1 : bh) (l : List nQ), nMk m τ h l τ1 h1 → l.map (fun q => (q.1, q.2.1, q.2.2.1)) = [(27, 41, 3), (26, 41, 38), (24, 43, 7), (23, 43, 2), (22, 44, 20), (21, 44, 10), (20, 44, 10), (19, 41, 2996), (18, 41, 2996), (17, 41, 23968), (16, 41, 6532), (15, 41, 28), (14, 41, 3266), (1, 41, 940)] → bJ γ 120 [some (.ref m), none] [] τ1 h1 14 40816 := by
      intro τ1 h1 l I hl
      refine b_al0 C (dk_at ec190 (i := 58) rfl).1 rfl ?_
      refine b_bipush C (dk_at ec190 (i := 59) rfl).1 ⟨by omega, by omega⟩ ?_
      refine b_nA C (dk_at ec190 (i := 60) rfl) (by omega) (by omega) (by decide) (by decide) (fun c z => ?_)
      have I2 := I.step (k := 30) (kd := 41) (n := Int.toNat 120) hm0 z (by decide) (fun q hq => (by decide : ∀ t ∈ [(27, 41, 3), (26, 41, 38), (24, 43, 7), (23, 43, 2), (22, 44, 20), (21, 44, 10), (20, 44, 10), (19, 41, 2996), (18, 41, 2996), (17, 41, 23968), (16, 41, 6532), (15, 41, 28), (14, 41, 3266), (1, 41, 940)], t.1 ≠ 30) _ (hl ▸ List.mem_map_of_mem hq))
      refine b_pR C (dk_at ec190 (i := 61) rfl) ((I2.1 m hm0).1.trans hm) ?_
      exact A15 _ _ _ I2 (by rw [List.map_cons, hl]; rfl)
    have A13 : ∀ (τ1 : bt) (h1 : bh) (l : List nQ), nMk m τ h l τ1 h1 → l.map (fun q => (q.1, q.2.1, q.2.2.1)) = [(26, 41, 38), (24, 43, 7), (23, 43, 2), (22, 44, 20), (21, 44, 10), (20, 44, 10), (19, 41, 2996), (18, 41, 2996), (17, 41, 23968), (16, 41, 6532), (15, 41, 28), (14, 41, 3266), (1, 41, 940)] → bJ γ 113 [some (.ref m), none] [] τ1 h1 13 40813 := by
      intro τ1 h1 l I hl
      refine b_al0 C (dk_at ec190 (i := 54) rfl).1 rfl ?_
      refine b_iconst C (dk_at ec190 (i := 55) rfl).1 ?_
      refine b_nA C (dk_at ec190 (i := 56) rfl) (by omega) (by omega) (by decide) (by decide) (fun c z => ?_)
      have I2 := I.step (k := 27) (kd := 41) (n := Int.toNat 3) hm0 z (by decide) (fun q hq => (by decide : ∀ t ∈ [(26, 41, 38), (24, 43, 7), (23, 43, 2), (22, 44, 20), (21, 44, 10), (20, 44, 10), (19, 41, 2996), (18, 41, 2996), (17, 41, 23968), (16, 41, 6532), (15, 41, 28), (14, 41, 3266), (1, 41, 940)], t.1 ≠ 27) _ (hl ▸ List.mem_map_of_mem hq))
      refine b_pR C (dk_at ec190 (i := 57) rfl) ((I2.1 m hm0).1.trans hm) ?_
      exact A14 _ _ _ I2 (by rw [List.map_cons, hl]; rfl)
    have A12 : ∀ (τ1 : bt) (h1 : bh) (l : List nQ), nMk m τ h l τ1 h1 → l.map (fun q => (q.1, q.2.1, q.2.2.1)) = [(24, 43, 7), (23, 43, 2), (22, 44, 20), (21, 44, 10), (20, 44, 10), (19, 41, 2996), (18, 41, 2996), (17, 41, 23968), (16, 41, 6532), (15, 41, 28), (14, 41, 3266), (1, 41, 940)] → bJ γ 105 [some (.ref m), none] [] τ1 h1 12 40775 := by
      intro τ1 h1 l I hl
      refine b_al0 C (dk_at ec190 (i := 50) rfl).1 rfl ?_
      refine b_bipush C (dk_at ec190 (i := 51) rfl).1 ⟨by omega, by omega⟩ ?_
      refine b_nA C (dk_at ec190 (i := 52) rfl) (by omega) (by omega) (by decide) (by decide) (fun c z => ?_)
      have I2 := I.step (k := 26) (kd := 41) (n := Int.toNat 38) hm0 z (by decide) (fun q hq => (by decide : ∀ t ∈ [(24, 43, 7), (23, 43, 2), (22, 44, 20), (21, 44, 10), (20, 44, 10), (19, 41, 2996), (18, 41, 2996), (17, 41, 23968), (16, 41, 6532), (15, 41, 28), (14, 41, 3266), (1, 41, 940)], t.1 ≠ 26) _ (hl ▸ List.mem_map_of_mem hq))
      refine b_pR C (dk_at ec190 (i := 53) rfl) ((I2.1 m hm0).1.trans hm) ?_
      exact A13 _ _ _ I2 (by rw [List.map_cons, hl]; rfl)
    have A11 : ∀ (τ1 : bt) (h1 : bh) (l : List nQ), nMk m τ h l τ1 h1 → l.map (fun q => (q.1, q.2.1, q.2.2.1)) = [(23, 43, 2), (22, 44, 20), (21, 44, 10), (20, 44, 10), (19, 41, 2996), (18, 41, 2996), (17, 41, 23968), (16, 41, 6532), (15, 41, 28), (14, 41, 3266), (1, 41, 940)] → bJ γ 97 [some (.ref m), none] [] τ1 h1 11 40768 := by
      intro τ1 h1 l I hl
      refine b_al0 C (dk_at ec190 (i := 46) rfl).1 rfl ?_
      refine b_bipush C (dk_at ec190 (i := 47) rfl).1 ⟨by omega, by omega⟩ ?_
      refine b_nA C (dk_at ec190 (i := 48) rfl) (by omega) (by omega) (by decide) (by decide) (fun c z => ?_)
      have I2 := I.step (k := 24) (kd := 43) (n := Int.toNat 7) hm0 z (by decide) (fun q hq => (by decide : ∀ t ∈ [(23, 43, 2), (22, 44, 20), (21, 44, 10), (20, 44, 10), (19, 41, 2996), (18, 41, 2996), (17, 41, 23968), (16, 41, 6532), (15, 41, 28), (14, 41, 3266), (1, 41, 940)], t.1 ≠ 24) _ (hl ▸ List.mem_map_of_mem hq))
      refine b_pR C (dk_at ec190 (i := 49) rfl) ((I2.1 m hm0).1.trans hm) ?_
      exact A12 _ _ _ I2 (by rw [List.map_cons, hl]; rfl)
    have A10 : ∀ (τ1 : bt) (h1 : bh) (l : List nQ), nMk m τ h l τ1 h1 → l.map (fun q => (q.1, q.2.1, q.2.2.1)) = [(22, 44, 20), (21, 44, 10), (20, 44, 10), (19, 41, 2996), (18, 41, 2996), (17, 41, 23968), (16, 41, 6532), (15, 41, 28), (14, 41, 3266), (1, 41, 940)] → bJ γ 90 [some (.ref m), none] [] τ1 h1 10 40766 := by
      intro τ1 h1 l I hl
      refine b_al0 C (dk_at ec190 (i := 42) rfl).1 rfl ?_
      refine b_iconst C (dk_at ec190 (i := 43) rfl).1 ?_
      refine b_nA C (dk_at ec190 (i := 44) rfl) (by omega) (by omega) (by decide) (by decide) (fun c z => ?_)
      have I2 := I.step (k := 23) (kd := 43) (n := Int.toNat 2) hm0 z (by decide) (fun q hq => (by decide : ∀ t ∈ [(22, 44, 20), (21, 44, 10), (20, 44, 10), (19, 41, 2996), (18, 41, 2996), (17, 41, 23968), (16, 41, 6532), (15, 41, 28), (14, 41, 3266), (1, 41, 940)], t.1 ≠ 23) _ (hl ▸ List.mem_map_of_mem hq))
      refine b_pR C (dk_at ec190 (i := 45) rfl) ((I2.1 m hm0).1.trans hm) ?_
      exact A11 _ _ _ I2 (by rw [List.map_cons, hl]; rfl)
    have A9 : ∀ (τ1 : bt) (h1 : bh) (l : List nQ), nMk m τ h l τ1 h1 → l.map (fun q => (q.1, q.2.1, q.2.2.1)) = [(21, 44, 10), (20, 44, 10), (19, 41, 2996), (18, 41, 2996), (17, 41, 23968), (16, 41, 6532), (15, 41, 28), (14, 41, 3266), (1, 41, 940)] → bJ γ 82 [some (.ref m), none] [] τ1 h1 9 40746 := by
      intro τ1 h1 l I hl
      refine b_al0 C (dk_at ec190 (i := 38) rfl).1 rfl ?_
      refine b_bipush C (dk_at ec190 (i := 39) rfl).1 ⟨by omega, by omega⟩ ?_
      refine b_nA C (dk_at ec190 (i := 40) rfl) (by omega) (by omega) (by decide) (by decide) (fun c z => ?_)
      have I2 := I.step (k := 22) (kd := 44) (n := Int.toNat 20) hm0 z (by decide) (fun q hq => (by decide : ∀ t ∈ [(21, 44, 10), (20, 44, 10), (19, 41, 2996), (18, 41, 2996), (17, 41, 23968), (16, 41, 6532), (15, 41, 28), (14, 41, 3266), (1, 41, 940)], t.1 ≠ 22) _ (hl ▸ List.mem_map_of_mem hq))
      refine b_pR C (dk_at ec190 (i := 41) rfl) ((I2.1 m hm0).1.trans hm) ?_
      exact A10 _ _ _ I2 (by rw [List.map_cons, hl]; rfl)
    have A8 : ∀ (τ1 : bt) (h1 : bh) (l : List nQ), nMk m τ h l τ1 h1 → l.map (fun q => (q.1, q.2.1, q.2.2.1)) = [(20, 44, 10), (19, 41, 2996), (18, 41, 2996), (17, 41, 23968), (16, 41, 6532), (15, 41, 28), (14, 41, 3266), (1, 41, 940)] → bJ γ 74 [some (.ref m), none] [] τ1 h1 8 40736 := by
      intro τ1 h1 l I hl
      refine b_al0 C (dk_at ec190 (i := 34) rfl).1 rfl ?_
      refine b_bipush C (dk_at ec190 (i := 35) rfl).1 ⟨by omega, by omega⟩ ?_
      refine b_nA C (dk_at ec190 (i := 36) rfl) (by omega) (by omega) (by decide) (by decide) (fun c z => ?_)
      have I2 := I.step (k := 21) (kd := 44) (n := Int.toNat 10) hm0 z (by decide) (fun q hq => (by decide : ∀ t ∈ [(20, 44, 10), (19, 41, 2996), (18, 41, 2996), (17, 41, 23968), (16, 41, 6532), (15, 41, 28), (14, 41, 3266), (1, 41, 940)], t.1 ≠ 21) _ (hl ▸ List.mem_map_of_mem hq))
      refine b_pR C (dk_at ec190 (i := 37) rfl) ((I2.1 m hm0).1.trans hm) ?_
      exact A9 _ _ _ I2 (by rw [List.map_cons, hl]; rfl)
    have A7 : ∀ (τ1 : bt) (h1 : bh) (l : List nQ), nMk m τ h l τ1 h1 → l.map (fun q => (q.1, q.2.1, q.2.2.1)) = [(19, 41, 2996), (18, 41, 2996), (17, 41, 23968), (16, 41, 6532), (15, 41, 28), (14, 41, 3266), (1, 41, 940)] → bJ γ 66 [some (.ref m), none] [] τ1 h1 7 40726 := by
      intro τ1 h1 l I hl
      refine b_al0 C (dk_at ec190 (i := 30) rfl).1 rfl ?_
      refine b_bipush C (dk_at ec190 (i := 31) rfl).1 ⟨by omega, by omega⟩ ?_
      refine b_nA C (dk_at ec190 (i := 32) rfl) (by omega) (by omega) (by decide) (by decide) (fun c z => ?_)
      have I2 := I.step (k := 20) (kd := 44) (n := Int.toNat 10) hm0 z (by decide) (fun q hq => (by decide : ∀ t ∈ [(19, 41, 2996), (18, 41, 2996), (17, 41, 23968), (16, 41, 6532), (15, 41, 28), (14, 41, 3266), (1, 41, 940)], t.1 ≠ 20) _ (hl ▸ List.mem_map_of_mem hq))
      refine b_pR C (dk_at ec190 (i := 33) rfl) ((I2.1 m hm0).1.trans hm) ?_
      exact A8 _ _ _ I2 (by rw [List.map_cons, hl]; rfl)
    have A6 : ∀ (τ1 : bt) (h1 : bh) (l : List nQ), nMk m τ h l τ1 h1 → l.map (fun q => (q.1, q.2.1, q.2.2.1)) = [(18, 41, 2996), (17, 41, 23968), (16, 41, 6532), (15, 41, 28), (14, 41, 3266), (1, 41, 940)] → bJ γ 57 [some (.ref m), none] [] τ1 h1 6 37730 := by
      intro τ1 h1 l I hl
      refine b_al0 C (dk_at ec190 (i := 26) rfl).1 rfl ?_
      refine b_sipush C (dk_at ec190 (i := 27) rfl).1 ⟨by omega, by omega⟩ ?_
      refine b_nA C (dk_at ec190 (i := 28) rfl) (by omega) (by omega) (by decide) (by decide) (fun c z => ?_)
      have I2 := I.step (k := 19) (kd := 41) (n := Int.toNat 2996) hm0 z (by decide) (fun q hq => (by decide : ∀ t ∈ [(18, 41, 2996), (17, 41, 23968), (16, 41, 6532), (15, 41, 28), (14, 41, 3266), (1, 41, 940)], t.1 ≠ 19) _ (hl ▸ List.mem_map_of_mem hq))
      refine b_pR C (dk_at ec190 (i := 29) rfl) ((I2.1 m hm0).1.trans hm) ?_
      exact A7 _ _ _ I2 (by rw [List.map_cons, hl]; rfl)
    have A5 : ∀ (τ1 : bt) (h1 : bh) (l : List nQ), nMk m τ h l τ1 h1 → l.map (fun q => (q.1, q.2.1, q.2.2.1)) = [(17, 41, 23968), (16, 41, 6532), (15, 41, 28), (14, 41, 3266), (1, 41, 940)] → bJ γ 48 [some (.ref m), none] [] τ1 h1 5 34734 := by
      intro τ1 h1 l I hl
      refine b_al0 C (dk_at ec190 (i := 22) rfl).1 rfl ?_
      refine b_sipush C (dk_at ec190 (i := 23) rfl).1 ⟨by omega, by omega⟩ ?_
      refine b_nA C (dk_at ec190 (i := 24) rfl) (by omega) (by omega) (by decide) (by decide) (fun c z => ?_)
      have I2 := I.step (k := 18) (kd := 41) (n := Int.toNat 2996) hm0 z (by decide) (fun q hq => (by decide : ∀ t ∈ [(17, 41, 23968), (16, 41, 6532), (15, 41, 28), (14, 41, 3266), (1, 41, 940)], t.1 ≠ 18) _ (hl ▸ List.mem_map_of_mem hq))
      refine b_pR C (dk_at ec190 (i := 25) rfl) ((I2.1 m hm0).1.trans hm) ?_
      exact A6 _ _ _ I2 (by rw [List.map_cons, hl]; rfl)
    have A4 : ∀ (τ1 : bt) (h1 : bh) (l : List nQ), nMk m τ h l τ1 h1 → l.map (fun q => (q.1, q.2.1, q.2.2.1)) = [(16, 41, 6532), (15, 41, 28), (14, 41, 3266), (1, 41, 940)] → bJ γ 39 [some (.ref m), none] [] τ1 h1 4 10766 := by
      intro τ1 h1 l I hl
      refine b_al0 C (dk_at ec190 (i := 18) rfl).1 rfl ?_
      refine b_sipush C (dk_at ec190 (i := 19) rfl).1 ⟨by omega, by omega⟩ ?_
      refine b_nA C (dk_at ec190 (i := 20) rfl) (by omega) (by omega) (by decide) (by decide) (fun c z => ?_)
      have I2 := I.step (k := 17) (kd := 41) (n := Int.toNat 23968) hm0 z (by decide) (fun q hq => (by decide : ∀ t ∈ [(16, 41, 6532), (15, 41, 28), (14, 41, 3266), (1, 41, 940)], t.1 ≠ 17) _ (hl ▸ List.mem_map_of_mem hq))
      refine b_pR C (dk_at ec190 (i := 21) rfl) ((I2.1 m hm0).1.trans hm) ?_
      exact A5 _ _ _ I2 (by rw [List.map_cons, hl]; rfl)
    have A3 : ∀ (τ1 : bt) (h1 : bh) (l : List nQ), nMk m τ h l τ1 h1 → l.map (fun q => (q.1, q.2.1, q.2.2.1)) = [(15, 41, 28), (14, 41, 3266), (1, 41, 940)] → bJ γ 30 [some (.ref m), none] [] τ1 h1 3 4234 := by
      intro τ1 h1 l I hl
      refine b_al0 C (dk_at ec190 (i := 14) rfl).1 rfl ?_
      refine b_sipush C (dk_at ec190 (i := 15) rfl).1 ⟨by omega, by omega⟩ ?_
      refine b_nA C (dk_at ec190 (i := 16) rfl) (by omega) (by omega) (by decide) (by decide) (fun c z => ?_)
      have I2 := I.step (k := 16) (kd := 41) (n := Int.toNat 6532) hm0 z (by decide) (fun q hq => (by decide : ∀ t ∈ [(15, 41, 28), (14, 41, 3266), (1, 41, 940)], t.1 ≠ 16) _ (hl ▸ List.mem_map_of_mem hq))
      refine b_pR C (dk_at ec190 (i := 17) rfl) ((I2.1 m hm0).1.trans hm) ?_
      exact A4 _ _ _ I2 (by rw [List.map_cons, hl]; rfl)
    have A2 : ∀ (τ1 : bt) (h1 : bh) (l : List nQ), nMk m τ h l τ1 h1 → l.map (fun q => (q.1, q.2.1, q.2.2.1)) = [(14, 41, 3266), (1, 41, 940)] → bJ γ 22 [some (.ref m), none] [] τ1 h1 2 4206 := by
      intro τ1 h1 l I hl
      refine b_al0 C (dk_at ec190 (i := 10) rfl).1 rfl ?_
      refine b_bipush C (dk_at ec190 (i := 11) rfl).1 ⟨by omega, by omega⟩ ?_
      refine b_nA C (dk_at ec190 (i := 12) rfl) (by omega) (by omega) (by decide) (by decide) (fun c z => ?_)
      have I2 := I.step (k := 15) (kd := 41) (n := Int.toNat 28) hm0 z (by decide) (fun q hq => (by decide : ∀ t ∈ [(14, 41, 3266), (1, 41, 940)], t.1 ≠ 15) _ (hl ▸ List.mem_map_of_mem hq))
      refine b_pR C (dk_at ec190 (i := 13) rfl) ((I2.1 m hm0).1.trans hm) ?_
      exact A3 _ _ _ I2 (by rw [List.map_cons, hl]; rfl)
    have A1 : ∀ (τ1 : bt) (h1 : bh) (l : List nQ), nMk m τ h l τ1 h1 → l.map (fun q => (q.1, q.2.1, q.2.2.1)) = [(1, 41, 940)] → bJ γ 13 [some (.ref m), none] [] τ1 h1 1 940 := by
      intro τ1 h1 l I hl
      refine b_al0 C (dk_at ec190 (i := 6) rfl).1 rfl ?_
      refine b_sipush C (dk_at ec190 (i := 7) rfl).1 ⟨by omega, by omega⟩ ?_
      refine b_nA C (dk_at ec190 (i := 8) rfl) (by omega) (by omega) (by decide) (by decide) (fun c z => ?_)
      have I2 := I.step (k := 14) (kd := 41) (n := Int.toNat 3266) hm0 z (by decide) (fun q hq => (by decide : ∀ t ∈ [(1, 41, 940)], t.1 ≠ 14) _ (hl ▸ List.mem_map_of_mem hq))
      refine b_pR C (dk_at ec190 (i := 9) rfl) ((I2.1 m hm0).1.trans hm) ?_
      exact A2 _ _ _ I2 (by rw [List.map_cons, hl]; rfl)
    have A0 : ∀ (τ1 : bt) (h1 : bh) (l : List nQ), nMk m τ h l τ1 h1 → l.map (fun q => (q.1, q.2.1, q.2.2.1)) = ([] : List (Nat × Nat × Nat)) → bJ γ 4 [some (.ref m), none] [] τ1 h1 0 0 := by
      intro τ1 h1 l I hl
      refine b_al0 C (dk_at ec190 (i := 2) rfl).1 rfl ?_
      refine b_sipush C (dk_at ec190 (i := 3) rfl).1 ⟨by omega, by omega⟩ ?_
      refine b_nA C (dk_at ec190 (i := 4) rfl) (by omega) (by omega) (by decide) (by decide) (fun c z => ?_)
      have I2 := I.step (k := 1) (kd := 41) (n := Int.toNat 940) hm0 z (by decide) (fun q hq => (by decide : ∀ t ∈ ([] : List (Nat × Nat × Nat)), t.1 ≠ 1) _ (hl ▸ List.mem_map_of_mem hq))
      refine b_pR C (dk_at ec190 (i := 5) rfl) ((I2.1 m hm0).1.trans hm) ?_
      exact A1 _ _ _ I2 (by rw [List.map_cons, hl]; rfl)
    refine b_al0 C (dk_at ec190 (i := 0) rfl).1 rfl ?_
    refine b_ob C (dk_at ec190 (i := 1) rfl) (Nat.le_of_ble_eq_true rfl) ?_
    exact A0 τ h [] ⟨fun b _ => ⟨rfl, rfl, fun _ => rfl, fun _ _ => rfl⟩, fun q hq => absurd hq List.not_mem_nil, List.Pairwise.nil, fun q hq => absurd hq List.not_mem_nil⟩ rfl
