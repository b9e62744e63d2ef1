/-! ===== p34: the class's images ===== -/
theorem cR11 : cfR cT0 11 = some (11, 0, 0, cSg 11) := by rfl
theorem cR10' : cfR cT0 10 = some (10, 0, 0, cSg 10) := by rfl
theorem cR52 : cfR cT0 52 = some (26, 2, 2, cSg 52) := by rfl
theorem cR53 : cfR cT0 53 = some (26, 8, 8, cSg 53) := by rfl
theorem s11 : cseg (cSg 11) 7 = (1, 0, 0, 10, false) ∧ (cseg (cSg 11) 9).1 = 2 ∧ (cseg (cSg 11) 10).1 = 2 := by decide +kernel
theorem s53 : (∀ i, i < 8 → cseg (cSg 53) i = (1, 0, 0, 10, true)) ∧ ∀ i, i < 2 → cseg (cSg 52) i = (1, 0, 0, 10, true) := by
  refine ⟨fun i hi => ?_, fun i hi => ?_⟩
  · have e : i = 0 ∨ i = 1 ∨ i = 2 ∨ i = 3 ∨ i = 4 ∨ i = 5 ∨ i = 6 ∨ i = 7 := by omega
    rcases e with rfl | rfl | rfl | rfl | rfl | rfl | rfl | rfl <;> rfl
  · have e : i = 0 ∨ i = 1 := by omega
    rcases e with rfl | rfl <;> rfl
section IMG
variable {g : Nat → Nat} {τ : bt} {h : bh}
theorem nw_wt {T : cTb} {a k n : Nat} (hw : cWT T g τ h) (ha : τ.1 a = 0) : cWT T g (bnT τ a k n) (bnH h a) := by
  have ga : g a = 0 := Classical.byContradiction fun z => by
    obtain ⟨R, -, r2, r3, -⟩ := hw a z
    exact r3 (by rw [← r2]; exact ha)
  have v1 : ∀ b, b ≠ a → ∀ i, (bnH h a).1 b i = h.1 b i := fun b e i => by show (if b = a then (0 : Int) else _) = _; rw [if_neg e]
  have v2 : ∀ b, b ≠ a → ∀ i, (bnH h a).2 b i = h.2 b i := fun b e i => by show (if b = a then none else _) = _; rw [if_neg e]
  have ne : ∀ b, g b ≠ 0 → b ≠ a := fun b hb e => hb (by rw [e]; exact ga)
  intro b hb
  obtain ⟨R, r1, r2, r3, r4, r5, r6, r7, r8⟩ := hw b hb
  have e := ne b hb
  refine ⟨R, r1, by show (if b = a then k else _) = _; rw [if_neg e]; exact r2, r3, by show R.2.1 ≤ ((if b = a then n else _ : Nat) : Int) ∧ ((if b = a then n else _ : Nat) : Int) ≤ _; rw [if_neg e]; exact r4, fun i => ⟨fun z => ?_, fun z => ?_⟩, fun k41 q hq q3 => creg_eq (fun i _ => v1 b e i) (r6 k41 q hq q3), fun e12 B K hB hK k hk hm => ?_, r8⟩
  · rw [v1 b e]; exact (r5 i).1 z
  · rw [v2 b e]; exact (r5 i).2 z
  · rw [v2 b e] at hB hK
    obtain ⟨w1, w2, w3, w4⟩ := r8 e12
    have nB : B ≠ a := by
      rcases (r5 23).2 w1 with ⟨-, z⟩ | ⟨c, c1, c2, c3⟩
      · rw [hB] at z; cases z
      · rw [hB] at c1; cases c1; exact ne _ c3
    have nK : K ≠ a := by
      rcases (r5 16).2 w3 with ⟨-, z⟩ | ⟨c, c1, c2, c3⟩
      · rw [hK] at z; cases z
      · rw [hK] at c1; cases c1; exact ne _ c3
    rw [v1 B nB] at hm
    have kk := r7 e12 B K hB hK k hk hm
    unfold chdk at *
    rw [v1 K nK, v1 K nK, v1 K nK]
    exact kk
theorem nw_g {T : cTb} {a : Nat} (hw : cWT T g τ h) (ha : τ.1 a = 0) : g a = 0 := Classical.byContradiction fun z => by
  obtain ⟨R, -, r2, r3, -⟩ := hw a z
  exact r3 (by rw [← r2]; exact ha)
/-- a reference is written -/
theorem ref_wt {a k w : Nat} {R : cR} (hw : cWT cT0 g τ h) (hr : cfR cT0 (g a) = some R) (h12 : g a ≠ 12) (hs : (cseg R.2.2.2 k).1 = 1 → g w = (cseg R.2.2.2 k).2.2.2.1 ∧ g w ≠ 0) : cWT cT0 g τ (bsetR h a k (some w)) := by
  intro b hb
  obtain ⟨R', r1, r2, r3, r4, r5, r6, r7, r8⟩ := hw b hb
  refine ⟨R', r1, r2, r3, r4, fun i => ⟨(r5 i).1, fun z => ?_⟩, r6, fun e12 B K hB hK kk hk hm => ?_, r8⟩
  · by_cases e : b = a ∧ i = k
    · obtain ⟨rfl, rfl⟩ := e
      rw [hr] at r1
      cases r1
      exact Or.inr ⟨w, if_pos ⟨rfl, rfl⟩, (hs z).1, (hs z).2⟩
    · have v : (bsetR h a k (some w)).2 b i = h.2 b i := if_neg e
      rw [v]
      exact (r5 i).2 z
  · have nb : b ≠ a := fun e => h12 (by rw [← e]; exact e12)
    have v : ∀ i, (bsetR h a k (some w)).2 b i = h.2 b i := fun i => if_neg (fun e => nb e.1)
    rw [v] at hB hK
    exact r7 e12 B K hB hK kk hk hm
theorem ref_hi {E : cEf} {a k w : Nat} (he : cef E (τ.1 a) k = true) : cHi E g τ h g τ (bsetR h a k (some w)) := by
  intro b _
  refine ⟨rfl, rfl, Or.inl rfl, fun i hi => ⟨rfl, if_neg (fun e => ?_)⟩⟩
  rw [e.1, e.2, he] at hi
  cases hi
theorem fld_hi {E : cEf} {a k : Nat} {z : Int} (he : cef E (τ.1 a) k = true) : cHi E g τ h g τ (bsetI h a k z) := by
  intro b _
  refine ⟨rfl, rfl, Or.inl rfl, fun i hi => ⟨if_neg (fun e => ?_), rfl⟩⟩
  rw [e.1, e.2, he] at hi
  cases hi
/-- what an array of Worlds holds -/
theorem w_slot {a i r : Nat} {n1 n2 : Int} (hw : cWT cT0 g τ h) (ga : g a = r) (h0 : r ≠ 0) (hR : cfR cT0 r = some (26, n1, n2, cSg r)) (hs : cseg (cSg r) i = (1, 0, 0, 10, true)) : h.2 a i = none ∨ ∃ w, h.2 a i = some w ∧ g w = 10 ∧ τ.1 w = 10 ∧ τ.2 w = 0 := by
  obtain ⟨R, r1, -, -, -, r5, -⟩ := hw a (by rw [ga]; exact h0)
  rw [ga, hR] at r1
  cases r1
  have r5 := (r5 i).2
  rw [show cseg ((26, n1, n2, cSg r) : cR).2.2.2 i = (1, 0, 0, 10, true) from hs] at r5
  rcases r5 rfl with ⟨-, e⟩ | ⟨w, e1, e2, e3⟩
  · exact Or.inl e
  · obtain ⟨R, q1, q2, -, q4, -⟩ := hw w e3
    rw [show g w = 10 from e2, cR10'] at q1
    cases q1
    have q5 : (τ.2 w : Int) ≤ 0 := q4.2
    exact Or.inr ⟨w, e1, e2, q2, by omega⟩
end IMG
section NW
variable {γ : bG} {y : bY} {d b1 b2 pc : Nat} {lo : List (Option Value)} {nc ns : Nat} {Γ : List (bY × Nat)} {g : Nat → Nat} {τ : bt} {h : bh}
/-- a new World -/
theorem b_nW {st : List Value} {i1 i2 r3 r4 r5 mid r4' : Nat} (C : bC γ y (d + 1) b1 b2) (X : bX γ) (h1 : dk_ok y Γ (pc, .new i1, 3, 9, 11, r3, r4, r5)) (h2 : decode y.2.1 (pc + 3) = .ok (.dup, 1)) (h3 : dk_ok y Γ (pc + 3 + 1, .invokespecial i2, 3, mid, 1, 3, r4', 9)) (hq : Γ[mid]? = some (ey107, 1)) (hd : 3 ≤ d) (hw : cWT cT0 g τ h) (hk : cKt γ.1 g) (hsum : ∀ w : Nat, ((Value.ref w :: st).map fun v => v.category).sum ≤ 8) (hc : nc + 1 + 22 ≤ b1) (hs : ns + 11 + 1824 ≤ b2) (kk : ∀ (w : Nat) (g' : Nat → Nat) (τ' : bt) (h' : bh), cWT cT0 g' τ' h' → cKt γ.1 g' → cHi enc137.2.2 g τ h g' τ' h' → τ'.1 w = 10 → g' w = 10 → τ'.2 w = 0 → bJ γ (pc + 3 + 1 + 3) lo (.ref w :: st) τ' h' (nc + 1 + 22) (ns + 11 + 1824)) : bJ γ pc lo st τ h nc ns := by
  refine b_nO C h1 (by omega) (by omega) (fun w zw => ?_)
  have w1 := nw_wt (k := 10) (n := 0) hw zw
  refine b_dup C h2 rfl ?_
  have tx : (bnT τ w 10 0).1 w = 10 := if_pos rfl
  have lx : (bnT τ w 10 0).2 w = 0 := if_pos rfl
  have gx := nw_g hw zw
  have nx : ∀ k, (bnH h w).2 w k = none := fun k => if_pos rfl
  have ix : ∀ k, (bnH h w).1 w k = 0 := fun k => if_pos rfl
  have H0 : cHi enc137.2.2 g τ h g (bnT τ w 10 0) (bnH h w) := by
    intro a ha
    have na : a ≠ w := fun e => ha (by rw [e]; exact zw)
    exact ⟨if_neg na, if_neg na, Or.inl rfl, fun i _ => ⟨if_neg na, if_neg na⟩⟩
  refine b_isp (As := []) (rest := .ref w :: st) C X h3 ⟨by decide, by decide⟩ hq (eoc137 g (fun _ => 0) (fun _ => some w)) hd rfl ⟨w1, hk, fun _ => brg0, ⟨⟨fun _ => brg0, fun q hq => absurd hq List.not_mem_nil⟩, fun q hq => absurd hq List.not_mem_nil, fun q hq => ?_, fun q hq => ?_⟩, ⟨cv_P rfl, trivial⟩⟩ (hsum w) hc hs ?_
  · obtain rfl := List.mem_singleton.mp hq
    exact Or.inr ⟨w, rfl, tx, by decide, gx, by show ((bnT τ w 10 0).2 w : Int) = 0 + 0; rw [lx]; rfl⟩
  · have key : ∀ q ∈ enc137.1.2.2.1.2.2.2, q.1 = 0 ∧ (q.2.2.1 = 2 ∨ q.2.2 = (0, 0, (0, []))) := by decide
    obtain ⟨k1, k2⟩ := key q hq
    refine ⟨w, by rw [k1], fun z => ?_, fun z => ?_, fun _ => nx _⟩
    · rcases k2 with k2 | k2
      · omega
      · rw [k2, ix]; rfl
    · rcases k2 with k2 | k2
      · omega
      · rw [k2] at z; cases z
  rintro v τ2 h2 ⟨g2, ρ2, σ2, w2, k2, H2, a2, s2, v2⟩
  cases v with
  | some v => exact (show False from v2).elim
  | none =>
    rcases s2.2.2.1 _ List.mem_cons_self with ⟨e, -⟩ | ⟨x', e1, e2, -, e4, e5⟩
    · cases e
    · have e1 : σ2 0 = some x' := e1
      have a3 : σ2 0 = some w := a2.2.2 0 (by decide)
      rw [a3] at e1
      cases e1
      have e5 : (τ2.2 w : Int) = 0 + 0 := e5
      exact kk w g2 τ2 h2 w2 k2 (cHi.trans (E' := enc137.2.2) (by decide +kernel) H0 H2) e2 e4 (by omega)
/-- a World is copied from another -/
theorem b_cF {mid k mode r4 idx a b : Nat} {rest : List Value} (C : bC γ y (d + 1) b1 b2) (X : bX γ) (hE : dk_ok y Γ (pc, .invokevirtual idx, 3, mid, k, mode, r4, 9)) (hm : mode ≤ 1) (hq : Γ[mid]? = some (ey108, 2)) (hd : 3 ≤ d) (hk2 : 2 = k) (hw : cWT cT0 g τ h) (hk : cKt γ.1 g) (ha : τ.1 a = 10 ∧ g a = 10 ∧ τ.2 a = 0) (hb : τ.1 b = 10 ∧ g b = 10 ∧ τ.2 b = 0) (hsum : (rest.map fun v => v.category).sum ≤ 8) (hc : nc ≤ b1) (hs : ns ≤ b2) (kk : ∀ (g' : Nat → Nat) (τ' : bt) (h' : bh), cWT cT0 g' τ' h' → cKt γ.1 g' → cHi enc138.2.2 g τ h g' τ' h' → bJ γ (pc + 3) lo rest τ' h' nc ns) : bJ γ pc lo (.ref b :: .ref a :: rest) τ h nc ns := by
  refine b_inv (As := [.ref b]) (rest := rest) C X hE hm hq (eoc138 g (fun _ => 0) (fun s => if s = 0 then some a else some b)) hd hk2 ha.1 ⟨hw, hk, fun _ => brg0, ⟨⟨fun _ => brg0, fun q hq => absurd hq List.not_mem_nil⟩, fun q hq => absurd hq List.not_mem_nil, fun q hq => ?_, fun q hq => absurd hq List.not_mem_nil⟩, ⟨cv_P rfl, cv_P rfl, trivial⟩⟩ hsum hc hs ?_
  · rcases List.mem_cons.mp hq with rfl | hq
    · exact Or.inr ⟨a, rfl, ha.1, by decide, ha.2.1, by show (τ.2 a : Int) = 0 + 0; rw [ha.2.2]; rfl⟩
    · obtain rfl := List.mem_singleton.mp hq
      exact Or.inr ⟨b, rfl, hb.1, by decide, hb.2.1, by show (τ.2 b : Int) = 0 + 0; rw [hb.2.2]; rfl⟩
  · rintro v τ2 h2 ⟨g2, ρ2, σ2, w2, k2, H2, -, -, v2⟩
    cases v with
    | some v => exact (show False from v2).elim
    | none => exact kk g2 τ2 h2 w2 k2 H2
end NW
theorem eovkl : cOk cT0 ey134 3 4 23 1835 envkl := by
  intro g ρ σ
  refine bOk_of emp134.1.2.2.2.2.2.1 ?_ ?_
  · rintro ι avs τ h hp
    obtain ⟨m, xs, rfl, -, m2, m3, hxs⟩ := m_this hp rfl rfl
    cases xs with
    | cons => exact hxs.elim
    | nil => exact Nat.le_of_ble_eq_true rfl
  · intro γ ι τ h avs d hd hp Bg C
    obtain ⟨x, xs, rfl, m1, tx, gx, hxs⟩ := m_this hp rfl rfl
    obtain rfl : xs = [] := by
      cases xs with
      | cons => exact hxs.elim
      | nil => rfl
    have hn : γ.2.2.1 = 3 := Bg.2.1
    obtain rfl : γ.1 = ι := Bg.1
    obtain ⟨d, rfl⟩ : ∃ d', d = d' + 1 := ⟨d - 1, by omega⟩
    have f1 : h.2 x 3 = σ 1 := by
      obtain ⟨y, y1, -, y2, -⟩ := hp.2.2.2.1.2.2.2 (0, 3, (1, 1, (0, []))) List.mem_cons_self
      have y1 : σ 0 = some y := y1
      rw [m1] at y1
      cases y1
      exact y2 rfl
    obtain ⟨I, i1, iI, tI, lI'⟩ : ∃ I, h.2 x 3 = some I ∧ g I = 52 ∧ τ.1 I = 26 ∧ τ.2 I = 2 := by
      obtain ⟨a, a1, a2, -, a4, a5, a6⟩ := m_arr hp.1 (k := 3) (r := 52) gx (by decide) rfl cR52
      have a5 : (2 : Int) ≤ τ.2 a := a5
      have a6 : (τ.2 a : Int) ≤ 2 := a6
      exact ⟨a, a1, a2, a4, by omega⟩
    have s1 : σ 1 = some I := by rw [← f1]; exact i1
    have f2 : h.2 I 0 = σ 2 := by
      obtain ⟨y, y1, -, y2, -⟩ := hp.2.2.2.1.2.2.2 (1, 0, (1, 2, (0, []))) (List.mem_cons_of_mem _ List.mem_cons_self)
      have y1 : σ 1 = some y := y1
      rw [s1] at y1
      cases y1
      exact y2 rfl
    have f3 : h.2 I 1 = σ 3 := by
      obtain ⟨y, y1, -, y2, -⟩ := hp.2.2.2.1.2.2.2 (1, 1, (1, 3, (0, []))) (List.mem_cons_of_mem _ (List.mem_cons_of_mem _ List.mem_cons_self))
      have y1 : σ 1 = some y := y1
      rw [s1] at y1
      cases y1
      exact y2 rfl
    obtain ⟨K, k1, kK, tK, lK⟩ : ∃ K, h.2 x 4 = some K ∧ g K = 53 ∧ τ.1 K = 26 ∧ τ.2 K = 8 := by
      obtain ⟨a, a1, a2, -, a4, a5, a6⟩ := m_arr hp.1 (k := 4) (r := 53) gx (by decide) rfl cR53
      have a5 : (8 : Int) ≤ τ.2 a := a5
      have a6 : (τ.2 a : Int) ≤ 8 := a6
      exact ⟨a, a1, a2, a4, by omega⟩
    obtain ⟨lk, l1, l2, l3, l4⟩ := c_obj (k := 7) hp.1 gx (by decide) rfl cR10'
    have nKI : I ≠ K := fun e => by rw [e] at iI; omega
    have nxI : I ≠ x := fun e => by rw [e] at iI; omega
    have tail : ∀ (g2 : Nat → Nat) (τ2 : bt) (h2 : bh) (w nc ns : Nat) (lo : List (Option Value)), lo[0]? = some (some (.ref x)) → cWT cT0 g2 τ2 h2 → cKt γ.1 g2 → cHi envkl.2.2 g τ h g2 τ2 h2 → h2.2 x 3 = some I → h2.2 I 0 = σ 2 → h2.2 I 1 = σ 3 → g2 w = 10 → nc ≤ 23 → ns ≤ 1835 → bJ γ 46 lo [.ref w, .ref x] τ2 h2 nc ns := by
      intro g2 τ2 h2 w nc ns lo hlo w2 k2 H2 q1 q2 q3 gw n1 n2
      obtain ⟨t2, gx2, -⟩ : τ2.1 x = 11 ∧ g2 x = 11 ∧ True := by
        obtain ⟨b1, b2, b3, -⟩ := H2 x (by omega)
        refine ⟨by omega, ?_, trivial⟩
        rcases b3 with b3 | ⟨b3, -⟩ <;> omega
      refine b_pR C (dk_at ec134 (i := 27) rfl) t2 ?_
      have w3 : cWT cT0 g2 τ2 (bsetR h2 x 7 (some w)) := ref_wt w2 (by rw [gx2]; exact cR11) (by omega) (fun _ => by show g2 w = (cseg (cSg 11) 7).2.2.2.1 ∧ _; rw [s11.1]; exact ⟨gw, by omega⟩)
      have H3 : cHi envkl.2.2 g τ h g2 τ2 (bsetR h2 x 7 (some w)) := cHi.trans (E' := envkl.2.2) (by decide +kernel) H2 (ref_hi (by rw [t2]; decide +kernel))
      have fin : ∀ (k : Nat) (z : Int), (cseg (cSg 11) k).1 ≠ 0 → (k = 9 ∨ k = 10) → bJ γ 84 lo [] τ2 (bsetI (bsetR h2 x 7 (some w)) x k z) nc ns := by
        intro k z hk hk2
        have w4 : cWT cT0 g2 τ2 (bsetI (bsetR h2 x 7 (some w)) x k z) := cWT.fld w3 (by rw [gx2]; exact cR11) (by decide) (by omega) (by omega) (fun e => absurd e hk)
        have H4 : cHi envkl.2.2 g τ h g2 τ2 (bsetI (bsetR h2 x 7 (some w)) x k z) := cHi.trans (E' := envkl.2.2) (by decide +kernel) H3 (fld_hi (by rw [t2]; rcases hk2 with rfl | rfl <;> decide +kernel))
        refine b_vret C Bg (dk_at ec134 (i := 47) rfl).1 rfl n1 n2 ⟨g2, ρ, σ, w4, k2, H4, cag.rf hp.2.2.1, ⟨⟨hp.2.2.1, fun q hq => absurd hq List.not_mem_nil⟩, fun q hq => absurd hq List.not_mem_nil, fun q hq => absurd hq List.not_mem_nil, fun q hq => ?_⟩, trivial⟩
        have v : ∀ b i, (b ≠ x ∨ i ≠ 7) → (bsetI (bsetR h2 x 7 (some w)) x k z).2 b i = h2.2 b i := fun b i e => if_neg (fun c => e.elim (fun e => e c.1) (fun e => e c.2))
        rcases List.mem_cons.mp hq with rfl | hq
        · refine ⟨x, m1, fun w => absurd (show (1 : Nat) = 0 from w) (by decide), fun _ => ?_, fun w => absurd (show (1 : Nat) = 2 from w) (by decide)⟩
          show (bsetI (bsetR h2 x 7 (some w)) x k z).2 x 3 = σ 1
          rw [v x 3 (Or.inr (by decide)), q1, s1]
        · rcases List.mem_cons.mp hq with rfl | hq
          · refine ⟨I, s1, fun w => absurd (show (1 : Nat) = 0 from w) (by decide), fun _ => ?_, fun w => absurd (show (1 : Nat) = 2 from w) (by decide)⟩
            show (bsetI (bsetR h2 x 7 (some w)) x k z).2 I 0 = σ 2
            rw [v I 0 (Or.inl nxI)]; exact q2
          · obtain rfl := List.mem_singleton.mp hq
            refine ⟨I, s1, fun w => absurd (show (1 : Nat) = 0 from w) (by decide), fun _ => ?_, fun w => absurd (show (1 : Nat) = 2 from w) (by decide)⟩
            show (bsetI (bsetR h2 x 7 (some w)) x k z).2 I 1 = σ 3
            rw [v I 1 (Or.inl nxI)]; exact q3
      refine b_al0 C (dk_at ec134 (i := 28) rfl).1 hlo ?_
      refine b_gI C (dk_at ec134 (i := 29) rfl) t2 (fun hu => ?_)
      refine b_bipush C (dk_at ec134 (i := 30) rfl).1 ⟨by omega, by omega⟩ ?_
      refine b_icmp_ge (t := 71) C (dk_at ec134 (i := 31) rfl).1 (by decide) hu ⟨by omega, by omega⟩ (fun _ => ?_) (fun _ => ?_)
      · refine b_al0 C (dk_at ec134 (i := 39) rfl).1 hlo ?_
        refine b_al0 C (dk_at ec134 (i := 40) rfl).1 hlo ?_
        refine b_gI C (dk_at ec134 (i := 41) rfl) t2 (fun _ => ?_)
        refine b_iconst C (dk_at ec134 (i := 42) rfl).1 ?_
        refine b_iadd C (dk_at ec134 (i := 43) rfl).1 ?_
        refine b_bipush C (dk_at ec134 (i := 44) rfl).1 ⟨by omega, by omega⟩ ?_
        refine b_iand C (dk_at ec134 (i := 45) rfl).1 ?_
        refine b_any (fun z hz => ?_)
        refine b_pI C (dk_at ec134 (i := 46) rfl) hz t2 ?_
        exact fin 9 z (by decide) (Or.inl rfl)
      · refine b_al0 C (dk_at ec134 (i := 32) rfl).1 hlo ?_
        refine b_dup C (dk_at ec134 (i := 33) rfl).1 rfl ?_
        refine b_gI C (dk_at ec134 (i := 34) rfl) t2 (fun _ => ?_)
        refine b_iconst C (dk_at ec134 (i := 35) rfl).1 ?_
        refine b_iadd C (dk_at ec134 (i := 36) rfl).1 ?_
        refine b_norm (fun z t9 hz _ => ?_)
        refine b_pI C (dk_at ec134 (i := 37) rfl) hz t2 ?_
        refine b_goto (t := 84) C (dk_at ec134 (i := 38) rfl).1 (by decide) ?_
        exact fin 10 z (by decide) (Or.inr rfl)
    refine b_al0 C (dk_at ec134 (i := 0) rfl).1 rfl ?_
    refine b_gI C (dk_at ec134 (i := 1) rfl) tx (fun _ => ?_)
    refine b_al0 C (dk_at ec134 (i := 2) rfl).1 rfl ?_
    refine b_gI C (dk_at ec134 (i := 3) rfl) tx (fun _ => ?_)
    refine b_iadd C (dk_at ec134 (i := 4) rfl).1 ?_
    refine b_bipush C (dk_at ec134 (i := 5) rfl).1 ⟨by omega, by omega⟩ ?_
    refine b_iand C (dk_at ec134 (i := 6) rfl).1 ?_
    have rg := bz_and (x := bz (h.1 x 9 + h.1 x 10)) (c := 7) (by decide) (by decide)
    rw [bz_of (bz (h.1 x 9 + h.1 x 10) &&& bz 7)]
    generalize (bz (h.1 x 9 + h.1 x 10) &&& bz 7).toInt = p at rg ⊢
    obtain ⟨rg1, rg2⟩ := rg
    refine b_istore_n C (dk_at ec134 (i := 7) rfl).1 (by rw [hn]; decide) (bno2_of (fun w hw _ => by cases hw; exact (show (1 : Nat) ≠ 2 by decide))) ?_
    refine b_al0 C (dk_at ec134 (i := 8) rfl).1 rfl ?_
    refine b_gR C (dk_at ec134 (i := 9) rfl) tx k1 ?_
    refine b_iload_n C (dk_at ec134 (i := 10) rfl).1 rfl ?_
    refine b_aald C (dk_at ec134 (i := 11) rfl).1 (Or.inr tK) rg1 (by rw [lK]; omega) ?_
    refine b_astore_n (o := h.2 K p.toNat) C (dk_at ec134 (i := 12) rfl).1 (by rw [hn]; decide) (bno2_of (fun w hw _ => by cases hw; exact (show (1 : Nat) ≠ 2 by decide))) ?_
    refine b_al0 C (dk_at ec134 (i := 13) rfl).1 rfl ?_
    refine b_gR C (dk_at ec134 (i := 14) rfl) tx k1 ?_
    refine b_iload_n C (dk_at ec134 (i := 15) rfl).1 rfl ?_
    refine b_al0 C (dk_at ec134 (i := 16) rfl).1 rfl ?_
    refine b_gR C (dk_at ec134 (i := 17) rfl) tx l1 ?_
    refine b_aastW C (dk_at ec134 (i := 18) rfl).1 tK l3 rg1 (by rw [lK]; omega) ?_
    have w1 : cWT cT0 g τ (bsetR h K p.toNat (some lk)) := ref_wt hp.1 (by rw [kK]; exact cR53) (by omega) (fun _ => by show g lk = (cseg (cSg 53) p.toNat).2.2.2.1 ∧ _; rw [s53.1 _ (by omega)]; exact ⟨l2, by omega⟩)
    have H1 : cHi envkl.2.2 g τ h g τ (bsetR h K p.toNat (some lk)) := ref_hi (by rw [tK]; exact cefR_ok (l := 0) (u := 7) (by decide +kernel) (by omega) (by omega))
    have v1 : ∀ b i, b ≠ K → (bsetR h K p.toNat (some lk)).2 b i = h.2 b i := fun b i e => if_neg (fun c => e c.1)
    have nxK : x ≠ K := fun e => by rw [e] at gx; omega
    have pK := w_slot hp.1 kK (by decide) cR53 (s53.1 p.toNat (by omega))
    refine b_al0 C (dk_at ec134 (i := 19) rfl).1 rfl ?_
    refine b_aload_n (o := h.2 K p.toNat) C (dk_at ec134 (i := 20) rfl).1 rfl ?_
    refine b_ifnonnull (t := 45) C (dk_at ec134 (i := 21) rfl).1 (by decide) (fun dz ez => ?_) (fun ez => ?_)
    · refine b_aload_n (o := h.2 K p.toNat) C (dk_at ec134 (i := 26) rfl).1 rfl ?_
      rcases pK with e | ⟨w9, e, gw, -, -⟩
      · rw [e] at ez; cases ez
      · rw [e]
        exact tail g τ _ w9 0 0 _ rfl w1 hp.2.1 H1 (by rw [v1 x 3 nxK]; exact i1) (by rw [v1 I 0 nKI]; exact f2) (by rw [v1 I 1 nKI]; exact f3) gw (by decide) (by decide)
    · refine b_nW (st := [.ref x]) C Bg.x (dk_at ec134 (i := 22) rfl) (dk_at ec134 (i := 23) rfl).1 (dk_at ec134 (i := 24) rfl) rfl (by omega) w1 hp.2.1 (fun w => Nat.le_of_ble_eq_true rfl) (by decide) (by decide) (fun w g2 τ2 h2 w2 k2 H2 tw gw lw => ?_)
      refine b_goto (t := 46) C (dk_at ec134 (i := 25) rfl).1 (by decide) ?_
      have Hx := (H2 x (by omega)).2.2.2
      have HI := (H2 I (by omega)).2.2.2
      refine tail g2 τ2 h2 w _ _ _ rfl w2 k2 (cHi.trans (E' := enc137.2.2) (by decide +kernel) H1 H2) ?_ ?_ ?_ gw (by decide) (by decide)
      · rw [(Hx 3 (by rw [tx]; decide +kernel)).2, v1 x 3 nxK]; exact i1
      · rw [(HI 0 (by rw [tI]; decide +kernel)).2, v1 I 0 nKI]; exact f2
      · rw [(HI 1 (by rw [tI]; decide +kernel)).2, v1 I 1 nKI]; exact f3
