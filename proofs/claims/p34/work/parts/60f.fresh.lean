/-! ===== p34: the reference reads, and what is kept stays ===== -/
theorem cR69 : cfR cT0 69 = some (43, 7, 7, cSg 69) := by rfl
theorem s69 : (∀ i, i < 7 → cseg (cSg 69) i = (0, 0, 1, 0, false)) ∧ (∀ q ∈ cSg 69, q.2.1 ≠ 3) := by decide +kernel
theorem kp_ft {ρ : Nat → Int} {σ : Nat → Option Nat} {h : bh} {a i s r : Nat} (s1 : σ r = some a) (e : h.1 a i = ρ s) : cft ρ σ h (r, i, (0, 0, (0, [(s, 1)]))) := by
  refine ⟨a, s1, fun _ => ?_, fun w => absurd (show (0 : Nat) = 1 from w) (by decide), fun w => absurd (show (0 : Nat) = 2 from w) (by decide)⟩
  show h.1 a i = 0 + (1 * ρ s + 0)
  omega
theorem kp_fr {ρ : Nat → Int} {σ : Nat → Option Nat} {h : bh} {a i r r' : Nat} (s1 : σ r = some a) (e : h.2 a i = σ r') : cft ρ σ h (r, i, (1, r', (0, []))) := ⟨a, s1, fun w => absurd (show (1 : Nat) = 0 from w) (by decide), fun _ => e, fun w => absurd (show (1 : Nat) = 2 from w) (by decide)⟩
theorem kp_get {ρ : Nat → Int} {σ : Nat → Option Nat} {h : bh} {a i s r : Nat} (hf : cft ρ σ h (r, i, (0, 0, (0, [(s, 1)])))) (s1 : σ r = some a) : h.1 a i = ρ s := by
  obtain ⟨y, y1, y2, -⟩ := hf
  have y1 : σ r = some y := y1
  rw [s1] at y1
  cases y1
  have y2 : h.1 a i = 0 + (1 * ρ s + 0) := y2 rfl
  omega
theorem kp_getR {ρ : Nat → Int} {σ : Nat → Option Nat} {h : bh} {a i r r' : Nat} (hf : cft ρ σ h (r, i, (1, r', (0, [])))) (s1 : σ r = some a) : h.2 a i = σ r' := by
  obtain ⟨y, y1, -, y2, -⟩ := hf
  have y1 : σ r = some y := y1
  rw [s1] at y1
  cases y1
  exact y2 rfl
theorem eowsr : cOk cT0 ey191 2 2 0 0 enwsr := by
  refine (cOk_of sr_fun ?_ ?_).mono (by decide)
  · intro ι avs τ h g ρ σ hp
    obtain ⟨m, xs, rfl, -, m2, m3, hx⟩ := m_this hp rfl rfl
    cases xs with
    | cons => exact hx.elim
    | nil =>
      obtain ⟨r, r1, r2, -, r4, r5, r6⟩ := m_arr hp.1 (k := 15) (r := 62) m3 (by decide) rfl cR62
      obtain ⟨o, o1, o2, -, o4, o5, o6⟩ := m_arr hp.1 (k := 24) (r := 69) m3 (by decide) rfl (show cfR cT0 69 = some (43, 7, 7, cSg 69) by rfl)
      have r5 : (28 : Int) ≤ τ.2 r := r5
      have r6 : (τ.2 r : Int) ≤ 28 := r6
      have o5 : (7 : Int) ≤ τ.2 o := o5
      have o6 : (τ.2 o : Int) ≤ 7 := o6
      exact ⟨m, r, o, rfl, m2, r1, r4, by omega, o1, o4, by omega⟩
  · rintro ι avs τ h g ρ σ v τ' h' hp ⟨m, r, o, rfl, hr, ho, rfl, rfl, rfl⟩
    obtain ⟨m', xs, e, m1, -, m3, -⟩ := m_this hp rfl rfl
    cases e
    obtain ⟨r', r1, r2, -, r4, -⟩ := m_arr hp.1 (k := 15) (r := 62) m3 (by decide) rfl cR62
    obtain ⟨o', o1, o2, -, o4, -⟩ := m_arr hp.1 (k := 24) (r := 69) m3 (by decide) rfl (show cfR cT0 69 = some (43, 7, 7, cSg 69) by rfl)
    rw [hr] at r1
    cases r1
    rw [ho] at o1
    cases o1
    obtain ⟨B, b1, b2, -⟩ := m_arr hp.1 (k := 23) (r := 68) m3 (by decide) rfl cR68
    have f1 := kp_getR (hp.2.2.2.1.2.2.2 (0, 23, (1, 1, (0, []))) List.mem_cons_self) m1
    have s1 : σ 1 = some B := by rw [← f1]; exact b1
    have f2 := kp_get (hp.2.2.2.1.2.2.2 (1, 0, (0, 0, (0, [(0, 1)]))) (List.mem_cons_of_mem _ List.mem_cons_self)) s1
    have f3 := kp_get (hp.2.2.2.1.2.2.2 (1, 1, (0, 0, (0, [(1, 1)]))) (List.mem_cons_of_mem _ (List.mem_cons_of_mem _ List.mem_cons_self))) s1
    have nBr : B ≠ r := fun e => by rw [e] at b2; omega
    have nBo : B ≠ o := fun e => by rw [e] at b2; omega
    have vB : ∀ i, (bsetI (bsetI (bsetI (bsetI (bsetI (bsetI (bsetI (bfl (bfl h r 0 0 28) o 0 0 7) r 0 8) r 1 1) r 2 2) r 3 12) r 4 3) r 5 1) r 6 (-1)).1 B i = h.1 B i := by
      intro i
      simp [bfl, bsetI, nBr, nBo]
    refine ⟨g, ρ, σ, sr_wt hp.1 r2 o2, hp.2.1, fun b _ => ⟨rfl, rfl, Or.inl rfl, fun i hi => ⟨?_, rfl⟩⟩, cag.rf hp.2.2.1, ⟨⟨hp.2.2.1, fun q hq => absurd hq List.not_mem_nil⟩, fun q hq => absurd hq List.not_mem_nil, fun q hq => absurd hq List.not_mem_nil, fun q hq => ?_⟩, trivial⟩
    case refine_2 =>
      rcases List.mem_cons.mp hq with rfl | hq
      · exact kp_fr m1 f1
      · rcases List.mem_cons.mp hq with rfl | hq
        · exact kp_ft s1 (by rw [vB]; exact f2)
        · obtain rfl := List.mem_singleton.mp hq
          exact kp_ft s1 (by rw [vB]; exact f3)
    have nr : ¬ (b = r ∧ i < 28) := by
      rintro ⟨rfl, h1⟩
      rw [show τ'.1 b = 41 from r4] at hi
      rw [show cef enwsr.2.2 41 i = true from cefR_ok (l := 0) (u := 27) (by rfl) (by omega) (by omega)] at hi
      cases hi
    have no : ¬ (b = o ∧ i < 7) := by
      rintro ⟨rfl, h1⟩
      rw [show τ'.1 b = 43 from o4] at hi
      rw [show cef enwsr.2.2 43 i = true from cefR_ok (l := 0) (u := 6) (by rfl) (by omega) (by omega)] at hi
      cases hi
    show (if b = r ∧ i = 6 then (-1 : Int) else if b = r ∧ i = 5 then (1 : Int) else if b = r ∧ i = 4 then (3 : Int) else if b = r ∧ i = 3 then (12 : Int) else if b = r ∧ i = 2 then (2 : Int) else if b = r ∧ i = 1 then (1 : Int) else if b = r ∧ i = 0 then (8 : Int) else if b = o ∧ 0 ≤ i ∧ i < 0 + 7 then (0 : Int) else if b = r ∧ 0 ≤ i ∧ i < 0 + 28 then (0 : Int) else h.1 b i) = _
    rw [if_neg (fun e => nr ⟨e.1, by omega⟩), if_neg (fun e => nr ⟨e.1, by omega⟩), if_neg (fun e => nr ⟨e.1, by omega⟩), if_neg (fun e => nr ⟨e.1, by omega⟩), if_neg (fun e => nr ⟨e.1, by omega⟩), if_neg (fun e => nr ⟨e.1, by omega⟩), if_neg (fun e => nr ⟨e.1, by omega⟩), if_neg (fun e : b = o ∧ 0 ≤ i ∧ i < 0 + 7 => no ⟨e.1, by omega⟩), if_neg (fun e : b = r ∧ 0 ≤ i ∧ i < 0 + 28 => nr ⟨e.1, by omega⟩)]
theorem eowif : cOk cT0 ey196 2 5 0 0 enwif := by
  intro g ρ σ
  refine bOk_of emp196.1.2.2.2.2.2.1 ?_ ?_
  · rintro ι avs τ h hp
    obtain ⟨m, xs, rfl, -, m2, m3, hxs⟩ := m_this hp rfl rfl
    rw [c2_i1 hxs]
    exact Nat.le_of_ble_eq_true rfl
  · intro γ ι τ h avs d hd hp Bg C
    obtain ⟨m, xs, rfl, m1, tm, gm, hxs⟩ := m_this hp rfl rfl
    obtain rfl := c2_i1 hxs
    have hn : γ.2.2.1 = 2 := Bg.2.1
    obtain rfl : γ.1 = ι := Bg.1
    obtain ⟨d, rfl⟩ : ∃ d', d = d' + 1 := ⟨d - 1, by omega⟩
    have hc0 := hp.2.2.2.1.2.2.1 (0, 12, 12, false, (0, [])) List.mem_cons_self
    have hb0 := cBo_at hp.2.2.2.1.1 (s := 0) (x := 0) (y := 6) (by decide)
    have hb1 := cBo_at hp.2.2.2.1.1 (s := 1) (x := 0) (y := 940) (by decide)
    obtain ⟨k, ek⟩ : ∃ k : Nat, (k : Int) = ρ 0 := ⟨(ρ 0).toNat, by omega⟩
    obtain ⟨B, b1, b2, -, tB, -⟩ := m_arr hp.1 (k := 23) (r := 68) gm (by decide) rfl cR68
    have tB : τ.1 B = 43 := tB
    have f5 := kp_get (hp.2.2.2.1.2.2.2 (0, 5, (0, 0, (0, [(1, 1)]))) List.mem_cons_self) m1
    have f1 := kp_getR (hp.2.2.2.1.2.2.2 (0, 23, (1, 1, (0, []))) (List.mem_cons_of_mem _ List.mem_cons_self)) m1
    have s1 : σ 1 = some B := by rw [← f1]; exact b1
    have f2 := kp_get (hp.2.2.2.1.2.2.2 (1, 0, (0, 0, (0, [(2, 1)]))) (List.mem_cons_of_mem _ (List.mem_cons_of_mem _ List.mem_cons_self))) s1
    have f3 := kp_get (hp.2.2.2.1.2.2.2 (1, 1, (0, 0, (0, [(3, 1)]))) (List.mem_cons_of_mem _ (List.mem_cons_of_mem _ (List.mem_cons_of_mem _ List.mem_cons_self)))) s1
    obtain ⟨o, o1, o2, -, o4, o5, o6⟩ := m_arr hp.1 (k := 24) (r := 69) gm (by decide) rfl cR69
    have o4 : τ.1 o = 43 := o4
    have o5 : (7 : Int) ≤ τ.2 o := o5
    have o7 : 0 ≤ h.1 m 7 ∧ h.1 m 7 ≤ 4 := by
      have := (o_arr hp.1 gm (by decide) cR12).1 7 (by rw [w5.2.1])
      rw [w5.2.1] at this
      exact this
    have fin : ∀ (g2 : Nat → Nat) (τ2 : bt) (h2 : bh) (a t z : Int), cWT cT0 g2 τ2 h2 → cKt γ.1 g2 → cHi enwif.2.2 g τ h g2 τ2 h2 → h2.1 m 5 = t → h2.1 m 7 = z → (a = 0 ∨ a = 1) → (0 ≤ t ∧ t ≤ 940) → (0 ≤ z ∧ z ≤ 4) → ρ 1 ≤ t → (a = 1 → z ≤ 3 * (t - ρ 1) + 1) → h2.2 m 23 = some B → h2.1 B 0 = ρ 2 → h2.1 B 1 = ρ 3 → cPst cT0 enwif g ρ σ γ.1 [.ref m, .int (bz (ρ 0))] τ h (some (.int (bz a))) τ2 h2 := by
      intro g2 τ2 h2 a t z w2 k2 H2 q5 q7 qa qt qz q1 q2 qB c0 c1
      have hR : ∀ s, brg (cup (cup (cup ρ 4 a) 5 t) 6 z s) := brg_cup (brg_cup (brg_cup hp.2.2.1 ⟨by omega, by omega⟩) ⟨by omega, by omega⟩) ⟨by omega, by omega⟩
      refine ⟨g2, cup (cup (cup ρ 4 a) 5 t) 6 z, σ, w2, k2, H2, ⟨hR, fun s hs => ?_, fun _ _ => rfl⟩, ⟨⟨hR, fun q hq => ?_⟩, fun q hq => ?_, fun q hq => absurd hq List.not_mem_nil, fun q hq => ?_⟩, ?_⟩
      · have hs : s < 4 := hs
        rw [cup_ne (by omega), cup_ne (by omega), cup_ne (by omega)]
      · rcases List.mem_cons.mp hq with rfl | hq
        · show (0 : Int) ≤ a ∧ a ≤ 1
          omega
        · rcases List.mem_cons.mp hq with rfl | hq
          · show (0 : Int) ≤ t ∧ t ≤ 940
            omega
          · obtain rfl := List.mem_singleton.mp hq
            show (0 : Int) ≤ z ∧ z ≤ 4
            omega
      · rcases List.mem_cons.mp hq with rfl | hq
        · show 0 ≤ 0 + (-3 * ρ 1 + (3 * t + 0))
          omega
        · obtain rfl := List.mem_singleton.mp hq
          show 0 ≤ 4294967297 + (-3 * ρ 1 + (-4294967296 * a + (3 * t + (-1 * z + 0))))
          rcases qa with rfl | rfl
          · omega
          · have := q2 rfl
            omega
      · rcases List.mem_cons.mp hq with rfl | hq
        · exact kp_ft (s := 5) m1 q5
        · rcases List.mem_cons.mp hq with rfl | hq
          · exact kp_ft (s := 6) m1 q7
          · rcases List.mem_cons.mp hq with rfl | hq
            · exact kp_fr m1 (by rw [s1]; exact qB)
            · rcases List.mem_cons.mp hq with rfl | hq
              · exact kp_ft (s := 2) s1 c0
              · obtain rfl := List.mem_singleton.mp hq
                exact kp_ft (s := 3) s1 c1
      · refine ⟨cv_I (e := (0, [(4, 1)])) ⟨by omega, by omega⟩ ?_, trivial⟩
        show 0 + (1 * a + 0) = a
        omega
    refine b_al0 C (dk_at ec196 (i := 0) rfl).1 rfl ?_
    refine b_gR C (dk_at ec196 (i := 1) rfl) tm o1 ?_
    refine b_iload_n C (dk_at ec196 (i := 2) rfl).1 rfl ?_
    refine b_bald C (dk_at ec196 (i := 3) rfl).1 (Or.inr (Or.inr o4)) (by omega) (by omega) (fun hv => ?_)
    refine b_if_eq (t := 15) C (dk_at ec196 (i := 4) rfl).1 (by decide) hv (fun z6 => ?_) (fun z6 => ?_)
    · refine b_al0 C (dk_at ec196 (i := 9) rfl).1 rfl ?_
      refine b_gR C (dk_at ec196 (i := 10) rfl) tm o1 ?_
      refine b_iload_n C (dk_at ec196 (i := 11) rfl).1 rfl ?_
      refine b_iconst C (dk_at ec196 (i := 12) rfl).1 ?_
      refine b_wz (j := k) C (dk_at ec196 (i := 13) rfl).1 o4 (by omega) (by omega) (Or.inr rfl) ?_
      have nBo : B ≠ o := fun e => by rw [e] at b2; omega
      have w1 : cWT cT0 g τ (bsetI h o k 1) := by
        refine cWT.upd hp.1 (a := o) (by rw [o2]; exact cR69) (by omega) (by omega) (by omega) rfl (fun b hb i => bsetI_no hb) (fun i hi => ?_) (fun _ q hq q3 => absurd q3 (s69.2 q hq))
        by_cases ei : i = k
        · subst ei
          rw [bsetI_at]
          show (cseg (cSg 69) i).2.1 ≤ 1 ∧ 1 ≤ (cseg (cSg 69) i).2.2.1
          rw [s69.1 i (by omega)]
          exact ⟨by decide, by decide⟩
        · rw [bsetI_ne ei]
          exact (o_arr hp.1 o2 (by decide) cR69).1 i hi
      have H1 : cHi enwif.2.2 g τ h g τ (bsetI h o k 1) := fld_hi (by rw [o4]; exact cefR_ok (l := 0) (u := 6) (by decide +kernel) (by omega) (by omega))
      have nmo : m ≠ o := fun e => by rw [e] at gm; omega
      have e5 : (bsetI h o k 1).1 m 5 = ρ 1 := by rw [bsetI_no nmo]; exact f5
      have hρ5 : ∀ s, brg (cup ρ 0 (ρ 1) s) := brg_cup hp.2.2.1 (hp.2.2.1 1)
      refine b_al0 C (dk_at ec196 (i := 14) rfl).1 rfl ?_
      refine b_inv (As := []) (rest := []) C Bg.x (dk_at ec196 (i := 15) rfl) (by decide) rfl (eox0 g (cup ρ 0 (ρ 1)) σ) (by omega) rfl tm ⟨w1, hp.2.1, hρ5, ⟨⟨hρ5, fun q hq => by obtain rfl := List.mem_singleton.mp hq; exact ⟨by show (0 : Int) ≤ ρ 1; omega, by show ρ 1 ≤ (940 : Int); omega⟩⟩, fun q hq => absurd hq List.not_mem_nil, fun q hq => by obtain rfl := List.mem_singleton.mp hq; exact hc0, fun q hq => by obtain rfl := List.mem_singleton.mp hq; exact go_ft (s := 0) m1 (by rw [cup_at]; exact e5)⟩, ⟨cv_P m1, trivial⟩⟩ (Nat.le_of_ble_eq_true rfl) (Nat.le_refl _) (Nat.le_refl _) ?_
      rintro v τ2 h2 ⟨g2, ρ2, σ2, w2, k2, H2, a2, s2, v2⟩
      cases v with
      | some v => exact (show False from v2).elim
      | none =>
        have r1 := cBo_at s2.1 (s := 1) (x := 0) (y := 940) (by decide)
        have r2 := cBo_at s2.1 (s := 2) (x := 0) (y := 4) (by decide)
        have z0 : ρ2 0 = ρ 1 := by rw [a2.2.1 0 (by decide)]; exact cup_at _ _ _
        have q1 : 0 ≤ 0 + (-3 * ρ2 0 + (3 * ρ2 1 + 0)) := s2.2.1 (0, [(0, -3), (1, 3)]) List.mem_cons_self
        have q2 : 0 ≤ 1 + (-3 * ρ2 0 + (3 * ρ2 1 + (-1 * ρ2 2 + 0))) := s2.2.1 (1, [(0, -3), (1, 3), (2, -1)]) (List.mem_cons_of_mem _ List.mem_cons_self)
        have m2' : σ2 0 = some m := by rw [a2.2.2 0 (by decide)]; exact m1
        have g5 := kp_get (s2.2.2.2 (0, 5, (0, 0, (0, [(1, 1)]))) List.mem_cons_self) m2'
        have g7 := kp_get (s2.2.2.2 (0, 7, (0, 0, (0, [(2, 1)]))) (List.mem_cons_of_mem _ List.mem_cons_self)) m2'
        have Hm := (H2 m (by omega)).2.2.2
        have HB := (H2 B (by rw [tB]; decide)).2.2.2
        refine b_iconst C (dk_at ec196 (i := 16) rfl).1 ?_
        exact b_iret C Bg (dk_at ec196 (i := 17) rfl).1 (Or.inr ⟨rfl, Or.inr rfl⟩) (Nat.le_refl _) (Nat.le_refl _) (fin g2 τ2 h2 1 (ρ2 1) (ρ2 2) w2 k2 (cHi.trans (E' := enx0.2.2) (by decide +kernel) H1 H2) g5 g7 (Or.inr rfl) (by omega) r2 (by omega) (fun z => by omega) (by rw [(Hm 23 (by rw [tm]; decide +kernel)).2]; exact b1) (by rw [(HB 0 (by rw [tB]; decide +kernel)).1, bsetI_no nBo]; exact f2) (by rw [(HB 1 (by rw [tB]; decide +kernel)).1, bsetI_no nBo]; exact f3))
    · refine b_al0 C (dk_at ec196 (i := 5) rfl).1 rfl ?_
      refine b_iconst C (dk_at ec196 (i := 6) rfl).1 ?_
      refine b_inv (As := [.int (bz 3)]) (rest := []) C Bg.x (dk_at ec196 (i := 7) rfl) (by decide) rfl (eor18 g (cup ρ 0 3) σ) (by omega) rfl tm ⟨hp.1, hp.2.1, brg_cup hp.2.2.1 ⟨by decide, by decide⟩, ⟨⟨brg_cup hp.2.2.1 ⟨by decide, by decide⟩, fun q hq => absurd hq List.not_mem_nil⟩, fun q hq => absurd hq List.not_mem_nil, fun q hq => by obtain rfl := List.mem_singleton.mp hq; exact hc0, fun q hq => absurd hq List.not_mem_nil⟩, ⟨cv_P m1, cv_I (e := (0, [(0, 1)])) ⟨by decide, by decide⟩ (by show 0 + (1 * cup ρ 0 3 0 + 0) = 3; rw [cup_at]; rfl), trivial⟩⟩ (Nat.le_of_ble_eq_true rfl) (Nat.le_refl _) (Nat.le_refl _) ?_
      rintro v τ2 h2 ⟨g2, ρ2, σ2, w2, k2, H2, -, s2, v2⟩
      cases v with
      | none => exact (show False from v2).elim
      | some v =>
        obtain ⟨rfl, -⟩ := cv_int (e := (0, [(1, 1)])) rfl rfl v2.1
        have rb := cBo_at s2.1 (s := 1) (x := 0) (y := 0) (by decide)
        have e0 : cE ρ2 (0, [(1, 1)]) = 0 := by show 0 + (1 * ρ2 1 + 0) = 0; omega
        rw [e0]
        have Hm := (H2 m (by omega)).2.2.2
        have HB := (H2 B (by rw [tB]; decide)).2.2.2
        exact b_iret C Bg (dk_at ec196 (i := 8) rfl).1 (Or.inr ⟨rfl, Or.inl rfl⟩) (Nat.le_refl _) (Nat.le_refl _) (fin g2 τ2 h2 0 (ρ 1) (h.1 m 7) w2 k2 (cHi.trans (E' := enr18.2.2) (by decide +kernel) cHi.rfl H2) (by rw [(Hm 5 (by rw [tm]; decide +kernel)).1]; exact f5) (by rw [(Hm 7 (by rw [tm]; decide +kernel)).1]) (Or.inl rfl) (by omega) o7 (by omega) (fun z => by omega) (by rw [(Hm 23 (by rw [tm]; decide +kernel)).2]; exact b1) (by rw [(HB 0 (by rw [tB]; decide +kernel)).1]; exact f2) (by rw [(HB 1 (by rw [tB]; decide +kernel)).1]; exact f3))
