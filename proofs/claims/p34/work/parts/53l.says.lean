/-! ===== saysOne by hand ===== -/
theorem bsetI_no {h : bh} {a b j i : Nat} {x : Int} (hn : b ≠ a) : (bsetI h a j x).1 b i = h.1 b i := if_neg (fun e => hn e.1)
def syH (h : bh) (m s n : Nat) (x0 x1 x2 x3 : Int) : bh := bsetI (bsetI (bsetI (bsetI (bsetI h s (4 * n) x0) s (4 * n + 1) x1) s (4 * n + 2) x2) s (4 * n + 3) x3) m 35 ((n : Int) + 1)
theorem sy_fun (x0 x1 x2 x3 : Int) : bOk ey286 6 1 0 0 (fun _ avs τ h => brg x0 ∧ brg x1 ∧ brg x2 ∧ brg x3 ∧ ∃ m s, avs = [.ref m, .int (bz x0), .int (bz x1), .int (bz x2), .int (bz x3)] ∧ τ.1 m = 12 ∧ h.2 m 34 = some s ∧ τ.1 s = 41 ∧ τ.2 s = 240 ∧ 0 ≤ h.1 m 35 ∧ h.1 m 35 ≤ 59) (fun _ avs τ h v τ' h' => ∃ m s n, avs = [.ref m, .int (bz x0), .int (bz x1), .int (bz x2), .int (bz x3)] ∧ h.2 m 34 = some s ∧ ((n : Nat) : Int) = h.1 m 35 ∧ n < 60 ∧ τ' = τ ∧ v = some (.int (bz (n : Int))) ∧ h' = syH h m s n x0 x1 x2 x3) := by
  refine bOk_of emp286.1.2.2.2.2.2.1 ?_ ?_
  · rintro ι avs τ h ⟨-, -, -, -, m, s, rfl, -⟩
    exact Nat.le_of_ble_eq_true rfl
  · intro γ ι τ h avs d hd hp Bg C
    obtain ⟨hx0, hx1, hx2, hx3, m, s, rfl, hm, hs, hts, hls, l35, u35⟩ := hp
    have hn : γ.2.2.1 = 6 := Bg.2.1
    have nms : m ≠ s := fun e => by rw [e, hts] at hm; cases hm
    obtain ⟨n, en⟩ : ∃ n : Nat, (n : Int) = h.1 m 35 := ⟨(h.1 m 35).toNat, by omega⟩
    refine b_iconst C (dk_at ec286 (i := 0) rfl).1 ?_
    refine b_al0 C (dk_at ec286 (i := 1) rfl).1 rfl ?_
    refine b_gI C (dk_at ec286 (i := 2) rfl) hm (fun _ => ?_)
    rw [← en]
    refine b_imul C (dk_at ec286 (i := 3) rfl).1 ?_
    refine b_istore C (dk_at ec286 (i := 4) rfl).1 (by rw [hn]; decide) (bno2_of (fun w hw _ => by cases hw; exact (show (1 : Nat) ≠ 2 by decide))) ?_
    refine b_al0 C (dk_at ec286 (i := 5) rfl).1 rfl ?_
    refine b_gR C (dk_at ec286 (i := 6) rfl) hm hs ?_
    refine b_iload C (dk_at ec286 (i := 7) rfl).1 rfl ?_
    refine b_iload_n C (dk_at ec286 (i := 8) rfl).1 rfl ?_
    refine b_wr (j := 4 * n) C (dk_at ec286 (i := 9) rfl).1 hts (by omega) (by omega) hx0 ?_
    refine b_al0 C (dk_at ec286 (i := 10) rfl).1 rfl ?_
    refine b_gR C (dk_at ec286 (i := 11) rfl) hm hs ?_
    refine b_iload C (dk_at ec286 (i := 12) rfl).1 rfl ?_
    refine b_iconst C (dk_at ec286 (i := 13) rfl).1 ?_
    refine b_iadd C (dk_at ec286 (i := 14) rfl).1 ?_
    refine b_iload_n C (dk_at ec286 (i := 15) rfl).1 rfl ?_
    refine b_wr (j := 4 * n + 1) C (dk_at ec286 (i := 16) rfl).1 hts (by omega) (by omega) hx1 ?_
    refine b_al0 C (dk_at ec286 (i := 17) rfl).1 rfl ?_
    refine b_gR C (dk_at ec286 (i := 18) rfl) hm hs ?_
    refine b_iload C (dk_at ec286 (i := 19) rfl).1 rfl ?_
    refine b_iconst C (dk_at ec286 (i := 20) rfl).1 ?_
    refine b_iadd C (dk_at ec286 (i := 21) rfl).1 ?_
    refine b_iload_n C (dk_at ec286 (i := 22) rfl).1 rfl ?_
    refine b_wr (j := 4 * n + 2) C (dk_at ec286 (i := 23) rfl).1 hts (by omega) (by omega) hx2 ?_
    refine b_al0 C (dk_at ec286 (i := 24) rfl).1 rfl ?_
    refine b_gR C (dk_at ec286 (i := 25) rfl) hm hs ?_
    refine b_iload C (dk_at ec286 (i := 26) rfl).1 rfl ?_
    refine b_iconst C (dk_at ec286 (i := 27) rfl).1 ?_
    refine b_iadd C (dk_at ec286 (i := 28) rfl).1 ?_
    refine b_iload C (dk_at ec286 (i := 29) rfl).1 rfl ?_
    refine b_wr (j := 4 * n + 3) C (dk_at ec286 (i := 30) rfl).1 hts (by omega) (by omega) hx3 ?_
    refine b_al0 C (dk_at ec286 (i := 31) rfl).1 rfl ?_
    refine b_dup C (dk_at ec286 (i := 32) rfl).1 rfl ?_
    refine b_gI C (dk_at ec286 (i := 33) rfl) hm (fun _ => ?_)
    rw [bsetI_no nms, bsetI_no nms, bsetI_no nms, bsetI_no nms, ← en]
    refine b_iconst C (dk_at ec286 (i := 34) rfl).1 ?_
    refine b_iadd C (dk_at ec286 (i := 35) rfl).1 ?_
    refine b_pI C (dk_at ec286 (i := 36) rfl) ⟨by omega, by omega⟩ hm ?_
    refine b_al0 C (dk_at ec286 (i := 37) rfl).1 rfl ?_
    refine b_gI C (dk_at ec286 (i := 38) rfl) hm (fun _ => ?_)
    rw [bsetI_at]
    refine b_iconst C (dk_at ec286 (i := 39) rfl).1 ?_
    refine b_isub C (dk_at ec286 (i := 40) rfl).1 ?_
    rw [show (n : Int) + 1 - 1 = (n : Int) by omega]
    exact b_iret C Bg (dk_at ec286 (i := 41) rfl).1 (Or.inl rfl) (Nat.le_refl _) (Nat.le_refl _) ⟨m, s, n, rfl, hs, en, by omega, rfl, rfl, rfl⟩
theorem c2_i4 {ρ : Nat → Int} {σ : Nat → Option Nat} {i j k l : Nat} {xs : List Value} (h : c2 (cv ρ σ) [(0, 0, (0, [(i, 1)])), (0, 0, (0, [(j, 1)])), (0, 0, (0, [(k, 1)])), (0, 0, (0, [(l, 1)]))] xs) : xs = [.int (bz (ρ i)), .int (bz (ρ j)), .int (bz (ρ k)), .int (bz (ρ l))] := by
  obtain ⟨v1, r1, rfl, hv1, h⟩ := c2.cons h
  have ev : cE ρ (0, [(i, 1)]) = ρ i := by show 0 + (1 * ρ i + 0) = _; omega
  have e1 := (cv_int rfl rfl hv1).1
  rw [ev] at e1
  rw [e1, c2_i3 h]
theorem w35 : cseg (cSg 12) 35 = (0, 0, 60, 0, false) := by rfl
theorem g74 : (∀ q ∈ cSg 74, q.2.1 = 3 → q.2.2.1 = 2 ∧ q.2.2.2.1.toNat = 0) ∧ (240, (3, 2, 0, 0, false)) ∈ cSg 74 ∧ csn (cSg 74) 3 0 240 = true ∧ ∀ q ∈ cSg 74, q.1 ≤ 240 := by decide +kernel
theorem cseg_far {i u : Nat} (hi : u ≤ i) : ∀ (l : List (Nat × cS)), (∀ q ∈ l, q.1 ≤ u) → cseg l i = (2, 0, 0, 0, false) := by
  intro l
  induction l with
  | nil => intro _; rfl
  | cons p l ih =>
    intro hl
    show cond (Nat.blt i p.1) p.2 (cseg l i) = _
    have := hl p List.mem_cons_self
    rw [show Nat.blt i p.1 = false by cases hh : Nat.blt i p.1 with | false => rfl | true => have := Nat.blt_eq.mp hh; omega]
    exact ih (fun q hq => hl q (List.mem_cons_of_mem _ hq))
section SAYS
variable {g : Nat → Nat} {τ : bt} {h : bh} {m s n : Nat} {x0 x1 x2 x3 : Int}
theorem m_tree (hw : cWT cT0 g τ h) (gm : g m = 12) : ∃ s, h.2 m 34 = some s ∧ g s = 74 ∧ τ.1 s = 41 ∧ τ.2 s = 240 := by
  obtain ⟨a, a1, a2, -, a4, a5, a6⟩ := m_arr hw (k := 34) (r := 74) gm (by decide) rfl cR74
  have a5 : (240 : Int) ≤ τ.2 a := a5
  have a6 : (τ.2 a : Int) ≤ 240 := a6
  exact ⟨a, a1, a2, a4, by omega⟩
theorem sy_val (b i : Nat) : (syH h m s n x0 x1 x2 x3).1 b i = if b = m ∧ i = 35 then (n : Int) + 1 else if b = s ∧ i = 4 * n + 3 then x3 else if b = s ∧ i = 4 * n + 2 then x2 else if b = s ∧ i = 4 * n + 1 then x1 else if b = s ∧ i = 4 * n then x0 else h.1 b i := rfl
theorem sy_wt (hw : cWT cT0 g τ h) (gm : g m = 12) (gs : g s = 74) (hn : n < 60) (ht : (x0 = 1 ∨ x0 = 2 ∨ x0 = 3) → (0 ≤ x1 ∧ x1 < n) ∧ (x0 ≠ 1 → 0 ≤ x2 ∧ x2 < n)) : cWT cT0 g τ (syH h m s n x0 x1 x2 x3) := by
  have hw1 : cWT cT0 g τ (bsetI (bsetI (bsetI (bsetI h s (4 * n) x0) s (4 * n + 1) x1) s (4 * n + 2) x2) s (4 * n + 3) x3) := by
    have o2 := (o_arr hw gs (by decide) cR74).2 (by decide) _ g74.2.1 rfl
    have o2 : creg 2 0 (h.1 s) := o2
    have val : ∀ b i, (bsetI (bsetI (bsetI (bsetI h s (4 * n) x0) s (4 * n + 1) x1) s (4 * n + 2) x2) s (4 * n + 3) x3).1 b i = if b = s ∧ i = 4 * n + 3 then x3 else if b = s ∧ i = 4 * n + 2 then x2 else if b = s ∧ i = 4 * n + 1 then x1 else if b = s ∧ i = 4 * n then x0 else h.1 b i := fun b i => rfl
    refine cWT.upd hw (a := s) (by rw [gs]; exact cR74) (by omega) (by omega) (by omega) rfl (fun b hb i => ?_) (fun i hi => ?_) (fun _ q hq q3 => ?_)
    · rw [val, if_neg (by omega), if_neg (by omega), if_neg (by omega), if_neg (by omega)]
    · exfalso
      have hi : (cseg (cSg 74) i).1 = 0 := hi
      by_cases e : i < 240
      · have := csn_ok 240 g74.2.2.1 i (by omega) (by omega)
        omega
      · rw [cseg_far (u := 240) (by omega) _ g74.2.2.2] at hi
        cases hi
    · obtain ⟨q1, q2⟩ := g74.1 q hq q3
      rw [q1, q2]
      refine ⟨fun z => by omega, fun _ k hk => ?_, fun z => by omega, fun z => by omega⟩
      rw [Nat.zero_add]
      by_cases e : k = n
      · subst e
        unfold tnod
        rw [val s (4 * k), if_neg (by omega), if_neg (by omega), if_neg (by omega), if_pos ⟨rfl, rfl⟩, val s (4 * k + 1), if_neg (by omega), if_neg (by omega), if_pos ⟨rfl, rfl⟩, val s (4 * k + 2), if_neg (by omega), if_pos ⟨rfl, rfl⟩]
        exact ht
      · have := o2.2.1 rfl k hk
        rw [Nat.zero_add] at this
        unfold tnod at this ⊢
        rw [val s (4 * k), if_neg (by omega), if_neg (by omega), if_neg (by omega), if_neg (by omega), val s (4 * k + 1), if_neg (by omega), if_neg (by omega), if_neg (by omega), if_neg (by omega), val s (4 * k + 2), if_neg (by omega), if_neg (by omega), if_neg (by omega), if_neg (by omega)]
        exact this
  refine cWT.fld hw1 (by rw [gm]; exact cR12) (by decide) (by omega) (by omega) (fun _ => ?_)
  show (cseg (cSg 12) 35).2.1 ≤ ((n : Int) + 1) ∧ ((n : Int) + 1) ≤ (cseg (cSg 12) 35).2.2.1
  rw [w35]
  exact ⟨by show (0 : Int) ≤ _; omega, by show _ ≤ (60 : Int); omega⟩
theorem sy_hi {E : cEf} (tm : τ.1 m = 12) (ts : τ.1 s = 41) (hn : n < 60) (he : cefR E 12 35 35 = true ∧ cefR E 41 0 239 = true) : cHi E g τ h g τ (syH h m s n x0 x1 x2 x3) := by
  intro b _
  refine ⟨rfl, rfl, Or.inl rfl, fun i hi => ⟨?_, rfl⟩⟩
  have n1 : ¬ (b = m ∧ i = 35) := by
    rintro ⟨rfl, rfl⟩
    rw [tm, cefR_ok he.1 (by omega) (by omega)] at hi
    cases hi
  have n2 : ¬ (b = s ∧ i < 240) := by
    rintro ⟨rfl, h1⟩
    rw [ts, cefR_ok he.2 (by omega) (by omega)] at hi
    cases hi
  rw [sy_val, if_neg n1, if_neg (by omega), if_neg (by omega), if_neg (by omega), if_neg (by omega)]
end SAYS
theorem sy_ok {c : cCn} (hr : c.1.2.2.1.2.2.1 = [(0, 12, 12, false, (0, []))]) (hf : c.1.2.2.1.2.2.2 = [(0, 35, (0, 0, (0, [(4, 1)])))]) (ha : c.1.2.2.2 = [(1, 0, (0, [])), (0, 0, (0, [(0, 1)])), (0, 0, (0, [(1, 1)])), (0, 0, (0, [(2, 1)])), (0, 0, (0, [(3, 1)]))]) (hc : c.2.1.2.2 = (([], [], [], [(0, 35, (0, 0, (1, [(4, 1)])))]), [(0, 0, (0, [(4, 1)]))])) (he : cefR c.2.2 12 35 35 = true ∧ cefR c.2.2 41 0 239 = true) (hx : ∀ ρ : Nat → Int, cBo ρ c.1.2.2.1.1 → cCo ρ c.1.2.2.1.2.1 → (0 ≤ ρ 4 ∧ ρ 4 ≤ 59) ∧ ((ρ 0 = 1 ∨ ρ 0 = 2 ∨ ρ 0 = 3) → (0 ≤ ρ 1 ∧ ρ 1 < ρ 4) ∧ (ρ 0 ≠ 1 → 0 ≤ ρ 2 ∧ ρ 2 < ρ 4))) : cOk cT0 ey286 6 1 0 0 c := by
  have fact : ∀ {ι avs τ h g ρ σ m}, cPr cT0 c ι avs τ h g ρ σ → σ 0 = some m → h.1 m 35 = ρ 4 := by
    intro ι avs τ h g ρ σ m hp m1
    obtain ⟨y, y1, y2, -⟩ := hp.2.2.2.1.2.2.2 (0, 35, (0, 0, (0, [(4, 1)]))) (by rw [hf]; exact List.mem_cons_self)
    have y1 : σ 0 = some y := y1
    rw [m1] at y1
    cases y1
    have y2 : h.1 m 35 = 0 + (1 * ρ 4 + 0) := y2 rfl
    omega
  refine cOk_ofp (fun ρ => sy_fun (ρ 0) (ρ 1) (ρ 2) (ρ 3)) ?_ ?_
  · intro ι avs τ h g ρ σ hp
    obtain ⟨m, xs, rfl, m1, m2, m3, hxs⟩ := m_this hp hr ha
    obtain ⟨s, s1, s2, s3, s4⟩ := m_tree hp.1 m3
    obtain ⟨⟨y1, y2⟩, -⟩ := hx ρ hp.2.2.2.1.1 hp.2.2.2.1.2.1
    have e := fact hp m1
    exact ⟨hp.2.2.1 0, hp.2.2.1 1, hp.2.2.1 2, hp.2.2.1 3, m, s, by rw [c2_i4 hxs], m2, s1, s3, s4, by omega, by omega⟩
  · rintro ι avs τ h g ρ σ v τ' h' hp ⟨m, s, n, rfl, hs, en, hn60, rfl, rfl, rfl⟩
    obtain ⟨m', xs, e, m1, m2, m3, -⟩ := m_this hp hr ha
    cases e
    obtain ⟨s', s1, s2, s3, -⟩ := m_tree hp.1 m3
    rw [hs] at s1
    cases s1
    obtain ⟨⟨y1, y2⟩, y3⟩ := hx ρ hp.2.2.2.1.1 hp.2.2.2.1.2.1
    have e := fact hp m1
    have e4 : (n : Int) = ρ 4 := by omega
    refine ⟨g, ρ, σ, sy_wt hp.1 m3 s2 hn60 (by rw [e4]; exact y3), hp.2.1, sy_hi m2 s3 hn60 he, cag.rf hp.2.2.1, ?_, ?_⟩
    · rw [hc]
      refine ⟨⟨hp.2.2.1, fun q hq => absurd hq List.not_mem_nil⟩, fun q hq => absurd hq List.not_mem_nil, fun q hq => absurd hq List.not_mem_nil, fun q hq => ?_⟩
      obtain rfl := List.mem_singleton.mp hq
      refine ⟨m, m1, fun _ => ?_, fun w => absurd w (by decide), fun w => absurd w (by decide)⟩
      show (syH h m s n (ρ 0) (ρ 1) (ρ 2) (ρ 3)).1 m 35 = 1 + (1 * ρ 4 + 0)
      rw [sy_val, if_pos ⟨rfl, rfl⟩]
      omega
    · rw [hc]
      refine ⟨cv_I (e := (0, [(4, 1)])) ⟨by omega, by omega⟩ ?_, trivial⟩
      show 0 + (1 * ρ 4 + 0) = (n : Int)
      omega
theorem eox23 : cOk cT0 ey286 6 2 0 0 enx23 := by
  refine (sy_ok rfl rfl rfl rfl ⟨rfl, rfl⟩ (fun ρ hb hc => ?_)).mono (by decide)
  have b0 := cBo_at hb (s := 0) (x := 4) (y := 99) (by decide)
  have b4 := cBo_at hb (s := 4) (x := 0) (y := 59) (by decide)
  omega
theorem eox24 : cOk cT0 ey286 6 2 0 0 enx24 := by
  refine (sy_ok rfl rfl rfl rfl ⟨rfl, rfl⟩ (fun ρ hb hc => ?_)).mono (by decide)
  have b1 := cBo_at hb (s := 1) (x := 0) (y := 2147483647) (by decide)
  have b2 := cBo_at hb (s := 2) (x := 0) (y := 2147483647) (by decide)
  have b4 := cBo_at hb (s := 4) (x := 1) (y := 59) (by decide)
  have c1 : 0 ≤ -1 + (-1 * ρ 1 + (1 * ρ 4 + 0)) := hc (-1, [(1, -1), (4, 1)]) List.mem_cons_self
  have c2 : 0 ≤ -1 + (-1 * ρ 2 + (1 * ρ 4 + 0)) := hc (-1, [(2, -1), (4, 1)]) (List.mem_cons_of_mem _ List.mem_cons_self)
  omega
