/-! ===== whySpoil, snap by unit ===== -/
theorem ws_fun (u : Nat) : bOk ey249 2 2 0 0 (fun _ avs τ h => u < 40 ∧ ∃ m a, avs = [.ref m, .int (bz (u : Int))] ∧ τ.1 m = 12 ∧ h.2 m 14 = some a ∧ τ.1 a = 41 ∧ τ.2 a = 3266) (fun _ avs τ h v τ' h' => ∃ m a r, avs = [.ref m, .int (bz (u : Int))] ∧ h.2 m 14 = some a ∧ τ' = τ ∧ h' = h ∧ v = some (.int (bz r)) ∧ 0 ≤ r ∧ r ≤ 2 ∧ brg (h.1 a (1504 + 38 * u)) ∧ (r = 0 → h.1 a (1504 + 38 * u) = 0)) := by
  refine bOk_of emp249.1.2.2.2.2.2.1 ?_ ?_
  · rintro ι avs τ h ⟨-, m, a, rfl, -⟩
    exact Nat.le_of_ble_eq_true rfl
  · intro γ ι τ h avs d hd hp Bg C
    obtain ⟨hu, m, a, rfl, hm, ha, hta, hla⟩ := hp
    have hn : γ.2.2.1 = 2 := Bg.2.1
    obtain ⟨d, rfl⟩ : ∃ d', d = d' + 1 := ⟨d - 1, by omega⟩
    refine b_al0 C (dk_at ec249 (i := 0) rfl).1 rfl ?_
    refine b_gR C (dk_at ec249 (i := 1) rfl) hm ha ?_
    refine b_al0 C (dk_at ec249 (i := 2) rfl).1 rfl ?_
    refine b_iload_n C (dk_at ec249 (i := 3) rfl).1 rfl ?_
    refine b_inv (As := [.int (bz (u : Int))]) (rest := [.ref a]) C Bg.x (dk_at ec249 (i := 4) rfl) (by decide) rfl (un_fun (u : Int)) (by omega) rfl hm ⟨m, rfl⟩ (Nat.le_of_ble_eq_true rfl) (Nat.le_refl _) (Nat.le_refl _) ?_
    rintro v τ' h' ⟨rfl, rfl, rfl⟩
    refine b_rd (j := 1504 + 38 * u) C (dk_at ec249 (i := 5) rfl).1 hta (by omega) (by omega) (fun hv => ?_)
    refine b_if_eq (t := 17) C (dk_at ec249 (i := 6) rfl).1 (by decide) hv (fun z => ?_) (fun z => ?_)
    · refine b_al0 C (dk_at ec249 (i := 9) rfl).1 rfl ?_
      refine b_gR C (dk_at ec249 (i := 10) rfl) hm ha ?_
      refine b_al0 C (dk_at ec249 (i := 11) rfl).1 rfl ?_
      refine b_iload_n C (dk_at ec249 (i := 12) rfl).1 rfl ?_
      refine b_inv (As := [.int (bz (u : Int))]) (rest := [.ref a]) C Bg.x (dk_at ec249 (i := 13) rfl) (by decide) rfl (un_fun (u : Int)) (by omega) rfl hm ⟨m, rfl⟩ (Nat.le_of_ble_eq_true rfl) (Nat.le_refl _) (Nat.le_refl _) ?_
      rintro v τ' h' ⟨rfl, rfl, rfl⟩
      refine b_iconst C (dk_at ec249 (i := 14) rfl).1 ?_
      refine b_iadd C (dk_at ec249 (i := 15) rfl).1 ?_
      refine b_rd (j := 1504 + 38 * u + 4) C (dk_at ec249 (i := 16) rfl).1 hta (by omega) (by omega) (fun hv4 => ?_)
      refine b_iconst C (dk_at ec249 (i := 17) rfl).1 ?_
      refine b_icmp_ne (t := 37) C (dk_at ec249 (i := 18) rfl).1 (by decide) hv4 ⟨by omega, by omega⟩ (fun _ => ?_) (fun _ => ?_)
      · refine b_iconst C (dk_at ec249 (i := 21) rfl).1 ?_
        exact b_iret C Bg (dk_at ec249 (i := 22) rfl).1 (Or.inl rfl) (Nat.le_refl _) (Nat.le_refl _) ⟨m, a, 0, rfl, ha, rfl, rfl, rfl, by omega, by omega, hv, fun _ => z⟩
      · refine b_iconst C (dk_at ec249 (i := 19) rfl).1 ?_
        refine b_goto (t := 38) C (dk_at ec249 (i := 20) rfl).1 (by decide) ?_
        exact b_iret C Bg (dk_at ec249 (i := 22) rfl).1 (Or.inl rfl) (Nat.le_refl _) (Nat.le_refl _) ⟨m, a, 2, rfl, ha, rfl, rfl, rfl, by omega, by omega, hv, fun q => by omega⟩
    · refine b_iconst C (dk_at ec249 (i := 7) rfl).1 ?_
      refine b_goto (t := 38) C (dk_at ec249 (i := 8) rfl).1 (by decide) ?_
      exact b_iret C Bg (dk_at ec249 (i := 22) rfl).1 (Or.inl rfl) (Nat.le_refl _) (Nat.le_refl _) ⟨m, a, 1, rfl, ha, rfl, rfl, rfl, by omega, by omega, hv, fun q => by omega⟩
theorem c2_i1 {ρ : Nat → Int} {σ : Nat → Option Nat} {i : Nat} {xs : List Value} (h : c2 (cv ρ σ) [(0, 0, (0, [(i, 1)]))] xs) : xs = [.int (bz (ρ i))] := by
  obtain ⟨v1, r1, rfl, hv1, h⟩ := c2.cons h
  cases r1 with
  | cons => exact h.elim
  | nil =>
    have ev : cE ρ (0, [(i, 1)]) = ρ i := by show 0 + (1 * ρ i + 0) = _; omega
    have e1 := (cv_int rfl rfl hv1).1
    rw [ev] at e1
    rw [e1]
/-- the array now, by a fact -/
theorem f_now {A : cA} {ρ : Nat → Int} {σ : Nat → Option Nat} {g : Nat → Nat} {τ : bt} {h : bh} {m a : Nat} (h4 : cst ρ σ g τ h A) (hm : (0, 14, (1, 1, (0, []))) ∈ A.2.2.2) (m1 : σ 0 = some m) (ha : h.2 m 14 = some a) : σ 1 = some a := by
  obtain ⟨y, y1, -, y2, -⟩ := h4.2.2.2 _ hm
  have y1 : σ 0 = some y := y1
  rw [m1] at y1
  cases y1
  have y2 : h.2 m 14 = σ 1 := y2 rfl
  rw [← y2, ha]
theorem ws_ok {c : cCn} {u : Nat} (hu : u < 40) (hn : c.1.1 = 2) (hb : c.1.2.2.1.1 = [(0, (u : Int), (u : Int)), (1, 0, 40)]) (hr : c.1.2.2.1.2.2.1 = [(0, 12, 12, false, (0, [])), (1, 41, 61, false, (3266, []))]) (hf : (0, 14, (1, 1, (0, []))) ∈ c.1.2.2.1.2.2.2) (ha : c.1.2.2.2 = [(1, 0, (0, [])), (0, 0, (0, [(0, 1)]))]) (hc : c.2.1.2.2 = (([(2, 0, 2)], [(0, [(2, 2147483648), (3, -1)]), (0, [(2, 2147483648), (3, 1)])], [], [(1, 1504 + 38 * u, (0, 0, (0, [(3, 1)])))]), [(0, 0, (0, [(2, 1)]))])) : cOk cT0 ey249 2 2 0 0 c := by
  refine cOk_ofp (fun _ => ws_fun u) ?_ ?_
  · intro ι avs τ h g ρ σ hp
    obtain ⟨m, xs, rfl, -, m2, m3, hxs⟩ := m_this hp hr ha
    obtain ⟨a, a1, a2, a3, a4⟩ := m_now hp.1 m3
    have b0 := cBo_at hp.2.2.2.1.1 (s := 0) (x := (u : Int)) (y := (u : Int)) (by rw [hb]; exact List.mem_cons_self)
    have e0 : ρ 0 = (u : Int) := by omega
    exact ⟨hu, m, a, by rw [c2_i1 hxs, e0], m2, a1, a3, a4⟩
  · rintro ι avs τ h g ρ σ v τ' h' hp ⟨m, a, r, rfl, ha1, rfl, rfl, rfl, r1, r2, hv, hk⟩
    obtain ⟨m', xs, e, m1, -, m3, -⟩ := m_this hp hr ha
    cases e
    have s1 := f_now hp.2.2.2.1 hf m1 ha1
    have hR : ∀ s, brg (if s = 2 then r else if s = 3 then h'.1 a (1504 + 38 * u) else ρ s) := by
      intro s
      by_cases e : s = 2
      · rw [if_pos e]; exact ⟨by omega, by omega⟩
      · rw [if_neg e]
        by_cases e : s = 3
        · rw [if_pos e]; exact hv
        · rw [if_neg e]; exact hp.2.2.1 s
    refine ⟨g, fun s => if s = 2 then r else if s = 3 then h'.1 a (1504 + 38 * u) else ρ s, σ, hp.1, hp.2.1, cHi.rfl, ⟨hR, fun s hs => ?_, fun _ _ => rfl⟩, ?_, ?_⟩
    · show (if s = 2 then r else if s = 3 then _ else ρ s) = ρ s
      rw [if_neg (by omega), if_neg (by omega)]
    · rw [hc]
      have v1 := hv.1
      have v2 := hv.2
      refine ⟨⟨hR, fun q hq => ?_⟩, fun q hq => ?_, fun q hq => absurd hq List.not_mem_nil, fun q hq => ?_⟩
      · obtain rfl := List.mem_singleton.mp hq
        exact ⟨r1, r2⟩
      · rcases List.mem_cons.mp hq with rfl | hq
        · show 0 ≤ 0 + (2147483648 * r + (-1 * h'.1 a (1504 + 38 * u) + 0))
          by_cases e : r = 0
          · have := hk e; omega
          · omega
        · obtain rfl := List.mem_singleton.mp hq
          show 0 ≤ 0 + (2147483648 * r + (1 * h'.1 a (1504 + 38 * u) + 0))
          by_cases e : r = 0
          · have := hk e; omega
          · omega
      · obtain rfl := List.mem_singleton.mp hq
        refine ⟨a, s1, fun _ => ?_, fun w => absurd (show (0 : Nat) = 1 from w) (by decide), fun w => absurd (show (0 : Nat) = 2 from w) (by decide)⟩
        show h'.1 a (1504 + 38 * u) = 0 + (1 * h'.1 a (1504 + 38 * u) + 0)
        omega
    · rw [hc]
      refine ⟨cv_I (e := (0, [(2, 1)])) ⟨by omega, by omega⟩ ?_, trivial⟩
      show 0 + (1 * r + 0) = r
      omega
theorem sn_all {h H1 h' : bh} {a s m : Nat} (nsa : a ≠ s) (nma : a ≠ m) (hq : (h.1 m 25 = 8 ∧ H1 = bsetI (bcp h s 0 s 2996 20972) m 25 7) ∨ (h.1 m 25 ≠ 8 ∧ H1 = h)) (hh : h' = bsetI (bcp H1 s (2996 * (H1.1 m 25).toNat) a 28 2996) m 25 (H1.1 m 25 + 1)) (i : Nat) : h'.1 a i = h.1 a i := by
  have e1 : H1.1 a i = h.1 a i := by
    rcases hq with ⟨-, rfl⟩ | ⟨-, rfl⟩
    · show (if a = m ∧ i = 25 then (7 : Int) else if a = s ∧ 0 ≤ i ∧ i < 0 + 20972 then _ else h.1 a i) = _
      rw [if_neg (fun e => nma e.1), if_neg (fun e => nsa e.1)]
    · rfl
  rw [← e1, hh]
  show (if a = m ∧ i = 25 then _ else if a = s ∧ 2996 * (H1.1 m 25).toNat ≤ i ∧ i < 2996 * (H1.1 m 25).toNat + 2996 then _ else H1.1 a i) = _
  rw [if_neg (fun e => nma e.1), if_neg (fun e => nsa e.1)]
theorem sn_u {c : cCn} {K : Nat} (hr : c.1.2.2.1.2.2.1 = [(0, 12, 12, false, (0, [])), (1, 41, 61, false, (3266, []))]) (ha : c.1.2.2.2 = [(1, 0, (0, []))]) (hf : c.1.2.2.1.2.2.2 = [(0, 14, (1, 1, (0, []))), (1, 45, (0, 0, (0, [(0, 1)]))), (1, K, (0, 0, (0, [(1, 1)])))]) (hc : c.2.1.2.2 = (([], [], [], [(0, 14, (1, 1, (0, []))), (1, 45, (0, 0, (0, [(0, 1)]))), (1, K, (0, 0, (0, [(1, 1)])))]), [])) (he : cefR c.2.2 12 25 25 = true ∧ cefR c.2.2 41 0 23967 = true) : cOk cT0 ey244 2 2 0 0 c := by
  refine cOk_of sn_fun ?_ ?_
  · intro ι avs τ h g ρ σ hp
    obtain ⟨m, a, s, e1, -, e2, -, e3, -, e4, e5, e6, -, e7, e8, e9, e10, e11⟩ := sn_pre hp hr ha
    exact ⟨m, a, s, e1, e2, e3, e4, e5, e6, e7, e8, e9, e10, e11⟩
  · rintro ι avs τ h g ρ σ v τ' h' hp ⟨m, a, s, H1, rfl, ha1, hs, rfl, rfl, hq, hh⟩
    obtain ⟨m', a', s', e1, e0, e2, gm, e3, ga, e4, e5, e6, gs, e7, -⟩ := sn_pre hp hr ha
    cases e1
    rw [ha1] at e3
    cases e3
    rw [hs] at e6
    cases e6
    have nma : a ≠ m := fun e => by rw [e, gm] at ga; cases ga
    have nsa : a ≠ s := fun e => by rw [e, gs] at ga; cases ga
    obtain ⟨x1, x2, x3, -⟩ := sn_end (E := c.2.2) hp.1 gm ga gs e7 e2 he hq hh
    have x4 := sn_all nsa nma hq hh
    have s1 := f_now hp.2.2.2.1 (by rw [hf]; exact List.mem_cons_self) e0 ha1
    refine ⟨g, ρ, σ, x1, hp.2.1, x2, cag.rf hp.2.2.1, ?_, ?_⟩
    · rw [hc]
      refine ⟨⟨hp.2.2.1, fun q hq => absurd hq List.not_mem_nil⟩, fun q hq => absurd hq List.not_mem_nil, fun q hq => absurd hq List.not_mem_nil, fun q hq => ?_⟩
      have hold : cft ρ σ h q := hp.2.2.2.1.2.2.2 q (by rw [hf]; exact hq)
      obtain ⟨b, b1, b2, b3, b4⟩ := hold
      refine ⟨b, b1, fun w => ?_, fun w => by rw [x3]; exact b3 w, fun w => by rw [x3]; exact b4 w⟩
      have hq0 : q = (0, 14, (1, 1, (0, []))) ∨ q.1 = 1 := by
        rcases List.mem_cons.mp hq with rfl | hq
        · exact Or.inl rfl
        · rcases List.mem_cons.mp hq with rfl | hq
          · exact Or.inr rfl
          · obtain rfl := List.mem_singleton.mp hq
            exact Or.inr rfl
      rcases hq0 with rfl | q1
      · exact absurd (show (1 : Nat) = 0 from w) (by decide)
      · rw [q1, s1] at b1
        cases b1
        rw [x4]
        exact b2 w
    · rw [hc]
      exact trivial
theorem eox29 : cOk cT0 ey249 2 3 0 0 enx29 := (ws_ok (u := 0) (by decide) rfl rfl rfl List.mem_cons_self rfl rfl).mono (by decide)
theorem eox30 : cOk cT0 ey244 2 4 0 0 enx30 := (sn_u (K := 1504) rfl rfl rfl rfl ⟨rfl, rfl⟩).mono (by decide)
theorem eox31 : cOk cT0 ey249 2 3 0 0 enx31 := (ws_ok (u := 1) (by decide) rfl rfl rfl List.mem_cons_self rfl rfl).mono (by decide)
theorem eox32 : cOk cT0 ey244 2 4 0 0 enx32 := (sn_u (K := 1542) rfl rfl rfl rfl ⟨rfl, rfl⟩).mono (by decide)
theorem eox33 : cOk cT0 ey249 2 3 0 0 enx33 := (ws_ok (u := 2) (by decide) rfl rfl rfl List.mem_cons_self rfl rfl).mono (by decide)
theorem eox34 : cOk cT0 ey244 2 4 0 0 enx34 := (sn_u (K := 1580) rfl rfl rfl rfl ⟨rfl, rfl⟩).mono (by decide)
theorem eox35 : cOk cT0 ey249 2 3 0 0 enx35 := (ws_ok (u := 3) (by decide) rfl rfl rfl List.mem_cons_self rfl rfl).mono (by decide)
theorem eox36 : cOk cT0 ey244 2 4 0 0 enx36 := (sn_u (K := 1618) rfl rfl rfl rfl ⟨rfl, rfl⟩).mono (by decide)
theorem eox37 : cOk cT0 ey249 2 3 0 0 enx37 := (ws_ok (u := 4) (by decide) rfl rfl rfl List.mem_cons_self rfl rfl).mono (by decide)
theorem eox38 : cOk cT0 ey244 2 4 0 0 enx38 := (sn_u (K := 1656) rfl rfl rfl rfl ⟨rfl, rfl⟩).mono (by decide)
theorem eox39 : cOk cT0 ey249 2 3 0 0 enx39 := (ws_ok (u := 5) (by decide) rfl rfl rfl List.mem_cons_self rfl rfl).mono (by decide)
theorem eox40 : cOk cT0 ey244 2 4 0 0 enx40 := (sn_u (K := 1694) rfl rfl rfl rfl ⟨rfl, rfl⟩).mono (by decide)
theorem eox41 : cOk cT0 ey249 2 3 0 0 enx41 := (ws_ok (u := 6) (by decide) rfl rfl rfl List.mem_cons_self rfl rfl).mono (by decide)
theorem eox42 : cOk cT0 ey244 2 4 0 0 enx42 := (sn_u (K := 1732) rfl rfl rfl rfl ⟨rfl, rfl⟩).mono (by decide)
theorem eox43 : cOk cT0 ey249 2 3 0 0 enx43 := (ws_ok (u := 7) (by decide) rfl rfl rfl List.mem_cons_self rfl rfl).mono (by decide)
theorem eox44 : cOk cT0 ey244 2 4 0 0 enx44 := (sn_u (K := 1770) rfl rfl rfl rfl ⟨rfl, rfl⟩).mono (by decide)
theorem eox45 : cOk cT0 ey249 2 3 0 0 enx45 := (ws_ok (u := 8) (by decide) rfl rfl rfl List.mem_cons_self rfl rfl).mono (by decide)
theorem eox46 : cOk cT0 ey244 2 4 0 0 enx46 := (sn_u (K := 1808) rfl rfl rfl rfl ⟨rfl, rfl⟩).mono (by decide)
theorem eox47 : cOk cT0 ey249 2 3 0 0 enx47 := (ws_ok (u := 9) (by decide) rfl rfl rfl List.mem_cons_self rfl rfl).mono (by decide)
theorem eox48 : cOk cT0 ey244 2 4 0 0 enx48 := (sn_u (K := 1846) rfl rfl rfl rfl ⟨rfl, rfl⟩).mono (by decide)
theorem eox49 : cOk cT0 ey249 2 3 0 0 enx49 := (ws_ok (u := 10) (by decide) rfl rfl rfl List.mem_cons_self rfl rfl).mono (by decide)
theorem eox50 : cOk cT0 ey244 2 4 0 0 enx50 := (sn_u (K := 1884) rfl rfl rfl rfl ⟨rfl, rfl⟩).mono (by decide)
theorem eox51 : cOk cT0 ey249 2 3 0 0 enx51 := (ws_ok (u := 11) (by decide) rfl rfl rfl List.mem_cons_self rfl rfl).mono (by decide)
theorem eox52 : cOk cT0 ey244 2 4 0 0 enx52 := (sn_u (K := 1922) rfl rfl rfl rfl ⟨rfl, rfl⟩).mono (by decide)
theorem eox53 : cOk cT0 ey249 2 3 0 0 enx53 := (ws_ok (u := 12) (by decide) rfl rfl rfl List.mem_cons_self rfl rfl).mono (by decide)
theorem eox54 : cOk cT0 ey244 2 4 0 0 enx54 := (sn_u (K := 1960) rfl rfl rfl rfl ⟨rfl, rfl⟩).mono (by decide)
theorem eox55 : cOk cT0 ey249 2 3 0 0 enx55 := (ws_ok (u := 13) (by decide) rfl rfl rfl List.mem_cons_self rfl rfl).mono (by decide)
theorem eox56 : cOk cT0 ey244 2 4 0 0 enx56 := (sn_u (K := 1998) rfl rfl rfl rfl ⟨rfl, rfl⟩).mono (by decide)
theorem eox57 : cOk cT0 ey249 2 3 0 0 enx57 := (ws_ok (u := 14) (by decide) rfl rfl rfl List.mem_cons_self rfl rfl).mono (by decide)
theorem eox58 : cOk cT0 ey244 2 4 0 0 enx58 := (sn_u (K := 2036) rfl rfl rfl rfl ⟨rfl, rfl⟩).mono (by decide)
theorem eox59 : cOk cT0 ey249 2 3 0 0 enx59 := (ws_ok (u := 15) (by decide) rfl rfl rfl List.mem_cons_self rfl rfl).mono (by decide)
theorem eox60 : cOk cT0 ey244 2 4 0 0 enx60 := (sn_u (K := 2074) rfl rfl rfl rfl ⟨rfl, rfl⟩).mono (by decide)
theorem eox61 : cOk cT0 ey249 2 3 0 0 enx61 := (ws_ok (u := 16) (by decide) rfl rfl rfl List.mem_cons_self rfl rfl).mono (by decide)
theorem eox62 : cOk cT0 ey244 2 4 0 0 enx62 := (sn_u (K := 2112) rfl rfl rfl rfl ⟨rfl, rfl⟩).mono (by decide)
theorem eox63 : cOk cT0 ey249 2 3 0 0 enx63 := (ws_ok (u := 17) (by decide) rfl rfl rfl List.mem_cons_self rfl rfl).mono (by decide)
theorem eox64 : cOk cT0 ey244 2 4 0 0 enx64 := (sn_u (K := 2150) rfl rfl rfl rfl ⟨rfl, rfl⟩).mono (by decide)
theorem eox65 : cOk cT0 ey249 2 3 0 0 enx65 := (ws_ok (u := 18) (by decide) rfl rfl rfl List.mem_cons_self rfl rfl).mono (by decide)
theorem eox66 : cOk cT0 ey244 2 4 0 0 enx66 := (sn_u (K := 2188) rfl rfl rfl rfl ⟨rfl, rfl⟩).mono (by decide)
theorem eox67 : cOk cT0 ey249 2 3 0 0 enx67 := (ws_ok (u := 19) (by decide) rfl rfl rfl List.mem_cons_self rfl rfl).mono (by decide)
theorem eox68 : cOk cT0 ey244 2 4 0 0 enx68 := (sn_u (K := 2226) rfl rfl rfl rfl ⟨rfl, rfl⟩).mono (by decide)
theorem eox69 : cOk cT0 ey249 2 3 0 0 enx69 := (ws_ok (u := 20) (by decide) rfl rfl rfl List.mem_cons_self rfl rfl).mono (by decide)
theorem eox70 : cOk cT0 ey244 2 4 0 0 enx70 := (sn_u (K := 2264) rfl rfl rfl rfl ⟨rfl, rfl⟩).mono (by decide)
theorem eox71 : cOk cT0 ey249 2 3 0 0 enx71 := (ws_ok (u := 21) (by decide) rfl rfl rfl List.mem_cons_self rfl rfl).mono (by decide)
theorem eox72 : cOk cT0 ey244 2 4 0 0 enx72 := (sn_u (K := 2302) rfl rfl rfl rfl ⟨rfl, rfl⟩).mono (by decide)
theorem eox73 : cOk cT0 ey249 2 3 0 0 enx73 := (ws_ok (u := 22) (by decide) rfl rfl rfl List.mem_cons_self rfl rfl).mono (by decide)
theorem eox74 : cOk cT0 ey244 2 4 0 0 enx74 := (sn_u (K := 2340) rfl rfl rfl rfl ⟨rfl, rfl⟩).mono (by decide)
theorem eox75 : cOk cT0 ey249 2 3 0 0 enx75 := (ws_ok (u := 23) (by decide) rfl rfl rfl List.mem_cons_self rfl rfl).mono (by decide)
theorem eox76 : cOk cT0 ey244 2 4 0 0 enx76 := (sn_u (K := 2378) rfl rfl rfl rfl ⟨rfl, rfl⟩).mono (by decide)
theorem eox77 : cOk cT0 ey249 2 3 0 0 enx77 := (ws_ok (u := 24) (by decide) rfl rfl rfl List.mem_cons_self rfl rfl).mono (by decide)
theorem eox78 : cOk cT0 ey244 2 4 0 0 enx78 := (sn_u (K := 2416) rfl rfl rfl rfl ⟨rfl, rfl⟩).mono (by decide)
theorem eox79 : cOk cT0 ey249 2 3 0 0 enx79 := (ws_ok (u := 25) (by decide) rfl rfl rfl List.mem_cons_self rfl rfl).mono (by decide)
theorem eox80 : cOk cT0 ey244 2 4 0 0 enx80 := (sn_u (K := 2454) rfl rfl rfl rfl ⟨rfl, rfl⟩).mono (by decide)
theorem eox81 : cOk cT0 ey249 2 3 0 0 enx81 := (ws_ok (u := 26) (by decide) rfl rfl rfl List.mem_cons_self rfl rfl).mono (by decide)
theorem eox82 : cOk cT0 ey244 2 4 0 0 enx82 := (sn_u (K := 2492) rfl rfl rfl rfl ⟨rfl, rfl⟩).mono (by decide)
theorem eox83 : cOk cT0 ey249 2 3 0 0 enx83 := (ws_ok (u := 27) (by decide) rfl rfl rfl List.mem_cons_self rfl rfl).mono (by decide)
theorem eox84 : cOk cT0 ey244 2 4 0 0 enx84 := (sn_u (K := 2530) rfl rfl rfl rfl ⟨rfl, rfl⟩).mono (by decide)
theorem eox85 : cOk cT0 ey249 2 3 0 0 enx85 := (ws_ok (u := 28) (by decide) rfl rfl rfl List.mem_cons_self rfl rfl).mono (by decide)
theorem eox86 : cOk cT0 ey244 2 4 0 0 enx86 := (sn_u (K := 2568) rfl rfl rfl rfl ⟨rfl, rfl⟩).mono (by decide)
theorem eox87 : cOk cT0 ey249 2 3 0 0 enx87 := (ws_ok (u := 29) (by decide) rfl rfl rfl List.mem_cons_self rfl rfl).mono (by decide)
theorem eox88 : cOk cT0 ey244 2 4 0 0 enx88 := (sn_u (K := 2606) rfl rfl rfl rfl ⟨rfl, rfl⟩).mono (by decide)
theorem eox89 : cOk cT0 ey249 2 3 0 0 enx89 := (ws_ok (u := 30) (by decide) rfl rfl rfl List.mem_cons_self rfl rfl).mono (by decide)
theorem eox90 : cOk cT0 ey244 2 4 0 0 enx90 := (sn_u (K := 2644) rfl rfl rfl rfl ⟨rfl, rfl⟩).mono (by decide)
theorem eox91 : cOk cT0 ey249 2 3 0 0 enx91 := (ws_ok (u := 31) (by decide) rfl rfl rfl List.mem_cons_self rfl rfl).mono (by decide)
theorem eox92 : cOk cT0 ey244 2 4 0 0 enx92 := (sn_u (K := 2682) rfl rfl rfl rfl ⟨rfl, rfl⟩).mono (by decide)
theorem eox93 : cOk cT0 ey249 2 3 0 0 enx93 := (ws_ok (u := 32) (by decide) rfl rfl rfl List.mem_cons_self rfl rfl).mono (by decide)
theorem eox94 : cOk cT0 ey244 2 4 0 0 enx94 := (sn_u (K := 2720) rfl rfl rfl rfl ⟨rfl, rfl⟩).mono (by decide)
theorem eox95 : cOk cT0 ey249 2 3 0 0 enx95 := (ws_ok (u := 33) (by decide) rfl rfl rfl List.mem_cons_self rfl rfl).mono (by decide)
theorem eox96 : cOk cT0 ey244 2 4 0 0 enx96 := (sn_u (K := 2758) rfl rfl rfl rfl ⟨rfl, rfl⟩).mono (by decide)
theorem eox97 : cOk cT0 ey249 2 3 0 0 enx97 := (ws_ok (u := 34) (by decide) rfl rfl rfl List.mem_cons_self rfl rfl).mono (by decide)
theorem eox98 : cOk cT0 ey244 2 4 0 0 enx98 := (sn_u (K := 2796) rfl rfl rfl rfl ⟨rfl, rfl⟩).mono (by decide)
theorem eox99 : cOk cT0 ey249 2 3 0 0 enx99 := (ws_ok (u := 35) (by decide) rfl rfl rfl List.mem_cons_self rfl rfl).mono (by decide)
theorem eox100 : cOk cT0 ey244 2 4 0 0 enx100 := (sn_u (K := 2834) rfl rfl rfl rfl ⟨rfl, rfl⟩).mono (by decide)
theorem eox101 : cOk cT0 ey249 2 3 0 0 enx101 := (ws_ok (u := 36) (by decide) rfl rfl rfl List.mem_cons_self rfl rfl).mono (by decide)
theorem eox102 : cOk cT0 ey244 2 4 0 0 enx102 := (sn_u (K := 2872) rfl rfl rfl rfl ⟨rfl, rfl⟩).mono (by decide)
theorem eox103 : cOk cT0 ey249 2 3 0 0 enx103 := (ws_ok (u := 37) (by decide) rfl rfl rfl List.mem_cons_self rfl rfl).mono (by decide)
theorem eox104 : cOk cT0 ey244 2 4 0 0 enx104 := (sn_u (K := 2910) rfl rfl rfl rfl ⟨rfl, rfl⟩).mono (by decide)
theorem eox105 : cOk cT0 ey249 2 3 0 0 enx105 := (ws_ok (u := 38) (by decide) rfl rfl rfl List.mem_cons_self rfl rfl).mono (by decide)
theorem eox106 : cOk cT0 ey244 2 4 0 0 enx106 := (sn_u (K := 2948) rfl rfl rfl rfl ⟨rfl, rfl⟩).mono (by decide)
theorem eox107 : cOk cT0 ey249 2 3 0 0 enx107 := (ws_ok (u := 39) (by decide) rfl rfl rfl List.mem_cons_self rfl rfl).mono (by decide)
theorem eox108 : cOk cT0 ey244 2 4 0 0 enx108 := (sn_u (K := 2986) rfl rfl rfl rfl ⟨rfl, rfl⟩).mono (by decide)
