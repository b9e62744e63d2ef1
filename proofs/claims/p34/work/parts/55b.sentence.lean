/-! ===== sentence ===== -/
def fr (E : cEf) (g0 : Nat → Nat) (τ0 : bt) (h0 : bh) (ι : bI) (m : Nat) (g : Nat → Nat) (τ : bt) (h : bh) : Prop := cWT cT0 g τ h ∧ cKt ι g ∧ cHi E g0 τ0 h0 g τ h ∧ τ.1 m = 12 ∧ g m = 12 ∧ τ.2 m = 0
section FR
variable {E E' : cEf} {g0 g g' : Nat → Nat} {τ0 τ τ' : bt} {h0 h h' : bh} {ι : bI} {m : Nat} {ρ : Nat → Int} {σ : Nat → Option Nat}
theorem fr.step (hs : cesub E' E = true) (F : fr E g0 τ0 h0 ι m g τ h) (hw : cWT cT0 g' τ' h') (hk : cKt ι g') (hH : cHi E' g τ h g' τ' h') : fr E g0 τ0 h0 ι m g' τ' h' := by
  obtain ⟨-, -, f3, f4, f5, f6⟩ := F
  have Hm := hH m (by rw [f4]; decide)
  refine ⟨hw, hk, cHi.trans hs f3 hH, by rw [Hm.1]; exact f4, ?_, by rw [Hm.2.1]; exact f6⟩
  rcases Hm.2.2.1 with e | ⟨e, -⟩
  · rw [e]; exact f5
  · omega
theorem fr.crf (F : fr E g0 τ0 h0 ι m g τ h) (m1 : σ 0 = some m) : crf ρ σ g τ (0, 12, 12, false, (0, [])) := by
  refine Or.inr ⟨m, m1, F.2.2.2.1, by decide, F.2.2.2.2.1, ?_⟩
  show (τ.2 m : Int) = 0 + 0
  rw [F.2.2.2.2.2]
  rfl
theorem fr.any {c : cCn} {avs : List Value} {n : Nat} {z : Int} (hc : c.2.1.2.2 = (([], [], [], []), [(0, 0, (0, [(n, 1)]))])) (hn : c.1.1 = n) (hρ : ∀ s, brg (ρ s)) (F : fr c.2.2 g0 τ0 h0 ι m g τ h) (hz : brg z) : cPst cT0 c g0 ρ σ ι avs τ0 h0 (some (.int (bz z))) τ h := by
  have hr : ∀ s, brg (if s = n then z else ρ s) := by
    intro s
    by_cases e : s = n
    · rw [if_pos e]; exact hz
    · rw [if_neg e]; exact hρ s
  refine ⟨g, fun s => if s = n then z else ρ s, σ, F.1, F.2.1, F.2.2.1, ⟨hr, fun s hs => if_neg (by omega), fun _ _ => rfl⟩, ?_, ?_⟩
  · rw [hc]
    exact ⟨⟨hr, fun q hq => absurd hq List.not_mem_nil⟩, fun q hq => absurd hq List.not_mem_nil, fun q hq => absurd hq List.not_mem_nil, fun q hq => absurd hq List.not_mem_nil⟩
  · rw [hc]
    refine ⟨cv_I (e := (0, [(n, 1)])) hz ?_, trivial⟩
    show 0 + (1 * (if n = n then z else ρ n) + 0) = z
    rw [if_pos rfl]
    omega
theorem brg_cup {n : Nat} {z : Int} (hρ : ∀ s, brg (ρ s)) (hz : brg z) : ∀ s, brg (cup ρ n z s) := by
  intro s
  unfold cup
  split
  · exact hz
  · exact hρ s
end FR
theorem g74c : (∀ q ∈ cSg 74, q.2.1 = 3 → q.2.2.1 = 2 ∧ q.2.2.2.1.toNat = 0) ∧ (240, (3, 2, 0, 0, false)) ∈ cSg 74 := ⟨g74.1, g74.2.1⟩
theorem s61b : cseg (cSg 61) 3025 = (0, 0, 59, 0, false) ∧ (cseg (cSg 61) 3024).1 = 2 ∧ csn (cSg 61) 3 3026 240 = true := by decide +kernel
theorem w36 : cseg (cSg 12) 36 = (0, 0, 20, 0, false) ∧ cseg (cSg 12) 37 = (0, 0, 8, 0, false) ∧ cseg (cSg 12) 38 = (0, 0, 59, 0, false) := by decide +kernel
theorem sn_val {h : bh} {a s : Nat} {z : Int} (b i : Nat) : (bcp (bsetI (bsetI h a 3024 1) a 3025 z) a 3026 s 0 240).1 b i = if b = a ∧ 3026 ≤ i ∧ i < 3026 + 240 then (bsetI (bsetI h a 3024 1) a 3025 z).1 s (0 + (i - 3026)) else if b = a ∧ i = 3025 then z else if b = a ∧ i = 3024 then 1 else h.1 b i := rfl
theorem sn_wt {g : Nat → Nat} {τ : bt} {h : bh} {a s : Nat} {z : Int} (hw : cWT cT0 g τ h) (ga : g a = 61) (gs : g s = 74) (hz : 0 ≤ z ∧ z ≤ 59) : cWT cT0 g τ (bcp (bsetI (bsetI h a 3024 1) a 3025 z) a 3026 s 0 240) := by
  have nsa : s ≠ a := fun e => by rw [e] at gs; omega
  obtain ⟨o1, o2, o3⟩ := o_now hw ga
  have ho : ∀ b i, (b ≠ a ∨ i < 3024 ∨ 3265 < i) → (bcp (bsetI (bsetI h a 3024 1) a 3025 z) a 3026 s 0 240).1 b i = h.1 b i := by
    intro b i hb
    rw [sn_val, if_neg (by omega), if_neg (by omega), if_neg (by omega)]
  refine w_now hw ga (l := 3024) (u := 3265) rfl ho (fun i i1 i2 hi => ?_) (creg_eq (fun i hi => ho a i (Or.inr ?_)) o2) ?_
  · by_cases e : i = 3025
    · subst e
      rw [sn_val, if_neg (by omega), if_pos ⟨rfl, rfl⟩, s61b.1]
      exact hz
    · by_cases e' : i = 3024
      · subst e'
        rw [s61b.2.1] at hi
        cases hi
      · have := csn_ok 240 s61b.2.2 i (by omega) (by omega)
        omega
  · rcases hi with ⟨h1, ⟨h2, -⟩ | ⟨h2, -⟩ | ⟨-, -, h2⟩⟩ | ⟨-, h2⟩
    · omega
    · omega
    · omega
    · omega
  · obtain ⟨-, p2⟩ := o_arr hw gs (by decide) cR74
    have := p2 (by decide) _ g74.2.1 rfl
    refine creg2_sh (c := 0) (f := h.1 s) (fun i hi => ?_) this
    rw [sn_val, if_pos ⟨rfl, by omega, by omega⟩, bsetI_no nsa, bsetI_no nsa, show 3026 + i - 3026 = i by omega]
theorem eox25 : cOk cT0 ey294 2 60 0 0 enx25 := by
  intro g0 ρ σ
  refine bOk_of emp294.1.2.2.2.2.2.1 ?_ ?_
  · rintro ι avs τ h hp
    obtain ⟨m, xs, rfl, -, m2, m3, hxs⟩ := m_this hp rfl rfl
    cases xs with
    | cons => exact hxs.elim
    | nil => exact Nat.le_of_ble_eq_true rfl
  · intro γ ι τ0 h0 avs d hd hp Bg C
    obtain ⟨m, xs, rfl, m1, m2, m3, hxs⟩ := m_this hp rfl rfl
    obtain rfl : xs = [] := by
      cases xs with
      | cons => exact hxs.elim
      | nil => rfl
    have hn : γ.2.2.1 = 2 := Bg.2.1
    have hι : γ.1 = ι := Bg.1
    obtain ⟨d, rfl⟩ : ∃ d', d = d' + 1 := ⟨d - 1, by omega⟩
    have F0 : fr enx25.2.2 g0 τ0 h0 γ.1 m g0 τ0 h0 := by
      refine ⟨hp.1, hι ▸ hp.2.1, cHi.rfl, m2, m3, ?_⟩
      rcases hp.2.2.2.1.2.2.1 _ List.mem_cons_self with ⟨e, -⟩ | ⟨m', e1, -, -, -, e4⟩
      · cases e
      · have e1 : σ 0 = some m' := e1
        rw [m1] at e1
        cases e1
        have e4 : (τ0.2 m : Int) = 0 + 0 := e4
        omega
    refine b_al0 C (dk_at ec294 (i := 0) rfl).1 rfl ?_
    refine b_sipush C (dk_at ec294 (i := 1) rfl).1 ⟨by omega, by omega⟩ ?_
    refine b_inv (As := [.int (bz 200)]) (rest := []) C Bg.x (dk_at ec294 (i := 2) rfl) (by decide) rfl (eor20 g0 (cup ρ 0 200) σ) (by omega) rfl m2 ⟨F0.1, F0.2.1, brg_cup hp.2.2.1 ⟨by omega, by omega⟩, ⟨⟨brg_cup hp.2.2.1 ⟨by omega, by omega⟩, fun q hq => absurd hq List.not_mem_nil⟩, fun q hq => absurd hq List.not_mem_nil, fun q hq => by obtain rfl := List.mem_singleton.mp hq; exact F0.crf m1, fun q hq => absurd hq List.not_mem_nil⟩, ⟨cv_P m1, cv_I (e := (0, [(0, 1)])) ⟨by omega, by omega⟩ (by show 0 + (1 * cup ρ 0 200 0 + 0) = 200; rw [cup_at]; rfl), trivial⟩⟩ (Nat.le_of_ble_eq_true rfl) (Nat.le_refl _) (Nat.le_refl _) ?_
    rintro v τ1 h1 ⟨g1, ρ1, σ1, hw1, hk1, hH1, -, -, hv1⟩
    cases v with
    | some v => exact (show False from hv1).elim
    | none =>
      have F1 := F0.step (by decide +kernel) hw1 hk1 hH1
      have tm1 := F1.2.2.2.1
      have gm1 := F1.2.2.2.2.1
      refine b_al0 C (dk_at ec294 (i := 3) rfl).1 rfl ?_
      refine b_iconst C (dk_at ec294 (i := 4) rfl).1 ?_
      refine b_pI C (dk_at ec294 (i := 5) rfl) ⟨by omega, by omega⟩ tm1 ?_
      refine b_al0 C (dk_at ec294 (i := 6) rfl).1 rfl ?_
      refine b_iconst C (dk_at ec294 (i := 7) rfl).1 ?_
      refine b_pI C (dk_at ec294 (i := 8) rfl) ⟨by omega, by omega⟩ tm1 ?_
      refine b_al0 C (dk_at ec294 (i := 9) rfl).1 rfl ?_
      refine b_iconst C (dk_at ec294 (i := 10) rfl).1 ?_
      refine b_pI C (dk_at ec294 (i := 11) rfl) ⟨by omega, by omega⟩ tm1 ?_
      have st : ∀ {k : Nat} {z : Int} {h : bh}, cWT cT0 g1 τ1 h → ((cseg (cSg 12) k).1 = 0 → (cseg (cSg 12) k).2.1 ≤ z ∧ z ≤ (cseg (cSg 12) k).2.2.1) → cWT cT0 g1 τ1 (bsetI h m k z) := fun hw hz => cWT.fld hw (by rw [gm1]; exact cR12) (by decide) (by omega) (by omega) hz
      have hw2 : cWT cT0 g1 τ1 (bsetI (bsetI (bsetI h1 m 35 0) m 36 0) m 37 0) := by
        refine st (st (st F1.1 (fun _ => ?_)) (fun _ => ?_)) (fun _ => ?_)
        · rw [w35]; exact ⟨by decide, by decide⟩
        · rw [w36.1]; exact ⟨by decide, by decide⟩
        · rw [w36.2.1]; exact ⟨by decide, by decide⟩
      have F2 := F1.step (E' := [(12, 35, 37)]) (by decide +kernel) hw2 F1.2.1 (cHi_upd (a := m) (l := 35) (u := 37) rfl (fun b i hb => by show (if b = m ∧ i = 37 then (0 : Int) else if b = m ∧ i = 36 then 0 else if b = m ∧ i = 35 then 0 else h1.1 b i) = h1.1 b i; rw [if_neg (by omega), if_neg (by omega), if_neg (by omega)]) (by rw [tm1]; decide +kernel))
      obtain ⟨H2, eH2⟩ : ∃ H2, H2 = bsetI (bsetI (bsetI h1 m 35 0) m 36 0) m 37 0 := ⟨_, rfl⟩
      rw [← eH2] at F2 ⊢
      have v35 : H2.1 m 35 = 0 := by rw [eH2, bsetI_ne (by omega), bsetI_ne (by omega), bsetI_at]
      have v36 : H2.1 m 36 = 0 := by rw [eH2, bsetI_ne (by omega), bsetI_at]
      have v37 : H2.1 m 37 = 0 := by rw [eH2, bsetI_at]
      have hρ2 : ∀ s, brg (cup (cup (cup ρ 0 0) 1 0) 2 0 s) := brg_cup (brg_cup (brg_cup hp.2.2.1 ⟨by omega, by omega⟩) ⟨by omega, by omega⟩) ⟨by omega, by omega⟩
      have p0 : cup (cup (cup ρ 0 0) 1 0) 2 0 0 = 0 := rfl
      have p1 : cup (cup (cup ρ 0 0) 1 0) 2 0 1 = 0 := rfl
      have p2 : cup (cup (cup ρ 0 0) 1 0) 2 0 2 = 0 := rfl
      obtain ⟨ρ2, eρ2⟩ : ∃ ρ2, ρ2 = cup (cup (cup ρ 0 0) 1 0) 2 0 := ⟨_, rfl⟩
      rw [← eρ2] at hρ2 p0 p1 p2
      refine b_al0 C (dk_at ec294 (i := 12) rfl).1 rfl ?_
      refine b_inv (As := []) (rest := []) C Bg.x (dk_at ec294 (i := 13) rfl) (by decide) rfl (eor156 g1 ρ2 σ) (by omega) rfl tm1 ⟨F2.1, F2.2.1, hρ2, ⟨⟨hρ2, fun q hq => ?_⟩, fun q hq => ?_, fun q hq => by obtain rfl := List.mem_singleton.mp hq; exact F2.crf m1, fun q hq => ?_⟩, ⟨cv_P m1, trivial⟩⟩ (Nat.le_of_ble_eq_true rfl) (Nat.le_refl _) (Nat.le_refl _) ?_
      · rcases List.mem_cons.mp hq with rfl | hq
        · show (0 : Int) ≤ ρ2 0 ∧ ρ2 0 ≤ 20
          omega
        · rcases List.mem_cons.mp hq with rfl | hq
          · show (0 : Int) ≤ ρ2 1 ∧ ρ2 1 ≤ 8
            omega
          · obtain rfl := List.mem_singleton.mp hq
            show (0 : Int) ≤ ρ2 2 ∧ ρ2 2 ≤ 40
            omega
      · obtain rfl := List.mem_singleton.mp hq
        show 0 ≤ 0 + (2 * ρ2 0 + (-1 * ρ2 2 + 0))
        omega
      · rcases List.mem_cons.mp hq with rfl | hq
        · exact go_ft (s := 0) m1 (by omega)
        · rcases List.mem_cons.mp hq with rfl | hq
          · exact go_ft (s := 1) m1 (by omega)
          · obtain rfl := List.mem_singleton.mp hq
            exact go_ft (s := 2) m1 (by omega)
      rintro v τ3 h3 ⟨g3, ρ3, σ3, hw3, hk3, hH3, -, -, hv3⟩
      have F3 := F2.step (by decide +kernel) hw3 hk3 hH3
      have tm3 := F3.2.2.2.1
      have gm3 := F3.2.2.2.2.1
      cases v with
      | none => exact (show False from hv3).elim
      | some v =>
        obtain ⟨rfl, hr⟩ := cv_int (e := (0, [(3, 1)])) rfl rfl hv3.1
        refine b_if_ne (t := 36) C (dk_at ec294 (i := 14) rfl).1 (by decide) hr (fun z26 => ?_) (fun z26 => ?_)
        · refine b_al0 C (dk_at ec294 (i := 20) rfl).1 rfl ?_
          refine b_gI C (dk_at ec294 (i := 21) rfl) tm3 (fun hk7 => ?_)
          refine b_if_eq (t := 56) C (dk_at ec294 (i := 22) rfl).1 (by decide) hk7 (fun z40 => ?_) (fun z40 => ?_)
          · obtain ⟨a, ha, ga, hta, hla⟩ := m_now F3.1 gm3
            obtain ⟨s, hs, gs, hts, hls⟩ := m_tree F3.1 gm3
            have nam : m ≠ a := fun e => by rw [e] at gm3; omega
            have nsa : s ≠ a := fun e => by rw [e] at gs; omega
            have ot := (o_arr F3.1 gm3 (by decide) cR12).1 38 (by rw [w36.2.2])
            rw [w36.2.2] at ot
            have ot1 : (0 : Int) ≤ h3.1 m 38 := ot.1
            have ot2 : h3.1 m 38 ≤ (59 : Int) := ot.2
            have F5 := F3.step (E' := [(41, 3024, 3265)]) (by decide +kernel) (sn_wt F3.1 ga gs ⟨ot1, ot2⟩) F3.2.1 (cHi_upd (a := a) (l := 3024) (u := 3265) rfl (fun b i hb => by rw [sn_val, if_neg (by omega), if_neg (by omega), if_neg (by omega)]) (by rw [hta]; decide +kernel))
            have loop : ∀ r i : Nat, i + r = 240 → bJ γ 79 [some (.ref m), some (.int (bz (i : Int)))] [] τ3 (bcp (bsetI (bsetI h3 a 3024 1) a 3025 (h3.1 m 38)) a 3026 s 0 i) 0 0 := by
              intro r
              induction r with
              | zero =>
                intro i hi
                obtain rfl : i = 240 := by omega
                refine b_iload_n C (dk_at ec294 (i := 45) rfl).1 rfl ?_
                refine b_sipush C (dk_at ec294 (i := 46) rfl).1 ⟨by omega, by omega⟩ ?_
                refine b_icmp_ge (t := 108) C (dk_at ec294 (i := 47) rfl).1 (by decide) ⟨by omega, by omega⟩ ⟨by omega, by omega⟩ (fun z83 => ?_) (fun z83 => ?_)
                · refine b_al0 C (dk_at ec294 (i := 60) rfl).1 rfl ?_
                  refine b_gI C (dk_at ec294 (i := 61) rfl) tm3 (fun ho => ?_)
                  refine b_any (fun u hu => ?_)
                  exact b_iret C Bg (dk_at ec294 (i := 62) rfl).1 (Or.inl rfl) (Nat.le_refl _) (Nat.le_refl _) (hι ▸ fr.any (m := m) rfl rfl hp.2.2.1 (F5) hu)
                · omega
              | succ r ih =>
                intro i hi
                refine b_iload_n C (dk_at ec294 (i := 45) rfl).1 rfl ?_
                refine b_sipush C (dk_at ec294 (i := 46) rfl).1 ⟨by omega, by omega⟩ ?_
                refine b_icmp_ge (t := 108) C (dk_at ec294 (i := 47) rfl).1 (by decide) ⟨by omega, by omega⟩ ⟨by omega, by omega⟩ (fun z83 => ?_) (fun z83 => ?_)
                · omega
                · refine b_al0 C (dk_at ec294 (i := 48) rfl).1 rfl ?_
                  refine b_gR C (dk_at ec294 (i := 49) rfl) tm3 ha ?_
                  refine b_sipush C (dk_at ec294 (i := 50) rfl).1 ⟨by omega, by omega⟩ ?_
                  refine b_iload_n C (dk_at ec294 (i := 51) rfl).1 rfl ?_
                  refine b_iadd C (dk_at ec294 (i := 52) rfl).1 ?_
                  refine b_al0 C (dk_at ec294 (i := 53) rfl).1 rfl ?_
                  refine b_gR C (dk_at ec294 (i := 54) rfl) tm3 hs ?_
                  refine b_iload_n C (dk_at ec294 (i := 55) rfl).1 rfl ?_
                  refine b_rd (j := 0 + i) C (dk_at ec294 (i := 56) rfl).1 hts (by omega) (by omega) (fun hv => ?_)
                  refine b_wr (j := 3026 + i) C (dk_at ec294 (i := 57) rfl).1 hta (by omega) (by omega) hv ?_
                  refine b_iinc (a := (i : Int)) C (dk_at ec294 (i := 58) rfl).1 (by rw [hn]; decide) rfl (bno2_of (fun w hw _ => by cases hw; exact (show (1 : Nat) ≠ 2 by decide))) ?_
                  refine b_goto (t := 79) C (dk_at ec294 (i := 59) rfl).1 (by decide) ?_
                  have := ih (i + 1) (by omega)
                  rw [show (((i + 1 : Nat) : Int)) = (i : Int) + 1 by omega, ← bcp_step (Or.inl nsa)] at this
                  rw [bcp_rd (Or.inl nsa)]
                  exact this
            refine b_al0 C (dk_at ec294 (i := 32) rfl).1 rfl ?_
            refine b_gR C (dk_at ec294 (i := 33) rfl) tm3 ha ?_
            refine b_sipush C (dk_at ec294 (i := 34) rfl).1 ⟨by omega, by omega⟩ ?_
            refine b_iconst C (dk_at ec294 (i := 35) rfl).1 ?_
            refine b_wr (j := 3024) C (dk_at ec294 (i := 36) rfl).1 hta (by omega) (by omega) ⟨by omega, by omega⟩ ?_
            refine b_al0 C (dk_at ec294 (i := 37) rfl).1 rfl ?_
            refine b_gR C (dk_at ec294 (i := 38) rfl) tm3 ha ?_
            refine b_sipush C (dk_at ec294 (i := 39) rfl).1 ⟨by omega, by omega⟩ ?_
            refine b_al0 C (dk_at ec294 (i := 40) rfl).1 rfl ?_
            refine b_gI C (dk_at ec294 (i := 41) rfl) tm3 (fun htop => ?_)
            rw [bsetI_no nam]
            refine b_wr (j := 3025) C (dk_at ec294 (i := 42) rfl).1 hta (by omega) (by omega) ⟨by omega, by omega⟩ ?_
            refine b_iconst C (dk_at ec294 (i := 43) rfl).1 ?_
            refine b_istore_n C (dk_at ec294 (i := 44) rfl).1 (by rw [hn]; decide) (bno2_of (fun w hw _ => by cases hw; exact (show (1 : Nat) ≠ 2 by decide))) ?_
            have := loop 240 0 rfl
            rw [bcp_0] at this
            exact this
          · refine b_al0 C (dk_at ec294 (i := 23) rfl).1 rfl ?_
            refine b_iconst C (dk_at ec294 (i := 24) rfl).1 ?_
            refine b_inv (As := [.int (bz 1)]) (rest := []) C Bg.x (dk_at ec294 (i := 25) rfl) (by decide) rfl (eor18 g3 (cup ρ 0 1) σ) (by omega) rfl tm3 ⟨F3.1, F3.2.1, brg_cup hp.2.2.1 ⟨by omega, by omega⟩, ⟨⟨brg_cup hp.2.2.1 ⟨by omega, by omega⟩, fun q hq => absurd hq List.not_mem_nil⟩, fun q hq => absurd hq List.not_mem_nil, fun q hq => by obtain rfl := List.mem_singleton.mp hq; exact F3.crf m1, fun q hq => absurd hq List.not_mem_nil⟩, ⟨cv_P m1, cv_I (e := (0, [(0, 1)])) ⟨by omega, by omega⟩ (by show 0 + (1 * cup ρ 0 1 0 + 0) = 1; rw [cup_at]; rfl), trivial⟩⟩ (Nat.le_of_ble_eq_true rfl) (Nat.le_refl _) (Nat.le_refl _) ?_
            rintro v τ4 h4 ⟨g4, ρ4, σ4, hw4, hk4, hH4, -, -, hv4⟩
            have F4 := F3.step (by decide +kernel) hw4 hk4 hH4
            have tm4 := F4.2.2.2.1
            cases v with
            | none => exact (show False from hv4).elim
            | some v =>
              obtain ⟨rfl, -⟩ := cv_int (e := (0, [(1, 1)])) rfl rfl hv4.1
              refine b_pop C (dk_at ec294 (i := 26) rfl).1 rfl ?_
              refine b_iconst C (dk_at ec294 (i := 27) rfl).1 ?_
              refine b_al0 C (dk_at ec294 (i := 28) rfl).1 rfl ?_
              refine b_gI C (dk_at ec294 (i := 29) rfl) tm4 (fun _ => ?_)
              refine b_isub C (dk_at ec294 (i := 30) rfl).1 ?_
              refine b_any (fun u hu => ?_)
              exact b_iret C Bg (dk_at ec294 (i := 31) rfl).1 (Or.inl rfl) (Nat.le_refl _) (Nat.le_refl _) (hι ▸ fr.any (m := m) rfl rfl hp.2.2.1 (F4) hu)
        · refine b_iconst C (dk_at ec294 (i := 15) rfl).1 ?_
          refine b_al0 C (dk_at ec294 (i := 16) rfl).1 rfl ?_
          refine b_gI C (dk_at ec294 (i := 17) rfl) tm3 (fun _ => ?_)
          refine b_isub C (dk_at ec294 (i := 18) rfl).1 ?_
          refine b_any (fun u hu => ?_)
          exact b_iret C Bg (dk_at ec294 (i := 19) rfl).1 (Or.inl rfl) (Nat.le_refl _) (Nat.le_refl _) (hι ▸ fr.any (m := m) rfl rfl hp.2.2.1 (F3) hu)
