/-! ===== startRead by hand ===== -/
theorem b_wz {γ : bG} {y : bY} {d b1 b2 pc : Nat} {lo : List (Option Value)} {st : List Value} {τ : bt} {h : bh} {nc ns : Nat} {a j : Nat} {z x : Int} (C : bC γ y d b1 b2) (hd : decode y.2.1 pc = .ok (.bastore, 1)) (ht : τ.1 a = 43) (hz : z = (j : Int)) (hj : j < τ.2 a) (hx : x = 0 ∨ x = 1) (kk : bJ γ (pc + 1) lo st τ (bsetI h a j x) nc ns) : bJ γ pc lo (.int (bz x) :: .int (bz z) :: .ref a :: st) τ h nc ns := by
  subst hz
  exact b_zast C hd (Or.inr ht) (by omega) (by omega) hx kk
theorem sr_fun : bOk ey191 2 1 0 0 (fun _ avs τ h => ∃ m r o, avs = [.ref m] ∧ τ.1 m = 12 ∧ h.2 m 15 = some r ∧ τ.1 r = 41 ∧ τ.2 r = 28 ∧ h.2 m 24 = some o ∧ τ.1 o = 43 ∧ τ.2 o = 7) (fun _ avs τ h v τ' h' => ∃ m r o, avs = [.ref m] ∧ h.2 m 15 = some r ∧ h.2 m 24 = some o ∧ v = none ∧ τ' = τ ∧ h' = (bsetI (bsetI (bsetI (bsetI (bsetI (bsetI (bsetI (bfl (bfl h r 0 0 28) o 0 0 7) r 0 8) r 1 1) r 2 2) r 3 12) r 4 3) r 5 1) r 6 (-1))) := by
  refine bOk_of emp191.1.2.2.2.2.2.1 ?_ ?_
  · rintro ι avs τ h ⟨m, r, o, rfl, -⟩
    exact Nat.le_of_ble_eq_true rfl
  · intro γ ι τ h avs d hd hp Bg C
    obtain ⟨m, r, o, rfl, hm, hr, htr, hlr, ho, hto, hlo⟩ := hp
    have hn : γ.2.2.1 = 2 := Bg.2.1
    have loop2 : ∀ n k : Nat, k + n = 7 → bJ γ 23 [some (.ref m), some (.int (bz (k : Int)))] [] τ (bfl (bfl h r 0 0 28) o 0 0 k) 0 0 := by
      intro n
      induction n with
      | zero =>
        intro k hk
        refine b_iload_n C (dk_at ec191 (i := 14) rfl).1 rfl ?_
        refine b_bipush C (dk_at ec191 (i := 15) rfl).1 ⟨by omega, by omega⟩ ?_
        refine b_icmp_ge (t := 42) C (dk_at ec191 (i := 16) rfl).1 (by decide) ⟨by omega, by omega⟩ ⟨by omega, by omega⟩ (fun z => ?_) (fun z => ?_)
        · have ek : k = 7 := by omega
          subst ek
          refine b_al0 C (dk_at ec191 (i := 24) rfl).1 rfl ?_
          refine b_gR C (dk_at ec191 (i := 25) rfl) hm hr ?_
          refine b_iconst C (dk_at ec191 (i := 26) rfl).1 ?_
          refine b_bipush C (dk_at ec191 (i := 27) rfl).1 ⟨by omega, by omega⟩ ?_
          refine b_wr (j := 0) C (dk_at ec191 (i := 28) rfl).1 htr (by omega) (by omega) ⟨by omega, by omega⟩ ?_
          refine b_al0 C (dk_at ec191 (i := 29) rfl).1 rfl ?_
          refine b_gR C (dk_at ec191 (i := 30) rfl) hm hr ?_
          refine b_iconst C (dk_at ec191 (i := 31) rfl).1 ?_
          refine b_iconst C (dk_at ec191 (i := 32) rfl).1 ?_
          refine b_wr (j := 1) C (dk_at ec191 (i := 33) rfl).1 htr (by omega) (by omega) ⟨by omega, by omega⟩ ?_
          refine b_al0 C (dk_at ec191 (i := 34) rfl).1 rfl ?_
          refine b_gR C (dk_at ec191 (i := 35) rfl) hm hr ?_
          refine b_iconst C (dk_at ec191 (i := 36) rfl).1 ?_
          refine b_iconst C (dk_at ec191 (i := 37) rfl).1 ?_
          refine b_wr (j := 2) C (dk_at ec191 (i := 38) rfl).1 htr (by omega) (by omega) ⟨by omega, by omega⟩ ?_
          refine b_al0 C (dk_at ec191 (i := 39) rfl).1 rfl ?_
          refine b_gR C (dk_at ec191 (i := 40) rfl) hm hr ?_
          refine b_iconst C (dk_at ec191 (i := 41) rfl).1 ?_
          refine b_bipush C (dk_at ec191 (i := 42) rfl).1 ⟨by omega, by omega⟩ ?_
          refine b_wr (j := 3) C (dk_at ec191 (i := 43) rfl).1 htr (by omega) (by omega) ⟨by omega, by omega⟩ ?_
          refine b_al0 C (dk_at ec191 (i := 44) rfl).1 rfl ?_
          refine b_gR C (dk_at ec191 (i := 45) rfl) hm hr ?_
          refine b_iconst C (dk_at ec191 (i := 46) rfl).1 ?_
          refine b_iconst C (dk_at ec191 (i := 47) rfl).1 ?_
          refine b_wr (j := 4) C (dk_at ec191 (i := 48) rfl).1 htr (by omega) (by omega) ⟨by omega, by omega⟩ ?_
          refine b_al0 C (dk_at ec191 (i := 49) rfl).1 rfl ?_
          refine b_gR C (dk_at ec191 (i := 50) rfl) hm hr ?_
          refine b_iconst C (dk_at ec191 (i := 51) rfl).1 ?_
          refine b_iconst C (dk_at ec191 (i := 52) rfl).1 ?_
          refine b_wr (j := 5) C (dk_at ec191 (i := 53) rfl).1 htr (by omega) (by omega) ⟨by omega, by omega⟩ ?_
          refine b_al0 C (dk_at ec191 (i := 54) rfl).1 rfl ?_
          refine b_gR C (dk_at ec191 (i := 55) rfl) hm hr ?_
          refine b_bipush C (dk_at ec191 (i := 56) rfl).1 ⟨by omega, by omega⟩ ?_
          refine b_iconst C (dk_at ec191 (i := 57) rfl).1 ?_
          refine b_wr (j := 6) C (dk_at ec191 (i := 58) rfl).1 htr (by omega) (by omega) ⟨by omega, by omega⟩ ?_
          exact b_vret C Bg (dk_at ec191 (i := 59) rfl).1 rfl (Nat.le_refl _) (Nat.le_refl _) ⟨m, r, o, rfl, hr, ho, rfl, rfl, rfl⟩
        · omega
      | succ n ih =>
        intro k hk
        refine b_iload_n C (dk_at ec191 (i := 14) rfl).1 rfl ?_
        refine b_bipush C (dk_at ec191 (i := 15) rfl).1 ⟨by omega, by omega⟩ ?_
        refine b_icmp_ge (t := 42) C (dk_at ec191 (i := 16) rfl).1 (by decide) ⟨by omega, by omega⟩ ⟨by omega, by omega⟩ (fun z => ?_) (fun z => ?_)
        · omega
        refine b_al0 C (dk_at ec191 (i := 17) rfl).1 rfl ?_
        refine b_gR C (dk_at ec191 (i := 18) rfl) hm ho ?_
        refine b_iload_n C (dk_at ec191 (i := 19) rfl).1 rfl ?_
        refine b_iconst C (dk_at ec191 (i := 20) rfl).1 ?_
        refine b_wz (j := k) C (dk_at ec191 (i := 21) rfl).1 hto (by omega) (by omega) (Or.inl rfl) ?_
        refine b_iinc (a := (k : Int)) C (dk_at ec191 (i := 22) rfl).1 (by rw [hn]; decide) rfl (bno2_of (fun w hw _ => by cases hw; exact (show (1 : Nat) ≠ 2 by decide))) ?_
        refine b_goto (t := 23) C (dk_at ec191 (i := 23) rfl).1 (by decide) ?_
        have := ih (k + 1) (by omega)
        rw [show (((k + 1 : Nat) : Int)) = (k : Int) + 1 by omega, ← bfl_step, Nat.zero_add] at this
        exact this
    have loop1 : ∀ n k : Nat, k + n = 28 → bJ γ 2 [some (.ref m), some (.int (bz (k : Int)))] [] τ (bfl h r 0 0 k) 0 0 := by
      intro n
      induction n with
      | zero =>
        intro k hk
        refine b_iload_n C (dk_at ec191 (i := 2) rfl).1 rfl ?_
        refine b_bipush C (dk_at ec191 (i := 3) rfl).1 ⟨by omega, by omega⟩ ?_
        refine b_icmp_ge (t := 21) C (dk_at ec191 (i := 4) rfl).1 (by decide) ⟨by omega, by omega⟩ ⟨by omega, by omega⟩ (fun z => ?_) (fun z => ?_)
        · have ek : k = 28 := by omega
          subst ek
          refine b_iconst C (dk_at ec191 (i := 12) rfl).1 ?_
          refine b_istore_n C (dk_at ec191 (i := 13) rfl).1 (by rw [hn]; decide) (bno2_of (fun w hw _ => by cases hw; exact (show (1 : Nat) ≠ 2 by decide))) ?_
          have := loop2 7 0 rfl
          rw [bfl_0] at this
          exact this
        · omega
      | succ n ih =>
        intro k hk
        refine b_iload_n C (dk_at ec191 (i := 2) rfl).1 rfl ?_
        refine b_bipush C (dk_at ec191 (i := 3) rfl).1 ⟨by omega, by omega⟩ ?_
        refine b_icmp_ge (t := 21) C (dk_at ec191 (i := 4) rfl).1 (by decide) ⟨by omega, by omega⟩ ⟨by omega, by omega⟩ (fun z => ?_) (fun z => ?_)
        · omega
        refine b_al0 C (dk_at ec191 (i := 5) rfl).1 rfl ?_
        refine b_gR C (dk_at ec191 (i := 6) rfl) hm hr ?_
        refine b_iload_n C (dk_at ec191 (i := 7) rfl).1 rfl ?_
        refine b_iconst C (dk_at ec191 (i := 8) rfl).1 ?_
        refine b_wr (j := k) C (dk_at ec191 (i := 9) rfl).1 htr (by omega) (by omega) ⟨by omega, by omega⟩ ?_
        refine b_iinc (a := (k : Int)) C (dk_at ec191 (i := 10) rfl).1 (by rw [hn]; decide) rfl (bno2_of (fun w hw _ => by cases hw; exact (show (1 : Nat) ≠ 2 by decide))) ?_
        refine b_goto (t := 2) C (dk_at ec191 (i := 11) rfl).1 (by decide) ?_
        have := ih (k + 1) (by omega)
        rw [show (((k + 1 : Nat) : Int)) = (k : Int) + 1 by omega, ← bfl_step, Nat.zero_add] at this
        exact this
    refine b_iconst C (dk_at ec191 (i := 0) rfl).1 ?_
    refine b_istore_n C (dk_at ec191 (i := 1) rfl).1 (by rw [hn]; decide) (bno2_of (fun w hw _ => by cases hw; exact (show (1 : Nat) ≠ 2 by decide))) ?_
    have := loop1 28 0 rfl
    rw [bfl_0] at this
    exact this
theorem sr_words : ∀ i : Nat, i < 28 → (cseg (cSg 62) i).1 = 0 → (cseg (cSg 62) i).2.1 ≤ (if i = 6 then (-1) else if i = 5 then 1 else if i = 4 then 3 else if i = 3 then 12 else if i = 2 then 2 else if i = 1 then 1 else if i = 0 then 8 else (0 : Int)) ∧ (if i = 6 then (-1) else if i = 5 then 1 else if i = 4 then 3 else if i = 3 then 12 else if i = 2 then 2 else if i = 1 then 1 else if i = 0 then 8 else (0 : Int)) ≤ (cseg (cSg 62) i).2.2.1 := by decide +kernel
theorem sr_wt {g : Nat → Nat} {τ : bt} {h : bh} (hw : cWT cT0 g τ h) {r o : Nat} (gr : g r = 62) (go : g o = 69) : cWT cT0 g τ (bsetI (bsetI (bsetI (bsetI (bsetI (bsetI (bsetI (bfl (bfl h r 0 0 28) o 0 0 7) r 0 8) r 1 1) r 2 2) r 3 12) r 4 3) r 5 1) r 6 (-1)) := by
  have hne : o ≠ r := fun e => by rw [e, gr] at go; cases go
  have w1 : cWT cT0 g τ (bfl h o 0 0 7) := by
    refine cWT.upd hw (a := o) (R := (43, 7, 7, cSg 69)) (by rw [go]; rfl) (by omega) (by omega) (by omega) rfl (fun b hb i => if_neg (by omega)) (fun i hi => ?_) (fun _ q hq q3 => ?_)
    · show _ ≤ (if o = o ∧ 0 ≤ i ∧ i < 0 + 7 then (0 : Int) else h.1 o i) ∧ (if o = o ∧ 0 ≤ i ∧ i < 0 + 7 then (0 : Int) else h.1 o i) ≤ _
      by_cases e : i < 7
      · rw [if_pos ⟨rfl, by omega, by omega⟩]
        exact cwz_ok (z := 0) (l := 0) 7 (by decide +kernel) i (by omega) (by omega) hi
      · rw [if_neg (by omega)]
        exact (o_arr hw go (by decide) (show cfR cT0 69 = some (43, 7, 7, cSg 69) by rfl)).1 i hi
    · have : ∀ q ∈ cSg 69, q.2.1 = 0 := by decide +kernel
      have := this q hq
      omega
  refine cWT.upd w1 (a := r) (by rw [gr]; exact cR62) (by omega) (by omega) (by omega) rfl (fun b hb i => ?_) (fun i hi => ?_) (fun _ q hq q3 => ?_)
  · show (if b = r ∧ i = 6 then (-1 : Int) else if b = r ∧ i = 5 then (1 : Int) else if b = r ∧ i = 4 then (3 : Int) else if b = r ∧ i = 3 then (12 : Int) else if b = r ∧ i = 2 then (2 : Int) else if b = r ∧ i = 1 then (1 : Int) else if b = r ∧ i = 0 then (8 : Int) else if b = o ∧ 0 ≤ i ∧ i < 0 + 7 then (0 : Int) else if b = r ∧ 0 ≤ i ∧ i < 0 + 28 then (0 : Int) else h.1 b i) = if b = o ∧ 0 ≤ i ∧ i < 0 + 7 then (0 : Int) else h.1 b i
    rw [if_neg (fun e => hb e.1), if_neg (fun e => hb e.1), if_neg (fun e => hb e.1), if_neg (fun e => hb e.1), if_neg (fun e => hb e.1), if_neg (fun e => hb e.1), if_neg (fun e => hb e.1), if_neg (fun e : b = r ∧ 0 ≤ i ∧ i < 0 + 28 => hb e.1)]
  · by_cases e : i < 28
    · have w := sr_words i e hi
      have ev : (bsetI (bsetI (bsetI (bsetI (bsetI (bsetI (bsetI (bfl (bfl h r 0 0 28) o 0 0 7) r 0 8) r 1 1) r 2 2) r 3 12) r 4 3) r 5 1) r 6 (-1)).1 r i = (if i = 6 then (-1) else if i = 5 then 1 else if i = 4 then 3 else if i = 3 then 12 else if i = 2 then 2 else if i = 1 then 1 else if i = 0 then 8 else (0 : Int)) := by
        show (if r = r ∧ i = 6 then (-1 : Int) else if r = r ∧ i = 5 then (1 : Int) else if r = r ∧ i = 4 then (3 : Int) else if r = r ∧ i = 3 then (12 : Int) else if r = r ∧ i = 2 then (2 : Int) else if r = r ∧ i = 1 then (1 : Int) else if r = r ∧ i = 0 then (8 : Int) else if r = o ∧ 0 ≤ i ∧ i < 0 + 7 then (0 : Int) else if r = r ∧ 0 ≤ i ∧ i < 0 + 28 then (0 : Int) else h.1 r i) = _
        simp only [true_and]
        rw [if_neg (fun e : r = o ∧ 0 ≤ i ∧ i < 0 + 7 => hne e.1.symm), if_pos (show 0 ≤ i ∧ i < 0 + 28 by omega)]
      rw [ev]
      exact w
    · have : (cseg (cSg 62) i).1 = 2 := by
        rcases cseg_mem (cSg 62) i with z | ⟨q, hq, he⟩
        · exact z
        · have hu : ∀ q ∈ cSg 62, q.1 ≤ 28 := by decide +kernel
          exfalso
          have key : ∀ (l : List (Nat × cS)), (∀ q ∈ l, q.1 ≤ 28) → cseg l i = (2, 0, 0, 0, false) := by
            intro l
            induction l with
            | nil => intro _; rfl
            | cons p l ih =>
              intro hl
              show cond (Nat.blt i p.1) p.2 (cseg l i) = _
              have := hl p List.mem_cons_self
              rw [show Nat.blt i p.1 = false by cases hh : Nat.blt i p.1 with | false => rfl | true => have := Nat.blt_eq.mp hh; omega]
              exact ih (fun q hq => hl q (List.mem_cons_of_mem _ hq))
          have hi : (cseg (cSg 62) i).1 = 0 := hi
          rw [key (cSg 62) hu] at hi
          cases hi
      have hi : (cseg (cSg 62) i).1 = 0 := hi
      omega
  · have : ∀ q ∈ cSg 62, q.2.1 ≠ 3 := by decide +kernel
    exact absurd q3 (this q hq)
theorem eox2 : cOk cT0 ey191 2 2 0 0 enx2 := by
  refine (cOk_of sr_fun ?_ ?_).mono (by decide)
  · intro ι avs τ h g ρ σ hp
    obtain ⟨m, xs, rfl, -, m2, m3, hx⟩ := m_this hp rfl rfl
    cases xs with
    | cons => exact hx.elim
    | nil =>
      obtain ⟨r, r1, r2, -, r4, r5, r6⟩ := m_arr hp.1 (k := 15) (r := 62) m3 (by decide) rfl cR62
      obtain ⟨o, o1, o2, -, o4, o5, o6⟩ := m_arr hp.1 (k := 24) (r := 69) m3 (by decide) rfl (show cfR cT0 69 = some (43, 7, 7, cSg 69) by rfl)
      have r5 : (28 : Int) ≤ τ.2 r := r5
      have r6 : (τ.2 r : Int) ≤ 28 := r6
      have o5 : (7 : Int) ≤ τ.2 o := o5
      have o6 : (τ.2 o : Int) ≤ 7 := o6
      exact ⟨m, r, o, rfl, m2, r1, r4, by omega, o1, o4, by omega⟩
  · rintro ι avs τ h g ρ σ v τ' h' hp ⟨m, r, o, rfl, hr, ho, rfl, rfl, rfl⟩
    obtain ⟨m', xs, e, -, -, m3, -⟩ := m_this hp rfl rfl
    cases e
    obtain ⟨r', r1, r2, -, r4, -⟩ := m_arr hp.1 (k := 15) (r := 62) m3 (by decide) rfl cR62
    obtain ⟨o', o1, o2, -, o4, -⟩ := m_arr hp.1 (k := 24) (r := 69) m3 (by decide) rfl (show cfR cT0 69 = some (43, 7, 7, cSg 69) by rfl)
    rw [hr] at r1
    cases r1
    rw [ho] at o1
    cases o1
    refine cPst_void hp rfl (sr_wt hp.1 r2 o2) (fun b _ => ⟨rfl, rfl, Or.inl rfl, fun i hi => ⟨?_, rfl⟩⟩)
    have nr : ¬ (b = r ∧ i < 28) := by
      rintro ⟨rfl, h1⟩
      rw [show τ'.1 b = 41 from r4] at hi
      rw [show cef enx2.2.2 41 i = true from cefR_ok (l := 0) (u := 27) (by rfl) (by omega) (by omega)] at hi
      cases hi
    have no : ¬ (b = o ∧ i < 7) := by
      rintro ⟨rfl, h1⟩
      rw [show τ'.1 b = 43 from o4] at hi
      rw [show cef enx2.2.2 43 i = true from cefR_ok (l := 0) (u := 6) (by rfl) (by omega) (by omega)] at hi
      cases hi
    show (if b = r ∧ i = 6 then (-1 : Int) else if b = r ∧ i = 5 then (1 : Int) else if b = r ∧ i = 4 then (3 : Int) else if b = r ∧ i = 3 then (12 : Int) else if b = r ∧ i = 2 then (2 : Int) else if b = r ∧ i = 1 then (1 : Int) else if b = r ∧ i = 0 then (8 : Int) else if b = o ∧ 0 ≤ i ∧ i < 0 + 7 then (0 : Int) else if b = r ∧ 0 ≤ i ∧ i < 0 + 28 then (0 : Int) else h.1 b i) = _
    rw [if_neg (fun e => nr ⟨e.1, by omega⟩), if_neg (fun e => nr ⟨e.1, by omega⟩), if_neg (fun e => nr ⟨e.1, by omega⟩), if_neg (fun e => nr ⟨e.1, by omega⟩), if_neg (fun e => nr ⟨e.1, by omega⟩), if_neg (fun e => nr ⟨e.1, by omega⟩), if_neg (fun e => nr ⟨e.1, by omega⟩), if_neg (fun e : b = o ∧ 0 ≤ i ∧ i < 0 + 7 => no ⟨e.1, by omega⟩), if_neg (fun e : b = r ∧ 0 ≤ i ∧ i < 0 + 28 => nr ⟨e.1, by omega⟩)]
