/-! ===== Word.of by hand ===== -/
theorem dw_0 : decode ey106.2.1 0 = .ok (.iconst 0, 1) := by decide +kernel
theorem dw_1 : decode ey106.2.1 1 = .ok (.istore_n 2, 1) := by decide +kernel
theorem dw_2 : decode ey106.2.1 2 = .ok (.iload_n 2, 1) := by decide +kernel
theorem dw_3 : decode ey106.2.1 3 = .ok (.getstatic 155, 3) := by decide +kernel
theorem dw_6 : decode ey106.2.1 6 = .ok (.arraylength, 1) := by decide +kernel
theorem dw_7 : decode ey106.2.1 7 = .ok (.if_icmp .ge 28, 3) := by decide +kernel
theorem dw_10 : decode ey106.2.1 10 = .ok (.getstatic 155, 3) := by decide +kernel
theorem dw_13 : decode ey106.2.1 13 = .ok (.iload_n 2, 1) := by decide +kernel
theorem dw_14 : decode ey106.2.1 14 = .ok (.aaload, 1) := by decide +kernel
theorem dw_15 : decode ey106.2.1 15 = .ok (.getfield 151, 3) := by decide +kernel
theorem dw_18 : decode ey106.2.1 18 = .ok (.lload_n 0, 1) := by decide +kernel
theorem dw_19 : decode ey106.2.1 19 = .ok (.lcmp, 1) := by decide +kernel
theorem dw_20 : decode ey106.2.1 20 = .ok (.ifCond .ne 9, 3) := by decide +kernel
theorem dw_23 : decode ey106.2.1 23 = .ok (.getstatic 155, 3) := by decide +kernel
theorem dw_26 : decode ey106.2.1 26 = .ok (.iload_n 2, 1) := by decide +kernel
theorem dw_27 : decode ey106.2.1 27 = .ok (.aaload, 1) := by decide +kernel
theorem dw_28 : decode ey106.2.1 28 = .ok (.areturn, 1) := by decide +kernel
theorem dw_29 : decode ey106.2.1 29 = .ok (.iinc 2 1, 3) := by decide +kernel
theorem dw_32 : decode ey106.2.1 32 = .ok (.goto (-30), 3) := by decide +kernel
theorem dw_35 : decode ey106.2.1 35 = .ok (.getstatic 3, 3) := by decide +kernel
theorem dw_38 : decode ey106.2.1 38 = .ok (.areturn, 1) := by decide +kernel
theorem dw_all : Cond.fieldLink "SpanCopier$Word" 155 "SpanCopier$Word" "ALL" "[LSpanCopier$Word;" ∈ bW := dk_isw_mem (n := 2227) (by decide +kernel)
theorem dw_code : Cond.fieldLink "SpanCopier$Word" 151 "SpanCopier$Word" "code" "J" ∈ bW := dk_isw_mem (n := 8220) (by decide +kernel)
theorem dw_other : Cond.fieldLink "SpanCopier$Word" 3 (bst 0).1 (bst 0).2.1 (bst 0).2.2 ∈ bW := dk_isw_mem (n := 2229) (by decide +kernel)
theorem bno2_of {lo : List (Option Value)} {i : Nat} (h : ∀ w, lo[i - 1]? = some (some w) → i ≠ 0 → w.category ≠ 2) : bno2 lo i := by
  intro j w hj hc e
  subst e
  exact h w (by simpa using hj) (by omega) hc
theorem w_of : bOk ey106 3 1 0 0 (fun _ avs _ _ => ∃ x : Int64, avs = [.long x]) (fun ι _ τ h v τ' h' => (∃ i, i < 38 ∧ v = some (va_rf (some (ι.2.2.2 i)))) ∧ τ' = τ ∧ h' = h) := by
  refine bOk_of (by decide +kernel) ?_ ?_
  · rintro ι avs τ h ⟨x, rfl⟩
    exact Nat.le_of_ble_eq_true rfl
  · intro γ ι τ h avs d hd hp Bg C
    obtain ⟨x, rfl⟩ := hp
    have X := Bg.x
    have hn : γ.2.2.1 = 3 := Bg.2.1
    have eι : γ.1 = ι := Bg.1
    have hty : ey106.2.2 = some (.object "SpanCopier$Word") := rfl
    have loop : ∀ n k : Nat, k + n = 38 → bJ γ 2 [some (.long x), none, some (.int (bz (k : Int)))] [] τ h 0 0 := by
      intro n
      induction n with
      | zero =>
        intro k hk
        refine b_iload_n C dw_2 rfl ?_
        refine b_getsA C X dw_all dw_3 ?_
        refine b_tlenA C X dw_6 ?_
        refine b_icmp_ge (t := 35) C dw_7 (by decide) ⟨by omega, by omega⟩ ⟨by omega, by omega⟩ (fun _ => ?_) (fun z => absurd (show (38 : Int) ≤ (k : Int) by omega) z)
        refine b_gets (j := 0) C (Or.inl (by omega)) (Or.inl dw_other) dw_35 ?_
        exact b_aret C Bg dw_38 hty (Or.inl ⟨_, rfl⟩) (Nat.le_refl _) (Nat.le_refl _) ⟨⟨0, by omega, by rw [eι]⟩, rfl, rfl⟩
      | succ n ih =>
        intro k hk
        refine b_iload_n C dw_2 rfl ?_
        refine b_getsA C X dw_all dw_3 ?_
        refine b_tlenA C X dw_6 ?_
        refine b_icmp_ge (t := 35) C dw_7 (by decide) ⟨by omega, by omega⟩ ⟨by omega, by omega⟩ (fun z => absurd z (by omega)) (fun _ => ?_)
        refine b_getsA C X dw_all dw_10 ?_
        refine b_iload_n C dw_13 rfl ?_
        refine b_aaldA C X (show k < 38 by omega) dw_14 ?_
        refine b_getcode C X (show k < 38 by omega) dw_code dw_15 (fun w => ?_)
        refine b_lload_n C dw_18 rfl ?_
        refine b_lcmp C dw_19 (fun u hu => ?_)
        refine b_if_ne (t := 29) C dw_20 (by decide) hu (fun _ => ?_) (fun _ => ?_)
        · refine b_iinc (a := (k : Int)) C dw_29 (by omega) rfl (bno2_of (fun w hw _ => by cases hw)) ?_
          refine b_goto (t := 2) C dw_32 (by decide) ?_
          have := ih (k + 1) (by omega)
          rw [show (((k + 1 : Nat) : Int)) = (k : Int) + 1 by omega] at this
          exact this
        · refine b_getsA C X dw_all dw_23 ?_
          refine b_iload_n C dw_26 rfl ?_
          refine b_aaldA C X (show k < 38 by omega) dw_27 ?_
          exact b_aret (o := some (γ.1.2.2.2 k)) C Bg dw_28 hty (Or.inl ⟨_, rfl⟩) (Nat.le_refl _) (Nat.le_refl _) ⟨⟨k, by omega, by rw [eι]⟩, rfl, rfl⟩
    refine b_iconst C dw_0 ?_
    refine b_istore_n C dw_1 (by rw [hn]; decide) (bno2_of (fun w hw _ => by cases hw)) ?_
    exact loop 38 0 rfl
/-- a contract as data out of one by hand -/
theorem cOk_of {T : cTb} {y : bY} {nL d0 b1 b2 : Nat} {c : cCn} {Pre : bI → List Value → bt → bh → Prop} {Post : bPost} (K : bOk y nL d0 b1 b2 Pre Post) (h1 : ∀ ι avs τ h g ρ σ, cPr T c ι avs τ h g ρ σ → Pre ι avs τ h) (h2 : ∀ ι avs τ h g ρ σ v τ' h', cPr T c ι avs τ h g ρ σ → Post ι avs τ h v τ' h' → cPst T c g ρ σ ι avs τ h v τ' h') : cOk T y nL d0 b1 b2 c := by
  intro g ρ σ l hl d hd ι τ h avs hp
  refine Jvm.Free.MetFree.mono (K l hl d hd ι τ h avs (h1 _ _ _ _ _ _ _ hp)) (fun _ _ h => h) (fun _ _ _ _ _ h => h) (fun a s0 oc t _ hq => ⟨?_, hq.2⟩)
  obtain ⟨⟨⟨v, τ', h', e1, e2, e3⟩, e4⟩, -⟩ := hq
  exact ⟨⟨v, τ', h', e1, h2 _ _ _ _ _ _ _ _ _ _ hp e2, e3⟩, e4⟩
theorem cHi.rfl {E : cEf} {g : Nat → Nat} {τ : bt} {h : bh} : cHi E g τ h g τ h := fun a _ => ⟨Eq.refl _, Eq.refl _, Or.inl (Eq.refl _), fun i _ => ⟨Eq.refl _, Eq.refl _⟩⟩
theorem eow0 : cOk cT0 ey106 3 1 0 0 enw0 := by
  refine cOk_of w_of ?_ ?_
  · intro ι avs τ h g ρ σ hp
    obtain ⟨-, -, -, -, h5⟩ := hp
    obtain ⟨v, r, rfl, hv, hr⟩ := c2.cons h5
    cases r with
    | cons => exact hr.elim
    | nil =>
      rcases hv with ⟨e, -⟩ | ⟨e, -⟩ | ⟨e, -⟩ | ⟨-, w, rfl⟩
      · cases e
      · cases e
      · cases e
      · exact ⟨w, rfl⟩
  · rintro ι avs τ h g ρ σ v τ' h' ⟨h1, h2, h3, h4, h5⟩ ⟨⟨i, hi, rfl⟩, rfl, rfl⟩
    have gi := h2.1 i (Or.inl hi)
    have gi : g (ι.2.2.2 i) = 30 := by rw [gi]; unfold crk; rw [if_pos hi]
    obtain ⟨R, r1, r2, r3, r4, -⟩ := h1 (ι.2.2.2 i) (by rw [gi]; decide)
    have hR : R = (30, 0, 0, []) := by
      rw [gi] at r1
      have : cfR cT0 30 = some (30, 0, 0, []) := by rfl
      rw [this] at r1
      exact (Option.some.inj r1).symm
    subst hR
    refine ⟨g, ρ, fun _ => some (ι.2.2.2 i), h1, h2, cHi.rfl, ⟨h3, fun _ _ => rfl, fun s hs => absurd hs (Nat.not_lt_zero s)⟩, ⟨⟨h3, fun q hq => absurd hq (by exact List.not_mem_nil)⟩, fun q hq => absurd hq (by exact List.not_mem_nil), fun q hq => ?_, fun q hq => absurd hq (by exact List.not_mem_nil)⟩, ⟨Or.inr (Or.inl ⟨rfl, rfl⟩), trivial⟩⟩
    obtain rfl := List.mem_singleton.mp (show q ∈ [((0 : Nat), (30 : Nat), (30 : Nat), false, ((0 : Int), ([] : List (Nat × Int))))] from hq)
    refine Or.inr ⟨ι.2.2.2 i, rfl, r2, by decide, gi, ?_⟩
    have l1 : (0 : Int) ≤ τ'.2 (ι.2.2.2 i) := r4.1
    have l2 : (τ'.2 (ι.2.2.2 i) : Int) ≤ 0 := r4.2
    show ((τ'.2 (ι.2.2.2 i) : Nat) : Int) = 0 + cev ρ []
    rw [cev_nil]
    omega
