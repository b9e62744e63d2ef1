/-! ===== the reference's rows of numbers: their roles ===== -/
noncomputable def cSg (r : Nat) : List (Nat × cS) := @Option.rec cR (fun _ => List (Nat × cS)) [] (fun R => R.2.2.2) (cfR cT0 r)
theorem cR61 : cfR cT0 61 = some (41, 3266, 3266, cSg 61) := by rfl
theorem cR65 : cfR cT0 65 = some (41, 2996, 2996, cSg 65) := by rfl
theorem cR64 : cfR cT0 64 = some (41, 23968, 23968, cSg 64) := by rfl
theorem cR62 : cfR cT0 62 = some (41, 28, 28, cSg 62) := by rfl
theorem cR70 : cfR cT0 70 = some (41, 38, 38, cSg 70) := by rfl
theorem cR74 : cfR cT0 74 = some (41, 240, 240, cSg 74) := by rfl
theorem cR63 : cfR cT0 63 = some (41, 6532, 6532, cSg 63) := by rfl
section MNOW
variable {g : Nat → Nat} {τ : bt} {h : bh}
theorem m_now (hw : cWT cT0 g τ h) {m : Nat} (gm : g m = 12) : ∃ a, h.2 m 14 = some a ∧ g a = 61 ∧ τ.1 a = 41 ∧ τ.2 a = 3266 := by
  obtain ⟨a, a1, a2, -, a4, a5, a6⟩ := m_arr hw (k := 14) (r := 61) gm (by decide) rfl cR61
  have a5 : (3266 : Int) ≤ τ.2 a := a5
  have a6 : (τ.2 a : Int) ≤ 3266 := a6
  exact ⟨a, a1, a2, a4, by omega⟩
/-- what is so of an array with a role -/
theorem o_arr (hw : cWT cT0 g τ h) {a r n : Nat} {n1 n2 : Int} {S : List (Nat × cS)} (ga : g a = r) (h0 : r ≠ 0) (hR : cfR cT0 r = some (n, n1, n2, S)) : (∀ i, (cseg S i).1 = 0 → (cseg S i).2.1 ≤ h.1 a i ∧ h.1 a i ≤ (cseg S i).2.2.1) ∧ (41 ≤ n → ∀ q ∈ S, q.2.1 = 3 → creg q.2.2.1 q.2.2.2.1.toNat (h.1 a)) := by
  obtain ⟨R, r1, -, -, -, r5, r6, -⟩ := hw a (by rw [ga]; exact h0)
  rw [ga, hR] at r1
  cases r1
  exact ⟨fun i => (r5 i).1, r6⟩
theorem g61 : ∀ q ∈ cSg 61, q.2.1 = 3 → (q.2.2.1 = 5 ∧ q.2.2.2.1.toNat = 1504) ∨ (q.2.2.1 = 2 ∧ q.2.2.2.1.toNat = 3026) := by decide +kernel
theorem g61a : (3024, (3, 5, 1504, 0, false)) ∈ cSg 61 ∧ (3266, (3, 2, 3026, 0, false)) ∈ cSg 61 := by decide +kernel
theorem o_now (hw : cWT cT0 g τ h) {a : Nat} (ga : g a = 61) : (∀ i, (cseg (cSg 61) i).1 = 0 → (cseg (cSg 61) i).2.1 ≤ h.1 a i ∧ h.1 a i ≤ (cseg (cSg 61) i).2.2.1) ∧ creg 5 1504 (h.1 a) ∧ creg 2 3026 (h.1 a) := by
  obtain ⟨h1, h2⟩ := o_arr hw ga (by decide) cR61
  exact ⟨h1, h2 (by decide) _ g61a.1 rfl, h2 (by decide) _ g61a.2 rfl⟩
theorem w_now {h' : bh} (hw : cWT cT0 g τ h) {a l u : Nat} (ga : g a = 61) (h2 : h'.2 = h.2) (ho : ∀ b i, (b ≠ a ∨ i < l ∨ u < i) → h'.1 b i = h.1 b i) (hs : ∀ i, l ≤ i → i ≤ u → (cseg (cSg 61) i).1 = 0 → (cseg (cSg 61) i).2.1 ≤ h'.1 a i ∧ h'.1 a i ≤ (cseg (cSg 61) i).2.2.1) (h5 : creg 5 1504 (h'.1 a)) (h6 : creg 2 3026 (h'.1 a)) : cWT cT0 g τ h' := by
  refine cWT.upd hw (a := a) (by rw [ga]; exact cR61) (by omega) (by omega) (by omega) h2 (fun b hb i => ho b i (Or.inl hb)) (fun i hi => ?_) (fun _ q hq q3 => ?_)
  · by_cases e : l ≤ i ∧ i ≤ u
    · exact hs i e.1 e.2 hi
    · rw [ho a i (by omega)]
      exact (o_now hw ga).1 i hi
  · rcases g61 q hq q3 with ⟨e1, e2⟩ | ⟨e1, e2⟩
    · rw [e1, e2]; exact h5
    · rw [e1, e2]; exact h6
/-- shapes that a change beside them leaves -/
theorem creg_far {c : Int} {b l u : Nat} {f f' : Nat → Int} (hd : cdj c b l u = true) (ho : ∀ i, (i < l ∨ u < i) → f' i = f i) (hc : creg c b f) : creg c b f' := by
  refine creg_eq (fun i hi => ho i ?_) hc
  refine Classical.byContradiction fun z => ?_
  exact cdj_ok hd i (by omega) (by omega) hi
end MNOW
/-- the words of the slots from d on (S) beside those from s on (S'): n of them -/
noncomputable def cwq (S S' : List (Nat × cS)) (i j : Nat) : Bool := cond (Nat.beq (cseg S i).1 0) (cond (Nat.beq (cseg S' j).1 0) (cond (cge ((cseg S' j).2.1 - (cseg S i).2.1)) (cge ((cseg S i).2.2.1 - (cseg S' j).2.2.1)) false) false) true
noncomputable def cwr (S S' : List (Nat × cS)) (d s n : Nat) : Bool := @Nat.rec (fun _ => Bool) true (fun k ih => cond (cwq S S' (d + k) (s + k)) ih false) n
theorem cwr_ok {S S' : List (Nat × cS)} {d s : Nat} : ∀ n, cwr S S' d s n = true → ∀ k, k < n → ∀ z : Int, (cseg S (d + k)).1 = 0 → ((cseg S' (s + k)).1 = 0 → (cseg S' (s + k)).2.1 ≤ z ∧ z ≤ (cseg S' (s + k)).2.2.1) → (cseg S (d + k)).2.1 ≤ z ∧ z ≤ (cseg S (d + k)).2.2.1 := by
  intro n
  induction n with
  | zero => intro _ k hk; omega
  | succ n ih =>
    intro h k hk z h0 hz
    obtain ⟨h1, h2⟩ := c_and (show cond (cwq S S' (d + n) (s + n)) (cwr S S' d s n) false = true from h)
    by_cases e : k = n
    · subst e
      unfold cwq at h1
      rw [h0] at h1
      obtain ⟨h3, h1⟩ := c_and (show cond (Nat.beq (cseg S' (s + k)).1 0) _ false = true from h1)
      obtain ⟨h4, h5⟩ := c_and h1
      have h4 := cge_iff.mp h4
      have h5 := cge_iff.mp h5
      obtain ⟨z1, z2⟩ := hz (Nat.eq_of_beq_eq_true h3)
      omega
    · exact ih h2 k (by omega) z h0 hz
/-! saveTaker's contract -/
theorem st_words : cwr (cSg 61) (cSg 61) 535 46 489 = true := by decide +kernel
theorem st_wt {g : Nat → Nat} {τ : bt} {h : bh} (hw : cWT cT0 g τ h) {a : Nat} (ga : g a = 61) : cWT cT0 g τ (bcp h a 535 a 46 489) := by
  have ho : ∀ b i, (b ≠ a ∨ i < 535 ∨ 1023 < i) → (bcp h a 535 a 46 489).1 b i = h.1 b i := fun b i hb => if_neg (by omega)
  obtain ⟨o1, o2, o3⟩ := o_now hw ga
  refine w_now hw ga (l := 535) (u := 1023) rfl ho (fun i i1 i2 hi => ?_) (creg_far (l := 535) (u := 1023) (by decide +kernel) (fun i hi => ho a i (Or.inr hi)) o2) (creg_far (l := 535) (u := 1023) (by decide +kernel) (fun i hi => ho a i (Or.inr hi)) o3)
  obtain ⟨k, rfl⟩ : ∃ k, i = 535 + k := ⟨i - 535, by omega⟩
  have e : (bcp h a 535 a 46 489).1 a (535 + k) = h.1 a (46 + k) := by
    show (if a = a ∧ 535 ≤ 535 + k ∧ 535 + k < 535 + 489 then h.1 a (46 + (535 + k - 535)) else h.1 a (535 + k)) = _
    rw [if_pos ⟨rfl, by omega, by omega⟩, show 535 + k - 535 = k by omega]
  rw [e]
  exact cwr_ok 489 st_words k (by omega) _ hi (o1 (46 + k))
theorem eox3 : cOk cT0 ey193 2 2 0 0 enx3 := by
  refine (cOk_of st_fun ?_ ?_).mono (by decide)
  · intro ι avs τ h g ρ σ hp
    obtain ⟨m, xs, rfl, -, m2, m3, hx⟩ := m_this hp rfl rfl
    cases xs with
    | cons => exact hx.elim
    | nil =>
      obtain ⟨a, a1, -, a3, a4⟩ := m_now hp.1 m3
      exact ⟨m, a, rfl, m2, a1, a3, a4⟩
  · rintro ι avs τ h g ρ σ v τ' h' hp ⟨m, a, rfl, ha, rfl, rfl, rfl⟩
    obtain ⟨m', xs, e, -, -, m3, -⟩ := m_this hp rfl rfl
    cases e
    obtain ⟨a', a1, ga, ta, -⟩ := m_now hp.1 m3
    rw [ha] at a1
    cases a1
    refine cPst_void hp rfl (st_wt hp.1 ga) (cHi_upd (a := a) (l := 535) (u := 1023) rfl (fun b i hb => if_neg (by omega)) ?_)
    rw [ta]
    rfl
