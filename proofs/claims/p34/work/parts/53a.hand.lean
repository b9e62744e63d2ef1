/-! ===== by hand: rows with their facts, stretches, heaps that differ at one array ===== -/
theorem dk_at {y : bY} {Γ : List (bY × Nat)} {l : List cN} {i : Nat} {e : cN} (h : ∀ e ∈ l, dk_ok y Γ e) (hi : l[i]? = some e) : dk_ok y Γ e := h e (List.mem_of_getElem? hi)
section HROWS
variable {γ : bG} {y : bY} {d b1 b2 pc : Nat} {lo : List (Option Value)} {st : List Value} {τ : bt} {h : bh} {nc ns : Nat} {Γ : List (bY × Nat)}
theorem b_gR {idx k ci r3 r4 a b : Nat} (C : bC γ y d b1 b2) (hE : dk_ok y Γ (pc, .getfield idx, 3, k, ci, r3, r4, 2)) (ht : τ.1 a = ci + 1) (hb : h.2 a k = some b) (kk : bJ γ (pc + 3) lo (.ref b :: st) τ h nc ns) : bJ γ pc lo (.ref a :: st) τ h nc ns := by
  obtain ⟨hd, -, q, h1, h2, h3, h4, h5⟩ := hE
  refine b_getR C h1 h2 h3 h4 hd h5 ht ?_
  rw [hb]
  exact kk
theorem b_gI {idx k ci r3 r4 a : Nat} (C : bC γ y d b1 b2) (hE : dk_ok y Γ (pc, .getfield idx, 3, k, ci, r3, r4, 0)) (ht : τ.1 a = ci + 1) (kk : brg (h.1 a k) → bJ γ (pc + 3) lo (.int (bz (h.1 a k)) :: st) τ h nc ns) : bJ γ pc lo (.ref a :: st) τ h nc ns := by
  obtain ⟨hd, -, q, h1, h2, h3, h4, h5⟩ := hE
  exact b_getI C h1 h2 h3 h4 hd (Or.inl h5) ht kk
theorem b_pI {idx k ci r3 r4 a : Nat} {z : Int} (C : bC γ y d b1 b2) (hE : dk_ok y Γ (pc, .putfield idx, 3, k, ci, r3, r4, 0)) (hz : brg z) (ht : τ.1 a = ci + 1) (kk : bJ γ (pc + 3) lo st τ (bsetI h a k z) nc ns) : bJ γ pc lo (.int (bz z) :: .ref a :: st) τ h nc ns := by
  obtain ⟨hd, -, q, ty, h1, h2, h3, h4, h5, h6, -⟩ := hE
  exact b_putI C h1 h2 h3 h4 hd h5 h6 hz ht kk
theorem b_al0 {i : Fin 4} {a : Nat} (C : bC γ y d b1 b2) (hd : decode y.2.1 pc = .ok (.aload_n i, 1)) (hl : lo[i.val]? = some (some (.ref a))) (k : bJ γ (pc + 1) lo (.ref a :: st) τ h nc ns) : bJ γ pc lo st τ h nc ns := b_aload_n (o := some a) C hd hl k
/-- a place of an array of ints, by a number -/
theorem b_rd {a j : Nat} {z : Int} (C : bC γ y d b1 b2) (hd : decode y.2.1 pc = .ok (.iaload, 1)) (ht : τ.1 a = 41) (hz : z = (j : Int)) (hj : j < τ.2 a) (kk : brg (h.1 a j) → bJ γ (pc + 1) lo (.int (bz (h.1 a j)) :: st) τ h nc ns) : bJ γ pc lo (.int (bz z) :: .ref a :: st) τ h nc ns := by
  subst hz
  exact b_iald C hd (Or.inr ht) (by omega) (by omega) kk
theorem b_wr {a j : Nat} {z x : Int} (C : bC γ y d b1 b2) (hd : decode y.2.1 pc = .ok (.iastore, 1)) (ht : τ.1 a = 41) (hz : z = (j : Int)) (hj : j < τ.2 a) (hx : brg x) (kk : bJ γ (pc + 1) lo st τ (bsetI h a j x) nc ns) : bJ γ pc lo (.int (bz x) :: .int (bz z) :: .ref a :: st) τ h nc ns := by
  subst hz
  exact b_iast C hd (Or.inr ht) (by omega) (by omega) hx kk
end HROWS
/-! stretches -/
theorem bcp_0 (h : bh) (a d t s : Nat) : bcp h a d t s 0 = h := by
  refine Prod.ext (funext fun b => funext fun j => ?_) rfl
  show (if b = a ∧ d ≤ j ∧ j < d + 0 then _ else h.1 b j) = _
  rw [if_neg (by omega)]
theorem bcp_rd {h : bh} {a d t s k j : Nat} (hn : t ≠ a ∨ j < d ∨ d + k ≤ j) : (bcp h a d t s k).1 t j = h.1 t j := by
  show (if t = a ∧ d ≤ j ∧ j < d + k then _ else h.1 t j) = _
  rw [if_neg (by omega)]
theorem bcp_step {h : bh} {a d t s k : Nat} (hn : t ≠ a ∨ s + k < d ∨ d ≤ s) : bsetI (bcp h a d t s k) a (d + k) (h.1 t (s + k)) = bcp h a d t s (k + 1) := by
  refine Prod.ext (funext fun b => funext fun j => ?_) rfl
  show (if b = a ∧ j = d + k then h.1 t (s + k) else if b = a ∧ d ≤ j ∧ j < d + k then h.1 t (s + (j - d)) else h.1 b j) = if b = a ∧ d ≤ j ∧ j < d + (k + 1) then h.1 t (s + (j - d)) else h.1 b j
  by_cases e1 : b = a ∧ j = d + k
  · rw [if_pos e1, if_pos (by omega), show j - d = k by omega]
  · rw [if_neg e1]
    by_cases e2 : b = a ∧ d ≤ j ∧ j < d + k
    · rw [if_pos e2, if_pos (by omega)]
    · rw [if_neg e2, if_neg (by omega)]
/-- a stretch is filled -/
def bfl (h : bh) (a d : Nat) (z : Int) (k : Nat) : bh := (fun b j => if b = a ∧ d ≤ j ∧ j < d + k then z else h.1 b j, h.2)
theorem bfl_0 (h : bh) (a d : Nat) (z : Int) : bfl h a d z 0 = h := by
  refine Prod.ext (funext fun b => funext fun j => ?_) rfl
  show (if b = a ∧ d ≤ j ∧ j < d + 0 then _ else h.1 b j) = _
  rw [if_neg (by omega)]
theorem bfl_step {h : bh} {a d k : Nat} {z : Int} : bsetI (bfl h a d z k) a (d + k) z = bfl h a d z (k + 1) := by
  refine Prod.ext (funext fun b => funext fun j => ?_) rfl
  show (if b = a ∧ j = d + k then z else if b = a ∧ d ≤ j ∧ j < d + k then z else h.1 b j) = if b = a ∧ d ≤ j ∧ j < d + (k + 1) then z else h.1 b j
  by_cases e1 : b = a ∧ j = d + k
  · rw [if_pos e1, if_pos (by omega)]
  · rw [if_neg e1]
    by_cases e2 : b = a ∧ d ≤ j ∧ j < d + k
    · rw [if_pos e2, if_pos (by omega)]
    · rw [if_neg e2, if_neg (by omega)]
/-! roles -/
/-- an array of the reference's object -/
theorem m_arr {T : cTb} {g : Nat → Nat} {τ : bt} {h : bh} (hw : cWT T g τ h) {m k r ro : Nat} {R : cR} (hm : g m = ro) (h0 : ro ≠ 0) (hc : cslt T ro k = (1, 0, 0, r, false)) (hr : cfR T r = some R) : ∃ a, h.2 m k = some a ∧ g a = r ∧ r ≠ 0 ∧ τ.1 a = R.1 ∧ R.2.1 ≤ τ.2 a ∧ (τ.2 a : Int) ≤ R.2.2.1 := by
  have hk := (cslt_ok (k := k) hw (a := m) (by rw [hm]; exact h0)).2
  rw [hm, hc] at hk
  rcases hk rfl with ⟨e, -⟩ | ⟨a, a1, a2, a3⟩
  · cases e
  · obtain ⟨R', r1, r2, -, r4, -⟩ := hw a a3
    rw [a2] at r1
    have r1 : cfR T r = some R' := r1
    rw [hr] at r1
    cases r1
    exact ⟨a, a1, a2, by rw [← show g a = r from a2]; exact a3, r2, r4.1, r4.2⟩
/-- a heap that differs at one array, and suits its role there -/
theorem cWT.upd {T : cTb} {g : Nat → Nat} {τ : bt} {h h' : bh} {a : Nat} {R : cR} (hw : cWT T g τ h) (hr : cfR T (g a) = some R) (h12 : g a ≠ 12) (h63 : g a ≠ 63) (h68 : g a ≠ 68) (h2 : h'.2 = h.2) (ho : ∀ b, b ≠ a → ∀ i, h'.1 b i = h.1 b i) (hs : ∀ i, (cseg R.2.2.2 i).1 = 0 → (cseg R.2.2.2 i).2.1 ≤ h'.1 a i ∧ h'.1 a i ≤ (cseg R.2.2.2 i).2.2.1) (hreg : cRg R (h'.1 a)) : cWT T g τ h' := by
  intro b hb
  obtain ⟨R', r1, r2, r3, r4, r5, r6, r7, r8⟩ := hw b hb
  by_cases e : b = a
  · subst e
    rw [hr] at r1
    cases r1
    refine ⟨R, hr, r2, r3, r4, fun i => ⟨hs i, fun z => ?_⟩, hreg, fun e12 => absurd e12 h12, r8⟩
    rw [h2]
    exact (r5 i).2 z
  · refine ⟨R', r1, r2, r3, r4, fun i => ⟨fun z => ?_, fun z => ?_⟩, fun k41 q hq q3 => creg_eq (fun i _ => ho b e i) (r6 k41 q hq q3), fun e12 B K hB hK k hk hm => ?_, r8⟩
    · rw [ho b e i]; exact (r5 i).1 z
    · rw [h2]; exact (r5 i).2 z
    · rw [h2] at hB hK
      obtain ⟨w1, w2, w3, w4⟩ := r8 e12
      have gB : g B = 68 := by
        rcases (r5 23).2 w1 with ⟨-, z⟩ | ⟨c, c1, c2, -⟩
        · rw [hB] at z; cases z
        · rw [hB] at c1; cases c1; rw [c2, w2]
      have gK : g K = 63 := by
        rcases (r5 16).2 w3 with ⟨-, z⟩ | ⟨c, c1, c2, -⟩
        · rw [hK] at z; cases z
        · rw [hK] at c1; cases c1; rw [c2, w4]
      have nB : B ≠ a := fun e => h68 (by rw [← e]; exact gB)
      have nK : K ≠ a := fun e => h63 (by rw [← e]; exact gK)
      have kk := r7 e12 B K hB hK k hk (by rw [← ho B nB k]; exact hm)
      unfold chdk at *
      rw [ho K nK, ho K nK, ho K nK]
      exact kk
/-- only slots l to u of one array are otherwise -/
theorem cHi_upd {E : cEf} {g : Nat → Nat} {τ : bt} {h h' : bh} {a l u : Nat} (h2 : h'.2 = h.2) (ho : ∀ b i, (b ≠ a ∨ i < l ∨ u < i) → h'.1 b i = h.1 b i) (he : cefR E (τ.1 a) l u = true) : cHi E g τ h g τ h' := by
  intro b _
  refine ⟨rfl, rfl, Or.inl rfl, fun i hi => ⟨ho b i ?_, by rw [h2]⟩⟩
  refine Classical.byContradiction fun z => ?_
  have e : b = a := Classical.byContradiction fun w => z (Or.inl w)
  subst e
  rw [cefR_ok he (i := i) (by omega) (by omega)] at hi
  cases hi
/-- the end of a method without an answer of which nothing more is told -/
theorem cPst_void {T : cTb} {c : cCn} {g : Nat → Nat} {ρ : Nat → Int} {σ : Nat → Option Nat} {ι : bI} {avs : List Value} {τ : bt} {h h' : bh} (hp : cPr T c ι avs τ h g ρ σ) (hc : c.2.1.2.2 = (([], [], [], []), [])) (hw : cWT T g τ h') (hH : cHi c.2.2 g τ h g τ h') : cPst T c g ρ σ ι avs τ h none τ h' := by
  refine ⟨g, ρ, σ, hw, hp.2.1, hH, cag.rf hp.2.2.1, ?_, ?_⟩
  · rw [hc]
    exact ⟨⟨hp.2.2.1, fun q hq => absurd hq List.not_mem_nil⟩, fun q hq => absurd hq List.not_mem_nil, fun q hq => absurd hq List.not_mem_nil, fun q hq => absurd hq List.not_mem_nil⟩
  · rw [hc]
    exact trivial
/-- the first argument is the reference's object -/
theorem m_this {T : cTb} {c : cCn} {ι : bI} {avs : List Value} {τ : bt} {h : bh} {g : Nat → Nat} {ρ : Nat → Int} {σ : Nat → Option Nat} {rf : List cRf} {vs : List cV} {kd ro : Nat} (hp : cPr T c ι avs τ h g ρ σ) (hr : c.1.2.2.1.2.2.1 = (0, kd, ro, false, (0, [])) :: rf) (ha : c.1.2.2.2 = (1, 0, (0, [])) :: vs) : ∃ m xs, avs = .ref m :: xs ∧ σ 0 = some m ∧ τ.1 m = kd ∧ g m = ro ∧ c2 (cv ρ σ) vs xs := by
  obtain ⟨-, -, -, h4, h5⟩ := hp
  rw [ha] at h5
  obtain ⟨v, r, rfl, hv, hr2⟩ := c2.cons h5
  have hq := h4.2.2.1 (0, kd, ro, false, (0, [])) (by rw [hr]; exact List.mem_cons_self)
  rcases hq with ⟨e, -⟩ | ⟨m, m1, m2, -, m4, -⟩
  · cases e
  · rcases hv with ⟨e, -⟩ | ⟨-, e⟩ | ⟨e, -⟩ | ⟨e, -⟩
    · cases e
    · refine ⟨m, r, ?_, m1, m2, m4, hr2⟩
      rw [e]
      show va_rf (σ 0) :: r = _
      rw [show σ 0 = some m from m1]
      rfl
    · cases e
    · cases e
