/-! ===== the state behind a call ===== -/
noncomputable def capp {α : Type} (l k : List α) : List α := @List.rec α (fun _ => List α) k (fun a _ ih => a :: ih) l
theorem capp_eq {α : Type} (l k : List α) : capp l k = l ++ k := by
  induction l with
  | nil => rfl
  | cons a l ih => show a :: capp l k = _; rw [ih]; rfl
noncomputable def cmpl (f : Nat → cL) (fr : Nat → cV) (l : List cV) : List cV := @List.rec cV (fun _ => List cV) [] (fun v _ ih => cmp2 f fr v :: ih) l
theorem cmpl_ok {f : Nat → cL} {fr : Nat → cV} {ρ : Nat → Int} {σ : Nat → Option Nat} (hfr : ∀ s, (fr s).1 = 1 ∨ (fr s).1 = 2) {st : List cV} {st' : List Value} (hs : c2 (cv ρ σ) st st') : ∀ (l : List cV) (xs : List Value), c2 (cv (fun s => cE ρ (f s)) (fun s => cvo σ (fr s))) l xs → c2 (cv ρ σ) (capp (cmpl f fr l) st) (xs ++ st')
  | [], [], _ => hs
  | v :: l, x :: xs, h => ⟨cmp2_ok hfr h.1, cmpl_ok hfr hs l xs h.2⟩
  | [], _ :: _, h => h.elim
  | _ :: _, [], h => h.elim
/-- what is substituted are symbols of this state -/
noncomputable def cwθ (n m : Nat) (θ : List (Nat × cL)) (θr : List (Nat × cV)) : Bool := cond (call (fun q => cwL n q.2) θ) (call (fun q => cond (Nat.beq q.2.1 1) (Nat.blt q.2.2.1 m) (Nat.beq q.2.1 2)) θr) false
noncomputable def caft (θ : List (Nat × cL)) (θr : List (Nat × cV)) (c : cCn) (c1 c2 : Nat) (S : cZ) : cZ :=
  (S.1 + (c.2.1.1 - c.1.1), S.2.1 + (c.2.1.2.1 - c.1.2.1), (capp (cnwB c.1.1 S.1 c.2.1.2.2.1.1) S.2.2.1.1, capp (cnwC (cf2 θ c.1.1 S.1) c.2.1.2.2.1.2.1) S.2.2.1.2.1, capp (cnwR (cf2 θ c.1.1 S.1) (cr2 θr c.1.2.1 S.2.1) c.2.1.2.2.1.2.2.1) (cfil (crkp c.2.2) S.2.2.1.2.2.1), capp (cnwF (cf2 θ c.1.1 S.1) (cr2 θr c.1.2.1 S.2.1) c.2.1.2.2.1.2.2.2) (cfil (cfkp c.2.2 S.2.2.1.2.2.1) S.2.2.1.2.2.2)), S.2.2.2.1 + c1, S.2.2.2.2 + c2)
/-- a contract's symbols are its own -/
noncomputable def cwCn (c : cCn) : Bool := cond (Nat.ble c.1.1 c.2.1.1) (cond (Nat.ble c.1.2.1 c.2.1.2.1) (cond (cwA c.2.1.1 c.2.1.2.1 c.2.1.2.2.1) (call (cwX c.2.1.1 c.2.1.2.1) c.2.1.2.2.2) false) false) false
theorem cRl.after {Θ : cTh} {c : cCn} {c1 c2' : Nat} {θ : List (Nat × cL)} {θr : List (Nat × cV)} {S : cZ} {ρ ρ' : Nat → Int} {σ σ' : Nat → Option Nat} {g g' : Nat → Nat} {τ τ' : bt} {h h' : bh} {lo st : List cV} {lo' : List (Option Value)} {st' xs : List Value} (hR : cRl Θ S ρ σ g τ h lo st lo' st') (hw : cwCn c = true) (hθ : cwθ S.1 S.2.1 θ θr = true) (hH : cHi c.2.2 g τ h g' τ' h') (hag : cag c.1.1 c.1.2.1 (cρ θ ρ) (cσ θr σ) ρ' σ') (hQ : cst ρ' σ' g' τ' h' c.2.1.2.2.1) (hx : c2 (cv ρ' σ') c.2.1.2.2.2 xs) : ∃ ρ2 σ2, cRl Θ (caft θ θr c c1 c2' S) ρ2 σ2 g' τ' h' lo (capp (cmpl (cf2 θ c.1.1 S.1) (cr2 θr c.1.2.1 S.2.1) c.2.1.2.2.2) st) lo' (xs ++ st') := by
  obtain ⟨N, M, A, nc, ns⟩ := S
  obtain ⟨⟨n, m, P, args⟩, ⟨n2, m2, Q, res⟩, E⟩ := c
  obtain ⟨w1, hw⟩ := c_and hw
  obtain ⟨w2, hw⟩ := c_and hw
  obtain ⟨w3, w4⟩ := c_and hw
  have w1 : n ≤ n2 := Nat.ble_eq.mp w1
  have w2 : m ≤ m2 := Nat.ble_eq.mp w2
  obtain ⟨t1, t2⟩ := c_and hθ
  have f0 : ∀ s, s < n → cf2 θ n N s = csb θ s := fun s hs => by unfold cf2; rw [show Nat.blt s n = true from Nat.ble_eq.mpr hs]; rfl
  have blt0 : ∀ a b : Nat, b ≤ a → Nat.blt a b = false := fun a b hab => by
    cases hh : Nat.blt a b with
    | false => rfl
    | true => have : a < b := Nat.ble_eq.mp hh; omega
  have f1 : ∀ s, n ≤ s → cf2 θ n N s = cX (N + (s - n)) := fun s hs => by unfold cf2; rw [blt0 s n hs]; rfl
  have r0 : ∀ s, s < m → cr2 θr m M s = crb θr s := fun s hs => by unfold cr2; rw [show Nat.blt s m = true from Nat.ble_eq.mpr hs]; rfl
  have r1 : ∀ s, m ≤ s → cr2 θr m M s = cP (M + (s - m)) := fun s hs => by unfold cr2; rw [blt0 s m hs]; rfl
  have hcrb : ∀ s, ((crb θr s).1 = 1 ∧ (crb θr s).2.1 < M) ∨ (crb θr s).1 = 2 := fun s => by
    rcases clk_mem θr s cNl with z | ⟨q, z1, z2⟩
    · right; rw [show crb θr s = cNl from z]; rfl
    · rw [show crb θr s = q.2 from z2]
      have := call_iff.mp t2 q z1
      cases hb : Nat.beq q.2.1 1 with
      | true => rw [hb] at this; exact Or.inl ⟨Nat.eq_of_beq_eq_true hb, Nat.ble_eq.mp this⟩
      | false => rw [hb] at this; exact Or.inr (Nat.eq_of_beq_eq_true this)
  have hfr : ∀ s, (cr2 θr m M s).1 = 1 ∨ (cr2 θr m M s).1 = 2 := fun s => by
    by_cases hs : s < m
    · rw [r0 s hs]
      rcases hcrb s with z | z
      · exact Or.inl z.1
      · exact Or.inr z
    · rw [r1 s (by omega)]; exact Or.inl rfl
  refine ⟨fun s => if s < N then ρ s else ρ' (n + (s - N)), fun s => if s < M then σ s else σ' (m + (s - M)), fun s => ?_, fun ρ2 σ2 ha => ?_⟩
  · show brg (if s < N then ρ s else ρ' (n + (s - N)))
    split
    · exact hR.1 s
    · exact hag.1 _
  · have a1 : ∀ s, s < N + (n2 - n) → ρ2 s = if s < N then ρ s else ρ' (n + (s - N)) := ha.2.1
    have a2 : ∀ s, s < M + (m2 - m) → σ2 s = if s < M then σ s else σ' (m + (s - M)) := ha.2.2
    have ag : cag N M ρ σ ρ2 σ2 := ⟨ha.1, fun s hs => by rw [a1 s (by omega), if_pos hs], fun s hs => by rw [a2 s (by omega), if_pos hs]⟩
    obtain ⟨k1, k2, k3, k4⟩ := hR.2 ρ2 σ2 ag
    have e1 : ∀ s, s < n → cE ρ2 (cf2 θ n N s) = ρ' s := fun s hs => by
      rw [f0 s hs, hag.2.1 s hs]
      show _ = cE ρ (csb θ s)
      rcases clk_mem θ s (cK 0) with z | ⟨q, z1, z2⟩
      · rw [show csb θ s = cK 0 from z, cK_ev, cK_ev]
      · rw [show csb θ s = q.2 from z2]
        exact cwL_ok (call_iff.mp t1 q z1) ag.2.1
    have e2 : ∀ s, n ≤ s → cE ρ2 (cf2 θ n N s) = ρ2 (N + (s - n)) := fun s hs => by rw [f1 s hs, cX_ev]
    have e3 : ∀ s, s < m → cvo σ2 (cr2 θr m M s) = σ' s := fun s hs => by
      rw [r0 s hs, hag.2.2 s hs]
      show _ = cvo σ (crb θr s)
      unfold cvo
      rcases hcrb s with ⟨z1, z2⟩ | z
      · rw [z1, ag.2.2 _ z2]
      · rw [z]; rfl
    have e4 : ∀ s, m ≤ s → cvo σ2 (cr2 θr m M s) = σ2 (M + (s - m)) := fun s hs => by rw [r1 s hs]; rfl
    have agQ : cag n2 m2 ρ' σ' (fun s => cE ρ2 (cf2 θ n N s)) (fun s => cvo σ2 (cr2 θr m M s)) := by
      refine ⟨fun s => ?_, fun s hs => ?_, fun s hs => ?_⟩
      · show brg (cE ρ2 (cf2 θ n N s))
        by_cases h : s < n
        · rw [e1 s h]; exact hag.1 s
        · rw [e2 s (by omega)]; exact ha.1 _
      · show cE ρ2 (cf2 θ n N s) = ρ' s
        by_cases h : s < n
        · exact e1 s h
        · rw [e2 s (by omega), a1 _ (by omega), if_neg (by omega)]
          congr 1
          omega
      · show cvo σ2 (cr2 θr m M s) = σ' s
        by_cases h : s < m
        · exact e3 s h
        · rw [e4 s (by omega), a2 _ (by omega), if_neg (by omega)]
          congr 1
          omega
    obtain ⟨q1, q2, q3, q4⟩ := cwA_ok w3 agQ hQ
    obtain ⟨o1, o2, o3, o4⟩ := cst_kept k1 hH
    refine ⟨⟨⟨ha.1, fun q hq => ?_⟩, fun e he => ?_, fun q hq => ?_, fun q hq => ?_⟩, k2, ?_, k4⟩
    · rcases List.mem_append.mp (show q ∈ cnwB n N Q.1 ++ A.1 by rw [← capp_eq]; exact hq) with z | z
      · exact cnwB_ok (fun s hs => (e2 s hs).symm) Q.1 q1.2 q z
      · exact o1.2 q z
    · rcases List.mem_append.mp (show e ∈ cnwC (cf2 θ n N) Q.2.1 ++ A.2.1 by rw [← capp_eq]; exact he) with z | z
      · exact cnwC_ok Q.2.1 q2 e z
      · exact o2 e z
    · rcases List.mem_append.mp (show q ∈ cnwR (cf2 θ n N) (cr2 θr m M) Q.2.2.1 ++ cfil (crkp E) A.2.2.1 by rw [← capp_eq]; exact hq) with z | z
      · exact cnwR_ok Q.2.2.1 q3 q z
      · exact o3 q z
    · rcases List.mem_append.mp (show q ∈ cnwF (cf2 θ n N) (cr2 θr m M) Q.2.2.2 ++ cfil (cfkp E A.2.2.1) A.2.2.2 by rw [← capp_eq]; exact hq) with z | z
      · exact cnwF_ok hfr Q.2.2.2 q4 q z
      · exact o4 q z
    · exact cmpl_ok hfr k3 _ _ (c2_ag agQ _ _ w4 hx)
