/-! ===== p34: what the class keeps, and what the reference keeps ===== -/
def lK (x m : Nat) (h : bh) : Prop := ∃ I B, h.2 x 3 = some I ∧ h.2 m 23 = some B ∧ ∀ k, k < 2 → (h.2 I k ≠ none ↔ h.1 B k = 1)
def lJ (ι : bI) (x m u : Nat) (g : Nat → Nat) (τ : bt) (h : bh) : Prop := lI ι x m u g τ h ∧ lK x m h
abbrev lE0 (E : cEf) : Prop := cef E 11 3 = false ∧ cef E 26 0 = false ∧ cef E 26 1 = false
abbrev lE1 (E : cEf) : Prop := cef E 12 23 = false ∧ cef E 43 0 = false ∧ cef E 43 1 = false
abbrev lE (E : cEf) : Prop := lE0 E ∧ lE1 E
section LJ
variable {ι : bI} {x m u : Nat} {g g' : Nat → Nat} {τ τ' : bt} {h h' : bh} {E : cEf}
theorem lI.img (F : lI ι x m u g τ h) {I : Nat} (i1 : h.2 x 3 = some I) : g I = 52 ∧ τ.1 I = 26 ∧ τ.2 I = 2 := by
  obtain ⟨a, a1, a2, -, a4, a5, a6⟩ := m_arr F.1 (k := 3) (r := 52) F.2.2.1.2.1 (by decide) rfl cR52
  rw [i1] at a1
  cases a1
  have a5 : (2 : Int) ≤ τ.2 I := a5
  have a6 : (τ.2 I : Int) ≤ 2 := a6
  exact ⟨a2, a4, by omega⟩
theorem lI.bo (F : lI ι x m u g τ h) {B : Nat} (b1 : h.2 m 23 = some B) : g B = 68 ∧ τ.1 B = 43 ∧ τ.2 B = 2 ∧ ∀ k, k < 2 → 0 ≤ h.1 B k ∧ h.1 B k ≤ 1 := by
  obtain ⟨a, a1, a2, -, a4, a5, a6⟩ := m_arr F.1 (k := 23) (r := 68) F.2.2.2.1.2.1 (by decide) rfl cR68
  rw [b1] at a1
  cases a1
  have a5 : (2 : Int) ≤ τ.2 B := a5
  have a6 : (τ.2 B : Int) ≤ 2 := a6
  refine ⟨a2, a4, by omega, fun k hk => ?_⟩
  obtain ⟨b1, -⟩ := o_arr F.1 a2 (by decide) cR68
  have ek : k = 0 ∨ k = 1 := by omega
  rcases ek with rfl | rfl
  · have := b1 0 (by rw [g68.2.1])
    rw [g68.2.1] at this
    exact this
  · have := b1 1 (by rw [g68.2.2])
    rw [g68.2.2] at this
    exact this
theorem lI.has (F : lI ι x m u g τ h) : (∃ I, h.2 x 3 = some I) ∧ ∃ B, h.2 m 23 = some B := by
  obtain ⟨a, a1, -⟩ := m_arr F.1 (k := 3) (r := 52) F.2.2.1.2.1 (by decide) rfl cR52
  obtain ⟨b, b1, -⟩ := m_arr F.1 (k := 23) (r := 68) F.2.2.2.1.2.1 (by decide) rfl cR68
  exact ⟨⟨a, a1⟩, b, b1⟩
theorem lI.k0 (F : lI ι x m u g τ h) (hH : cHi E g τ h g' τ' h') (hE : lE0 E) {I : Nat} (i1 : h.2 x 3 = some I) : h'.2 x 3 = some I ∧ ∀ k, k < 2 → h'.2 I k = h.2 I k := by
  obtain ⟨e1, e2, e3⟩ := hE
  obtain ⟨-, tI, -⟩ := F.img i1
  have tx := F.2.2.1.1
  refine ⟨?_, fun k hk => ?_⟩
  · rw [((hH x (by omega)).2.2.2 3 (by rw [tx]; exact e1)).2]
    exact i1
  · have ek : k = 0 ∨ k = 1 := by omega
    rcases ek with rfl | rfl
    · exact ((hH I (by omega)).2.2.2 0 (by rw [tI]; exact e2)).2
    · exact ((hH I (by omega)).2.2.2 1 (by rw [tI]; exact e3)).2
theorem lI.k1 (F : lI ι x m u g τ h) (hH : cHi E g τ h g' τ' h') (hE : lE1 E) {B : Nat} (i1 : h.2 m 23 = some B) : h'.2 m 23 = some B ∧ ∀ k, k < 2 → h'.1 B k = h.1 B k := by
  obtain ⟨e1, e2, e3⟩ := hE
  obtain ⟨-, tB, -⟩ := F.bo i1
  have tx := F.2.2.2.1.1
  refine ⟨?_, fun k hk => ?_⟩
  · rw [((hH m (by omega)).2.2.2 23 (by rw [tx]; exact e1)).2]
    exact i1
  · have ek : k = 0 ∨ k = 1 := by omega
    rcases ek with rfl | rfl
    · exact ((hH B (by omega)).2.2.2 0 (by rw [tB]; exact e2)).1
    · exact ((hH B (by omega)).2.2.2 1 (by rw [tB]; exact e3)).1
theorem lJ.step (F : lJ ι x m u g τ h) (hw : cWT cT0 g' τ' h') (hk : cKt ι g') (hH : cHi E g τ h g' τ' h') (hE : lE E) : lJ ι x m u g' τ' h' := by
  obtain ⟨F, I, B, i1, b1, kk⟩ := F
  obtain ⟨p1, p2⟩ := F.k0 hH hE.1 i1
  obtain ⟨q1, q2⟩ := F.k1 hH hE.2 b1
  exact ⟨F.step hw hk hH, I, B, p1, q1, fun k hk => by rw [p2 k hk, q2 k hk]; exact kk k hk⟩
end LJ
section LCJ
variable {γ : bG} {y : bY} {d b1 b2 pc : Nat} {lo : List (Option Value)} {nc ns : Nat} {Γ : List (bY × Nat)} {g : Nat → Nat} {τ : bt} {h : bh} {x m u : Nat}
theorem b_lcJ {mid k mode r4 ci idx a d0 c1 c2' ro : Nat} {q : bY × Nat} {zs : List Int} {rest : List Value} {c : cCn} {e : cL} (C : bC γ y (d + 1) b1 b2) (X : bX γ) (hE : dk_ok y Γ (pc, .invokevirtual idx, 3, mid, k, mode, r4, ci)) (hm : mode ≤ 1) (hq : Γ[mid]? = some q) (K : cOk cT0 q.1 q.2 d0 c1 c2' c) (hd0 : d0 ≤ d) (h1 : c.1.2.2.1.2 = ([], [(0, ci + 1, ro, false, (0, []))], [])) (h2 : c.1.2.2.2 = (1, 0, (0, [])) :: lA 0 zs.length) (h3 : c.2.1.2.2.2 = [(0, 0, e)]) (hb : ∀ p ∈ c.1.2.2.1.1, p.2.1 ≤ zs.getD p.1 0 ∧ zs.getD p.1 0 ≤ p.2.2) (hk : zs.length + 1 = k) (hE9 : lE c.2.2) (F : lJ γ.1 x m u g τ h) (ha : τ.1 a = ci + 1 ∧ g a = ro ∧ τ.2 a = 0) (hz : ∀ z ∈ zs, brg z) (hsum : (rest.map fun v => v.category).sum ≤ 8) (hc : nc + c1 ≤ b1) (hs : ns + c2' ≤ b2) (kk : ∀ (z : Int) (g' : Nat → Nat) (τ' : bt) (h' : bh), brg z → (∃ ρ' : Nat → Int, cBo ρ' c.2.1.2.2.1.1 ∧ cE ρ' e = z) → lJ γ.1 x m u g' τ' h' → bJ γ (pc + 3) lo (.int (bz z) :: rest) τ' h' (nc + c1) (ns + c2')) : bJ γ pc lo ((zs.map (fun z => Value.int (bz z))).reverse ++ (.ref a :: rest)) τ h nc ns := by
  have hρ : ∀ s, brg ((fun i => zs.getD i 0) s) := fun s => brg_getD hz s
  refine b_inv C X hE hm hq (K g (fun i => zs.getD i 0) (fun _ => some a)) hd0 (by rw [List.length_map]; exact hk) ha.1 ⟨F.1.1, F.1.2.1, hρ, ⟨⟨hρ, hb⟩, ?_, ?_, ?_⟩, ?_⟩ hsum hc hs ?_
  · rw [h1]
    exact fun q hq => absurd hq List.not_mem_nil
  · rw [h1]
    intro q hq
    obtain rfl := List.mem_singleton.mp hq
    refine Or.inr ⟨a, rfl, ha.1, Nat.succ_ne_zero _, ha.2.1, ?_⟩
    show (τ.2 a : Int) = 0 + 0
    rw [ha.2.2]
    rfl
  · rw [h1]
    exact fun q hq => absurd hq List.not_mem_nil
  · rw [h2]
    exact ⟨cv_P rfl, lA_ok zs 0 hz (fun i _ => by rw [Nat.zero_add])⟩
  · rintro v τ' h' ⟨g', ρ', σ', hw', hk', hH', -, hst, hv⟩
    rw [h3] at hv
    cases v with
    | none => exact hv.elim
    | some v =>
      obtain ⟨rfl, hr⟩ := cv_int (e := e) rfl rfl hv.1
      exact kk _ g' τ' h' hr ⟨ρ', hst.1, rfl⟩ (F.step hw' hk' hH' hE9)
def lvR : List cRf := [(0, 11, 11, false, (0, [])), (1, 26, 52, false, (2, [])), (2, 10, 10, true, (0, [])), (3, 10, 10, true, (0, []))]
def lvF : List cFt := [(0, 3, (1, 1, (0, []))), (1, 0, (1, 2, (0, []))), (1, 1, (1, 3, (0, [])))]
def lvS (h : bh) (x I : Nat) : Nat → Option Nat
  | 0 => some x
  | 1 => some I
  | 2 => h.2 I 0
  | _ => h.2 I 1
/-- a call of the class that leaves what is kept as it is -/
theorem b_lv {mid k mode r4 idx d0 c1 c2' : Nat} {q : bY × Nat} {zs : List Int} {rest : List Value} {c : cCn} {e : cL} (C : bC γ y (d + 1) b1 b2) (X : bX γ) (hE : dk_ok y Γ (pc, .invokevirtual idx, 3, mid, k, mode, r4, 10)) (hm : mode ≤ 1) (hq : Γ[mid]? = some q) (K : cOk cT0 q.1 q.2 d0 c1 c2' c) (hd0 : d0 ≤ d) (h1 : c.1.2.2.1 = ([], [], lvR, lvF)) (h2 : c.1.2.2.2 = (1, 0, (0, [])) :: lA 0 zs.length) (h3 : c.2.1.2.2 = (([], [], [], lvF), [(0, 0, e)])) (h4 : c.1.2.1 = 4) (hk : zs.length + 1 = k) (hE9 : lE1 c.2.2) (F : lJ γ.1 x m u g τ h) (hz : ∀ z ∈ zs, brg z) (hsum : (rest.map fun v => v.category).sum ≤ 8) (hc : nc + c1 ≤ b1) (hs : ns + c2' ≤ b2) (kk : ∀ (z : Int) (g' : Nat → Nat) (τ' : bt) (h' : bh), brg z → lJ γ.1 x m u g' τ' h' → bJ γ (pc + 3) lo (.int (bz z) :: rest) τ' h' (nc + c1) (ns + c2')) : bJ γ pc lo ((zs.map (fun z => Value.int (bz z))).reverse ++ (.ref x :: rest)) τ h nc ns := by
  have hρ : ∀ s, brg ((fun i => zs.getD i 0) s) := fun s => brg_getD hz s
  obtain ⟨F, I, B, i1, j1, lk⟩ := F
  obtain ⟨gI, tI, lI'⟩ := F.img i1
  refine b_inv C X hE hm hq (K g (fun i => zs.getD i 0) (lvS h x I)) hd0 (by rw [List.length_map]; exact hk) F.2.2.1.1 ⟨F.1, F.2.1, hρ, ?_, ?_⟩ hsum hc hs ?_
  · rw [h1]
    refine ⟨⟨hρ, fun q hq => absurd hq List.not_mem_nil⟩, fun q hq => absurd hq List.not_mem_nil, fun q hq => ?_, fun q hq => ?_⟩
    · rcases List.mem_cons.mp hq with rfl | hq
      · exact Or.inr ⟨x, rfl, F.2.2.1.1, by decide, F.2.2.1.2.1, by show (τ.2 x : Int) = 0 + 0; rw [F.2.2.1.2.2]; rfl⟩
      · rcases List.mem_cons.mp hq with rfl | hq
        · exact Or.inr ⟨I, rfl, tI, by decide, gI, by show (τ.2 I : Int) = 2 + 0; rw [lI']; rfl⟩
        · rcases List.mem_cons.mp hq with rfl | hq
          · rcases w_slot F.1 gI (by decide) cR52 (s53.2 0 (by decide)) with e | ⟨w, e1, e2, e3, e4⟩
            · exact Or.inl ⟨rfl, e⟩
            · exact Or.inr ⟨w, e1, e3, by decide, e2, by show (τ.2 w : Int) = 0 + 0; rw [e4]; rfl⟩
          · obtain rfl := List.mem_singleton.mp hq
            rcases w_slot F.1 gI (by decide) cR52 (s53.2 1 (by decide)) with e | ⟨w, e1, e2, e3, e4⟩
            · exact Or.inl ⟨rfl, e⟩
            · exact Or.inr ⟨w, e1, e3, by decide, e2, by show (τ.2 w : Int) = 0 + 0; rw [e4]; rfl⟩
    · rcases List.mem_cons.mp hq with rfl | hq
      · exact ⟨x, rfl, fun w => absurd (show (1 : Nat) = 0 from w) (by decide), fun _ => i1, fun w => absurd (show (1 : Nat) = 2 from w) (by decide)⟩
      · rcases List.mem_cons.mp hq with rfl | hq
        · exact ⟨I, rfl, fun w => absurd (show (1 : Nat) = 0 from w) (by decide), fun _ => rfl, fun w => absurd (show (1 : Nat) = 2 from w) (by decide)⟩
        · obtain rfl := List.mem_singleton.mp hq
          exact ⟨I, rfl, fun w => absurd (show (1 : Nat) = 0 from w) (by decide), fun _ => rfl, fun w => absurd (show (1 : Nat) = 2 from w) (by decide)⟩
  · rw [h2]
    exact ⟨cv_P rfl, lA_ok zs 0 hz (fun i _ => by rw [Nat.zero_add])⟩
  · rintro v τ' h' ⟨g', ρ', σ', hw', hk', hH', ⟨-, -, ag⟩, hst, hv⟩
    rw [h3] at hv hst
    rw [h4] at ag
    cases v with
    | none => exact hv.elim
    | some v =>
      obtain ⟨rfl, hr⟩ := cv_int (e := e) rfl rfl hv.1
      have s0 : σ' 0 = some x := ag 0 (by decide)
      have s1 : σ' 1 = some I := ag 1 (by decide)
      have s2 : σ' 2 = h.2 I 0 := ag 2 (by decide)
      have s3 : σ' 3 = h.2 I 1 := ag 3 (by decide)
      have fs := hst.2.2.2
      obtain ⟨q1, q2⟩ := F.k1 hH' hE9 j1
      have p1 : h'.2 x 3 = some I := by
        obtain ⟨y9, y1, -, y2, -⟩ := fs (0, 3, (1, 1, (0, []))) List.mem_cons_self
        have y1 : σ' 0 = some y9 := y1
        have y2 : h'.2 y9 3 = σ' 1 := y2 rfl
        rw [s0] at y1
        cases y1
        rw [y2, s1]
      have p2 : h'.2 I 0 = h.2 I 0 := by
        obtain ⟨y9, y1, -, y2, -⟩ := fs (1, 0, (1, 2, (0, []))) (List.mem_cons_of_mem _ List.mem_cons_self)
        have y1 : σ' 1 = some y9 := y1
        have y2 : h'.2 y9 0 = σ' 2 := y2 rfl
        rw [s1] at y1
        cases y1
        rw [y2, s2]
      have p3 : h'.2 I 1 = h.2 I 1 := by
        obtain ⟨y9, y1, -, y2, -⟩ := fs (1, 1, (1, 3, (0, []))) (List.mem_cons_of_mem _ (List.mem_cons_of_mem _ List.mem_cons_self))
        have y1 : σ' 1 = some y9 := y1
        have y2 : h'.2 y9 1 = σ' 3 := y2 rfl
        rw [s1] at y1
        cases y1
        rw [y2, s3]
      refine kk _ g' τ' h' hr ⟨F.step hw' hk' hH', I, B, p1, q1, fun k hk => ?_⟩
      rw [q2 k hk, ← lk k hk]
      have ek : k = 0 ∨ k = 1 := by omega
      rcases ek with rfl | rfl
      · rw [p2]
      · rw [p3]
/-- order of the reference -/
theorem b_lo {mid k mode r4 idx : Nat} {rest : List Value} (C : bC γ y (d + 1) b1 b2) (X : bX γ) (hE : dk_ok y Γ (pc, .invokevirtual idx, 3, mid, k, mode, r4, 11)) (hm : mode ≤ 1) (hq : Γ[mid]? = some (ey204, 3)) (hd0 : 9 ≤ d) (hk : 1 = k) (F : lJ γ.1 x m u g τ h) (hsum : (rest.map fun v => v.category).sum ≤ 8) (hc : nc ≤ b1) (hs : ns ≤ b2) (kk : ∀ (z : Int) (g' : Nat → Nat) (τ' : bt) (h' : bh), brg z → lJ γ.1 x m u g' τ' h' → bJ γ (pc + 3) lo (.int (bz z) :: rest) τ' h' nc ns) : bJ γ pc lo (.ref m :: rest) τ h nc ns := by
  obtain ⟨F, I, B, i1, j1, lk⟩ := F
  obtain ⟨gB, tB, lB, bB⟩ := F.bo j1
  have b0 := bB 0 (by decide)
  have b1' := bB 1 (by decide)
  have hρ : ∀ s : Nat, brg ((fun s : Nat => if s = 0 then h.1 B 0 else h.1 B 1) s) := fun s => by
    show brg (if s = 0 then h.1 B 0 else h.1 B 1)
    split
    · exact ⟨by omega, by omega⟩
    · exact ⟨by omega, by omega⟩
  refine b_inv (As := []) (rest := rest) C X hE hm hq (eoworder g (fun s : Nat => if s = 0 then h.1 B 0 else h.1 B 1) (fun s => if s = 0 then some m else some B)) hd0 hk F.2.2.2.1.1 ⟨F.1, F.2.1, hρ, ⟨⟨hρ, fun q hq => ?_⟩, fun q hq => absurd hq List.not_mem_nil, fun q hq => ?_, fun q hq => ?_⟩, ⟨cv_P rfl, trivial⟩⟩ hsum hc hs ?_
  · rcases List.mem_cons.mp hq with rfl | hq
    · exact b0
    · obtain rfl := List.mem_singleton.mp hq
      exact b1'
  · rcases List.mem_cons.mp hq with rfl | hq
    · exact Or.inr ⟨m, rfl, F.2.2.2.1.1, by decide, F.2.2.2.1.2.1, by show (τ.2 m : Int) = 0 + 0; rw [F.2.2.2.1.2.2]; rfl⟩
    · obtain rfl := List.mem_singleton.mp hq
      exact Or.inr ⟨B, rfl, tB, by decide, gB, by show (τ.2 B : Int) = 2 + 0; rw [lB]; rfl⟩
  · rcases List.mem_cons.mp hq with rfl | hq
    · exact ⟨m, rfl, fun w => absurd (show (1 : Nat) = 0 from w) (by decide), fun _ => j1, fun w => absurd (show (1 : Nat) = 2 from w) (by decide)⟩
    · rcases List.mem_cons.mp hq with rfl | hq
      · exact ⟨B, rfl, fun _ => by show h.1 B 0 = 0 + (1 * h.1 B 0 + 0); omega, fun w => absurd (show (0 : Nat) = 1 from w) (by decide), fun w => absurd (show (0 : Nat) = 2 from w) (by decide)⟩
      · obtain rfl := List.mem_singleton.mp hq
        exact ⟨B, rfl, fun _ => by show h.1 B 1 = 0 + (1 * h.1 B 1 + 0); omega, fun w => absurd (show (0 : Nat) = 1 from w) (by decide), fun w => absurd (show (0 : Nat) = 2 from w) (by decide)⟩
  · rintro v τ' h' ⟨g', ρ', σ', hw', hk', hH', ⟨-, ar, ag⟩, hst, hv⟩
    cases v with
    | none => exact hv.elim
    | some v =>
      obtain ⟨rfl, hr⟩ := cv_int (e := (0, [(2, 1)])) rfl rfl hv.1
      have s0 : σ' 0 = some m := ag 0 (by decide)
      have s1 : σ' 1 = some B := ag 1 (by decide)
      have r0 : ρ' 0 = h.1 B 0 := ar 0 (by decide)
      have r1 : ρ' 1 = h.1 B 1 := ar 1 (by decide)
      have fs := hst.2.2.2
      obtain ⟨q1, q2⟩ := F.k0 hH' (by decide +kernel) i1
      have p1 : h'.2 m 23 = some B := by
        obtain ⟨y9, y1, -, y2, -⟩ := fs (0, 23, (1, 1, (0, []))) List.mem_cons_self
        have y1 : σ' 0 = some y9 := y1
        have y2 : h'.2 y9 23 = σ' 1 := y2 rfl
        rw [s0] at y1
        cases y1
        rw [y2, s1]
      have p2 : h'.1 B 0 = h.1 B 0 := by
        obtain ⟨y9, y1, y2, -, -⟩ := fs (1, 0, (0, 0, (0, [(0, 1)]))) (List.mem_cons_of_mem _ List.mem_cons_self)
        have y1 : σ' 1 = some y9 := y1
        have y2 : h'.1 y9 0 = 0 + (1 * ρ' 0 + 0) := y2 rfl
        rw [s1] at y1
        cases y1
        omega
      have p3 : h'.1 B 1 = h.1 B 1 := by
        obtain ⟨y9, y1, y2, -, -⟩ := fs (1, 1, (0, 0, (0, [(1, 1)]))) (List.mem_cons_of_mem _ (List.mem_cons_of_mem _ List.mem_cons_self))
        have y1 : σ' 1 = some y9 := y1
        have y2 : h'.1 y9 1 = 0 + (1 * ρ' 1 + 0) := y2 rfl
        rw [s1] at y1
        cases y1
        omega
      refine kk _ g' τ' h' hr ⟨F.step hw' hk' hH', I, B, q1, p1, fun k hk => ?_⟩
      rw [q2 k hk, lk k hk]
      have ek : k = 0 ∨ k = 1 := by omega
      rcases ek with rfl | rfl
      · rw [p2]
      · rw [p3]
/-- between the two images -/
def lM (z : Int) (x m : Nat) (h : bh) : Prop := ∃ I B, h.2 x 3 = some I ∧ h.2 m 23 = some B ∧ ((∃ k : Nat, (k : Int) = z ∧ k < 2 ∧ h.2 I k ≠ none ∧ ∀ j, j < 2 → j ≠ k → (h.2 I j ≠ none ↔ h.1 B j = 1)) ∨ (¬ (0 ≤ z ∧ z ≤ 1) ∧ ∀ j, j < 2 → (h.2 I j ≠ none ↔ h.1 B j = 1)))
/-- image of the class -/
theorem b_lvi {mid k mode r4 idx : Nat} {z : Int} {rest : List Value} (C : bC γ y (d + 1) b1 b2) (X : bX γ) (hE : dk_ok y Γ (pc, .invokevirtual idx, 3, mid, k, mode, r4, 10)) (hm : mode ≤ 1) (hq : Γ[mid]? = some (ey166, 3)) (hd0 : 4 ≤ d) (hk : 2 = k) (F : lJ γ.1 x m u g τ h) (hz : brg z) (hsum : (rest.map fun v => v.category).sum ≤ 8) (hc : nc + 23 ≤ b1) (hs : ns + 1835 ≤ b2) (kk : ∀ (v : Int) (g' : Nat → Nat) (τ' : bt) (h' : bh), lI γ.1 x m u g' τ' h' → lM z x m h' → bJ γ (pc + 3) lo (.int (bz v) :: rest) τ' h' (nc + 23) (ns + 1835)) : bJ γ pc lo (.int (bz z) :: .ref x :: rest) τ h nc ns := by
  obtain ⟨F, I, B, i1, j1, lk⟩ := F
  refine b_inv (As := [.int (bz z)]) (rest := rest) C X hE hm hq (vim_fun g x I z) hd0 hk F.2.2.1.1 ⟨rfl, hz, F.1, F.2.1, F.2.2.1, i1⟩ hsum hc hs ?_
  rintro v τ' h' ⟨g', v', hw', hk', hH', rfl, p1, hv⟩
  obtain ⟨q1, q2⟩ := F.k1 hH' (by decide +kernel) j1
  refine kk v' g' τ' h' (F.step hw' hk' hH') ⟨I, B, p1, q1, ?_⟩
  rcases hv with ⟨-, k, ek, hk2, n1, n2⟩ | ⟨-, n1, n2⟩
  · exact Or.inl ⟨k, ek, hk2, n1, fun j hj hjk => by rw [n2 j hj hjk, q2 j hj]; exact lk j hj⟩
  · exact Or.inr ⟨n1, fun j hj => by rw [n2 j, q2 j hj]; exact lk j hj⟩
/-- image of the reference -/
theorem b_lmi {mid k mode r4 idx : Nat} {z : Int} {rest : List Value} (C : bC γ y (d + 1) b1 b2) (X : bX γ) (hE : dk_ok y Γ (pc, .invokevirtual idx, 3, mid, k, mode, r4, 11)) (hm : mode ≤ 1) (hq : Γ[mid]? = some (ey297, 3)) (hd0 : 3 ≤ d) (hk : 2 = k) (F : lI γ.1 x m u g τ h) (M : lM z x m h) (hz : brg z) (hsum : (rest.map fun v => v.category).sum ≤ 8) (hc : nc ≤ b1) (hs : ns ≤ b2) (kk : ∀ (v : Int) (g' : Nat → Nat) (τ' : bt) (h' : bh), lJ γ.1 x m u g' τ' h' → bJ γ (pc + 3) lo (.int (bz v) :: rest) τ' h' nc ns) : bJ γ pc lo (.int (bz z) :: .ref m :: rest) τ h nc ns := by
  have F := g12_li F
  obtain ⟨I, B, i1, j1, lm⟩ := M
  have hρ : ∀ s : Nat, brg ((fun _ : Nat => z) s) := fun _ => hz
  refine b_inv (As := [.int (bz z)]) (rest := rest) C X hE hm hq (eim2 (g12 g m) (fun _ => z) (fun _ => some m)) hd0 hk F.2.2.2.1.1 ⟨⟨F.1, F.2.1, hρ, ⟨⟨hρ, fun q hq => absurd hq List.not_mem_nil⟩, fun q hq => absurd hq List.not_mem_nil, fun q hq => ?_, fun q hq => absurd hq List.not_mem_nil⟩, ⟨cv_P rfl, cv_I (e := (0, [(0, 1)])) hz (by show 0 + (1 * z + 0) = z; omega), trivial⟩⟩, fun a b ha hb => g12_uq ha hb⟩ hsum hc hs ?_
  · obtain rfl := List.mem_singleton.mp hq
    refine Or.inr ⟨m, rfl, F.2.2.2.1.1, by decide, F.2.2.2.1.2.1, ?_⟩
    show (τ.2 m : Int) = 0 + 0
    rw [F.2.2.2.1.2.2]
    rfl
  · rintro v τ' h' ⟨⟨g', ρ', σ', hw', hk', hH', -, -, -⟩, h2', hv⟩
    have F' := F.step hw' hk' hH'
    have p1 : h'.2 x 3 = some I := by rw [h2']; exact i1
    have q1 : h'.2 m 23 = some B := by rw [h2']; exact j1
    rcases hv m _ B rfl j1 with ⟨rfl, k, ek, hk2, n1, n2⟩ | ⟨rfl, n1, n2⟩
    · refine kk 1 g' τ' h' ⟨F', I, B, p1, q1, fun j hj => ?_⟩
      rw [h2']
      have ek : (k : Int) = z := ek
      rcases lm with ⟨k', ek', -, s1, s2⟩ | ⟨s1, -⟩
      · obtain rfl : k' = k := by omega
        by_cases e : j = k'
        · subst e
          exact ⟨fun _ => n1, fun _ => s1⟩
        · rw [n2 j e]
          exact s2 j hj e
      · omega
    · refine kk 0 g' τ' h' ⟨F', I, B, p1, q1, fun j hj => ?_⟩
      rw [h2', n2 j]
      have n1 : ¬ (0 ≤ z ∧ z ≤ 1) := n1
      rcases lm with ⟨k', ek', hk', -⟩ | ⟨-, s2⟩
      · omega
      · exact s2 j hj
/-- restore of the class -/
theorem b_lvr {mid k mode r4 idx : Nat} {z : Int} {rest : List Value} (C : bC γ y (d + 1) b1 b2) (X : bX γ) (hE : dk_ok y Γ (pc, .invokevirtual idx, 3, mid, k, mode, r4, 10)) (hm : mode ≤ 1) (hq : Γ[mid]? = some (ey167, 3)) (hd0 : 4 ≤ d) (hk : 2 = k) (F : lJ γ.1 x m u g τ h) (hz : brg z) (hsum : (rest.map fun v => v.category).sum ≤ 8) (hc : nc ≤ b1) (hs : ns ≤ b2) (kk : ∀ (v : Int) (g' : Nat → Nat) (τ' : bt) (h' : bh), lJ γ.1 x m u g' τ' h' → (∀ B, h'.2 m 23 = some B → (v = 1 ∧ ∃ k : Nat, (k : Int) = z ∧ k < 2 ∧ h'.1 B k = 1) ∨ (v = 0 ∧ ¬ ∃ k : Nat, (k : Int) = z ∧ k < 2 ∧ h'.1 B k = 1)) → bJ γ (pc + 3) lo (.int (bz v) :: rest) τ' h' nc ns) : bJ γ pc lo (.int (bz z) :: .ref x :: rest) τ h nc ns := by
  obtain ⟨F, I, B, i1, j1, lk⟩ := F
  refine b_inv (As := [.int (bz z)]) (rest := rest) C X hE hm hq (vre_fun g x I z) hd0 hk F.2.2.1.1 ⟨rfl, hz, F.1, F.2.1, F.2.2.1, i1⟩ hsum hc hs ?_
  rintro v τ' h' ⟨g', v', hw', hk', hH', rfl, p1, p2, hv⟩
  obtain ⟨q1, q2⟩ := F.k1 hH' (by decide +kernel) j1
  refine kk v' g' τ' h' ⟨F.step hw' hk' hH', I, B, p1, q1, fun j hj => by rw [p2 j, q2 j hj]; exact lk j hj⟩ (fun B' hB' => ?_)
  rw [q1] at hB'
  cases hB'
  rcases hv with ⟨e, k, ek, hk2, n1⟩ | ⟨e, n1⟩
  · exact Or.inl ⟨e, k, ek, hk2, by rw [q2 k hk2]; exact (lk k hk2).1 n1⟩
  · exact Or.inr ⟨e, fun ⟨k, ek, hk2, n2⟩ => n1 ⟨k, ek, hk2, (lk k hk2).2 (by rw [← q2 k hk2]; exact n2)⟩⟩
/-- restore of the reference -/
theorem b_lmr {mid k mode r4 idx : Nat} {z : Int} {rest : List Value} (C : bC γ y (d + 1) b1 b2) (X : bX γ) (hE : dk_ok y Γ (pc, .invokevirtual idx, 3, mid, k, mode, r4, 11)) (hm : mode ≤ 1) (hq : Γ[mid]? = some (ey298, 3)) (hd0 : 3 ≤ d) (hk : 2 = k) (F : lJ γ.1 x m u g τ h) (hz : brg z) (hsum : (rest.map fun v => v.category).sum ≤ 8) (hc : nc ≤ b1) (hs : ns ≤ b2) (kk : ∀ (v : Int) (g' : Nat → Nat) (τ' : bt) (h' : bh), lJ γ.1 x m u g' τ' h' → (∀ B, h.2 m 23 = some B → (v = 1 ∧ ∃ k : Nat, (k : Int) = z ∧ k < 2 ∧ h.1 B k = 1) ∨ (v = 0 ∧ ¬ ∃ k : Nat, (k : Int) = z ∧ k < 2 ∧ h.1 B k = 1)) → bJ γ (pc + 3) lo (.int (bz v) :: rest) τ' h' nc ns) : bJ γ pc lo (.int (bz z) :: .ref m :: rest) τ h nc ns := by
  obtain ⟨I, B, i1, j1, lk⟩ := F.2
  obtain ⟨-, -, -, bB⟩ := F.1.bo j1
  have hρ : ∀ s : Nat, brg ((fun _ : Nat => z) s) := fun _ => hz
  refine b_inv (As := [.int (bz z)]) (rest := rest) C X hE hm hq (ere g (fun _ => z) (fun _ => some m)) hd0 hk F.1.2.2.2.1.1 ⟨F.1.1, F.1.2.1, hρ, ⟨⟨hρ, fun q hq => absurd hq List.not_mem_nil⟩, fun q hq => absurd hq List.not_mem_nil, fun q hq => ?_, fun q hq => absurd hq List.not_mem_nil⟩, ⟨cv_P rfl, cv_I (e := (0, [(0, 1)])) hz (by show 0 + (1 * z + 0) = z; omega), trivial⟩⟩ hsum hc hs ?_
  · obtain rfl := List.mem_singleton.mp hq
    refine Or.inr ⟨m, rfl, F.1.2.2.2.1.1, by decide, F.1.2.2.2.1.2.1, ?_⟩
    show (τ.2 m : Int) = 0 + 0
    rw [F.1.2.2.2.1.2.2]
    rfl
  · rintro v τ' h' ⟨⟨g', ρ', σ', hw', hk', hH', -, -, -⟩, hv⟩
    have F' := F.step hw' hk' hH' (by decide +kernel)
    rcases hv m _ B rfl j1 with ⟨rfl, k, ek, hk2, n1⟩ | ⟨rfl, n1⟩
    · refine kk 1 g' τ' h' F' (fun B' hB' => ?_)
      rw [j1] at hB'
      cases hB'
      have := bB k hk2
      exact Or.inl ⟨rfl, k, ek, hk2, by omega⟩
    · refine kk 0 g' τ' h' F' (fun B' hB' => ?_)
      rw [j1] at hB'
      cases hB'
      exact Or.inr ⟨rfl, fun ⟨k, ek, hk2, n2⟩ => n1 ⟨k, ek, hk2, by rw [n2]; decide⟩⟩
end LCJ
