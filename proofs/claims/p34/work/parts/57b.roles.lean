/-! ===== a new object of the reference: its roles ===== -/
def ros : Nat → Nat
  | 1 => 60
  | 14 => 61
  | 15 => 62
  | 16 => 63
  | 17 => 64
  | 18 => 65
  | 19 => 65
  | 20 => 66
  | 21 => 66
  | 22 => 67
  | 23 => 68
  | 24 => 69
  | 26 => 70
  | 27 => 71
  | 30 => 72
  | 31 => 73
  | 34 => 74
  | _ => 0
def inG (g : Nat → Nat) (m : Nat) (l : List nQ) (b : Nat) : Nat := if b = m then 12 else match l.find? (fun q => decide (q.2.2.2 = b)) with
  | some q => ros q.1
  | none => g b
theorem inG_q {g : Nat → Nat} {m : Nat} {l : List nQ} (hp : l.Pairwise (fun p q => p.2.2.2 ≠ q.2.2.2)) {q : nQ} (hq : q ∈ l) (hm : q.2.2.2 ≠ m) : inG g m l q.2.2.2 = ros q.1 := by
  have key : l.find? (fun p => decide (p.2.2.2 = q.2.2.2)) = some q := by
    clear hm
    induction l with
    | nil => exact absurd hq List.not_mem_nil
    | cons p l ih =>
      obtain ⟨p1, p2⟩ := List.pairwise_cons.mp hp
      rcases List.mem_cons.mp hq with rfl | hq
      · rw [List.find?_cons_of_pos (by simp)]
      · rw [List.find?_cons_of_neg (by simp; exact p1 q hq)]
        exact ih p2 hq
  unfold inG
  rw [if_neg hm, key]
theorem inG_o {g : Nat → Nat} {m b : Nat} {l : List nQ} (hm : b ≠ m) (hl : ∀ q ∈ l, q.2.2.2 ≠ b) : inG g m l b = g b := by
  have key : l.find? (fun p => decide (p.2.2.2 = b)) = none := List.find?_eq_none.mpr (fun q hq => by simpa using hl q hq)
  unfold inG
  rw [if_neg hm, key]
theorem inG_m {g : Nat → Nat} {m : Nat} {l : List nQ} : inG g m l m = 12 := if_pos rfl
def rv (i : Nat) : Int := if i = 6 then -1 else if i = 5 then 1 else if i = 4 then 3 else if i = 3 then 12 else if i = 2 then 2 else if i = 1 then 1 else if i = 0 then 8 else 0
def nv1 (j : Nat) : Int := if 37 ≤ j ∧ j < 43 then -1 else if j = 53 then -1 else if j = 36 then 0 else if 28 ≤ j ∧ j < 3024 then 0 else if j < 28 then rv j else 0
def nv (i : Nat) : Int := if 535 ≤ i ∧ i < 1024 then nv1 (46 + (i - 535)) else nv1 i
theorem inH_oth {h : bh} {a r o b : Nat} (h1 : b ≠ a) (h2 : b ≠ r) (h3 : b ≠ o) (i : Nat) : (inH h a r o).1 b i = h.1 b i := by
  simp [inH, bcp, bfl, bsetI, h1, h2, h3]
theorem inH_o {h : bh} {a r o : Nat} (h1 : o ≠ a) (h2 : o ≠ r) (h0 : ∀ i, h.1 o i = 0) (i : Nat) : (inH h a r o).1 o i = 0 := by
  simp [inH, bcp, bfl, bsetI, h1, h2, h0]
theorem inH_r1 {h : bh} {r o : Nat} (h2 : r ≠ o) (h0 : ∀ i, h.1 r i = 0) (i : Nat) : (bsetI (bsetI (bsetI (bsetI (bsetI (bsetI (bsetI (bfl (bfl h r 0 0 28) o 0 0 7) r 0 8) r 1 1) r 2 2) r 3 12) r 4 3) r 5 1) r 6 (-1)).1 r i = rv i := by
  simp [bfl, bsetI, h2, h0, rv]
theorem inH_r {h : bh} {a r o : Nat} (h1 : r ≠ a) (h2 : r ≠ o) (h0 : ∀ i, h.1 r i = 0) (i : Nat) : (inH h a r o).1 r i = rv i := by
  rw [← inH_r1 (h := h) (o := o) h2 h0 i]
  simp [inH, bcp, bfl, bsetI, h1]
theorem inH_a {h : bh} {a r o : Nat} (h1 : r ≠ a) (h2 : r ≠ o) (h3 : o ≠ a) (h0 : ∀ i, h.1 r i = 0) (ha : ∀ i, h.1 a i = 0) (i : Nat) : (inH h a r o).1 a i = nv i := by
  have x1 : ∀ j, (bsetI (bsetI (bsetI (bsetI (bsetI (bsetI (bsetI (bfl (bfl h r 0 0 28) o 0 0 7) r 0 8) r 1 1) r 2 2) r 3 12) r 4 3) r 5 1) r 6 (-1)).1 a j = 0 := by
    intro j
    simp [bfl, bsetI, h1.symm, h3.symm, ha]
  have e : ∀ j, (bfl (bsetI (bsetI (bfl (bcp (bsetI (bsetI (bsetI (bsetI (bsetI (bsetI (bsetI (bfl (bfl h r 0 0 28) o 0 0 7) r 0 8) r 1 1) r 2 2) r 3 12) r 4 3) r 5 1) r 6 (-1)) a 0 r 0 28) a 28 0 2996) a 36 ((bfl (bcp (bsetI (bsetI (bsetI (bsetI (bsetI (bsetI (bsetI (bfl (bfl h r 0 0 28) o 0 0 7) r 0 8) r 1 1) r 2 2) r 3 12) r 4 3) r 5 1) r 6 (-1)) a 0 r 0 28) a 28 0 2996).1 a 9)) a 53 (-1)) a 37 (-1) 6).1 a j = nv1 j := by
    intro j
    generalize eq1 : (bsetI (bsetI (bsetI (bsetI (bsetI (bsetI (bsetI (bfl (bfl h r 0 0 28) o 0 0 7) r 0 8) r 1 1) r 2 2) r 3 12) r 4 3) r 5 1) r 6 (-1)) = H at x1
    have x2 : ∀ j, H.1 r j = rv j := fun j => by rw [← eq1]; exact inH_r1 h2 h0 j
    have x3 : (bfl (bcp H a 0 r 0 28) a 28 0 2996).1 a 9 = 0 := by
      simp [bfl, bcp, x2]
      decide
    rw [x3]
    simp [bfl, bcp, bsetI, x1, x2, nv1]
  show (if a = a ∧ 535 ≤ i ∧ i < 535 + 489 then _ else _) = _
  unfold nv
  by_cases c : 535 ≤ i ∧ i < 1024
  · rw [if_pos c, if_pos ⟨rfl, c.1, by omega⟩]
    exact e _
  · rw [if_neg c, if_neg (by omega)]
    exact e _
theorem in_tab : ∀ t ∈ ([(34, 41, 240), (31, 41, 4), (30, 41, 120), (27, 41, 3), (26, 41, 38), (24, 43, 7), (23, 43, 2), (22, 44, 20), (21, 44, 10), (20, 44, 10), (19, 41, 2996), (18, 41, 2996), (17, 41, 23968), (16, 41, 6532), (15, 41, 28), (14, 41, 3266), (1, 41, 940)] : List (Nat × Nat × Nat)), cfR cT0 (ros t.1) = some (t.2.1, (t.2.2 : Int), (t.2.2 : Int), cSg (ros t.1)) ∧ t.2.1 ≠ 0 ∧ ros t.1 ≠ 0 ∧ ros t.1 ≠ 12 ∧ ¬ (30 ≤ ros t.1 ∧ ros t.1 ≤ 34) := by
  intro t ht
  refine ⟨?_, (by decide +kernel : ∀ t ∈ ([(34, 41, 240), (31, 41, 4), (30, 41, 120), (27, 41, 3), (26, 41, 38), (24, 43, 7), (23, 43, 2), (22, 44, 20), (21, 44, 10), (20, 44, 10), (19, 41, 2996), (18, 41, 2996), (17, 41, 23968), (16, 41, 6532), (15, 41, 28), (14, 41, 3266), (1, 41, 940)] : List (Nat × Nat × Nat)), t.2.1 ≠ 0 ∧ ros t.1 ≠ 0 ∧ ros t.1 ≠ 12 ∧ ¬ (30 ≤ ros t.1 ∧ ros t.1 ≤ 34)) t ht⟩
  rcases List.mem_cons.mp ht with rfl | ht
  · rfl
  rcases List.mem_cons.mp ht with rfl | ht
  · rfl
  rcases List.mem_cons.mp ht with rfl | ht
  · rfl
  rcases List.mem_cons.mp ht with rfl | ht
  · rfl
  rcases List.mem_cons.mp ht with rfl | ht
  · rfl
  rcases List.mem_cons.mp ht with rfl | ht
  · rfl
  rcases List.mem_cons.mp ht with rfl | ht
  · rfl
  rcases List.mem_cons.mp ht with rfl | ht
  · rfl
  rcases List.mem_cons.mp ht with rfl | ht
  · rfl
  rcases List.mem_cons.mp ht with rfl | ht
  · rfl
  rcases List.mem_cons.mp ht with rfl | ht
  · rfl
  rcases List.mem_cons.mp ht with rfl | ht
  · rfl
  rcases List.mem_cons.mp ht with rfl | ht
  · rfl
  rcases List.mem_cons.mp ht with rfl | ht
  · rfl
  rcases List.mem_cons.mp ht with rfl | ht
  · rfl
  rcases List.mem_cons.mp ht with rfl | ht
  · rfl
  obtain rfl := List.mem_singleton.mp ht
  rfl
theorem in_tabz : ∀ t ∈ ([(34, 41, 240), (31, 41, 4), (30, 41, 120), (27, 41, 3), (26, 41, 38), (24, 43, 7), (23, 43, 2), (22, 44, 20), (21, 44, 10), (20, 44, 10), (19, 41, 2996), (18, 41, 2996), (17, 41, 23968), (16, 41, 6532), (15, 41, 28), (14, 41, 3266), (1, 41, 940)] : List (Nat × Nat × Nat)), t.1 = 14 ∨ t.1 = 15 ∨ ∀ s ∈ cSg (ros t.1), (s.2.1 = 0 → s.2.2.1 ≤ 0 ∧ 0 ≤ s.2.2.2.1) ∧ s.2.1 ≠ 1 := by decide +kernel
noncomputable def nvq (n : Nat) : Bool := @Nat.rec (fun _ => Bool) true (fun k ih => cond (decide ((cseg (cSg 61) k).1 = 0 → (cseg (cSg 61) k).2.1 ≤ nv k ∧ nv k ≤ (cseg (cSg 61) k).2.2.1)) ih false) n
theorem nvq_ok : ∀ n, nvq n = true → ∀ i, i < n → (cseg (cSg 61) i).1 = 0 → (cseg (cSg 61) i).2.1 ≤ nv i ∧ nv i ≤ (cseg (cSg 61) i).2.2.1 := by
  intro n
  induction n with
  | zero => intro _ i hi; omega
  | succ n ih =>
    intro h i hi
    obtain ⟨h1, h2⟩ := c_and (show cond (decide ((cseg (cSg 61) n).1 = 0 → (cseg (cSg 61) n).2.1 ≤ nv n ∧ nv n ≤ (cseg (cSg 61) n).2.2.1)) (nvq n) false = true from h)
    by_cases e : i = n
    · subst e
      exact of_decide_eq_true h1
    · exact ih h2 i (by omega)
theorem in_now : ∀ i, i < 3266 → (cseg (cSg 61) i).1 = 0 → (cseg (cSg 61) i).2.1 ≤ nv i ∧ nv i ≤ (cseg (cSg 61) i).2.2.1 := nvq_ok 3266 (by decide +kernel)
theorem in_read : ∀ i, i < 28 → (cseg (cSg 62) i).1 = 0 → (cseg (cSg 62) i).2.1 ≤ rv i ∧ rv i ≤ (cseg (cSg 62) i).2.2.1 := by decide +kernel
theorem in_r1 : (∀ s ∈ cSg 61, s.2.1 ≠ 1) ∧ ∀ s ∈ cSg 62, s.2.1 ≠ 1 ∧ s.2.1 ≠ 3 ∧ s.1 ≤ 28 := by decide +kernel
theorem in_obj : ∀ i, i < 39 → ((cseg (cSg 12) i).1 = 0 → (cseg (cSg 12) i).2.1 ≤ 0 ∧ 0 ≤ (cseg (cSg 12) i).2.2.1) ∧ ((cseg (cSg 12) i).1 = 1 → (cseg (cSg 12) i).2.2.2.1 = ros i ∧ i ∈ ([34, 31, 30, 27, 26, 24, 23, 22, 21, 20, 19, 18, 17, 16, 15, 14, 1] : List Nat)) := by decide +kernel
theorem in_objz : (∀ s ∈ cSg 12, s.1 ≤ 39) ∧ (cseg (cSg 12) 23).1 = 1 ∧ (cseg (cSg 12) 23).2.2.2.1 = 68 ∧ (cseg (cSg 12) 16).1 = 1 ∧ (cseg (cSg 12) 16).2.2.2.1 = 63 := by decide +kernel
theorem in_nz : (¬ ∀ s ∈ cSg 61, (s.2.1 = 0 → s.2.2.1 ≤ 0 ∧ 0 ≤ s.2.2.2.1) ∧ s.2.1 ≠ 1) ∧ ¬ ∀ s ∈ cSg 62, (s.2.1 = 0 → s.2.2.1 ≤ 0 ∧ 0 ≤ s.2.2.2.1) ∧ s.2.1 ≠ 1 := by decide +kernel
theorem in_back {g : Nat → Nat} {τ : bt} {m b k : Nat} {l : List nQ} (hm0 : τ.1 m ≠ 0) (nm : ∀ q ∈ l, q.2.2.2 ≠ m) (i3 : l.Pairwise (fun p q => p.2.2.2 ≠ q.2.2.2)) (ht : ∀ q ∈ l, ¬ (30 ≤ ros q.1 ∧ ros q.1 ≤ 34)) (hk : 30 ≤ k ∧ k ≤ 34) (hb : inG g m l b = k) : g b = k := by
  by_cases e : b = m
  · subst e
    rw [inG_m] at hb
    omega
  · by_cases hq : ∃ q ∈ l, q.2.2.2 = b
    · obtain ⟨q, hq, rfl⟩ := hq
      rw [inG_q i3 hq (nm q hq)] at hb
      exact absurd ⟨by omega, by omega⟩ (ht q hq)
    · rw [inG_o e (fun q hq' e => hq ⟨q, hq', e⟩)] at hb
      exact hb
theorem in_wt {g : Nat → Nat} {τ τ' : bt} {h h1 : bh} {ι : bI} {m a r o : Nat} {l : List nQ} (hw : cWT cT0 g τ h) (hk : cKt ι g) (gm : g m = 0) (tm : τ.1 m = 12) (lm : τ.2 m = 0) (zm : ∀ i, h.1 m i = 0) (I : nMk m τ h l τ' h1) (hl : l.map (fun q => (q.1, q.2.1, q.2.2.1)) = [(34, 41, 240), (31, 41, 4), (30, 41, 120), (27, 41, 3), (26, 41, 38), (24, 43, 7), (23, 43, 2), (22, 44, 20), (21, 44, 10), (20, 44, 10), (19, 41, 2996), (18, 41, 2996), (17, 41, 23968), (16, 41, 6532), (15, 41, 28), (14, 41, 3266), (1, 41, 940)]) (ha : h1.2 m 14 = some a) (hr : h1.2 m 15 = some r) (ho : h1.2 m 24 = some o) : cWT cT0 (inG g m l) τ' (inH h1 a r o) ∧ cKt ι (inG g m l) ∧ (∀ b, g b ≠ 0 → inG g m l b = g b) ∧ (∀ b, inG g m l b = 12 → b = m ∨ g b = 12) ∧ τ'.1 m = 12 ∧ τ'.2 m = 0 := by
  have hm0 : τ.1 m ≠ 0 := by omega
  obtain ⟨i1, i2, i3, i4⟩ := I
  have tb : ∀ q ∈ l, (q.1, q.2.1, q.2.2.1) ∈ ([(34, 41, 240), (31, 41, 4), (30, 41, 120), (27, 41, 3), (26, 41, 38), (24, 43, 7), (23, 43, 2), (22, 44, 20), (21, 44, 10), (20, 44, 10), (19, 41, 2996), (18, 41, 2996), (17, 41, 23968), (16, 41, 6532), (15, 41, 28), (14, 41, 3266), (1, 41, 940)] : List (Nat × Nat × Nat)) := fun q hq => hl ▸ List.mem_map_of_mem hq
  have uq : ∀ {k : Nat} {c : Nat}, h1.2 m k = some c → k ∈ ([34, 31, 30, 27, 26, 24, 23, 22, 21, 20, 19, 18, 17, 16, 15, 14, 1] : List Nat) → ∃ kd n, (k, kd, n, c) ∈ l := by
    intro k c hc hk
    have hk' : k ∈ l.map (fun q => q.1) := by
      have : l.map (fun q => q.1) = ([(34, 41, 240), (31, 41, 4), (30, 41, 120), (27, 41, 3), (26, 41, 38), (24, 43, 7), (23, 43, 2), (22, 44, 20), (21, 44, 10), (20, 44, 10), (19, 41, 2996), (18, 41, 2996), (17, 41, 23968), (16, 41, 6532), (15, 41, 28), (14, 41, 3266), (1, 41, 940)] : List (Nat × Nat × Nat)).map (fun t => t.1) := by rw [← hl, List.map_map]; rfl
      rw [this]
      exact hk
    obtain ⟨⟨k', kd, n, c'⟩, hq, rfl⟩ := List.mem_map.mp hk'
    obtain ⟨-, -, -, -, -, j6⟩ := i2 _ hq
    have j6 : h1.2 m k' = some c' := j6
    have hc : h1.2 m k' = some c := hc
    rw [hc] at j6
    cases j6
    exact ⟨kd, n, hq⟩
  have nm : ∀ q ∈ l, q.2.2.2 ≠ m := fun q hq e => hm0 (by rw [← e]; exact (i2 q hq).1)
  have old : ∀ b, g b ≠ 0 → b ≠ m ∧ (∀ q ∈ l, q.2.2.2 ≠ b) ∧ τ.1 b ≠ 0 := by
    intro b hb
    obtain ⟨R, -, r2, r3, -⟩ := hw b hb
    have tb0 : τ.1 b ≠ 0 := by rw [r2]; exact r3
    exact ⟨fun e => hb (by rw [e]; exact gm), fun q hq e => tb0 (by rw [← e]; exact (i2 q hq).1), tb0⟩
  have gold : ∀ b, g b ≠ 0 → inG g m l b = g b := fun b hb => inG_o (old b hb).1 (old b hb).2.1
  obtain ⟨kda, na, qa⟩ := uq ha (by decide)
  obtain ⟨kdr, nr, qr⟩ := uq hr (by decide)
  obtain ⟨kdo, no, qo⟩ := uq ho (by decide)
  have ga : inG g m l a = 61 := inG_q i3 qa (nm _ qa)
  have gr : inG g m l r = 62 := inG_q i3 qr (nm _ qr)
  have go : inG g m l o = 69 := inG_q i3 qo (nm _ qo)
  have nra : r ≠ a := fun e => by rw [e] at gr; omega
  have nro : r ≠ o := fun e => by rw [e] at gr; omega
  have noa : o ≠ a := fun e => by rw [e] at go; omega
  have za := (i2 _ qa).2.2.2.1
  have zr := (i2 _ qr).2.2.2.1
  have zo := (i2 _ qo).2.2.2.1
  have ntm : m ≠ a ∧ m ≠ r ∧ m ≠ o := ⟨fun e => nm _ qa e.symm, fun e => nm _ qr e.symm, fun e => nm _ qo e.symm⟩
  refine ⟨?_, ⟨fun j hj => ?_, fun b hb => ?_, fun b hb => ?_, fun b hb => ?_⟩, gold, fun b hb => ?_, (i1 m hm0).1.trans tm, (i1 m hm0).2.1.trans lm⟩
  · intro b hb
    by_cases e : b = m
    · subst e
      rw [inG_m]
      refine ⟨_, cR12, (i1 b hm0).1.trans tm, by decide, ⟨by rw [(i1 b hm0).2.1, lm]; exact Int.le_refl _, by rw [(i1 b hm0).2.1, lm]; exact Int.le_refl _⟩, fun i => ?_, fun z => absurd (show 41 ≤ 12 from z) (by decide), fun _ B K hB hK k hk hm' => ?_, fun _ => in_objz.2⟩
      · have v0 : (inH h1 a r o).1 b i = 0 := by rw [inH_oth ntm.1 ntm.2.1 ntm.2.2, (i1 b hm0).2.2.1 i]; exact zm i
        by_cases hi : i < 39
        · refine ⟨fun z => ?_, fun z => ?_⟩
          · rw [v0]
            exact (in_obj i hi).1 z
          · obtain ⟨z1, z2⟩ := (in_obj i hi).2 z
            right
            have hk' : i ∈ l.map (fun q => q.1) := by
              have : l.map (fun q => q.1) = ([(34, 41, 240), (31, 41, 4), (30, 41, 120), (27, 41, 3), (26, 41, 38), (24, 43, 7), (23, 43, 2), (22, 44, 20), (21, 44, 10), (20, 44, 10), (19, 41, 2996), (18, 41, 2996), (17, 41, 23968), (16, 41, 6532), (15, 41, 28), (14, 41, 3266), (1, 41, 940)] : List (Nat × Nat × Nat)).map (fun t => t.1) := by rw [← hl, List.map_map]; rfl
              rw [this]
              exact z2
            obtain ⟨q, hq, rfl⟩ := List.mem_map.mp hk'
            refine ⟨q.2.2.2, (i2 q hq).2.2.2.2.2, ?_, ?_⟩
            · rw [inG_q i3 hq (nm q hq)]
              exact z1.symm
            · rw [inG_q i3 hq (nm q hq)]
              exact (in_tab _ (tb q hq)).2.2.1
        · have : cseg (cSg 12) i = (2, 0, 0, 0, false) := cseg_far (u := 39) (by omega) _ in_objz.1
          refine ⟨fun z => ?_, fun z => ?_⟩
          · have z : (cseg (cSg 12) i).1 = 0 := z
            rw [this] at z; cases z
          · have z : (cseg (cSg 12) i).1 = 1 := z
            rw [this] at z; cases z
      · obtain ⟨kd, n, qB⟩ := uq (show h1.2 b 23 = some B from hB) (by decide)
        have nB := (i2 _ qB).2.2.2.1
        have gB : inG g b l B = 68 := inG_q i3 qB (nm _ qB)
        rw [inH_oth (fun e => by rw [e] at gB; omega) (fun e => by rw [e] at gB; omega) (fun e => by rw [e] at gB; omega), nB k] at hm'
        exact absurd hm' (by decide)
    · by_cases hq : ∃ q ∈ l, q.2.2.2 = b
      · obtain ⟨q, hq, rfl⟩ := hq
        obtain ⟨j1, j2, j3, j4, j5, j6⟩ := i2 q hq
        obtain ⟨t1, t2, t3, t4, t5⟩ := in_tab _ (tb q hq)
        have gq := inG_q (g := g) i3 hq (nm q hq)
        rw [gq]
        refine ⟨_, t1, j2, t2, ⟨by rw [j3]; exact Int.le_refl _, by rw [j3]; exact Int.le_refl _⟩, ?_, ?_, fun e12 => absurd (gq.symm.trans e12) t4, fun e12 => absurd e12 t4⟩
        · intro i
          rcases in_tabz _ (tb q hq) with e14 | e15 | hz
          · have e14 : q.1 = 14 := e14
            have eq : q.2.2.2 = a := by rw [e14, ha] at j6; cases j6; rfl
            rw [e14, eq]
            refine ⟨fun z => ?_, fun z => ?_⟩
            · have z : (cseg (cSg 61) i).1 = 0 := z
              rw [inH_a nra nro noa zr za]
              by_cases hi : i < 3266
              · exact in_now i hi z
              · rw [cseg_far (u := 3266) (by omega) _ g61u] at z
                cases z
            · rcases cseg_mem (cSg 61) i with w | ⟨s, s1, s2⟩
              · have z : (cseg (cSg 61) i).1 = 1 := z
                omega
              · have z : (cseg (cSg 61) i).1 = 1 := z
                rw [s2] at z
                exact absurd z (in_r1.1 s s1)
          · have e15 : q.1 = 15 := e15
            have eq : q.2.2.2 = r := by rw [e15, hr] at j6; cases j6; rfl
            rw [e15, eq]
            refine ⟨fun z => ?_, fun z => ?_⟩
            · have z : (cseg (cSg 62) i).1 = 0 := z
              rw [inH_r nra nro zr]
              by_cases hi : i < 28
              · exact in_read i hi z
              · rw [cseg_far (u := 28) (by omega) _ (fun s hs => (in_r1.2 s hs).2.2)] at z
                cases z
            · rcases cseg_mem (cSg 62) i with w | ⟨s, s1, s2⟩
              · have z : (cseg (cSg 62) i).1 = 1 := z
                omega
              · have z : (cseg (cSg 62) i).1 = 1 := z
                rw [s2] at z
                exact absurd z (in_r1.2 s s1).1
          · have v0 : (inH h1 a r o).1 q.2.2.2 i = 0 := by
              by_cases eo : q.2.2.2 = o
              · rw [eo]; exact inH_o noa nro.symm zo i
              · by_cases ea : q.2.2.2 = a
                · exfalso
                  have hz : ∀ s ∈ cSg (ros q.1), (s.2.1 = 0 → s.2.2.1 ≤ 0 ∧ 0 ≤ s.2.2.2.1) ∧ s.2.1 ≠ 1 := hz
                  rw [← gq, ea, ga] at hz
                  exact absurd hz in_nz.1
                · by_cases er : q.2.2.2 = r
                  · exfalso
                    have hz : ∀ s ∈ cSg (ros q.1), (s.2.1 = 0 → s.2.2.1 ≤ 0 ∧ 0 ≤ s.2.2.2.1) ∧ s.2.1 ≠ 1 := hz
                    rw [← gq, er, gr] at hz
                    exact absurd hz in_nz.2
                  · rw [inH_oth ea er eo]; exact j4 i
            have hz : ∀ s ∈ cSg (ros q.1), (s.2.1 = 0 → s.2.2.1 ≤ 0 ∧ 0 ≤ s.2.2.2.1) ∧ s.2.1 ≠ 1 := hz
            rcases cseg_mem (cSg (ros q.1)) i with w | ⟨s, s1, s2⟩
            · refine ⟨fun z => ?_, fun z => ?_⟩
              · have z : (cseg (cSg (ros q.1)) i).1 = 0 := z
                omega
              · have z : (cseg (cSg (ros q.1)) i).1 = 1 := z
                omega
            · refine ⟨fun z => ?_, fun z => ?_⟩
              · have z : (cseg (cSg (ros q.1)) i).1 = 0 := z
                show (cseg (cSg (ros q.1)) i).2.1 ≤ _ ∧ _ ≤ (cseg (cSg (ros q.1)) i).2.2.1
                rw [v0, s2]
                rw [s2] at z
                exact (hz s s1).1 z
              · have z : (cseg (cSg (ros q.1)) i).1 = 1 := z
                rw [s2] at z
                exact absurd z (hz s s1).2
        · intro _ s hs s3
          by_cases ea : q.2.2.2 = a
          · have hs : s ∈ cSg (ros q.1) := hs
            rw [← gq, ea, ga] at hs
            rw [ea]
            have z0 : ∀ i, 1504 ≤ i → (inH h1 a r o).1 a i = 0 := by
              intro i hi
              rw [inH_a nra nro noa zr za]
              unfold nv
              rw [if_neg (by omega)]
              unfold nv1
              rw [if_neg (by omega), if_neg (by omega), if_neg (by omega)]
              by_cases c : 28 ≤ i ∧ i < 3024
              · rw [if_pos c]
              · rw [if_neg c, if_neg (by omega)]
            have z45 : (inH h1 a r o).1 a 45 = 0 := by
              rw [inH_a nra nro noa zr za]
              decide
            rcases g61 s hs s3 with ⟨e1, e2⟩ | ⟨e1, e2⟩
            · rw [e1, e2]
              refine ⟨fun _ u hu => ublk_eq (f := fun _ => 0) (fun i i1 _ => z0 i (by omega)) (ublk_0 _), fun z => by omega, fun z => by omega, fun _ u u1 u2 _ => ?_⟩
              rw [z45] at u2
              omega
            · rw [e1, e2]
              exact creg_eq (f := fun _ => 0) (fun i hi => by
                rcases hi with ⟨h1, -⟩ | ⟨h2, -⟩
                · exact z0 i (by omega)
                · omega) (creg_zero fun _ => rfl)
          · by_cases er : q.2.2.2 = r
            · have hs : s ∈ cSg (ros q.1) := hs
              rw [← gq, er, gr] at hs
              exact absurd s3 (in_r1.2 s hs).2.1
            · refine creg_zero fun i => ?_
              by_cases eo : q.2.2.2 = o
              · rw [eo]; exact inH_o noa nro.symm zo i
              · rw [inH_oth ea er eo]; exact j4 i
      · have hq : ∀ q ∈ l, q.2.2.2 ≠ b := fun q hq' e => hq ⟨q, hq', e⟩
        rw [inG_o e hq] at hb ⊢
        obtain ⟨R, r1, r2, r3, r4, r5, r6, r7, r8⟩ := hw b hb
        have tb0 := (old b hb).2.2
        obtain ⟨x1, x2, x3, x4⟩ := i1 b tb0
        have ne : ∀ b, g b ≠ 0 → b ≠ a ∧ b ≠ r ∧ b ≠ o := fun b hb => ⟨fun e => (old b hb).2.1 _ qa e.symm, fun e => (old b hb).2.1 _ qr e.symm, fun e => (old b hb).2.1 _ qo e.symm⟩
        have vb : ∀ b, g b ≠ 0 → ∀ i, (inH h1 a r o).1 b i = h.1 b i := fun b hb i => by rw [inH_oth (ne b hb).1 (ne b hb).2.1 (ne b hb).2.2]; exact (i1 b (old b hb).2.2).2.2.1 i
        have v2 : ∀ i, (inH h1 a r o).2 b i = h.2 b i := fun i => x4 i e
        refine ⟨R, r1, x1.trans r2, r3, by rw [x2]; exact r4, fun i => ⟨fun z => ?_, fun z => ?_⟩, fun k41 q hq q3 => creg_eq (fun i _ => vb b hb i) (r6 k41 q hq q3), fun e12 B K hB hK k hk hm' => ?_, r8⟩
        · rw [vb b hb]; exact (r5 i).1 z
        · rw [v2]
          rcases (r5 i).2 z with w | ⟨c, c1, c2, c3⟩
          · exact Or.inl w
          · exact Or.inr ⟨c, c1, by rw [gold c c3]; exact c2, by rw [gold c c3]; exact c3⟩
        · rw [inG_o e hq] at e12
          rw [v2] at hB hK
          obtain ⟨w1, w2, w3, w4⟩ := r8 e12
          have gB : g B ≠ 0 := by
            rcases (r5 23).2 w1 with ⟨-, z⟩ | ⟨c, c1, c2, c3⟩
            · rw [hB] at z; cases z
            · rw [hB] at c1; cases c1; exact c3
          have gK : g K ≠ 0 := by
            rcases (r5 16).2 w3 with ⟨-, z⟩ | ⟨c, c1, c2, c3⟩
            · rw [hK] at z; cases z
            · rw [hK] at c1; cases c1; exact c3
          rw [vb B gB] at hm'
          have kk := r7 e12 B K hB hK k hk hm'
          unfold chdk at *
          rw [vb K gK, vb K gK, vb K gK]
          exact kk
  · have e := hk.1 j hj
    rw [gold _ (by rw [e]; exact crk_ne j)]
    exact e
  · exact hk.2.1 b (in_back hm0 nm i3 (fun q hq => (in_tab _ (tb q hq)).2.2.2.2) (by omega) hb)
  · exact hk.2.2.1 b (in_back hm0 nm i3 (fun q hq => (in_tab _ (tb q hq)).2.2.2.2) (by omega) hb)
  · exact hk.2.2.2 b (in_back hm0 nm i3 (fun q hq => (in_tab _ (tb q hq)).2.2.2.2) (by omega) hb)
  · by_cases e : b = m
    · exact Or.inl e
    · right
      by_cases hq : ∃ q ∈ l, q.2.2.2 = b
      · obtain ⟨q, hq, rfl⟩ := hq
        rw [inG_q i3 hq (nm q hq)] at hb
        exact absurd hb (in_tab _ (tb q hq)).2.2.2.1
      · rw [inG_o e (fun q hq' e => hq ⟨q, hq', e⟩)] at hb
        exact hb
