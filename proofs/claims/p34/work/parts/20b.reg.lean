/-! ===== stretches of an array of ints with a shape of their own (the reference's units, its tree) ===== -/
/-- a unit: kind, TICK, from, many, spoilt, how many numbers, 32 numbers -/
def ublk (f : Nat → Int) (b : Nat) : Prop := (0 ≤ f b ∧ f b ≤ 6) ∧ ((-1 ≤ f (b + 2) ∧ f (b + 2) ≤ 240) ∧ (f b = 1 → 0 ≤ f (b + 2))) ∧ (f b = 0 → 0 ≤ f (b + 2) ∧ f (b + 3) ≤ 32 ∧ f (b + 2) + f (b + 3) ≤ 240) ∧ (f b = 2 → f (b + 2) ≤ 8 ∧ 0 ≤ f (b + 5) ∧ f (b + 5) ≤ 16 ∧ ∀ r : Nat, r < 32 → -1 ≤ f (b + 6 + r) ∧ f (b + 6 + r) ≤ 240)
/-- a node of the tree: children lie below it -/
def tnod (f : Nat → Int) (b n : Nat) : Prop := (f b = 1 ∨ f b = 2 ∨ f b = 3) → (0 ≤ f (b + 1) ∧ f (b + 1) < n) ∧ (f b ≠ 1 → 0 ≤ f (b + 2) ∧ f (b + 2) < n)
/-- by its code: 1 units from a place on, 2 a tree, 3 one unit, 5 units, and those from o on are not due (o: a slot beyond the array's end, 5000) -/
def creg (c : Int) (b : Nat) (f : Nat → Int) : Prop := ((c = 1 ∨ c = 5) → ∀ u : Nat, u < 40 → ublk f (b + 38 * u)) ∧ (c = 2 → ∀ n : Nat, n < 60 → tnod f (b + 4 * n) n) ∧ (c = 3 → ublk f b) ∧ (c = 5 → ∀ u : Nat, f 5000 ≤ u → (u : Int) < f 45 → u < 40 → f (b + 38 * u + 1) ≠ f 28)
/-- places that it speaks of -/
def cin (c : Int) (b i : Nat) : Prop := (b ≤ i ∧ ((c = 2 ∧ i < b + 240) ∨ (c = 3 ∧ i < b + 38) ∨ (c ≠ 2 ∧ c ≠ 3 ∧ i < b + 1520))) ∨ (c = 5 ∧ (i = 28 ∨ i = 45 ∨ i = 5000))
theorem ublk_eq {f f' : Nat → Int} {b : Nat} (h : ∀ i, b ≤ i → i < b + 38 → f' i = f i) (hu : ublk f b) : ublk f' b := by
  unfold ublk at *
  rw [h b (by omega) (by omega), h (b + 2) (by omega) (by omega), h (b + 3) (by omega) (by omega), h (b + 5) (by omega) (by omega)]
  refine ⟨hu.1, hu.2.1, hu.2.2.1, fun z => ?_⟩
  obtain ⟨h1, h2, h3, h4⟩ := hu.2.2.2 z
  refine ⟨h1, h2, h3, fun r hr => ?_⟩
  rw [h (b + 6 + r) (by omega) (by omega)]
  exact h4 r hr
theorem tnod_eq {f f' : Nat → Int} {b n : Nat} (h : ∀ i, b ≤ i → i < b + 4 → f' i = f i) (hu : tnod f b n) : tnod f' b n := by
  unfold tnod at *
  rw [h b (by omega) (by omega), h (b + 1) (by omega) (by omega), h (b + 2) (by omega) (by omega)]
  exact hu
theorem creg_eq {c : Int} {b : Nat} {f f' : Nat → Int} (h : ∀ i, cin c b i → f' i = f i) (hr : creg c b f) : creg c b f' := by
  obtain ⟨h1, h2, h3, h4⟩ := hr
  refine ⟨fun z u hu => ublk_eq (fun i i1 i2 => h i (Or.inl ⟨by omega, ?_⟩)) (h1 z u hu), fun z n hn => tnod_eq (fun i i1 i2 => h i (Or.inl ⟨by omega, Or.inl ⟨z, by omega⟩⟩)) (h2 z n hn), fun z => ublk_eq (fun i i1 i2 => h i (Or.inl ⟨i1, Or.inr (Or.inl ⟨z, i2⟩)⟩)) (h3 z), fun z u ho hu hl => ?_⟩
  · right; right
    refine ⟨?_, ?_, by omega⟩ <;> rcases z with z | z <;> omega
  · rw [h 45 (Or.inr ⟨z, Or.inr (Or.inl rfl)⟩)] at hu
    rw [h 5000 (Or.inr ⟨z, Or.inr (Or.inr rfl)⟩)] at ho
    rw [h 28 (Or.inr ⟨z, Or.inl rfl⟩), h (b + 38 * u + 1) (Or.inl ⟨by omega, Or.inr (Or.inr ⟨by omega, by omega, by omega⟩)⟩)]
    exact h4 z u ho hu hl
theorem creg_zero {c : Int} {b : Nat} {f : Nat → Int} (h : ∀ i, f i = 0) : creg c b f := by
  have hu : ∀ b, ublk f b := by
    intro b
    unfold ublk
    simp only [h]
    refine ⟨⟨by omega, by omega⟩, ⟨⟨by omega, by omega⟩, fun _ => by omega⟩, fun _ => ⟨by omega, by omega, by omega⟩, fun z => by omega⟩
  refine ⟨fun _ u _ => hu _, fun _ n _ => ?_, fun _ => hu _, fun _ u _ hu _ => ?_⟩
  · unfold tnod
    simp only [h]
    intro z
    omega
  · rw [h] at hu
    omega
/-- a stretch l to u is beside it -/
def cdj (c : Int) (b l u : Nat) : Bool := cond (cond (Nat.blt u b) true (Nat.ble (b + cond (decide (c = 2)) 240 (cond (decide (c = 3)) 38 1520)) l)) (cond (decide (c = 5)) (cond (cond (Nat.ble l 28) (Nat.ble 28 u) false) false (cond (cond (Nat.ble l 45) (Nat.ble 45 u) false) false (Nat.blt u 5000))) true) false
theorem cdj_ok {c : Int} {b l u : Nat} (h : cdj c b l u = true) (i : Nat) (h1 : l ≤ i) (h2 : i ≤ u) : ¬ cin c b i := by
  have hand : ∀ {a b : Bool}, cond a b false = true → a = true ∧ b = true := by intro a b h; cases a <;> simp_all
  have hor : ∀ {a b : Bool}, cond a true b = true → a = true ∨ b = true := by intro a b h; cases a <;> simp_all
  unfold cdj at h
  obtain ⟨g1, g2⟩ := hand h
  intro hc
  rcases hc with ⟨c1, c2⟩ | ⟨c1, c2⟩
  · rcases hor g1 with g | g
    · have := Nat.blt_eq.mp g; omega
    · have g := Nat.ble_eq.mp g
      rcases c2 with ⟨z, c2⟩ | ⟨z, c2⟩ | ⟨z1, z2, c2⟩
      · rw [decide_eq_true z] at g; simp only [cond_true] at g; omega
      · subst z; simp at g; omega
      · rw [decide_eq_false z1, decide_eq_false z2] at g; simp only [cond_false] at g; omega
  · subst c1
    simp only [decide_true, cond_true] at g2
    cases e1 : cond (Nat.ble l 28) (Nat.ble 28 u) false with
    | true => rw [e1] at g2; cases g2
    | false =>
      rw [e1] at g2
      cases e2 : cond (Nat.ble l 45) (Nat.ble 45 u) false with
      | true => rw [e2] at g2; cases g2
      | false =>
        rw [e2] at g2
        have g2 := Nat.blt_eq.mp g2
        rcases c2 with rfl | rfl | rfl
        · rw [show Nat.ble l 28 = true from Nat.ble_eq.mpr h1, show Nat.ble 28 u = true from Nat.ble_eq.mpr h2] at e1; cases e1
        · rw [show Nat.ble l 45 = true from Nat.ble_eq.mpr h1, show Nat.ble 45 u = true from Nat.ble_eq.mpr h2] at e2; cases e2
        · omega
