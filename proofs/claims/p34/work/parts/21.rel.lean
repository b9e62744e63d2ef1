/-! ===== what is known of a state: values, references, facts on slots; roles of cells =====
values: (0, _, e) the int e, (1, s, _) the reference s, (2, _, _) null, (3, _, _) some long, (4, _, _) of a local: nothing known -/
abbrev cV : Type := Nat × Nat × cL
def cI (e : cL) : cV := (0, 0, e)
def cP (s : Nat) : cV := (1, s, (0, []))
def cNl : cV := (2, 0, (0, []))
def cLg : cV := (3, 0, (0, []))
def cNo : cV := (4, 0, (0, []))
/-- of a reference: its number, kind, role, may be null, length -/
abbrev cRf : Type := Nat × Nat × Nat × Bool × cL
/-- reference, slot, what it holds -/
abbrev cFt : Type := Nat × Nat × cV
/-- a slot: (0, lowest, highest, _, _) an int, (1, _, _, role, may be null) a reference, else nothing -/
abbrev cS : Type := Nat × Int × Int × Nat × Bool
/-- a role: kind, length at least, at most, slots up to a place -/
abbrev cR : Type := Nat × Int × Int × List (Nat × cS)
abbrev cTb : Type := List (Nat × cR)
noncomputable def cfR (T : cTb) (r : Nat) : Option cR := @List.rec (Nat × cR) (fun _ => Option cR) none (fun q _ ih => cond (Nat.beq q.1 r) (some q.2) ih) T
noncomputable def cseg (l : List (Nat × cS)) (i : Nat) : cS := @List.rec (Nat × cS) (fun _ => cS) (2, 0, 0, 0, false) (fun q _ ih => cond (Nat.blt i q.1) q.2 ih) l
def cok (g : Nat → Nat) (h : bh) (a i : Nat) (t : cS) : Prop := (t.1 = 0 → t.2.1 ≤ h.1 a i ∧ h.1 a i ≤ t.2.2.1) ∧ (t.1 = 1 → (t.2.2.2.2 = true ∧ h.2 a i = none) ∨ ∃ b, h.2 a i = some b ∧ g b = t.2.2.2.1 ∧ g b ≠ 0)
/-- the stretches with a shape, of an array of the reference's -/
def cRg (R : cR) (f : Nat → Int) : Prop := 41 ≤ R.1 → ∀ q ∈ R.2.2.2, q.2.1 = 3 → creg q.2.2.1 q.2.2.2.1.toNat f
/-- the first numbers of a kept row: chunk, delay, save -/
def chdk (f : Nat → Int) (b : Nat) : Prop := 1 ≤ f b ∧ 1 ≤ f (b + 2) ∧ 1 ≤ f (b + 5)
/-- of the reference's object: what is marked as kept is kept -/
def cKe (g : Nat → Nat) (h : bh) (m : Nat) : Prop := g m = 12 → ∀ B K, h.2 m 23 = some B → h.2 m 16 = some K → ∀ k, k < 2 → h.1 B k = 1 → chdk (h.1 K) (3266 * k)
/-- all cells that have a role are as it says -/
def cWT (T : cTb) (g : Nat → Nat) (τ : bt) (h : bh) : Prop := ∀ a, g a ≠ 0 → ∃ R, cfR T (g a) = some R ∧ τ.1 a = R.1 ∧ R.1 ≠ 0 ∧ (R.2.1 ≤ τ.2 a ∧ (τ.2 a : Int) ≤ R.2.2.1) ∧ (∀ i, cok g h a i (cseg R.2.2.2 i)) ∧ cRg R (h.1 a) ∧ cKe g h a ∧ (g a = 12 → (cseg R.2.2.2 23).1 = 1 ∧ (cseg R.2.2.2 23).2.2.2.1 = 68 ∧ (cseg R.2.2.2 16).1 = 1 ∧ (cseg R.2.2.2 16).2.2.2.1 = 63)
/-- the role of a constant thing -/
def crk (j : Nat) : Nat := if j < 38 then 30 else if j = 40 then 31 else if j = 41 then 32 else if j = 43 then 33 else 34
def cKt (ι : bI) (g : Nat → Nat) : Prop := (∀ j, (j < 38 ∨ 40 ≤ j ∧ j ≤ 43) → g (ι.2.2.2 j) = crk j) ∧ (∀ a, g a = 31 → a = ι.2.2.2 40) ∧ (∀ a, g a = 32 → a = ι.2.2.2 41) ∧ ∀ a, g a = 33 → a = ι.2.2.2 43
/-- what may be written: kind, slots from, to; 1000 + kind: cells of it without a role may get one -/
abbrev cEf : Type := List (Nat × Nat × Nat)
noncomputable def cef (E : cEf) (k i : Nat) : Bool := cany (fun q => cond (Nat.beq q.1 k) (cond (Nat.ble q.2.1 i) (Nat.ble i q.2.2) false) false) E
/-- since the beginning -/
def cHi (E : cEf) (g0 : Nat → Nat) (τ0 : bt) (h0 : bh) (g : Nat → Nat) (τ : bt) (h : bh) : Prop := ∀ a, τ0.1 a ≠ 0 → τ.1 a = τ0.1 a ∧ τ.2 a = τ0.2 a ∧ (g a = g0 a ∨ (g0 a = 0 ∧ cef E (1000 + τ0.1 a) 0 = true)) ∧ ∀ i, cef E (τ0.1 a) i = false → h.1 a i = h0.1 a i ∧ h.2 a i = h0.2 a i
/-- expressions (the first is the rank) and references whose values are kept in mind; the values -/
abbrev cKp : Type := List cL × List cV
abbrev cKv : Type := List Int × List (Option Nat)
def cvo (σ : Nat → Option Nat) (v : cV) : Option Nat := cond (Nat.beq v.1 1) (σ v.2.1) none
def ckv (ρ : Nat → Int) (σ : Nat → Option Nat) (R : cKp) : cKv := (R.1.map (cE ρ), R.2.map (cvo σ))
/-- roles, what may be written, the beginning (roles, kinds, heap), what is kept in mind and its values -/
abbrev cTh : Type := cTb × cEf × (Nat → Nat) × bt × bh × cKp × cKv
def cGd (ι : bI) (Θ : cTh) (g : Nat → Nat) (τ : bt) (h : bh) : Prop := cWT Θ.1 g τ h ∧ cKt ι g ∧ cHi Θ.2.1 Θ.2.2.1 Θ.2.2.2.1 Θ.2.2.2.2.1 g τ h
/-- bounds, what is not below 0, references, facts -/
abbrev cA : Type := cB × List cL × List cRf × List cFt
/-- symbols of ints, of references so far; what is known; cells, slots made -/
abbrev cZ : Type := Nat × Nat × cA × Nat × Nat
def cv (ρ : Nat → Int) (σ : Nat → Option Nat) (v : cV) (x : Value) : Prop := (v.1 = 0 ∧ x = .int (bz (cE ρ v.2.2)) ∧ brg (cE ρ v.2.2)) ∨ (v.1 = 1 ∧ x = va_rf (σ v.2.1)) ∨ (v.1 = 2 ∧ x = va_rf none) ∨ (v.1 = 3 ∧ ∃ w, x = .long w)
def cvO (ρ : Nat → Int) (σ : Nat → Option Nat) (v : cV) (x : Option Value) : Prop := (v.1 = 4 ∧ x = none) ∨ ∃ w, x = some w ∧ cv ρ σ v w
def crf (ρ : Nat → Int) (σ : Nat → Option Nat) (g : Nat → Nat) (τ : bt) (q : cRf) : Prop := (q.2.2.2.1 = true ∧ σ q.1 = none) ∨ ∃ a, σ q.1 = some a ∧ τ.1 a = q.2.1 ∧ q.2.1 ≠ 0 ∧ g a = q.2.2.1 ∧ (τ.2 a : Int) = cE ρ q.2.2.2.2
def cfv (ρ : Nat → Int) (σ : Nat → Option Nat) (h : bh) (a i : Nat) (v : cV) : Prop := (v.1 = 0 → h.1 a i = cE ρ v.2.2) ∧ (v.1 = 1 → h.2 a i = σ v.2.1) ∧ (v.1 = 2 → h.2 a i = none)
def cft (ρ : Nat → Int) (σ : Nat → Option Nat) (h : bh) (q : cFt) : Prop := ∃ a, σ q.1 = some a ∧ cfv ρ σ h a q.2.1 q.2.2
def cst (ρ : Nat → Int) (σ : Nat → Option Nat) (g : Nat → Nat) (τ : bt) (h : bh) (A : cA) : Prop := cBo ρ A.1 ∧ cCo ρ A.2.1 ∧ (∀ q ∈ A.2.2.1, crf ρ σ g τ q) ∧ ∀ q ∈ A.2.2.2, cft ρ σ h q
/-- symbols that agree up to n, m -/
def cag (n m : Nat) (ρ : Nat → Int) (σ : Nat → Option Nat) (ρ' : Nat → Int) (σ' : Nat → Option Nat) : Prop := (∀ s, brg (ρ' s)) ∧ (∀ s, s < n → ρ' s = ρ s) ∧ ∀ s, s < m → σ' s = σ s
/-- two lists, place by place -/
def c2 {α β : Type} (P : α → β → Prop) : List α → List β → Prop
  | [], [] => True
  | a :: l, b :: k => P a b ∧ c2 P l k
  | _, _ => False
theorem c2.len {α β : Type} {P : α → β → Prop} : ∀ {l : List α} {k : List β}, c2 P l k → l.length = k.length
  | [], [], _ => rfl
  | _ :: _, _ :: _, h => congrArg (· + 1) (c2.len h.2)
  | [], _ :: _, h => h.elim
  | _ :: _, [], h => h.elim
theorem c2.nth {α β : Type} {P : α → β → Prop} : ∀ {l : List α} {k : List β} {i : Nat} {a : α}, c2 P l k → l[i]? = some a → ∃ b, k[i]? = some b ∧ P a b
  | [], [], _, _, _, h => by cases h
  | _ :: _, b :: _, 0, _, h, hi => by cases hi; exact ⟨b, rfl, h.1⟩
  | _ :: _, _ :: _, i + 1, _, h, hi => c2.nth (i := i) h.2 hi
  | [], _ :: _, _, _, h, _ => h.elim
  | _ :: _, [], _, _, h, _ => h.elim
theorem c2.set {α β : Type} {P : α → β → Prop} {a : α} {b : β} (hp : P a b) : ∀ {l : List α} {k : List β} {i : Nat}, c2 P l k → c2 P (l.set i a) (k.set i b)
  | [], [], _, _ => trivial
  | _ :: _, _ :: _, 0, h => ⟨hp, h.2⟩
  | _ :: _, _ :: _, _ + 1, h => ⟨h.1, c2.set hp h.2⟩
  | [], _ :: _, _, h => h.elim
  | _ :: _, [], _, h => h.elim
theorem c2.cons {α β : Type} {P : α → β → Prop} {a : α} : ∀ {l : List α} {k : List β}, c2 P (a :: l) k → ∃ b r, k = b :: r ∧ P a b ∧ c2 P l r
  | _, _ :: _, h => ⟨_, _, rfl, h.1, h.2⟩
  | _, [], h => h.elim
/-- stack, locals, rank -/
def cvs (ρ : Nat → Int) (σ : Nat → Option Nat) (R : cKp) (μ : cKv) (lo st : List cV) (lo' : List (Option Value)) (st' : List Value) : Prop := c2 (cvO ρ σ) lo lo' ∧ c2 (cv ρ σ) st st' ∧ ckv ρ σ R = μ
def cRl (Θ : cTh) (S : cZ) (ρ : Nat → Int) (σ : Nat → Option Nat) (g : Nat → Nat) (τ : bt) (h : bh) (lo st : List cV) (lo' : List (Option Value)) (st' : List Value) : Prop :=
  (∀ s, brg (ρ s)) ∧ ∀ ρ' σ', cag S.1 S.2.1 ρ σ ρ' σ' → cst ρ' σ' g τ h S.2.2.1 ∧ cvs ρ' σ' Θ.2.2.2.2.2.1 Θ.2.2.2.2.2.2 lo st lo' st'
/-- from a place on all goes well, whatever is as is known -/
def cJ (Θ : cTh) (γ : bG) (pc : Nat) (S : cZ) (lo st : List cV) : Prop := ∀ (ρ : Nat → Int) (σ : Nat → Option Nat) (g : Nat → Nat) (τ : bt) (h : bh) (lo' : List (Option Value)) (st' : List Value), cGd γ.1 Θ g τ h → cRl Θ S ρ σ g τ h lo st lo' st' → bJ γ pc lo' st' τ h S.2.2.2.1 S.2.2.2.2
section CREL
variable {Θ : cTh} {n m : Nat} {A : cA} {nc ns : Nat} {ρ : Nat → Int} {σ : Nat → Option Nat} {g : Nat → Nat} {τ : bt} {h : bh} {lo st : List cV} {lo' : List (Option Value)} {st' : List Value}
theorem cag.rf (hρ : ∀ s, brg (ρ s)) : cag n m ρ σ ρ σ := ⟨hρ, fun _ _ => rfl, fun _ _ => rfl⟩
theorem cRl.at {S : cZ} (hR : cRl Θ S ρ σ g τ h lo st lo' st') : cst ρ σ g τ h S.2.2.1 ∧ cvs ρ σ Θ.2.2.2.2.2.1 Θ.2.2.2.2.2.2 lo st lo' st' := hR.2 ρ σ (cag.rf hR.1)
/-- what is so for all symbols that agree -/
theorem cRl.map {A' : cA} {nc' ns' : Nat} {g2 : Nat → Nat} {τ2 : bt} {h2 : bh} {lo2 st2 : List cV} {lo2' : List (Option Value)} {st2' : List Value} (hR : cRl Θ (n, m, A, nc, ns) ρ σ g τ h lo st lo' st') (hm : ∀ ρ' σ', cag n m ρ σ ρ' σ' → cst ρ' σ' g τ h A → cvs ρ' σ' Θ.2.2.2.2.2.1 Θ.2.2.2.2.2.2 lo st lo' st' → cst ρ' σ' g2 τ2 h2 A' ∧ cvs ρ' σ' Θ.2.2.2.2.2.1 Θ.2.2.2.2.2.2 lo2 st2 lo2' st2') : cRl Θ (n, m, A', nc', ns') ρ σ g2 τ2 h2 lo2 st2 lo2' st2' :=
  ⟨hR.1, fun ρ' σ' ha => by obtain ⟨h1, h2⟩ := hR.2 ρ' σ' ha; exact hm ρ' σ' ha h1 h2⟩
def cup {α : Type} (f : Nat → α) (n : Nat) (z : α) : Nat → α := fun s => if s = n then z else f s
theorem cup_at {α : Type} (f : Nat → α) (n : Nat) (z : α) : cup f n z n = z := by unfold cup; rw [if_pos rfl]
theorem cup_ne {α : Type} {f : Nat → α} {n s : Nat} {z : α} (h : s ≠ n) : cup f n z s = f s := by unfold cup; rw [if_neg h]
/-- a new symbol of an int -/
theorem cRl.newI {z : Int} (hR : cRl Θ (n, m, A, nc, ns) ρ σ g τ h lo st lo' st') (hz : brg z) : cRl Θ (n + 1, m, A, nc, ns) (cup ρ n z) σ g τ h lo st lo' st' := by
  refine ⟨fun s => ?_, fun ρ' σ' ha => hR.2 ρ' σ' ⟨ha.1, fun s hs => ?_, ha.2.2⟩⟩
  · unfold cup; split
    · exact hz
    · exact hR.1 s
  · have hs' : s < n := hs
    rw [ha.2.1 s (Nat.lt_succ_of_lt hs'), cup_ne (by omega)]
/-- a new symbol of a reference -/
theorem cRl.newR (o : Option Nat) (hR : cRl Θ (n, m, A, nc, ns) ρ σ g τ h lo st lo' st') : cRl Θ (n, m + 1, A, nc, ns) ρ (cup σ m o) g τ h lo st lo' st' := by
  refine ⟨hR.1, fun ρ' σ' ha => hR.2 ρ' σ' ⟨ha.1, ha.2.1, fun s hs => ?_⟩⟩
  have hs' : s < m := hs
  rw [ha.2.2 s (Nat.lt_succ_of_lt hs'), cup_ne (by omega)]
theorem cRl.push {v : cV} {x : Value} (hR : cRl Θ (n, m, A, nc, ns) ρ σ g τ h lo st lo' st') (hv : ∀ ρ' σ', cag n m ρ σ ρ' σ' → cv ρ' σ' v x) : cRl Θ (n, m, A, nc, ns) ρ σ g τ h lo (v :: st) lo' (x :: st') :=
  hR.map fun ρ' σ' ha h1 h2 => ⟨h1, h2.1, ⟨hv ρ' σ' ha, h2.2.1⟩, h2.2.2⟩
/-- the topmost of the stack -/
theorem cRl.pop {S : cZ} {v : cV} (hR : cRl Θ S ρ σ g τ h lo (v :: st) lo' st') : ∃ x r, st' = x :: r ∧ (∀ ρ' σ', cag S.1 S.2.1 ρ σ ρ' σ' → cv ρ' σ' v x) ∧ cRl Θ S ρ σ g τ h lo st lo' r := by
  obtain ⟨n, m, A, nc, ns⟩ := S
  obtain ⟨-, h1, h2, h3⟩ := hR.at
  obtain ⟨x, r, rfl, hx, hr⟩ := h2.cons
  refine ⟨x, r, rfl, fun ρ' σ' ha => ?_, hR.map fun ρ' σ' ha k1 k2 => ⟨k1, k2.1, k2.2.1.2, k2.2.2⟩⟩
  obtain ⟨-, -, k, -⟩ := hR.2 ρ' σ' ha
  exact k.1
theorem cv_int {e : cL} {v : cV} {x : Value} (h0 : v.1 = 0) (he : v.2.2 = e) (hv : cv ρ σ v x) : x = .int (bz (cE ρ e)) ∧ brg (cE ρ e) := by
  subst he
  rcases hv with ⟨-, h1, h2⟩ | ⟨h1, -⟩ | ⟨h1, -⟩ | ⟨h1, -⟩
  · exact ⟨h1, h2⟩
  all_goals omega
/-- an int on top -/
theorem cRl.popI {S : cZ} {v : cV} (h0 : v.1 = 0) (hR : cRl Θ S ρ σ g τ h lo (v :: st) lo' st') : ∃ z r, st' = .int (bz z) :: r ∧ brg z ∧ z = cE ρ v.2.2 ∧ (∀ ρ' σ', cag S.1 S.2.1 ρ σ ρ' σ' → cE ρ' v.2.2 = z) ∧ cRl Θ S ρ σ g τ h lo st lo' r := by
  obtain ⟨x, r, h1, h2, h3⟩ := hR.pop
  obtain ⟨e1, e2⟩ := cv_int h0 rfl (h2 ρ σ (cag.rf hR.1))
  refine ⟨cE ρ v.2.2, r, by rw [h1, e1], e2, rfl, fun ρ' σ' ha => ?_, h3⟩
  obtain ⟨e3, e4⟩ := cv_int h0 rfl (h2 ρ' σ' ha)
  rw [e1] at e3
  injection e3 with e3
  exact ((bz_eq e2 e4).mp e3).symm
/-- a reference that is known by its number -/
theorem cRl.popP {S : cZ} {v : cV} (h0 : v.1 = 1) (hR : cRl Θ S ρ σ g τ h lo (v :: st) lo' st') : ∃ r, st' = va_rf (σ v.2.1) :: r ∧ (∀ ρ' σ', cag S.1 S.2.1 ρ σ ρ' σ' → va_rf (σ' v.2.1) = va_rf (σ v.2.1)) ∧ cRl Θ S ρ σ g τ h lo st lo' r := by
  obtain ⟨x, r, h1, h2, h3⟩ := hR.pop
  have key : ∀ ρ' σ', cag S.1 S.2.1 ρ σ ρ' σ' → x = va_rf (σ' v.2.1) := by
    intro ρ' σ' ha
    rcases h2 ρ' σ' ha with ⟨h, -⟩ | ⟨-, h⟩ | ⟨h, -⟩ | ⟨h, -⟩
    · omega
    · exact h
    all_goals omega
  have e := key ρ σ (cag.rf hR.1)
  exact ⟨r, by rw [h1, e], fun ρ' σ' ha => by rw [← key ρ' σ' ha, e], h3⟩
theorem cv_I {e : cL} {z : Int} (hz : brg z) (h : cE ρ e = z) : cv ρ σ (cI e) (.int (bz z)) := Or.inl ⟨rfl, by show _ = Value.int (bz (cE ρ e)); rw [h], by show brg (cE ρ e); rw [h]; exact hz⟩
theorem cv_P {s : Nat} {o : Option Nat} (h : σ s = o) : cv ρ σ (cP s) (va_rf o) := Or.inr (Or.inl ⟨rfl, by show _ = va_rf (σ s); rw [h]⟩)
theorem cv_N : cv ρ σ cNl (va_rf none) := Or.inr (Or.inr (Or.inl ⟨rfl, rfl⟩))
theorem cv_L {w : Int64} : cv ρ σ cLg (.long w) := Or.inr (Or.inr (Or.inr ⟨rfl, w, rfl⟩))
/-- a local -/
theorem cRl.loc {S : cZ} {i : Nat} {v : cV} (hi : lo[i]? = some v) (h4 : v.1 ≠ 4) (hR : cRl Θ S ρ σ g τ h lo st lo' st') : ∃ x, lo'[i]? = some (some x) ∧ ∀ ρ' σ', cag S.1 S.2.1 ρ σ ρ' σ' → cv ρ' σ' v x := by
  have key : ∀ ρ' σ', cag S.1 S.2.1 ρ σ ρ' σ' → ∃ x, lo'[i]? = some (some x) ∧ cv ρ' σ' v x := by
    intro ρ' σ' ha
    obtain ⟨-, h1, -⟩ := hR.2 ρ' σ' ha
    obtain ⟨b, hb, h2⟩ := h1.nth hi
    rcases h2 with ⟨h, -⟩ | ⟨w, hw, hv⟩
    · exact absurd h h4
    · exact ⟨w, by rw [hb, hw], hv⟩
  obtain ⟨x, h1, -⟩ := key ρ σ (cag.rf hR.1)
  refine ⟨x, h1, fun ρ' σ' ha => ?_⟩
  obtain ⟨x', h1', h2'⟩ := key ρ' σ' ha
  rw [h1] at h1'
  cases h1'
  exact h2'
end CREL
