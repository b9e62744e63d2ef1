/-! ===== linear expressions over symbols; bounds; what is not below 0 ===== -/
/-- a number, and symbols with their factors -/
abbrev cL : Type := Int × List (Nat × Int)
def cev (ρ : Nat → Int) (l : List (Nat × Int)) : Int := l.foldr (fun q r => q.2 * ρ q.1 + r) 0
def cE (ρ : Nat → Int) (e : cL) : Int := e.1 + cev ρ e.2
theorem cev_nil (ρ : Nat → Int) : cev ρ [] = 0 := rfl
theorem cev_cons (ρ : Nat → Int) (q : Nat × Int) (l : List (Nat × Int)) : cev ρ (q :: l) = q.2 * ρ q.1 + cev ρ l := rfl
def cz (z : Int) : Bool := decide (z = 0)
def cge (z : Int) : Bool := decide (0 ≤ z)
theorem cge_iff {z : Int} : cge z = true ↔ 0 ≤ z := by unfold cge; exact decide_eq_true_iff
noncomputable def cins (s : Nat) (a : Int) (l : List (Nat × Int)) : List (Nat × Int) := @List.rec (Nat × Int) (fun _ => List (Nat × Int)) [(s, a)] (fun q r ih => cond (Nat.beq s q.1) (cond (cz (a + q.2)) r ((s, a + q.2) :: r)) (cond (Nat.ble s q.1) ((s, a) :: q :: r) (q :: ih))) l
theorem cins_ev (ρ : Nat → Int) (s : Nat) (a : Int) (l : List (Nat × Int)) : cev ρ (cins s a l) = a * ρ s + cev ρ l := by
  induction l with
  | nil => rfl
  | cons q r ih =>
    show cev ρ (cond (Nat.beq s q.1) (cond (cz (a + q.2)) r ((s, a + q.2) :: r)) (cond (Nat.ble s q.1) ((s, a) :: q :: r) (q :: cins s a r))) = _
    cases h : Nat.beq s q.1 with
    | true =>
      have hs : s = q.1 := Nat.eq_of_beq_eq_true h
      subst hs
      cases h2 : cz (a + q.2) with
      | true =>
        have h3 : a + q.2 = 0 := of_decide_eq_true h2
        simp only [cond_true]
        rw [cev_cons]
        have : a * ρ q.1 + q.2 * ρ q.1 = 0 := by rw [← Int.add_mul, h3, Int.zero_mul]
        omega
      | false =>
        simp only [cond_true, cond_false]
        rw [cev_cons, cev_cons]
        show (a + q.2) * ρ q.1 + cev ρ r = _
        rw [Int.add_mul]
        omega
    | false =>
      cases h2 : Nat.ble s q.1 with
      | true => rfl
      | false =>
        simp only [cond_false]
        rw [cev_cons, cev_cons, ih]
        omega
noncomputable def cadd (e f : cL) : cL := (e.1 + f.1, @List.rec (Nat × Int) (fun _ => List (Nat × Int)) e.2 (fun q _ ih => cins q.1 q.2 ih) f.2)
theorem cadd_ev (ρ : Nat → Int) (e f : cL) : cE ρ (cadd e f) = cE ρ e + cE ρ f := by
  obtain ⟨a, l⟩ := e
  obtain ⟨b, k⟩ := f
  have : cev ρ (@List.rec (Nat × Int) (fun _ => List (Nat × Int)) l (fun q _ ih => cins q.1 q.2 ih) k) = cev ρ l + cev ρ k := by
    induction k with
    | nil => rw [cev_nil]; show cev ρ l = _; omega
    | cons q r ih =>
      show cev ρ (cins q.1 q.2 _) = _
      rw [cins_ev, ih, cev_cons]
      omega
  have e : cE ρ (cadd (a, l) (b, k)) = a + b + cev ρ (@List.rec (Nat × Int) (fun _ => List (Nat × Int)) l (fun q _ ih => cins q.1 q.2 ih) k) := rfl
  rw [e, this]
  show _ = a + cev ρ l + (b + cev ρ k)
  omega
noncomputable def cscl (c : Int) (l : List (Nat × Int)) : List (Nat × Int) := @List.rec (Nat × Int) (fun _ => List (Nat × Int)) [] (fun q _ ih => (q.1, c * q.2) :: ih) l
theorem cscl_ev (ρ : Nat → Int) (c : Int) (l : List (Nat × Int)) : cev ρ (cscl c l) = c * cev ρ l := by
  induction l with
  | nil => rw [cev_nil, Int.mul_zero]; rfl
  | cons q r ih =>
    show cev ρ ((q.1, c * q.2) :: cscl c r) = _
    rw [cev_cons, cev_cons, ih, Int.mul_add, Int.mul_assoc]
noncomputable def csc (c : Int) (e : cL) : cL := (c * e.1, cond (cz c) [] (cscl c e.2))
theorem csc_ev (ρ : Nat → Int) (c : Int) (e : cL) : cE ρ (csc c e) = c * cE ρ e := by
  show c * e.1 + cev ρ (cond (cz c) [] (cscl c e.2)) = c * (e.1 + cev ρ e.2)
  rw [Int.mul_add]
  cases h : cz c with
  | true =>
    have : c = 0 := of_decide_eq_true h
    subst this
    simp [cev_nil]
  | false => simp only [cond_false]; rw [cscl_ev]
noncomputable def csub (e f : cL) : cL := cadd e (csc (-1) f)
theorem csub_ev (ρ : Nat → Int) (e f : cL) : cE ρ (csub e f) = cE ρ e - cE ρ f := by
  unfold csub
  rw [cadd_ev, csc_ev]
  omega
/-- a number more -/
def cpl (c : Int) (e : cL) : cL := (e.1 + c, e.2)
theorem cpl_ev (ρ : Nat → Int) (c : Int) (e : cL) : cE ρ (cpl c e) = cE ρ e + c := by
  show e.1 + c + cev ρ e.2 = e.1 + cev ρ e.2 + c
  omega
def cK (z : Int) : cL := (z, [])
theorem cK_ev (ρ : Nat → Int) (z : Int) : cE ρ (cK z) = z := by show z + cev ρ [] = z; rw [cev_nil]; omega
def cX (s : Nat) : cL := (0, [(s, 1)])
theorem cX_ev (ρ : Nat → Int) (s : Nat) : cE ρ (cX s) = ρ s := by show 0 + cev ρ [(s, 1)] = ρ s; rw [cev_cons, cev_nil]; show 0 + (1 * ρ s + 0) = ρ s; omega
/-- bounds of symbols, the youngest first; what is not there is an int -/
abbrev cB : Type := List (Nat × Int × Int)
noncomputable def cbd (bd : cB) (s : Nat) : Int × Int := @List.rec (Nat × Int × Int) (fun _ => Int × Int) (-2147483648, 2147483647) (fun q _ ih => cond (Nat.beq q.1 s) q.2 ih) bd
def cBo (ρ : Nat → Int) (bd : cB) : Prop := (∀ s, brg (ρ s)) ∧ ∀ q ∈ bd, q.2.1 ≤ ρ q.1 ∧ ρ q.1 ≤ q.2.2
theorem cbd_ok {ρ : Nat → Int} {bd : cB} (h : cBo ρ bd) (s : Nat) : (cbd bd s).1 ≤ ρ s ∧ ρ s ≤ (cbd bd s).2 := by
  obtain ⟨h1, h2⟩ := h
  induction bd with
  | nil => exact h1 s
  | cons q r ih =>
    show (cond (Nat.beq q.1 s) q.2 (cbd r s)).1 ≤ _ ∧ _ ≤ (cond (Nat.beq q.1 s) q.2 (cbd r s)).2
    cases h : Nat.beq q.1 s with
    | true =>
      have := Nat.eq_of_beq_eq_true h
      subst this
      exact h2 q List.mem_cons_self
    | false => exact ih (fun p hp => h2 p (List.mem_cons_of_mem _ hp))
noncomputable def clow (bd : cB) (l : List (Nat × Int)) : Int := @List.rec (Nat × Int) (fun _ => Int) 0 (fun q _ ih => cond (cge q.2) (q.2 * (cbd bd q.1).1) (q.2 * (cbd bd q.1).2) + ih) l
theorem clow_le {ρ : Nat → Int} {bd : cB} (h : cBo ρ bd) (l : List (Nat × Int)) : clow bd l ≤ cev ρ l := by
  induction l with
  | nil => exact Int.le_refl _
  | cons q r ih =>
    show cond (cge q.2) (q.2 * (cbd bd q.1).1) (q.2 * (cbd bd q.1).2) + clow bd r ≤ q.2 * ρ q.1 + cev ρ r
    obtain ⟨b1, b2⟩ := cbd_ok h q.1
    cases hc : cge q.2 with
    | true =>
      have hq := cge_iff.mp hc
      have := Int.mul_le_mul_of_nonneg_left b1 hq
      simp only [cond_true]
      omega
    | false =>
      have hq : q.2 ≤ 0 := by
        have : ¬ 0 ≤ q.2 := fun z => by rw [cge_iff.mpr z] at hc; cases hc
        omega
      have := Int.mul_le_mul_of_nonpos_left hq b2
      simp only [cond_false]
      omega
noncomputable def cmin (bd : cB) (e : cL) : Int := e.1 + clow bd e.2
noncomputable def cmax (bd : cB) (e : cL) : Int := e.1 - clow bd (cscl (-1) e.2)
theorem cmin_le {ρ : Nat → Int} {bd : cB} (h : cBo ρ bd) (e : cL) : cmin bd e ≤ cE ρ e := by
  have := clow_le h e.2
  show e.1 + _ ≤ e.1 + _
  omega
theorem le_cmax {ρ : Nat → Int} {bd : cB} (h : cBo ρ bd) (e : cL) : cE ρ e ≤ cmax bd e := by
  have := clow_le h (cscl (-1) e.2)
  rw [cscl_ev] at this
  show e.1 + _ ≤ e.1 - _
  omega
/-- a list has one such -/
noncomputable def cany {α : Type} (f : α → Bool) (l : List α) : Bool := @List.rec α (fun _ => Bool) false (fun q _ ih => cond (f q) true ih) l
theorem cany_iff {α : Type} {f : α → Bool} {l : List α} (h : cany f l = true) : ∃ q ∈ l, f q = true := by
  induction l with
  | nil => cases h
  | cons q r ih =>
    change cond (f q) true (cany f r) = true at h
    cases hq : f q with
    | true => exact ⟨q, List.mem_cons_self, hq⟩
    | false =>
      rw [hq] at h
      obtain ⟨p, h1, h2⟩ := ih h
      exact ⟨p, List.mem_cons_of_mem _ h1, h2⟩
noncomputable def call {α : Type} (f : α → Bool) (l : List α) : Bool := @List.rec α (fun _ => Bool) true (fun q _ ih => cond (f q) ih false) l
theorem call_iff {α : Type} {f : α → Bool} {l : List α} : call f l = true ↔ ∀ q ∈ l, f q = true := by
  induction l with
  | nil => exact ⟨fun _ q hq => absurd hq (by simp), fun _ => rfl⟩
  | cons q r ih =>
    show cond (f q) (call f r) false = true ↔ _
    cases hq : f q with
    | true => simp only [cond_true, ih, List.mem_cons, forall_eq_or_imp, hq, true_and]
    | false => simp [hq]
/-- what is known not to be below 0 -/
def cCo (ρ : Nat → Int) (cs : List cL) : Prop := ∀ e ∈ cs, 0 ≤ cE ρ e
def clam : List Int := [1, 13, 38, 4, 2]
/-- not below 0: by the bounds, by one that is known, by two -/
noncomputable def cpos (bd : cB) (cs : List cL) (e : cL) : Bool := cond (cge (cmin bd e)) true (cond (cany (fun c => cany (fun m => cge (cmin bd (csub e (csc m c)))) clam) cs) true (cany (fun c => cany (fun f => cge (cmin bd (csub (csub e c) f))) cs) cs))
theorem cpos_ok {ρ : Nat → Int} {bd : cB} {cs : List cL} {e : cL} (hb : cBo ρ bd) (hc : cCo ρ cs) (h : cpos bd cs e = true) : 0 ≤ cE ρ e := by
  unfold cpos at h
  cases h1 : cge (cmin bd e) with
  | true =>
    have := cge_iff.mp h1
    have := cmin_le hb e
    omega
  | false =>
    rw [h1] at h
    cases h2 : cany (fun c => cany (fun m => cge (cmin bd (csub e (csc m c)))) clam) cs with
    | true =>
      obtain ⟨c, hm, h3⟩ := cany_iff h2
      obtain ⟨m, hm2, h4⟩ := cany_iff h3
      have h5 := cge_iff.mp h4
      have h6 := cmin_le hb (csub e (csc m c))
      rw [csub_ev, csc_ev] at h6
      have h7 := hc c hm
      have h8 : 0 ≤ m := by
        simp only [clam, List.mem_cons, List.not_mem_nil, or_false] at hm2
        omega
      have := Int.mul_nonneg h8 h7
      omega
    | false =>
      rw [h2] at h
      obtain ⟨c, hm, h3⟩ := cany_iff h
      obtain ⟨f, hm2, h4⟩ := cany_iff h3
      have h5 := cge_iff.mp h4
      have h6 := cmin_le hb (csub (csub e c) f)
      rw [csub_ev, csub_ev] at h6
      have h7 := hc c hm
      have h8 := hc f hm2
      omega
