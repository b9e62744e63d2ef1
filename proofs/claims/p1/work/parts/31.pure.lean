/-! ===== the recursors as choices ===== -/
theorem ak_if {α : Type} (c : Bool) (a b : α) : (@Bool.rec (fun _ => α) b a c) = if c = true then a else b := by cases c <;> rfl
theorem ak_op {α β : Type} (o : Option α) (n : β) (f : α → β) : (@Option.rec α (fun _ => β) n f o) = o.elim n f := by cases o <;> rfl
theorem ak_and (P : Prop) [Decidable P] (b : Bool) : ((if P then b else false) = true) = (P ∧ b = true) := by by_cases h : P <;> simp [h]
theorem ai_nt_eq {α : Type} (n : Nat) (f : Nat → α) : ai_nt n f = f n := by cases n <;> rfl
theorem ai_nth_eq {α β : Type} (l : List α) (n : β) (f : α → β) (k : Nat) : ai_nth l n f k = (l[k]?).elim n f := by
  induction l generalizing k with
  | nil => rfl
  | cons a l ih =>
    cases k with
    | zero => rfl
    | succ k =>
      have h : ai_nth (a :: l) n f (k + 1) = ai_nth l n f k := rfl
      rw [h, ih k]
      rfl
theorem ai_set_eq {α β : Type} (x : α) (n : β) (l : List α) (k : Nat) (f : List α → β) : ai_set x n l k f = if k < l.length then f (l.set k x) else n := by
  induction l generalizing k f with
  | nil => rfl
  | cons a l ih =>
    cases k with
    | zero =>
      have h : ai_set x n (a :: l) 0 f = f (x :: l) := rfl
      rw [h]
      simp
    | succ k =>
      have h : ai_set x n (a :: l) (k + 1) f = ai_set x n l k (fun r => f (a :: r)) := rfl
      rw [h, ih k]
      simp
theorem ai_app_eq {α : Type} (l k : List α) : ai_app l k = l ++ k := by
  induction l with
  | nil => rfl
  | cons a l ih =>
    have h : ai_app (a :: l) k = a :: ai_app l k := rfl
    rw [h, ih]
    rfl
theorem ai_len_eq {α : Type} (l : List α) : ai_len l = l.length := by
  induction l with
  | nil => rfl
  | cons a l ih =>
    have h : ai_len (a :: l) = Nat.succ (ai_len l) := rfl
    rw [h, ih]
    rfl
/-- what a row has at a place -/
def ak_look (i : Nat) : List (Nat × ai_V) → Option ai_V
  | [] => none
  | q :: l => if q.1 = i then some q.2 else ak_look i l
def ak_put (j : Nat) (v : ai_V) : List (Nat × ai_V) → List (Nat × ai_V)
  | [] => [(j, v)]
  | q :: l => if q.1 = j then (j, v) :: l else q :: ak_put j v l
theorem ai_look_eq {α : Type} (i : Nat) (l : List (Nat × ai_V)) (n : α) (f : ai_V → α) : ai_look i l n f = (ak_look i l).elim n f := by
  induction l with
  | nil => rfl
  | cons q l ih =>
    obtain ⟨a, v⟩ := q
    have h : ai_look i ((a, v) :: l) n f = (@Bool.rec (fun _ => α) (ai_look i l n f) (f v) (Nat.beq a i)) := rfl
    rw [h, ak_if, ih, ak_look]
    by_cases e : a = i
    · simp [e]
    · have : ¬ (Nat.beq a i = true) := by rw [Nat.beq_eq]; exact e
      simp [e, this]
theorem ai_put_eq {α : Type} (j : Nat) (v : ai_V) (l : List (Nat × ai_V)) (f : List (Nat × ai_V) → α) : ai_put j v l f = f (ak_put j v l) := by
  induction l generalizing f with
  | nil => rfl
  | cons q l ih =>
    obtain ⟨a, u⟩ := q
    have h : ai_put j v ((a, u) :: l) f = (@Bool.rec (fun _ => α) (ai_put j v l (fun r => f ((a, u) :: r))) (f ((j, v) :: l)) (Nat.beq a j)) := rfl
    rw [h, ak_if, ih, ak_put]
    by_cases e : a = j
    · simp [e]
    · have : ¬ (Nat.beq a j = true) := by rw [Nat.beq_eq]; exact e
      simp [e, this]
theorem ak_look_put (j : Nat) (v : ai_V) (l : List (Nat × ai_V)) (i : Nat) : ak_look i (ak_put j v l) = if i = j then some v else ak_look i l := by
  induction l with
  | nil =>
    simp only [ak_put, ak_look]
    by_cases e : j = i
    · simp [e]
    · simp [e, Ne.symm e]
  | cons q l ih =>
    obtain ⟨a, u⟩ := q
    simp only [ak_put]
    by_cases e : a = j
    · subst e
      simp only [if_true, ak_look]
      by_cases e2 : a = i
      · simp [e2]
      · simp [e2, Ne.symm e2]
    · simp only [if_neg e, ak_look, ih]
      by_cases e2 : a = i
      · subst e2
        simp [e]
      · simp [e2]
/-- what a cell has at a place -/
def ak_rd (c : ai_C) (j : Nat) : ai_V := (ak_look j c.2.2.2).getD c.2.2.1
theorem ai_rd_eq {α : Type} (c : ai_C) (j : Nat) (f : ai_V → α) : ai_rd c j f = f (ak_rd c j) := by
  obtain ⟨kd, inf, df, ov⟩ := c
  have h : ai_rd (kd, inf, df, ov) j f = ai_look j ov (f df) f := rfl
  rw [h, ai_look_eq, ak_rd]
  cases ak_look j ov <;> rfl
theorem ai_eqV_iff (u v : ai_V) : (ai_eqV u v = true) = (u = v) := by
  obtain ⟨a, b⟩ := u
  obtain ⟨c, d⟩ := v
  have h : ai_eqV (a, b) (c, d) = (@Bool.rec (fun _ => Bool) false (Nat.beq b d) (Nat.beq a c)) := rfl
  rw [h, ak_if, ak_and, Nat.beq_eq, Nat.beq_eq, Prod.mk.injEq]
theorem ai_wr_eq {α : Type} (c : ai_C) (j : Nat) (v : ai_V) (n : α) (f : ai_C → α) : (ai_wr c j v n f = n ∧ ak_rd c j = v) ∨ ∃ c' : ai_C, ai_wr c j v n f = f c' ∧ c'.1 = c.1 ∧ c'.2.1 = c.2.1 ∧ ∀ i, ak_rd c' i = if i = j then v else ak_rd c i := by
  obtain ⟨kd, inf, df, ov⟩ := c
  have h : ai_wr (kd, inf, df, ov) j v n f = ai_look j ov (@Bool.rec (fun _ => α) (ai_put j v ov (fun r => f (kd, inf, df, r))) n (ai_eqV v df)) (fun u => @Bool.rec (fun _ => α) (ai_put j v ov (fun r => f (kd, inf, df, r))) n (ai_eqV v u)) := rfl
  have hw : ∀ i, ak_rd (kd, inf, df, ak_put j v ov) i = if i = j then v else ak_rd (kd, inf, df, ov) i := by
    intro i
    simp only [ak_rd, ak_look_put]
    by_cases e : i = j
    · simp [e]
    · simp [e]
  rw [h, ai_look_eq]
  cases hl : ak_look j ov with
  | none =>
    simp only [Option.elim, ak_if, ai_eqV_iff, ai_put_eq]
    by_cases e : v = df
    · left
      simp [e, ak_rd, hl]
    · right
      exact ⟨(kd, inf, df, ak_put j v ov), by simp [e], rfl, rfl, hw⟩
  | some u =>
    simp only [Option.elim, ak_if, ai_eqV_iff, ai_put_eq]
    by_cases e : v = u
    · left
      simp [e, ak_rd, hl]
    · right
      exact ⟨(kd, inf, df, ak_put j v ov), by simp [e], rfl, rfl, hw⟩
theorem ai_seek_mem (t : Nat) (l : List ai_N) : ∀ e ∈ ai_seek t l, e ∈ l := by
  induction l with
  | nil => intro e h; exact h
  | cons a l ih =>
    have h : ai_seek t (a :: l) = (@Bool.rec (fun _ => List ai_N) (ai_seek t l) (a :: l) (Nat.beq a.1 t)) := rfl
    intro e he
    rw [h, ak_if] at he
    split at he
    · exact he
    · exact List.mem_cons_of_mem _ (ih e he)
/-! ===== ends, put together ===== -/
theorem ai_two_some {a b : ai_P} {o : List ai_O} (h : ai_two a b = some o) : ∃ x y, a = some x ∧ b = some y ∧ o = x ++ y := by
  cases a with
  | none => exact absurd h (by simp [ai_two])
  | some x =>
    cases b with
    | none => exact absurd h (by simp [ai_two])
    | some y =>
      have h1 : ai_two (some x) (some y) = some (ai_app x y) := rfl
      rw [h1, ai_app_eq] at h
      exact ⟨x, y, rfl, rfl, (Option.some.inj h).symm⟩
theorem ai_all_some {α : Type} {f : α → ai_P} {l : List α} {o : List ai_O} (h : ai_all f l = some o) : ∀ q ∈ l, ∃ x, f q = some x ∧ ∀ z ∈ x, z ∈ o := by
  induction l generalizing o with
  | nil => intro q hq; exact absurd hq List.not_mem_nil
  | cons a l ih =>
    cases l with
    | nil =>
      have h1 : ai_all f [a] = f a := rfl
      rw [h1] at h
      intro q hq
      rw [List.mem_singleton.mp hq]
      exact ⟨o, h, fun _ h => h⟩
    | cons b l =>
      have h1 : ai_all f (a :: b :: l) = ai_two (f a) (ai_all f (b :: l)) := rfl
      rw [h1] at h
      obtain ⟨x, y, hx, hy, rfl⟩ := ai_two_some h
      intro q hq
      rcases List.mem_cons.mp hq with rfl | hq
      · exact ⟨x, hx, fun z hz => List.mem_append_left _ hz⟩
      · obtain ⟨z, hz, hm⟩ := ih hy q hq
        exact ⟨z, hz, fun w hw => List.mem_append_right _ (hm w hw)⟩
theorem ai_ups_mem (n i : Nat) (h : i < n) : i ∈ ai_ups n := by
  induction n with
  | zero => omega
  | succ n ih =>
    have h1 : ai_ups (n + 1) = n :: ai_ups n := rfl
    rw [h1]
    by_cases e : i = n
    · rw [e]; exact List.mem_cons_self
    · exact List.mem_cons_of_mem _ (ih (by omega))
/-! ===== numbers ===== -/
/-- a signed number in its order -/
def ak_b (x : Int32) : Nat := (x.toInt + 2147483648).toNat
theorem ak_b_int (x : Int32) : (ak_b x : Int) = x.toInt + 2147483648 := by
  have h := Int32.le_toInt x
  unfold ak_b
  omega
theorem ak_b_lt (x : Int32) : ak_b x < 4294967296 := by
  have h := Int32.toInt_lt x
  have h2 := ak_b_int x
  omega
theorem ak_b_nI (n : Nat) : ak_b (nI n) = ai_b n := by
  have h2 := ak_b_int (nI n)
  have h3 : (nI n).toInt = (n : Int).bmod (2 ^ 32) := Int32.toInt_ofNat' 
  have h4 : ai_b n = (n + 2147483648) % 4294967296 := rfl
  rw [h3, Int.bmod_def] at h2
  rw [h4]
  split at h2 <;> omega
theorem ak_lt (x y : Int32) : (x < y) = (ak_b x < ak_b y) := by
  rw [Int32.lt_iff_toInt_lt]
  have h1 := ak_b_int x
  have h2 := ak_b_int y
  exact propext ⟨fun h => by omega, fun h => by omega⟩
theorem ak_le (x y : Int32) : (x ≤ y) = (ak_b x ≤ ak_b y) := by
  rw [Int32.le_iff_toInt_le]
  have h1 := ak_b_int x
  have h2 := ak_b_int y
  exact propext ⟨fun h => by omega, fun h => by omega⟩
theorem ak_eq (x y : Int32) : (x = y) = (ak_b x = ak_b y) := by
  have h1 := ak_b_int x
  have h2 := ak_b_int y
  refine propext ⟨fun h => by rw [h], fun h => Int32.toInt_inj.mp (by omega)⟩
theorem ak_of_b (x : Int32) : x = nI (ai_b (ak_b x)) := by
  rw [ak_eq, ak_b_nI]
  have h := ak_b_lt x
  have h4 : ∀ n, ai_b n = (n + 2147483648) % 4294967296 := fun _ => rfl
  rw [h4, h4]
  omega
theorem nI_mod (n : Nat) : nI (n % 4294967296) = nI n := by
  rw [ak_eq, ak_b_nI, ak_b_nI]
  have h4 : ∀ n, ai_b n = (n + 2147483648) % 4294967296 := fun _ => rfl
  rw [h4, h4]
  omega
theorem ak_add (a b : Nat) : nI (ai_add a b) = nI a + nI b := by
  have h : ai_add a b = (a + b) % 4294967296 := rfl
  rw [h, nI_mod, nI_add]
theorem ak_mul (a b : Nat) : nI (ai_mul a b) = nI a * nI b := by
  have h : ai_mul a b = (a * b) % 4294967296 := rfl
  rw [h, nI_mod, pk_mul]
theorem ak_sub (a b : Nat) : nI (ai_sub a b) = nI a - nI b := by
  have h : ai_sub a b = (a + (4294967296 - b % 4294967296)) % 4294967296 := rfl
  have h1 : nI a = nI (ai_sub a b) + nI b := by
    rw [h, nI_mod, nI_add, ← nI_mod (a + _ + b), ← nI_mod a]
    congr 1
    omega
  rw [h1, Int32.add_sub_cancel]
theorem ak_land (a b : Nat) : nI (Nat.land a b) = nI a &&& nI b := by
  apply Int32.toBitVec_inj.mp
  show (Int32.ofNat (a &&& b)).toBitVec = (Int32.ofNat a &&& Int32.ofNat b).toBitVec
  rw [Int32.toBitVec_and]
  simp [Int32.toBitVec_ofNat', BitVec.ofNat_and]
theorem ak_ofI (n : Int) : nI (ai_ofI n) = Int32.ofInt n := by
  apply Int32.toInt_inj.mp
  have h : ai_ofI n = (n % 4294967296).toNat := rfl
  have h3 : (nI (ai_ofI n)).toInt = ((ai_ofI n : Nat) : Int).bmod (2 ^ 32) := Int32.toInt_ofNat'
  rw [h3, h, Int32.toInt_ofInt]
  have h5 : (((n % 4294967296).toNat : Nat) : Int) = n % 4294967296 := by omega
  rw [h5]
  simp [Int.bmod_def, Int.emod_emod_of_dvd]
