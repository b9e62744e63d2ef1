/-! ===== bounds of symbols ===== -/
theorem ak_e_set {ι : ak_I} {env : ai_E} {k lo hi : Nat} (h : ak_e ι env) (h1 : lo ≤ ak_b (ι.2.2.2.2.1 k)) (h2 : ak_b (ι.2.2.2.2.1 k) ≤ hi) : ak_e ι (env.set k (lo, hi)) := by
  intro j q hj
  by_cases e : j = k
  · subst e
    by_cases hl : j < env.length
    · rw [List.getElem?_set_self hl] at hj
      cases hj
      exact ⟨h1, h2⟩
    · rw [List.getElem?_eq_none (by rw [List.length_set]; omega)] at hj
      cases hj
  · rw [List.getElem?_set_ne (Ne.symm e)] at hj
    exact h j q hj
theorem ai_env_eq (k lo hi n : Nat) (hp : ai_H) (env : ai_E) (cs : Nat × Nat) (f : ai_W → ai_P) : ai_env k lo hi (n, hp, env, cs) f = if k < env.length then f (n, hp, env.set k (lo, hi), cs) else none := by
  have h : ai_env k lo hi (n, hp, env, cs) f = ai_nt lo (fun lo => ai_nt hi (fun hi => ai_set (lo, hi) none env k (fun env => f (n, hp, env, cs)))) := rfl
  rw [h, ai_nt_eq, ai_nt_eq, ai_set_eq]
theorem ai_split_some {ι : ak_I} {v : ai_V} {n : Nat} {hp : ai_H} {env : ai_E} {cs : Nat × Nat} {f : ai_P} {g : ai_W → ai_P} {outs : List ai_O} (he : ak_e ι env) (h : ai_split v (n, hp, env, cs) f g = some outs) : f = some outs ∨ ∃ (env' : ai_E) (outs' : List ai_O), g (n, hp, env', cs) = some outs' ∧ (∀ o ∈ outs', o ∈ outs) ∧ ak_e ι env' := by
  simp only [ai_split, ak_if, ai_nth_eq, Nat.beq_eq, Nat.ble_eq] at h
  split at h
  · cases hk : env[v.2]? with
    | none => rw [hk] at h; exact absurd h (by simp)
    | some q =>
      rw [hk] at h
      simp only [Option.elim] at h
      split at h
      · exact Or.inl h
      · split at h
        · right
          obtain ⟨b1, b2⟩ := he _ _ hk
          obtain ⟨x, hx, hm⟩ := ai_all_some h (ak_b (ι.2.2.2.2.1 v.2) - q.1) (ai_ups_mem _ _ (by show _ < Nat.succ (q.2 - q.1); omega))
          rw [ai_env_eq] at hx
          split at hx
          · refine ⟨_, x, hx, hm, ak_e_set he ?_ ?_⟩
            · show q.1 + (ak_b (ι.2.2.2.2.1 v.2) - q.1) ≤ _; omega
            · show _ ≤ q.1 + (ak_b (ι.2.2.2.2.1 v.2) - q.1); omega
          · exact absurd hx (by simp)
        · exact Or.inl h
  · exact Or.inl h
theorem ai_nar_some {ι : ak_I} {k a b n : Nat} {hp : ai_H} {env : ai_E} {cs : Nat × Nat} {f : ai_W → ai_P} {outs : List ai_O} (he : ak_e ι env) (h : ai_nar k a b (n, hp, env, cs) f = some outs) (h1 : a ≤ ak_b (ι.2.2.2.2.1 k)) (h2 : ak_b (ι.2.2.2.2.1 k) ≤ b) : ∃ env' : ai_E, f (n, hp, env', cs) = some outs ∧ ak_e ι env' := by
  simp only [ai_nar, ak_if, ai_nth_eq, Nat.ble_eq] at h
  cases hk : env[k]? with
  | none => rw [hk] at h; exact absurd h (by simp)
  | some q =>
    rw [hk] at h
    simp only [Option.elim] at h
    obtain ⟨b1, b2⟩ := he _ _ hk
    have ha : (if a ≤ q.1 then q.1 else a) ≤ ak_b (ι.2.2.2.2.1 k) := by split <;> assumption
    have hb : ak_b (ι.2.2.2.2.1 k) ≤ (if b ≤ q.2 then b else q.2) := by split <;> assumption
    rw [if_pos (Nat.le_trans ha hb), ai_env_eq] at h
    split at h
    · exact ⟨_, h, ak_e_set he ha hb⟩
    · exact absurd h (by simp)
theorem ai_blw_some {ι : ak_I} {k b n : Nat} {hp : ai_H} {env : ai_E} {cs : Nat × Nat} {f : ai_W → ai_P} {outs : List ai_O} (he : ak_e ι env) (h : ai_blw k b (n, hp, env, cs) f = some outs) (h2 : ak_b (ι.2.2.2.2.1 k) < b) : ∃ env' : ai_E, f (n, hp, env', cs) = some outs ∧ ak_e ι env' := by
  simp only [ai_blw, ak_if, Nat.beq_eq] at h
  rw [if_neg (by omega)] at h
  exact ai_nar_some he h (Nat.zero_le _) (by show _ ≤ b - 1; omega)
/-- the condition of a number -/
def ak_t (o a c : Nat) : Prop := if o = 0 then a = c else if o = 1 then a ≠ c else if o = 2 then a < c else if o = 3 then c ≤ a else if o = 4 then c < a else a ≤ c
theorem ai_tst_iff (o a c : Nat) : (ai_tst o a c = true) = ak_t o a c := by
  simp only [ai_tst, ak_t, ak_if, Nat.beq_eq]
  split
  · rw [Nat.beq_eq]
  · split
    · by_cases h : a = c
      · simp [h]
      · have h' : ¬ (Nat.beq a c = true) := by rw [Nat.beq_eq]; exact h
        simp [h]
    · split
      · rw [Nat.ble_eq]; rfl
      · split
        · rw [Nat.ble_eq]
        · split
          · rw [Nat.ble_eq]; rfl
          · rw [Nat.ble_eq]
theorem ai_hold_some {ι : ak_I} {o k c n : Nat} {hp : ai_H} {env : ai_E} {cs : Nat × Nat} {f : ai_W → ai_P} {outs : List ai_O} (he : ak_e ι env) (h : ai_hold o k c (n, hp, env, cs) f = some outs) (ht : ak_t o (ak_b (ι.2.2.2.2.1 k)) c) : ∃ (env' : ai_E) (outs' : List ai_O), f (n, hp, env', cs) = some outs' ∧ (∀ z ∈ outs', z ∈ outs) ∧ ak_e ι env' := by
  have hb := ak_b_lt (ι.2.2.2.2.1 k)
  have wrap : (∃ env' : ai_E, f (n, hp, env', cs) = some outs ∧ ak_e ι env') → ∃ (env' : ai_E) (outs' : List ai_O), f (n, hp, env', cs) = some outs' ∧ (∀ z ∈ outs', z ∈ outs) ∧ ak_e ι env' := fun ⟨a, b, c⟩ => ⟨a, outs, b, fun _ h => h, c⟩
  simp only [ai_hold, ak_if, Nat.beq_eq] at h
  unfold ak_t at ht
  split at h
  · rename_i ho
    rw [if_pos ho] at ht
    exact wrap (ai_nar_some he h (by omega) (by omega))
  · rename_i ho
    rw [if_neg ho] at ht
    split at h
    · rename_i ho
      rw [if_pos ho] at ht
      obtain ⟨x, y, hx, hy, rfl⟩ := ai_two_some h
      rcases Nat.lt_or_ge (ak_b (ι.2.2.2.2.1 k)) c with hc | hc
      · obtain ⟨a, b, d⟩ := ai_blw_some he hx hc
        exact ⟨a, x, b, fun z hz => List.mem_append_left _ hz, d⟩
      · obtain ⟨a, b, d⟩ := ai_nar_some he hy (by show c + 1 ≤ _; omega) (by omega)
        exact ⟨a, y, b, fun z hz => List.mem_append_right _ hz, d⟩
    · rename_i ho
      rw [if_neg ho] at ht
      split at h
      · rename_i ho
        rw [if_pos ho] at ht
        exact wrap (ai_blw_some he h ht)
      · rename_i ho
        rw [if_neg ho] at ht
        split at h
        · rename_i ho
          rw [if_pos ho] at ht
          exact wrap (ai_nar_some he h ht (by omega))
        · rename_i ho
          rw [if_neg ho] at ht
          split at h
          · rename_i ho
            rw [if_pos ho] at ht
            exact wrap (ai_nar_some he h (by show c + 1 ≤ _; omega) (by omega))
          · rename_i ho
            rw [if_neg ho] at ht
            exact wrap (ai_nar_some he h (Nat.zero_le _) ht)
theorem ak_t_not {o a c : Nat} (ho : o ≤ 5) (h : ¬ ak_t o a c) : ak_t (ai_not o) a c := by
  rcases (show o = 0 ∨ o = 1 ∨ o = 2 ∨ o = 3 ∨ o = 4 ∨ o = 5 by omega) with rfl | rfl | rfl | rfl | rfl | rfl <;> simp [ak_t, ai_not, ak_if] at h ⊢ <;> omega
theorem ak_t_flip {o a c : Nat} (ho : o ≤ 5) : ak_t (ai_flip o) c a = ak_t o a c := by
  rcases (show o = 0 ∨ o = 1 ∨ o = 2 ∨ o = 3 ∨ o = 4 ∨ o = 5 by omega) with rfl | rfl | rfl | rfl | rfl | rfl <;> (try simp [ak_t, ai_flip, ak_if]) <;> (try omega)
theorem ai_flip_le {o : Nat} (ho : o ≤ 5) : ai_flip o ≤ 5 := by
  rcases (show o = 0 ∨ o = 1 ∨ o = 2 ∨ o = 3 ∨ o = 4 ∨ o = 5 by omega) with rfl | rfl | rfl | rfl | rfl | rfl <;> decide +kernel
/-- a branch: where it holds, and where not -/
theorem ai_br_some {ι : ak_I} {o n : Nat} {x y : ai_V} {hp : ai_H} {env : ai_E} {cs : Nat × Nat} {t f : ai_W → ai_P} {outs : List ai_O} (ho : o ≤ 5) (he : ak_e ι env) (h : ai_br o x y (n, hp, env, cs) t f = some outs) {ads : List Nat} {X Y : Value} (hx : ak_v ι ads x X) (hy : ak_v ι ads y Y) :
    ∃ A B : Int32, X = .int A ∧ Y = .int B ∧ (ak_t o (ak_b A) (ak_b B) → ∃ (env' : ai_E) (outs' : List ai_O), t (n, hp, env', cs) = some outs' ∧ (∀ z ∈ outs', z ∈ outs) ∧ ak_e ι env') ∧ (¬ ak_t o (ak_b A) (ak_b B) → ∃ (env' : ai_E) (outs' : List ai_O), f (n, hp, env', cs) = some outs' ∧ (∀ z ∈ outs', z ∈ outs) ∧ ak_e ι env') := by
  have both : ∀ {a b : ai_P}, ai_two a b = some outs → (∃ x, a = some x ∧ ∀ z ∈ x, z ∈ outs) ∧ ∃ y, b = some y ∧ ∀ z ∈ y, z ∈ outs := by
    intro a b h
    obtain ⟨x, y, hx, hy, rfl⟩ := ai_two_some h
    exact ⟨⟨x, hx, fun z hz => List.mem_append_left _ hz⟩, y, hy, fun z hz => List.mem_append_right _ hz⟩
  simp only [ai_br, ak_if, ak_and, Nat.beq_eq, Nat.ble_eq] at h
  split at h
  · rename_i hx0
    obtain ⟨A, rfl, hA, -⟩ := ak_v_int hx (by omega)
    split at h
    · rename_i hy0
      obtain ⟨B, rfl, hB, -⟩ := ak_v_int hy (by omega)
      refine ⟨A, B, rfl, rfl, fun ht => ?_, fun ht => ?_⟩
      · rw [hA hx0, hB hy0, ak_b_nI, ak_b_nI, ← ai_tst_iff] at ht
        rw [if_pos ht] at h
        exact ⟨env, outs, h, fun _ h => h, he⟩
      · rw [hA hx0, hB hy0, ak_b_nI, ak_b_nI, ← ai_tst_iff] at ht
        rw [if_neg ht] at h
        exact ⟨env, outs, h, fun _ h => h, he⟩
    · split at h
      · rename_i hy1
        obtain ⟨B, rfl, -, hB⟩ := ak_v_int hy (by omega)
        obtain ⟨⟨o1, h1, m1⟩, o2, h2, m2⟩ := both h
        refine ⟨A, B, rfl, rfl, fun ht => ?_, fun ht => ?_⟩
        · obtain ⟨e1, o3, a1, a2, a3⟩ := ai_hold_some he h1 (by rw [← hB hy1, ← ak_b_nI, ← hA hx0, ak_t_flip ho]; exact ht)
          exact ⟨e1, o3, a1, fun z hz => m1 z (a2 z hz), a3⟩
        · obtain ⟨e1, o3, a1, a2, a3⟩ := ai_hold_some he h2 (ak_t_not (ai_flip_le ho) (by rw [← hB hy1, ← ak_b_nI, ← hA hx0, ak_t_flip ho]; exact ht))
          exact ⟨e1, o3, a1, fun z hz => m2 z (a2 z hz), a3⟩
      · split at h
        · obtain ⟨B, rfl, -, -⟩ := ak_v_int hy (by omega)
          obtain ⟨⟨o1, h1, m1⟩, o2, h2, m2⟩ := both h
          exact ⟨A, B, rfl, rfl, fun _ => ⟨env, o1, h1, m1, he⟩, fun _ => ⟨env, o2, h2, m2, he⟩⟩
        · exact absurd h (by simp)
  · split at h
    · rename_i hxy
      obtain ⟨A, rfl, -, hA⟩ := ak_v_int hx (by omega)
      obtain ⟨B, rfl, hB, -⟩ := ak_v_int hy (by omega)
      obtain ⟨⟨o1, h1, m1⟩, o2, h2, m2⟩ := both h
      refine ⟨A, B, rfl, rfl, fun ht => ?_, fun ht => ?_⟩
      · obtain ⟨e1, o3, a1, a2, a3⟩ := ai_hold_some he h1 (by rw [← hA hxy.1, ← ak_b_nI, ← hB hxy.2]; exact ht)
        exact ⟨e1, o3, a1, fun z hz => m1 z (a2 z hz), a3⟩
      · obtain ⟨e1, o3, a1, a2, a3⟩ := ai_hold_some he h2 (ak_t_not ho (by rw [← hA hxy.1, ← ak_b_nI, ← hB hxy.2]; exact ht))
        exact ⟨e1, o3, a1, fun z hz => m2 z (a2 z hz), a3⟩
    · split at h
      · rename_i hxy
        obtain ⟨A, rfl, -, -⟩ := ak_v_int hx hxy.1
        obtain ⟨B, rfl, -, -⟩ := ak_v_int hy hxy.2
        obtain ⟨⟨o1, h1, m1⟩, o2, h2, m2⟩ := both h
        exact ⟨A, B, rfl, rfl, fun _ => ⟨env, o1, h1, m1, he⟩, fun _ => ⟨env, o2, h2, m2, he⟩⟩
      · exact absurd h (by simp)
