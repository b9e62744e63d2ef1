/-! ===== branches ===== -/
section JUMP
variable {ι : ak_I} {y : MethodName} {b : ByteArray} {rt : Option FieldType} {M : ai_M} {d : Nat} {p : Program} {l : Launch} {e : Env} {R : Room} {s : State} {m : MethodId} {args : Array Value} {below : List Frame} {meth : Method} {c : Code} {pc : Nat} {sq : ai_Q} {jm : Nat → ai_Q} {κ : ai_K}
theorem ah_icmp {o t : Nat} (ho : o ≤ 5) (hrow : ∀ (H : Heap) (locs : List Loc) (nc ns : Nat) (Q : State → Prop) (ls : Array Slot) (st : List Value) (A B : Int32), (ak_t o (ak_b A) (ak_b B) → W p l e R s m args below meth c H locs nc ns Q (F0 m t ls st)) → (¬ ak_t o (ak_b A) (ak_b B) → W p l e R s m args below meth c H locs nc ns Q (F0 m (pc + 3) ls st)) → W p l e R s m args below meth c H locs nc ns Q (F0 m pc ls (.int B :: .int A :: st))) (hs : ak_Snd ι M (p, l, e, R, s, m, args, below, meth, c) (pc + 3) sq) (hj : ∀ t, ak_Snd ι M (p, l, e, R, s, m, args, below, meth, c) t (jm t)) : ak_Snd ι M (p, l, e, R, s, m, args, below, meth, c) pc (ai_icmp o t sq jm κ) := by
  intro loc stk w outs h Q hQ ws ls st H locs hM
  obtain ⟨n, hp, env, cs⟩ := w
  have he : ak_e ι env := hM.2.2.2.2.2.2
  cases stk with
  | nil => exact absurd h (by simp [ai_icmp])
  | cons y' stk =>
    cases stk with
    | nil => exact absurd h (by simp [ai_icmp])
    | cons x' stk =>
      simp only [ai_icmp] at h
      obtain ⟨u, hu, huv, -, -⟩ := ai_res_eq ι env he x' (fun x => ai_res env y' (fun y => ai_br o x y (n, hp, env, cs) (jm t loc stk) (sq loc stk)))
      have h := hu.symm.trans h
      obtain ⟨u2, hu2, huv2, -, -⟩ := ai_res_eq ι env he y' (fun y => ai_br o u y (n, hp, env, cs) (jm t loc stk) (sq loc stk))
      have h := hu2.symm.trans h
      obtain ⟨Y, st, rfl, hy, hst⟩ := ak_s_cons hM.2.2.2.2.2.1
      obtain ⟨X, st, rfl, hx, hst2⟩ := ak_s_cons hst
      obtain ⟨A, B, rfl, rfl, hT, hF⟩ := ai_br_some ho he h (huv _ _ hx) (huv2 _ _ hy)
      refine hrow _ _ _ _ _ _ _ A B (fun ht => ?_) (fun ht => ?_)
      · obtain ⟨env', outs', a1, a2, a3⟩ := hT ht
        exact hj t _ _ _ _ a1 Q (fun z hz => hQ z (a2 z hz)) ws ls _ H locs ((hM.restk hst2).reenv a3)
      · obtain ⟨env', outs', a1, a2, a3⟩ := hF ht
        exact hs _ _ _ _ a1 Q (fun z hz => hQ z (a2 z hz)) ws ls _ H locs ((hM.restk hst2).reenv a3)
theorem ah_if0 {o t : Nat} (ho : o ≤ 5) (hrow : ∀ (H : Heap) (locs : List Loc) (nc ns : Nat) (Q : State → Prop) (ls : Array Slot) (st : List Value) (A : Int32), (ak_t o (ak_b A) (ak_b 0) → W p l e R s m args below meth c H locs nc ns Q (F0 m t ls st)) → (¬ ak_t o (ak_b A) (ak_b 0) → W p l e R s m args below meth c H locs nc ns Q (F0 m (pc + 3) ls st)) → W p l e R s m args below meth c H locs nc ns Q (F0 m pc ls (.int A :: st))) (hs : ak_Snd ι M (p, l, e, R, s, m, args, below, meth, c) (pc + 3) sq) (hj : ∀ t, ak_Snd ι M (p, l, e, R, s, m, args, below, meth, c) t (jm t)) : ak_Snd ι M (p, l, e, R, s, m, args, below, meth, c) pc (ai_if0 o t sq jm κ) := by
  intro loc stk w outs h Q hQ ws ls st H locs hM
  obtain ⟨n, hp, env, cs⟩ := w
  have he : ak_e ι env := hM.2.2.2.2.2.2
  cases stk with
  | nil => exact absurd h (by simp [ai_if0])
  | cons x' stk =>
    simp only [ai_if0] at h
    obtain ⟨u, hu, huv, -, -⟩ := ai_res_eq ι env he x' (fun x => ai_br o x (0, 0) (n, hp, env, cs) (jm t loc stk) (sq loc stk))
    have h := hu.symm.trans h
    obtain ⟨X, st, rfl, hx, hst⟩ := ak_s_cons hM.2.2.2.2.2.1
    obtain ⟨A, B, rfl, hB, hT, hF⟩ := ai_br_some ho he h (huv _ _ hx) (show ak_v ι (ws.map Prod.fst) (0, 0) (.int (nI 0)) from Or.inl ⟨rfl, rfl⟩)
    cases hB
    rw [nI_0] at hT hF
    refine hrow _ _ _ _ _ _ _ A (fun ht => ?_) (fun ht => ?_)
    · obtain ⟨env', outs', a1, a2, a3⟩ := hT ht
      exact hj t _ _ _ _ a1 Q (fun z hz => hQ z (a2 z hz)) ws ls _ H locs ((hM.restk hst).reenv a3)
    · obtain ⟨env', outs', a1, a2, a3⟩ := hF ht
      exact hs _ _ _ _ a1 Q (fun z hz => hQ z (a2 z hz)) ws ls _ H locs ((hM.restk hst).reenv a3)
theorem ak_t0 (A B : Int32) : ak_t 0 (ak_b A) (ak_b B) = (A = B) := by rw [ak_eq]; rfl
theorem ak_t1 (A B : Int32) : ak_t 1 (ak_b A) (ak_b B) = ¬ (A = B) := by rw [ak_eq]; rfl
theorem ak_t2 (A B : Int32) : ak_t 2 (ak_b A) (ak_b B) = (A < B) := by rw [ak_lt]; rfl
theorem ak_t3 (A B : Int32) : ak_t 3 (ak_b A) (ak_b B) = (B ≤ A) := by rw [ak_le]; rfl
theorem ak_t4 (A B : Int32) : ak_t 4 (ak_b A) (ak_b B) = (B < A) := by rw [ak_lt]; rfl
theorem ak_t5 (A B : Int32) : ak_t 5 (ak_b A) (ak_b B) = (A ≤ B) := by rw [ak_le]; rfl
theorem ah_icmp_eq {off : Int} {t : Nat} (C : ak_C ι y b rt M d p l e R s m args below meth c) (ht : (pc : Int) + off = (t : Int)) (hd : decode b pc = .ok (.if_icmp .eq off, 3)) (hs : ak_Snd ι M (p, l, e, R, s, m, args, below, meth, c) (pc + 3) sq) (hj : ∀ t, ak_Snd ι M (p, l, e, R, s, m, args, below, meth, c) t (jm t)) : ak_Snd ι M (p, l, e, R, s, m, args, below, meth, c) pc (ai_icmp 0 t sq jm κ) :=
  ah_icmp (by omega) (fun _ _ _ _ _ _ _ A B kt kf => by rw [ak_t0] at kt kf; exact lv_icmp_eq C.1.1 C.1.2.1 hd ht kt kf) hs hj
theorem ah_if_eq {off : Int} {t : Nat} (C : ak_C ι y b rt M d p l e R s m args below meth c) (ht : (pc : Int) + off = (t : Int)) (hd : decode b pc = .ok (.ifCond .eq off, 3)) (hs : ak_Snd ι M (p, l, e, R, s, m, args, below, meth, c) (pc + 3) sq) (hj : ∀ t, ak_Snd ι M (p, l, e, R, s, m, args, below, meth, c) t (jm t)) : ak_Snd ι M (p, l, e, R, s, m, args, below, meth, c) pc (ai_if0 0 t sq jm κ) :=
  ah_if0 (by omega) (fun _ _ _ _ _ _ _ A kt kf => by rw [ak_t0] at kt kf; exact lv_if_eq C.1.1 C.1.2.1 hd ht kt kf) hs hj
theorem ah_icmp_ne {off : Int} {t : Nat} (C : ak_C ι y b rt M d p l e R s m args below meth c) (ht : (pc : Int) + off = (t : Int)) (hd : decode b pc = .ok (.if_icmp .ne off, 3)) (hs : ak_Snd ι M (p, l, e, R, s, m, args, below, meth, c) (pc + 3) sq) (hj : ∀ t, ak_Snd ι M (p, l, e, R, s, m, args, below, meth, c) t (jm t)) : ak_Snd ι M (p, l, e, R, s, m, args, below, meth, c) pc (ai_icmp 1 t sq jm κ) :=
  ah_icmp (by omega) (fun _ _ _ _ _ _ _ A B kt kf => by rw [ak_t1] at kt kf; exact lv_icmp_ne C.1.1 C.1.2.1 hd ht kt kf) hs hj
theorem ah_if_ne {off : Int} {t : Nat} (C : ak_C ι y b rt M d p l e R s m args below meth c) (ht : (pc : Int) + off = (t : Int)) (hd : decode b pc = .ok (.ifCond .ne off, 3)) (hs : ak_Snd ι M (p, l, e, R, s, m, args, below, meth, c) (pc + 3) sq) (hj : ∀ t, ak_Snd ι M (p, l, e, R, s, m, args, below, meth, c) t (jm t)) : ak_Snd ι M (p, l, e, R, s, m, args, below, meth, c) pc (ai_if0 1 t sq jm κ) :=
  ah_if0 (by omega) (fun _ _ _ _ _ _ _ A kt kf => by rw [ak_t1] at kt kf; exact lv_if_ne C.1.1 C.1.2.1 hd ht kt kf) hs hj
theorem ah_icmp_lt {off : Int} {t : Nat} (C : ak_C ι y b rt M d p l e R s m args below meth c) (ht : (pc : Int) + off = (t : Int)) (hd : decode b pc = .ok (.if_icmp .lt off, 3)) (hs : ak_Snd ι M (p, l, e, R, s, m, args, below, meth, c) (pc + 3) sq) (hj : ∀ t, ak_Snd ι M (p, l, e, R, s, m, args, below, meth, c) t (jm t)) : ak_Snd ι M (p, l, e, R, s, m, args, below, meth, c) pc (ai_icmp 2 t sq jm κ) :=
  ah_icmp (by omega) (fun _ _ _ _ _ _ _ A B kt kf => by rw [ak_t2] at kt kf; exact lv_icmp_lt C.1.1 C.1.2.1 hd ht kt kf) hs hj
theorem ah_if_lt {off : Int} {t : Nat} (C : ak_C ι y b rt M d p l e R s m args below meth c) (ht : (pc : Int) + off = (t : Int)) (hd : decode b pc = .ok (.ifCond .lt off, 3)) (hs : ak_Snd ι M (p, l, e, R, s, m, args, below, meth, c) (pc + 3) sq) (hj : ∀ t, ak_Snd ι M (p, l, e, R, s, m, args, below, meth, c) t (jm t)) : ak_Snd ι M (p, l, e, R, s, m, args, below, meth, c) pc (ai_if0 2 t sq jm κ) :=
  ah_if0 (by omega) (fun _ _ _ _ _ _ _ A kt kf => by rw [ak_t2] at kt kf; exact lv_if_lt C.1.1 C.1.2.1 hd ht kt kf) hs hj
theorem ah_icmp_ge {off : Int} {t : Nat} (C : ak_C ι y b rt M d p l e R s m args below meth c) (ht : (pc : Int) + off = (t : Int)) (hd : decode b pc = .ok (.if_icmp .ge off, 3)) (hs : ak_Snd ι M (p, l, e, R, s, m, args, below, meth, c) (pc + 3) sq) (hj : ∀ t, ak_Snd ι M (p, l, e, R, s, m, args, below, meth, c) t (jm t)) : ak_Snd ι M (p, l, e, R, s, m, args, below, meth, c) pc (ai_icmp 3 t sq jm κ) :=
  ah_icmp (by omega) (fun _ _ _ _ _ _ _ A B kt kf => by rw [ak_t3] at kt kf; exact lv_icmp_ge C.1.1 C.1.2.1 hd ht kt kf) hs hj
theorem ah_if_ge {off : Int} {t : Nat} (C : ak_C ι y b rt M d p l e R s m args below meth c) (ht : (pc : Int) + off = (t : Int)) (hd : decode b pc = .ok (.ifCond .ge off, 3)) (hs : ak_Snd ι M (p, l, e, R, s, m, args, below, meth, c) (pc + 3) sq) (hj : ∀ t, ak_Snd ι M (p, l, e, R, s, m, args, below, meth, c) t (jm t)) : ak_Snd ι M (p, l, e, R, s, m, args, below, meth, c) pc (ai_if0 3 t sq jm κ) :=
  ah_if0 (by omega) (fun _ _ _ _ _ _ _ A kt kf => by rw [ak_t3] at kt kf; exact lv_if_ge C.1.1 C.1.2.1 hd ht kt kf) hs hj
theorem ah_icmp_gt {off : Int} {t : Nat} (C : ak_C ι y b rt M d p l e R s m args below meth c) (ht : (pc : Int) + off = (t : Int)) (hd : decode b pc = .ok (.if_icmp .gt off, 3)) (hs : ak_Snd ι M (p, l, e, R, s, m, args, below, meth, c) (pc + 3) sq) (hj : ∀ t, ak_Snd ι M (p, l, e, R, s, m, args, below, meth, c) t (jm t)) : ak_Snd ι M (p, l, e, R, s, m, args, below, meth, c) pc (ai_icmp 4 t sq jm κ) :=
  ah_icmp (by omega) (fun _ _ _ _ _ _ _ A B kt kf => by rw [ak_t4] at kt kf; exact lv_icmp_gt C.1.1 C.1.2.1 hd ht kt kf) hs hj
theorem ah_if_gt {off : Int} {t : Nat} (C : ak_C ι y b rt M d p l e R s m args below meth c) (ht : (pc : Int) + off = (t : Int)) (hd : decode b pc = .ok (.ifCond .gt off, 3)) (hs : ak_Snd ι M (p, l, e, R, s, m, args, below, meth, c) (pc + 3) sq) (hj : ∀ t, ak_Snd ι M (p, l, e, R, s, m, args, below, meth, c) t (jm t)) : ak_Snd ι M (p, l, e, R, s, m, args, below, meth, c) pc (ai_if0 4 t sq jm κ) :=
  ah_if0 (by omega) (fun _ _ _ _ _ _ _ A kt kf => by rw [ak_t4] at kt kf; exact lv_if_gt C.1.1 C.1.2.1 hd ht kt kf) hs hj
theorem ah_icmp_le {off : Int} {t : Nat} (C : ak_C ι y b rt M d p l e R s m args below meth c) (ht : (pc : Int) + off = (t : Int)) (hd : decode b pc = .ok (.if_icmp .le off, 3)) (hs : ak_Snd ι M (p, l, e, R, s, m, args, below, meth, c) (pc + 3) sq) (hj : ∀ t, ak_Snd ι M (p, l, e, R, s, m, args, below, meth, c) t (jm t)) : ak_Snd ι M (p, l, e, R, s, m, args, below, meth, c) pc (ai_icmp 5 t sq jm κ) :=
  ah_icmp (by omega) (fun _ _ _ _ _ _ _ A B kt kf => by rw [ak_t5] at kt kf; exact lv_icmp_le C.1.1 C.1.2.1 hd ht kt kf) hs hj
theorem ah_if_le {off : Int} {t : Nat} (C : ak_C ι y b rt M d p l e R s m args below meth c) (ht : (pc : Int) + off = (t : Int)) (hd : decode b pc = .ok (.ifCond .le off, 3)) (hs : ak_Snd ι M (p, l, e, R, s, m, args, below, meth, c) (pc + 3) sq) (hj : ∀ t, ak_Snd ι M (p, l, e, R, s, m, args, below, meth, c) t (jm t)) : ak_Snd ι M (p, l, e, R, s, m, args, below, meth, c) pc (ai_if0 5 t sq jm κ) :=
  ah_if0 (by omega) (fun _ _ _ _ _ _ _ A kt kf => by rw [ak_t5] at kt kf; exact lv_if_le C.1.1 C.1.2.1 hd ht kt kf) hs hj
/-- null or not -/
theorem ah_nul {eq : Bool} {t : Nat} (hrow : ∀ (H : Heap) (locs : List Loc) (nc ns : Nat) (Q : State → Prop) (ls : Array Slot) (st : List Value) (x : Value) (isn : Bool), (x = .null ∧ isn = true ∨ (∃ q : Nat, x = .ref q) ∧ isn = false) → W p l e R s m args below meth c H locs nc ns Q (F0 m (if isn = eq then t else pc + 3) ls st) → W p l e R s m args below meth c H locs nc ns Q (F0 m pc ls (x :: st))) (hs : ak_Snd ι M (p, l, e, R, s, m, args, below, meth, c) (pc + 3) sq) (hj : ∀ t, ak_Snd ι M (p, l, e, R, s, m, args, below, meth, c) t (jm t)) : ak_Snd ι M (p, l, e, R, s, m, args, below, meth, c) pc (ai_nul eq t sq jm κ) := by
  intro loc stk w outs h Q hQ ws ls st H locs hM
  cases stk with
  | nil => exact absurd h (by simp [ai_nul])
  | cons x stk =>
    simp only [ai_nul, ak_if, ai_in_iff, Nat.beq_eq] at h
    split at h
    · rename_i hx57
      obtain ⟨X, st, rfl, hx, hst⟩ := ak_s_cons hM.2.2.2.2.2.1
      rcases ak_v_ref hx hx57.1 with ⟨rfl, h5⟩ | ⟨⟨q, rfl⟩, h67⟩
      · rw [if_pos h5] at h
        refine hrow _ _ _ _ _ _ _ _ true (Or.inl ⟨rfl, rfl⟩) ?_
        cases eq with
        | true => exact hj t _ _ _ _ h Q hQ ws ls _ H locs (hM.restk hst)
        | false => exact hs _ _ _ _ h Q hQ ws ls _ H locs (hM.restk hst)
      · rw [if_neg (by omega)] at h
        refine hrow _ _ _ _ _ _ _ _ false (Or.inr ⟨⟨q, rfl⟩, rfl⟩) ?_
        cases eq with
        | true => exact hs _ _ _ _ h Q hQ ws ls _ H locs (hM.restk hst)
        | false => exact hj t _ _ _ _ h Q hQ ws ls _ H locs (hM.restk hst)
    · exact absurd h (by simp)
theorem ah_ifnull {off : Int} {t : Nat} (C : ak_C ι y b rt M d p l e R s m args below meth c) (ht : (pc : Int) + off = (t : Int)) (hd : decode b pc = .ok (.ifnull off, 3)) (hs : ak_Snd ι M (p, l, e, R, s, m, args, below, meth, c) (pc + 3) sq) (hj : ∀ t, ak_Snd ι M (p, l, e, R, s, m, args, below, meth, c) t (jm t)) : ak_Snd ι M (p, l, e, R, s, m, args, below, meth, c) pc (ai_nul true t sq jm κ) :=
  ah_nul (fun _ _ _ _ _ _ _ x isn hx k => by
    rcases hx with ⟨rfl, rfl⟩ | ⟨⟨q, rfl⟩, rfl⟩
    · exact lv_ifnullN C.1.1 C.1.2.1 hd ht k
    · exact lv_ifnull C.1.1 C.1.2.1 hd k) hs hj
theorem ah_ifnonnull {off : Int} {t : Nat} (C : ak_C ι y b rt M d p l e R s m args below meth c) (ht : (pc : Int) + off = (t : Int)) (hd : decode b pc = .ok (.ifnonnull off, 3)) (hs : ak_Snd ι M (p, l, e, R, s, m, args, below, meth, c) (pc + 3) sq) (hj : ∀ t, ak_Snd ι M (p, l, e, R, s, m, args, below, meth, c) t (jm t)) : ak_Snd ι M (p, l, e, R, s, m, args, below, meth, c) pc (ai_nul false t sq jm κ) :=
  ah_nul (fun _ _ _ _ _ _ _ x isn hx k => by
    rcases hx with ⟨rfl, rfl⟩ | ⟨⟨q, rfl⟩, rfl⟩
    · exact lv_ifnonnullN C.1.1 C.1.2.1 hd k
    · exact lv_ifnonnull C.1.1 C.1.2.1 hd ht k) hs hj
/-- a reference as the tables' rows have it -/
theorem ak_v_rf {ads : List Nat} {a : ai_V} {v : Value} (h : ak_v ι ads a v) (h5 : 5 ≤ a.1) : ∃ r : Option Nat, v = va_rf r ∧ (a.1 = 5 → r = none) ∧ (a.1 = 6 → ∃ q, ads[a.2]? = some q ∧ r = some q) ∧ (a.1 = 7 → r = some (ι.2.2.2.1 a.2)) := by
  rcases h with ⟨h, e⟩ | ⟨h, e⟩ | ⟨h, x, e⟩ | ⟨h, e⟩ | ⟨h, x, e⟩ | ⟨h, e⟩ | ⟨h, x, e1, e⟩ | ⟨h, e⟩ <;> try omega
  · exact ⟨none, e, fun _ => rfl, fun h6 => by omega, fun h7 => by omega⟩
  · exact ⟨some x, e, fun h5 => by omega, fun _ => ⟨x, e1, rfl⟩, fun h7 => by omega⟩
  · exact ⟨some _, e, fun h5 => by omega, fun h6 => by omega, fun _ => rfl⟩
/-- two references that differ -/
theorem ak_ne {ws : va_W} (hE : ak_S ι s s.heap) (hD : va_D (ak_A ι) ws) {x z : ai_V} {rx rz : Option Nat} (hx : ai_acm x = true) (hz : ai_acm z = true) (hne : ¬ x = z) (x57 : 5 ≤ x.1 ∧ x.1 ≤ 7) (z57 : 5 ≤ z.1 ∧ z.1 ≤ 7) (x5 : x.1 = 5 → rx = none) (x6 : x.1 = 6 → ∃ q, (ws.map Prod.fst)[x.2]? = some q ∧ rx = some q) (x7 : x.1 = 7 → rx = some (ι.2.2.2.1 x.2)) (z5 : z.1 = 5 → rz = none) (z6 : z.1 = 6 → ∃ q, (ws.map Prod.fst)[z.2]? = some q ∧ rz = some q) (z7 : z.1 = 7 → rz = some (ι.2.2.2.1 z.2)) : ¬ rx = rz := by
  have acm : ∀ v : ai_V, ai_acm v = true → (v.1 = 7 → v.2 ≤ 37) ∧ (v.1 = 5 → v = (5, 0)) := by
    intro v hv
    simp only [ai_acm, ak_if, Nat.beq_eq] at hv
    split at hv
    · exact ⟨fun h => by omega, fun h => by omega⟩
    · split at hv
      · rw [Nat.ble_eq] at hv
        exact ⟨fun _ => hv, fun h => by omega⟩
      · rw [ai_eqV_iff] at hv
        exact ⟨fun h => by omega, fun _ => hv⟩
  obtain ⟨ax, nx⟩ := acm x hx
  obtain ⟨az, nz⟩ := acm z hz
  have len : ak_nm.length = 38 := rfl
  have own : ∀ k q, (ws.map Prod.fst)[k]? = some q → ι.1 ≤ q := by
    intro k q h
    rw [List.getElem?_map] at h
    cases hk : ws[k]? with
    | none => rw [hk] at h; cases h
    | some u =>
      rw [hk] at h
      cases h
      exact hD.2 k u hk
  have old : ∀ j, j ≤ 37 → ¬ ι.1 ≤ ι.2.2.2.1 j := fun j hj => by
    obtain ⟨cell, -, -, -, h⟩ := (hE.1.1 j (by rw [len]; omega)).2.1
    exact h
  rcases (show x.1 = 5 ∨ x.1 = 6 ∨ x.1 = 7 by omega) with hx5 | hx6 | hx7 <;> rcases (show z.1 = 5 ∨ z.1 = 6 ∨ z.1 = 7 by omega) with hz5 | hz6 | hz7
  · exact absurd ((nx hx5).trans (nz hz5).symm) hne
  · obtain ⟨q, -, h⟩ := z6 hz6
    rw [x5 hx5, h]; simp
  · rw [x5 hx5, z7 hz7]; simp
  · obtain ⟨q, -, h⟩ := x6 hx6
    rw [z5 hz5, h]; simp
  · obtain ⟨q, h1, h2⟩ := x6 hx6
    obtain ⟨q', h3, h4⟩ := z6 hz6
    rw [h2, h4]
    intro hc
    cases hc
    rw [List.getElem?_map] at h1 h3
    cases hk : ws[x.2]? with
    | none => rw [hk] at h1; cases h1
    | some u =>
      cases hk2 : ws[z.2]? with
      | none => rw [hk2] at h3; cases h3
      | some u2 =>
        rw [hk] at h1
        rw [hk2] at h3
        have := hD.1 x.2 z.2 u u2 hk hk2 ((Option.some.inj h1).trans (Option.some.inj h3).symm)
        exact hne (Prod.ext (hx6.trans hz6.symm) this)
  · obtain ⟨q, h1, h2⟩ := x6 hx6
    rw [h2, z7 hz7]
    intro hc
    exact old z.2 (az hz7) (by rw [← Option.some.inj hc]; exact own _ _ h1)
  · rw [x7 hx7, z5 hz5]; simp
  · obtain ⟨q, h1, h2⟩ := z6 hz6
    rw [h2, x7 hx7]
    intro hc
    exact old x.2 (ax hx7) (by rw [Option.some.inj hc]; exact own _ _ h1)
  · rw [x7 hx7, z7 hz7]
    intro hc
    have := hE.1.2 x.2 z.2 (by rw [len]; have := ax hx7; omega) (by rw [len]; have := az hz7; omega) (Option.some.inj hc)
    exact hne (Prod.ext (hx7.trans hz7.symm) this)
theorem ah_acmp {eq : Bool} {t : Nat} (C : ak_C ι y b rt M d p l e R s m args below meth c) (hrow : ∀ (H : Heap) (locs : List Loc) (nc ns : Nat) (Q : State → Prop) (ls : Array Slot) (st : List Value) (rx ry : Option Nat), (rx = ry → W p l e R s m args below meth c H locs nc ns Q (F0 m (if eq = true then t else pc + 3) ls st)) → (¬ rx = ry → W p l e R s m args below meth c H locs nc ns Q (F0 m (if eq = true then pc + 3 else t) ls st)) → W p l e R s m args below meth c H locs nc ns Q (F0 m pc ls (va_rf ry :: va_rf rx :: st))) (hs : ak_Snd ι M (p, l, e, R, s, m, args, below, meth, c) (pc + 3) sq) (hj : ∀ t, ak_Snd ι M (p, l, e, R, s, m, args, below, meth, c) t (jm t)) : ak_Snd ι M (p, l, e, R, s, m, args, below, meth, c) pc (ai_acmp eq t sq jm κ) := by
  intro loc stk w outs h Q hQ ws ls st H locs hM
  cases stk with
  | nil => exact absurd h (by simp [ai_acmp])
  | cons z stk =>
    cases stk with
    | nil => exact absurd h (by simp [ai_acmp])
    | cons x stk =>
      simp only [ai_acmp, ak_if, ak_and, ai_in_iff, ai_eqV_iff] at h
      split at h
      · rename_i hxz
        obtain ⟨Z, st, rfl, hz, hst⟩ := ak_s_cons hM.2.2.2.2.2.1
        obtain ⟨X, st, rfl, hx, hst2⟩ := ak_s_cons hst
        obtain ⟨rx, rfl, x5, x6, x7⟩ := ak_v_rf hx hxz.1.1
        obtain ⟨rz, rfl, z5, z6, z7⟩ := ak_v_rf hz hxz.2.1
        split at h
        · rename_i hxz2
          subst hxz2
          have er : rx = rz := by
            rcases (show x.1 = 5 ∨ x.1 = 6 ∨ x.1 = 7 by omega) with h5 | h6 | h7
            · rw [x5 h5, z5 h5]
            · obtain ⟨q, a1, a2⟩ := x6 h6
              obtain ⟨q', a3, a4⟩ := z6 h6
              rw [a2, a4]
              exact a1.symm.trans a3
            · rw [x7 h7, z7 h7]
          refine hrow _ _ _ _ _ _ _ rx rz (fun _ => ?_) (fun hc => absurd er hc)
          cases eq with
          | true => exact hj t _ _ _ _ h Q hQ ws ls _ H locs (hM.restk hst2)
          | false => exact hs _ _ _ _ h Q hQ ws ls _ H locs (hM.restk hst2)
        · rename_i hne
          split at h
          · rename_i hacm
            have er := ak_ne C.2.2.1.2.1 hM.2.1 hacm.1 hacm.2 hne hxz.1 hxz.2 x5 x6 x7 z5 z6 z7
            refine hrow _ _ _ _ _ _ _ rx rz (fun hc => absurd hc er) (fun _ => ?_)
            cases eq with
            | true => exact hs _ _ _ _ h Q hQ ws ls _ H locs (hM.restk hst2)
            | false => exact hj t _ _ _ _ h Q hQ ws ls _ H locs (hM.restk hst2)
          · exact absurd h (by simp)
      · exact absurd h (by simp)
theorem ah_acmp_eq {off : Int} {t : Nat} (C : ak_C ι y b rt M d p l e R s m args below meth c) (ht : (pc : Int) + off = (t : Int)) (hd : decode b pc = .ok (.if_acmp .eq off, 3)) (hs : ak_Snd ι M (p, l, e, R, s, m, args, below, meth, c) (pc + 3) sq) (hj : ∀ t, ak_Snd ι M (p, l, e, R, s, m, args, below, meth, c) t (jm t)) : ak_Snd ι M (p, l, e, R, s, m, args, below, meth, c) pc (ai_acmp true t sq jm κ) :=
  ah_acmp C (fun _ _ _ _ _ _ _ _ _ kt kf => lv_acmp_eq C.1.1 C.1.2.1 hd ht kt kf) hs hj
theorem ah_acmp_ne {off : Int} {t : Nat} (C : ak_C ι y b rt M d p l e R s m args below meth c) (ht : (pc : Int) + off = (t : Int)) (hd : decode b pc = .ok (.if_acmp .ne off, 3)) (hs : ak_Snd ι M (p, l, e, R, s, m, args, below, meth, c) (pc + 3) sq) (hj : ∀ t, ak_Snd ι M (p, l, e, R, s, m, args, below, meth, c) t (jm t)) : ak_Snd ι M (p, l, e, R, s, m, args, below, meth, c) pc (ai_acmp false t sq jm κ) :=
  ah_acmp C (fun _ _ _ _ _ _ _ _ _ kt kf => lv_acmp_ne C.1.1 C.1.2.1 hd ht kf kt) hs hj
end JUMP
