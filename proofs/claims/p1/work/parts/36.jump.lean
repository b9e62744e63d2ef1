/-! ===== branches ===== -/
section JUMP
variable {ι : ak_I} {y : MethodName} {b : ByteArray} {rt : Option FieldType} {M : ai_M} {d : Nat} {p : Program} {l : Launch} {e : Env} {R : Room} {s : State} {m : MethodId} {args : Array Value} {below : List Frame} {meth : Method} {c : Code} {pc : Nat} {sq : ai_Q} {jm : Nat → ai_Q} {κ : ai_K}
theorem ah_icmp {o t : Nat} (ho : o ≤ 5) (hrow : ∀ (H : Heap) (locs : List Loc) (nc ns : Nat) (Q : State → Prop) (ls : Array Slot) (st : List Value) (A B : Int32), (ak_t o (ak_b A) (ak_b B) → W p l e R s m args below meth c H locs nc ns Q (F0 m t ls st)) → (¬ ak_t o (ak_b A) (ak_b B) → W p l e R s m args below meth c H locs nc ns Q (F0 m (pc + 3) ls st)) → W p l e R s m args below meth c H locs nc ns Q (F0 m pc ls (.int B :: .int A :: st))) (hs : ak_Snd ι M (p, l, e, R, s, m, args, below, meth, c) (pc + 3) sq) (hj : ∀ t, ak_Snd ι M (p, l, e, R, s, m, args, below, meth, c) t (jm t)) : ak_Snd ι M (p, l, e, R, s, m, args, below, meth, c) pc (ai_icmp o t sq jm κ) := by
  intro loc stk w outs h Q hQ ws ls st H locs hM
  obtain ⟨n, hp, env, cs⟩ := w
  have he : ak_e ι env := hM.2.2.2.2.2.2
  cases stk with
  | nil => exact absurd h (by simp [ai_icmp])
  | cons y' stk =>
    cases stk with
    | nil => exact absurd h (by simp [ai_icmp])
    | cons x' stk =>
      simp only [ai_icmp] at h
      obtain ⟨u, hu, huv, -, -⟩ := ai_res_eq ι env he x' (fun x => ai_res env y' (fun y => ai_br o x y (n, hp, env, cs) (jm t loc stk) (sq loc stk)))
      have h := hu.symm.trans h
      obtain ⟨u2, hu2, huv2, -, -⟩ := ai_res_eq ι env he y' (fun y => ai_br o u y (n, hp, env, cs) (jm t loc stk) (sq loc stk))
      have h := hu2.symm.trans h
      obtain ⟨Y, st, rfl, hy, hst⟩ := ak_s_cons hM.2.2.2.2.2.1
      obtain ⟨X, st, rfl, hx, hst2⟩ := ak_s_cons hst
      obtain ⟨A, B, rfl, rfl, hT, hF⟩ := ai_br_some ho he h (huv _ _ hx) (huv2 _ _ hy)
      refine hrow _ _ _ _ _ _ _ A B (fun ht => ?_) (fun ht => ?_)
      · obtain ⟨env', outs', a1, a2, a3⟩ := hT ht
        exact hj t _ _ _ _ a1 Q (fun z hz => hQ z (a2 z hz)) ws ls _ H locs ((hM.restk hst2).reenv a3)
      · obtain ⟨env', outs', a1, a2, a3⟩ := hF ht
        exact hs _ _ _ _ a1 Q (fun z hz => hQ z (a2 z hz)) ws ls _ H locs ((hM.restk hst2).reenv a3)
theorem ah_if0 {o t : Nat} (ho : o ≤ 5) (hrow : ∀ (H : Heap) (locs : List Loc) (nc ns : Nat) (Q : State → Prop) (ls : Array Slot) (st : List Value) (A : Int32), (ak_t o (ak_b A) (ak_b 0) → W p l e R s m args below meth c H locs nc ns Q (F0 m t ls st)) → (¬ ak_t o (ak_b A) (ak_b 0) → W p l e R s m args below meth c H locs nc ns Q (F0 m (pc + 3) ls st)) → W p l e R s m args below meth c H locs nc ns Q (F0 m pc ls (.int A :: st))) (hs : ak_Snd ι M (p, l, e, R, s, m, args, below, meth, c) (pc + 3) sq) (hj : ∀ t, ak_Snd ι M (p, l, e, R, s, m, args, below, meth, c) t (jm t)) : ak_Snd ι M (p, l, e, R, s, m, args, below, meth, c) pc (ai_if0 o t sq jm κ) := by
  intro loc stk w outs h Q hQ ws ls st H locs hM
  obtain ⟨n, hp, env, cs⟩ := w
  have he : ak_e ι env := hM.2.2.2.2.2.2
  cases stk with
  | nil => exact absurd h (by simp [ai_if0])
  | cons x' stk =>
    simp only [ai_if0] at h
    obtain ⟨u, hu, huv, -, -⟩ := ai_res_eq ι env he x' (fun x => ai_br o x (0, 0) (n, hp, env, cs) (jm t loc stk) (sq loc stk))
    have h := hu.symm.trans h
    obtain ⟨X, st, rfl, hx, hst⟩ := ak_s_cons hM.2.2.2.2.2.1
    obtain ⟨A, B, rfl, hB, hT, hF⟩ := ai_br_some ho he h (huv _ _ hx) (show ak_v ι (ws.map Prod.fst) (0, 0) (.int (nI 0)) from Or.inl ⟨rfl, rfl⟩)
    cases hB
    rw [nI_0] at hT hF
    refine hrow _ _ _ _ _ _ _ A (fun ht => ?_) (fun ht => ?_)
    · obtain ⟨env', outs', a1, a2, a3⟩ := hT ht
      exact hj t _ _ _ _ a1 Q (fun z hz => hQ z (a2 z hz)) ws ls _ H locs ((hM.restk hst).reenv a3)
    · obtain ⟨env', outs', a1, a2, a3⟩ := hF ht
      exact hs _ _ _ _ a1 Q (fun z hz => hQ z (a2 z hz)) ws ls _ H locs ((hM.restk hst).reenv a3)
theorem ak_t0 (A B : Int32) : ak_t 0 (ak_b A) (ak_b B) = (A = B) := by rw [ak_eq]; rfl
theorem ak_t1 (A B : Int32) : ak_t 1 (ak_b A) (ak_b B) = ¬ (A = B) := by rw [ak_eq]; rfl
theorem ak_t2 (A B : Int32) : ak_t 2 (ak_b A) (ak_b B) = (A < B) := by rw [ak_lt]; rfl
theorem ak_t3 (A B : Int32) : ak_t 3 (ak_b A) (ak_b B) = (B ≤ A) := by rw [ak_le]; rfl
theorem ak_t4 (A B : Int32) : ak_t 4 (ak_b A) (ak_b B) = (B < A) := by rw [ak_lt]; rfl
theorem ak_t5 (A B : Int32) : ak_t 5 (ak_b A) (ak_b B) = (A ≤ B) := by rw [ak_le]; rfl
theorem ah_icmp_eq {off : Int} {t : Nat} (C : ak_C ι y b rt M d p l e R s m args below meth c) (ht : (pc : Int) + off = (t : Int)) (hd : decode b pc = .ok (.if_icmp .eq off, 3)) (hs : ak_Snd ι M (p, l, e, R, s, m, args, below, meth, c) (pc + 3) sq) (hj : ∀ t, ak_Snd ι M (p, l, e, R, s, m, args, below, meth, c) t (jm t)) : ak_Snd ι M (p, l, e, R, s, m, args, below, meth, c) pc (ai_icmp 0 t sq jm κ) :=
  ah_icmp (by omega) (fun _ _ _ _ _ _ _ A B kt kf => by rw [ak_t0] at kt kf; exact lv_icmp_eq C.1.1 C.1.2.1 hd ht kt kf) hs hj
theorem ah_if_eq {off : Int} {t : Nat} (C : ak_C ι y b rt M d p l e R s m args below meth c) (ht : (pc : Int) + off = (t : Int)) (hd : decode b pc = .ok (.ifCond .eq off, 3)) (hs : ak_Snd ι M (p, l, e, R, s, m, args, below, meth, c) (pc + 3) sq) (hj : ∀ t, ak_Snd ι M (p, l, e, R, s, m, args, below, meth, c) t (jm t)) : ak_Snd ι M (p, l, e, R, s, m, args, below, meth, c) pc (ai_if0 0 t sq jm κ) :=
  ah_if0 (by omega) (fun _ _ _ _ _ _ _ A kt kf => by rw [ak_t0] at kt kf; exact lv_if_eq C.1.1 C.1.2.1 hd ht kt kf) hs hj
theorem ah_icmp_ne {off : Int} {t : Nat} (C : ak_C ι y b rt M d p l e R s m args below meth c) (ht : (pc : Int) + off = (t : Int)) (hd : decode b pc = .ok (.if_icmp .ne off, 3)) (hs : ak_Snd ι M (p, l, e, R, s, m, args, below, meth, c) (pc + 3) sq) (hj : ∀ t, ak_Snd ι M (p, l, e, R, s, m, args, below, meth, c) t (jm t)) : ak_Snd ι M (p, l, e, R, s, m, args, below, meth, c) pc (ai_icmp 1 t sq jm κ) :=
  ah_icmp (by omega) (fun _ _ _ _ _ _ _ A B kt kf => by rw [ak_t1] at kt kf; exact lv_icmp_ne C.1.1 C.1.2.1 hd ht kt (fun h => kf (fun hn => hn h))) hs hj
theorem ah_if_ne {off : Int} {t : Nat} (C : ak_C ι y b rt M d p l e R s m args below meth c) (ht : (pc : Int) + off = (t : Int)) (hd : decode b pc = .ok (.ifCond .ne off, 3)) (hs : ak_Snd ι M (p, l, e, R, s, m, args, below, meth, c) (pc + 3) sq) (hj : ∀ t, ak_Snd ι M (p, l, e, R, s, m, args, below, meth, c) t (jm t)) : ak_Snd ι M (p, l, e, R, s, m, args, below, meth, c) pc (ai_if0 1 t sq jm κ) :=
  ah_if0 (by omega) (fun _ _ _ _ _ _ _ A kt kf => by rw [ak_t1] at kt kf; exact lv_if_ne C.1.1 C.1.2.1 hd ht kt (fun h => kf (fun hn => hn h))) hs hj
theorem ah_icmp_lt {off : Int} {t : Nat} (C : ak_C ι y b rt M d p l e R s m args below meth c) (ht : (pc : Int) + off = (t : Int)) (hd : decode b pc = .ok (.if_icmp .lt off, 3)) (hs : ak_Snd ι M (p, l, e, R, s, m, args, below, meth, c) (pc + 3) sq) (hj : ∀ t, ak_Snd ι M (p, l, e, R, s, m, args, below, meth, c) t (jm t)) : ak_Snd ι M (p, l, e, R, s, m, args, below, meth, c) pc (ai_icmp 2 t sq jm κ) :=
  ah_icmp (by omega) (fun _ _ _ _ _ _ _ A B kt kf => by rw [ak_t2] at kt kf; exact lv_icmp_lt C.1.1 C.1.2.1 hd ht kt kf) hs hj
theorem ah_if_lt {off : Int} {t : Nat} (C : ak_C ι y b rt M d p l e R s m args below meth c) (ht : (pc : Int) + off = (t : Int)) (hd : decode b pc = .ok (.ifCond .lt off, 3)) (hs : ak_Snd ι M (p, l, e, R, s, m, args, below, meth, c) (pc + 3) sq) (hj : ∀ t, ak_Snd ι M (p, l, e, R, s, m, args, below, meth, c) t (jm t)) : ak_Snd ι M (p, l, e, R, s, m, args, below, meth, c) pc (ai_if0 2 t sq jm κ) :=
  ah_if0 (by omega) (fun _ _ _ _ _ _ _ A kt kf => by rw [ak_t2] at kt kf; exact lv_if_lt C.1.1 C.1.2.1 hd ht kt kf) hs hj
theorem ah_icmp_ge {off : Int} {t : Nat} (C : ak_C ι y b rt M d p l e R s m args below meth c) (ht : (pc : Int) + off = (t : Int)) (hd : decode b pc = .ok (.if_icmp .ge off, 3)) (hs : ak_Snd ι M (p, l, e, R, s, m, args, below, meth, c) (pc + 3) sq) (hj : ∀ t, ak_Snd ι M (p, l, e, R, s, m, args, below, meth, c) t (jm t)) : ak_Snd ι M (p, l, e, R, s, m, args, below, meth, c) pc (ai_icmp 3 t sq jm κ) :=
  ah_icmp (by omega) (fun _ _ _ _ _ _ _ A B kt kf => by rw [ak_t3] at kt kf; exact lv_icmp_ge C.1.1 C.1.2.1 hd ht kt kf) hs hj
theorem ah_if_ge {off : Int} {t : Nat} (C : ak_C ι y b rt M d p l e R s m args below meth c) (ht : (pc : Int) + off = (t : Int)) (hd : decode b pc = .ok (.ifCond .ge off, 3)) (hs : ak_Snd ι M (p, l, e, R, s, m, args, below, meth, c) (pc + 3) sq) (hj : ∀ t, ak_Snd ι M (p, l, e, R, s, m, args, below, meth, c) t (jm t)) : ak_Snd ι M (p, l, e, R, s, m, args, below, meth, c) pc (ai_if0 3 t sq jm κ) :=
  ah_if0 (by omega) (fun _ _ _ _ _ _ _ A kt kf => by rw [ak_t3] at kt kf; exact lv_if_ge C.1.1 C.1.2.1 hd ht kt kf) hs hj
theorem ah_icmp_gt {off : Int} {t : Nat} (C : ak_C ι y b rt M d p l e R s m args below meth c) (ht : (pc : Int) + off = (t : Int)) (hd : decode b pc = .ok (.if_icmp .gt off, 3)) (hs : ak_Snd ι M (p, l, e, R, s, m, args, below, meth, c) (pc + 3) sq) (hj : ∀ t, ak_Snd ι M (p, l, e, R, s, m, args, below, meth, c) t (jm t)) : ak_Snd ι M (p, l, e, R, s, m, args, below, meth, c) pc (ai_icmp 4 t sq jm κ) :=
  ah_icmp (by omega) (fun _ _ _ _ _ _ _ A B kt kf => by rw [ak_t4] at kt kf; exact lv_icmp_gt C.1.1 C.1.2.1 hd ht kt kf) hs hj
theorem ah_if_gt {off : Int} {t : Nat} (C : ak_C ι y b rt M d p l e R s m args below meth c) (ht : (pc : Int) + off = (t : Int)) (hd : decode b pc = .ok (.ifCond .gt off, 3)) (hs : ak_Snd ι M (p, l, e, R, s, m, args, below, meth, c) (pc + 3) sq) (hj : ∀ t, ak_Snd ι M (p, l, e, R, s, m, args, below, meth, c) t (jm t)) : ak_Snd ι M (p, l, e, R, s, m, args, below, meth, c) pc (ai_if0 4 t sq jm κ) :=
  ah_if0 (by omega) (fun _ _ _ _ _ _ _ A kt kf => by rw [ak_t4] at kt kf; exact lv_if_gt C.1.1 C.1.2.1 hd ht kt kf) hs hj
theorem ah_icmp_le {off : Int} {t : Nat} (C : ak_C ι y b rt M d p l e R s m args below meth c) (ht : (pc : Int) + off = (t : Int)) (hd : decode b pc = .ok (.if_icmp .le off, 3)) (hs : ak_Snd ι M (p, l, e, R, s, m, args, below, meth, c) (pc + 3) sq) (hj : ∀ t, ak_Snd ι M (p, l, e, R, s, m, args, below, meth, c) t (jm t)) : ak_Snd ι M (p, l, e, R, s, m, args, below, meth, c) pc (ai_icmp 5 t sq jm κ) :=
  ah_icmp (by omega) (fun _ _ _ _ _ _ _ A B kt kf => by rw [ak_t5] at kt kf; exact lv_icmp_le C.1.1 C.1.2.1 hd ht kt kf) hs hj
theorem ah_if_le {off : Int} {t : Nat} (C : ak_C ι y b rt M d p l e R s m args below meth c) (ht : (pc : Int) + off = (t : Int)) (hd : decode b pc = .ok (.ifCond .le off, 3)) (hs : ak_Snd ι M (p, l, e, R, s, m, args, below, meth, c) (pc + 3) sq) (hj : ∀ t, ak_Snd ι M (p, l, e, R, s, m, args, below, meth, c) t (jm t)) : ak_Snd ι M (p, l, e, R, s, m, args, below, meth, c) pc (ai_if0 5 t sq jm κ) :=
  ah_if0 (by omega) (fun _ _ _ _ _ _ _ A kt kf => by rw [ak_t5] at kt kf; exact lv_if_le C.1.1 C.1.2.1 hd ht kt kf) hs hj
/-- null or not -/
theorem ah_nul {eq : Bool} {t : Nat} (hrow : ∀ (H : Heap) (locs : List Loc) (nc ns : Nat) (Q : State → Prop) (ls : Array Slot) (st : List Value) (x : Value) (isn : Bool), (x = .null ∧ isn = true ∨ (∃ q : Nat, x = .ref q) ∧ isn = false) → W p l e R s m args below meth c H locs nc ns Q (F0 m (if isn = eq then t else pc + 3) ls st) → W p l e R s m args below meth c H locs nc ns Q (F0 m pc ls (x :: st))) (hs : ak_Snd ι M (p, l, e, R, s, m, args, below, meth, c) (pc + 3) sq) (hj : ∀ t, ak_Snd ι M (p, l, e, R, s, m, args, below, meth, c) t (jm t)) : ak_Snd ι M (p, l, e, R, s, m, args, below, meth, c) pc (ai_nul eq t sq jm κ) := by
  intro loc stk w outs h Q hQ ws ls st H locs hM
  cases stk with
  | nil => exact absurd h (by simp [ai_nul])
  | cons x stk =>
    simp only [ai_nul, ak_if, ai_in_iff, Nat.beq_eq] at h
    split at h
    · rename_i hx57
      obtain ⟨X, st, rfl, hx, hst⟩ := ak_s_cons hM.2.2.2.2.2.1
      rcases ak_v_ref hx hx57.1 with ⟨rfl, h5⟩ | ⟨⟨q, rfl⟩, h67⟩
      · rw [if_pos h5] at h
        refine hrow _ _ _ _ _ _ _ _ true (Or.inl ⟨rfl, rfl⟩) ?_
        cases eq with
        | true => exact hj t _ _ _ _ h Q hQ ws ls _ H locs (hM.restk hst)
        | false => exact hs _ _ _ _ h Q hQ ws ls _ H locs (hM.restk hst)
      · rw [if_neg (by omega)] at h
        refine hrow _ _ _ _ _ _ _ _ false (Or.inr ⟨⟨q, rfl⟩, rfl⟩) ?_
        cases eq with
        | true => exact hs _ _ _ _ h Q hQ ws ls _ H locs (hM.restk hst)
        | false => exact hj t _ _ _ _ h Q hQ ws ls _ H locs (hM.restk hst)
    · exact absurd h (by simp)
theorem ah_ifnull {off : Int} {t : Nat} (C : ak_C ι y b rt M d p l e R s m args below meth c) (ht : (pc : Int) + off = (t : Int)) (hd : decode b pc = .ok (.ifnull off, 3)) (hs : ak_Snd ι M (p, l, e, R, s, m, args, below, meth, c) (pc + 3) sq) (hj : ∀ t, ak_Snd ι M (p, l, e, R, s, m, args, below, meth, c) t (jm t)) : ak_Snd ι M (p, l, e, R, s, m, args, below, meth, c) pc (ai_nul true t sq jm κ) :=
  ah_nul (fun _ _ _ _ _ _ _ x isn hx k => by
    rcases hx with ⟨rfl, rfl⟩ | ⟨⟨q, rfl⟩, rfl⟩
    · exact lv_ifnullN C.1.1 C.1.2.1 hd ht k
    · exact lv_ifnull C.1.1 C.1.2.1 hd k) hs hj
theorem ah_ifnonnull {off : Int} {t : Nat} (C : ak_C ι y b rt M d p l e R s m args below meth c) (ht : (pc : Int) + off = (t : Int)) (hd : decode b pc = .ok (.ifnonnull off, 3)) (hs : ak_Snd ι M (p, l, e, R, s, m, args, below, meth, c) (pc + 3) sq) (hj : ∀ t, ak_Snd ι M (p, l, e, R, s, m, args, below, meth, c) t (jm t)) : ak_Snd ι M (p, l, e, R, s, m, args, below, meth, c) pc (ai_nul false t sq jm κ) :=
  ah_nul (fun _ _ _ _ _ _ _ x isn hx k => by
    rcases hx with ⟨rfl, rfl⟩ | ⟨⟨q, rfl⟩, rfl⟩
    · exact lv_ifnonnullN C.1.1 C.1.2.1 hd k
    · exact lv_ifnonnull C.1.1 C.1.2.1 hd ht k) hs hj
/-- a reference as the tables' rows have it -/
theorem ak_v_rf {ads : List Nat} {a : ai_V} {v : Value} (h : ak_v ι ads a v) (h5 : 5 ≤ a.1) : ∃ r : Option Nat, v = va_rf r ∧ (a.1 = 5 → r = none) ∧ (a.1 = 6 → ∃ q, ads[a.2]? = some q ∧ r = some q) ∧ (a.1 = 7 → r = some (ι.2.2.2.1 a.2)) := by
  rcases h with ⟨h, e⟩ | ⟨h, e⟩ | ⟨h, x, e⟩ | ⟨h, e⟩ | ⟨h, x, e⟩ | ⟨h, e⟩ | ⟨h, x, e1, e⟩ | ⟨h, e⟩ <;> try omega
  · exact ⟨none, e, fun _ => rfl, fun h6 => by omega, fun h7 => by omega⟩
  · exact ⟨some x, e, fun h5 => by omega, fun _ => ⟨x, e1, rfl⟩, fun h7 => by omega⟩
  · exact ⟨some _, e, fun h5 => by omega, fun h6 => by omega, fun _ => rfl⟩
/-- two references that differ -/
theorem ak_ne {ws : va_W} (hE : ak_S ι s s.heap) (hD : va_D (ak_A ι) ws) {x z : ai_V} {rx rz : Option Nat} (hx : ai_acm x = true) (hz : ai_acm z = true) (hne : ¬ x = z) (x57 : 5 ≤ x.1 ∧ x.1 ≤ 7) (z57 : 5 ≤ z.1 ∧ z.1 ≤ 7) (x5 : x.1 = 5 → rx = none) (x6 : x.1 = 6 → ∃ q, (ws.map Prod.fst)[x.2]? = some q ∧ rx = some q) (x7 : x.1 = 7 → rx = some (ι.2.2.2.1 x.2)) (z5 : z.1 = 5 → rz = none) (z6 : z.1 = 6 → ∃ q, (ws.map Prod.fst)[z.2]? = some q ∧ rz = some q) (z7 : z.1 = 7 → rz = some (ι.2.2.2.1 z.2)) : ¬ rx = rz := by
  have acm : ∀ v : ai_V, ai_acm v = true → (v.1 = 7 → v.2 ≤ 37) ∧ (v.1 = 5 → v = (5, 0)) := by
    intro v hv
    simp only [ai_acm, ak_if, Nat.beq_eq] at hv
    split at hv
    · exact ⟨fun h => by omega, fun h => by omega⟩
    · split at hv
      · rw [Nat.ble_eq] at hv
        exact ⟨fun _ => hv, fun h => by omega⟩
      · rw [ai_eqV_iff] at hv
        exact ⟨fun h => by omega, fun _ => hv⟩
  obtain ⟨ax, nx⟩ := acm x hx
  obtain ⟨az, nz⟩ := acm z hz
  have len : ak_nm.length = 38 := rfl
  have own : ∀ k q : Nat, (ws.map Prod.fst)[k]? = some q → ι.1 ≤ q := by
    intro k q h
    rw [List.getElem?_map] at h
    cases hk : ws[k]? with
    | none => rw [hk] at h; cases h
    | some u =>
      rw [hk] at h
      cases h
      exact hD.2 k u hk
  have old : ∀ j, j ≤ 37 → ¬ ι.1 ≤ ι.2.2.2.1 j := fun j hj => by
    obtain ⟨cell, -, -, -, h⟩ := (hE.1.1 j (by rw [len]; omega)).2.1
    exact h
  rcases (show x.1 = 5 ∨ x.1 = 6 ∨ x.1 = 7 by omega) with hx5 | hx6 | hx7 <;> rcases (show z.1 = 5 ∨ z.1 = 6 ∨ z.1 = 7 by omega) with hz5 | hz6 | hz7
  · exact absurd ((nx hx5).trans (nz hz5).symm) hne
  · obtain ⟨q, -, h⟩ := z6 hz6
    rw [x5 hx5, h]; simp
  · rw [x5 hx5, z7 hz7]; simp
  · obtain ⟨q, -, h⟩ := x6 hx6
    rw [z5 hz5, h]; simp
  · obtain ⟨q, h1, h2⟩ := x6 hx6
    obtain ⟨q', h3, h4⟩ := z6 hz6
    rw [h2, h4]
    intro hc
    cases hc
    rw [List.getElem?_map] at h1 h3
    cases hk : ws[x.2]? with
    | none => rw [hk] at h1; cases h1
    | some u =>
      cases hk2 : ws[z.2]? with
      | none => rw [hk2] at h3; cases h3
      | some u2 =>
        rw [hk] at h1
        rw [hk2] at h3
        have := hD.1 x.2 z.2 u u2 hk hk2 ((Option.some.inj h1).trans (Option.some.inj h3).symm)
        exact hne (Prod.ext (hx6.trans hz6.symm) this)
  · obtain ⟨q, h1, h2⟩ := x6 hx6
    rw [h2, z7 hz7]
    intro hc
    exact old z.2 (az hz7) (by rw [← Option.some.inj hc]; exact own _ _ h1)
  · rw [x7 hx7, z5 hz5]; simp
  · obtain ⟨q, h1, h2⟩ := z6 hz6
    rw [h2, x7 hx7]
    intro hc
    exact old x.2 (ax hx7) (by rw [Option.some.inj hc]; exact own _ _ h1)
  · rw [x7 hx7, z7 hz7]
    intro hc
    have := hE.1.2 x.2 z.2 (by rw [len]; have := ax hx7; omega) (by rw [len]; have := az hz7; omega) (Option.some.inj hc)
    exact hne (Prod.ext (hx7.trans hz7.symm) this)
theorem ah_acmp {eq : Bool} {t : Nat} (C : ak_C ι y b rt M d p l e R s m args below meth c) (hrow : ∀ (H : Heap) (locs : List Loc) (nc ns : Nat) (Q : State → Prop) (ls : Array Slot) (st : List Value) (rx ry : Option Nat), (rx = ry → W p l e R s m args below meth c H locs nc ns Q (F0 m (if eq = true then t else pc + 3) ls st)) → (¬ rx = ry → W p l e R s m args below meth c H locs nc ns Q (F0 m (if eq = true then pc + 3 else t) ls st)) → W p l e R s m args below meth c H locs nc ns Q (F0 m pc ls (va_rf ry :: va_rf rx :: st))) (hs : ak_Snd ι M (p, l, e, R, s, m, args, below, meth, c) (pc + 3) sq) (hj : ∀ t, ak_Snd ι M (p, l, e, R, s, m, args, below, meth, c) t (jm t)) : ak_Snd ι M (p, l, e, R, s, m, args, below, meth, c) pc (ai_acmp eq t sq jm κ) := by
  intro loc stk w outs h Q hQ ws ls st H locs hM
  cases stk with
  | nil => exact absurd h (by simp [ai_acmp])
  | cons z stk =>
    cases stk with
    | nil => exact absurd h (by simp [ai_acmp])
    | cons x stk =>
      simp only [ai_acmp, ak_if, ak_and, ai_in_iff, ai_eqV_iff] at h
      split at h
      · rename_i hxz
        obtain ⟨Z, st, rfl, hz, hst⟩ := ak_s_cons hM.2.2.2.2.2.1
        obtain ⟨X, st, rfl, hx, hst2⟩ := ak_s_cons hst
        obtain ⟨rx, rfl, x5, x6, x7⟩ := ak_v_rf hx hxz.1.1
        obtain ⟨rz, rfl, z5, z6, z7⟩ := ak_v_rf hz hxz.2.1
        split at h
        · rename_i hxz2
          subst hxz2
          have er : rx = rz := by
            rcases (show x.1 = 5 ∨ x.1 = 6 ∨ x.1 = 7 by omega) with h5 | h6 | h7
            · rw [x5 h5, z5 h5]
            · obtain ⟨q, a1, a2⟩ := x6 h6
              obtain ⟨q', a3, a4⟩ := z6 h6
              rw [a2, a4]
              exact a1.symm.trans a3
            · rw [x7 h7, z7 h7]
          refine hrow _ _ _ _ _ _ _ rx rz (fun _ => ?_) (fun hc => absurd er hc)
          cases eq with
          | true => exact hj t _ _ _ _ h Q hQ ws ls _ H locs (hM.restk hst2)
          | false => exact hs _ _ _ _ h Q hQ ws ls _ H locs (hM.restk hst2)
        · rename_i hne
          split at h
          · rename_i hacm
            have er := ak_ne C.2.2.1.2.1 hM.2.1.1 hacm.1 hacm.2 hne hxz.1 hxz.2 x5 x6 x7 z5 z6 z7
            refine hrow _ _ _ _ _ _ _ rx rz (fun hc => absurd hc er) (fun _ => ?_)
            cases eq with
            | true => exact hs _ _ _ _ h Q hQ ws ls _ H locs (hM.restk hst2)
            | false => exact hj t _ _ _ _ h Q hQ ws ls _ H locs (hM.restk hst2)
          · exact absurd h (by simp)
      · exact absurd h (by simp)
theorem ah_acmp_eq {off : Int} {t : Nat} (C : ak_C ι y b rt M d p l e R s m args below meth c) (ht : (pc : Int) + off = (t : Int)) (hd : decode b pc = .ok (.if_acmp .eq off, 3)) (hs : ak_Snd ι M (p, l, e, R, s, m, args, below, meth, c) (pc + 3) sq) (hj : ∀ t, ak_Snd ι M (p, l, e, R, s, m, args, below, meth, c) t (jm t)) : ak_Snd ι M (p, l, e, R, s, m, args, below, meth, c) pc (ai_acmp true t sq jm κ) :=
  ah_acmp C (fun _ _ _ _ _ _ _ _ _ kt kf => lv_acmp_eq C.1.1 C.1.2.1 hd ht kt kf) hs hj
theorem ah_acmp_ne {off : Int} {t : Nat} (C : ak_C ι y b rt M d p l e R s m args below meth c) (ht : (pc : Int) + off = (t : Int)) (hd : decode b pc = .ok (.if_acmp .ne off, 3)) (hs : ak_Snd ι M (p, l, e, R, s, m, args, below, meth, c) (pc + 3) sq) (hj : ∀ t, ak_Snd ι M (p, l, e, R, s, m, args, below, meth, c) t (jm t)) : ak_Snd ι M (p, l, e, R, s, m, args, below, meth, c) pc (ai_acmp false t sq jm κ) :=
  ah_acmp C (fun _ _ _ _ _ _ _ _ _ kt kf => lv_acmp_ne C.1.1 C.1.2.1 hd ht kf kt) hs hj
theorem ai_tgt_some {pc t : Nat} {off : Int} (h : ai_tgt pc off = some t) : (pc : Int) + off = (t : Int) := by
  unfold ai_tgt at h
  split at h
  · rename_i x hx
    cases h
    exact hx
  · cases h
theorem ai_tgts_some {pc : Nat} {l : List Int} : ∀ {ts : List Nat}, ai_tgts pc l = some ts → ts.length = l.length ∧ ∀ (i t : Nat), ts[i]? = some t → ∃ o : Int, l[i]? = some o ∧ (pc : Int) + o = (t : Int) := by
  induction l with
  | nil =>
    intro ts h
    cases h
    exact ⟨rfl, fun i t h => by simp at h⟩
  | cons o l ih =>
    intro ts h
    have h1 : ai_tgts pc (o :: l) = (@Option.rec Nat (fun _ => Option (List Nat)) none (fun t => @Option.rec (List Nat) (fun _ => Option (List Nat)) none (fun ts => some (t :: ts)) (ai_tgts pc l)) (ai_tgt pc o)) := rfl
    rw [h1] at h
    cases ht : ai_tgt pc o with
    | none => rw [ht] at h; cases h
    | some t =>
      rw [ht] at h
      cases hl : ai_tgts pc l with
      | none => rw [hl] at h; cases h
      | some ts' =>
        rw [hl] at h
        cases h
        obtain ⟨a1, a2⟩ := ih hl
        refine ⟨by simp [a1], fun i u hi => ?_⟩
        cases i with
        | zero =>
          cases hi
          exact ⟨o, rfl, ai_tgt_some ht⟩
        | succ i => exact a2 i u hi
theorem ai_casd_some {k df n : Nat} {hp : ai_H} {env : ai_E} {cs : Nat × Nat} {g : Nat → ai_W → ai_P} (he : ak_e ι env) {ts : List Nat} : ∀ {v i : Nat} {outs : List ai_O}, ai_casd k df (n, hp, env, cs) g ts v = some outs → ak_b (ι.2.2.2.2.1 k) = v + 2147483648 + i → ∃ (env' : ai_E) (outs' : List ai_O), g (ts.getD i df) (n, hp, env', cs) = some outs' ∧ (∀ z ∈ outs', z ∈ outs) ∧ ak_e ι env' := by
  have hb := ak_b_lt (ι.2.2.2.2.1 k)
  induction ts with
  | nil =>
    intro v i outs h hv
    have h1 : ai_casd k df (n, hp, env, cs) g [] v = ai_nar k (Nat.add v 2147483648) 4294967295 (n, hp, env, cs) (g df) := rfl
    rw [h1] at h
    obtain ⟨e1, a1, a2⟩ := ai_nar_some he h (by show v + 2147483648 ≤ _; omega) (by omega)
    exact ⟨e1, outs, by rw [List.getD_nil]; exact a1, fun _ h => h, a2⟩
  | cons t ts ih =>
    intro v i outs h hv
    have h1 : ai_casd k df (n, hp, env, cs) g (t :: ts) v = ai_two (ai_nar k (Nat.add v 2147483648) (Nat.add v 2147483648) (n, hp, env, cs) (g t)) (ai_casd k df (n, hp, env, cs) g ts (Nat.succ v)) := rfl
    rw [h1] at h
    obtain ⟨x, y, hx, hy, rfl⟩ := ai_two_some h
    cases i with
    | zero =>
      obtain ⟨e1, a1, a2⟩ := ai_nar_some he hx (by show v + 2147483648 ≤ _; omega) (by show _ ≤ v + 2147483648; omega)
      exact ⟨e1, x, by rw [List.getD_cons_zero]; exact a1, fun z hz => List.mem_append_left _ hz, a2⟩
    | succ i =>
      obtain ⟨e1, o1, a1, a2, a3⟩ := ih hy (i := i) (by rw [hv]; omega)
      exact ⟨e1, o1, by rw [List.getD_cons_succ]; exact a1, fun z hz => List.mem_append_right _ (a2 z hz), a3⟩
theorem ah_tsw {df lo hi : Int} {offs : Array Int} {len lo' df' : Nat} {ts : List Nat} (C : ak_C ι y b rt M d p l e R s m args below meth c) (hlo : lo = (lo' : Int)) (hhi : hi = lo + offs.toList.length - 1) (hts : ai_tgts pc offs.toList = some ts) (hdf : (pc : Int) + df = (df' : Int)) (hd : decode b pc = .ok (.tableswitch df lo hi offs, len)) (hj : ∀ t, ak_Snd ι M (p, l, e, R, s, m, args, below, meth, c) t (jm t)) : ak_Snd ι M (p, l, e, R, s, m, args, below, meth, c) pc (ai_tsw df' lo' ts sq jm κ) := by
  obtain ⟨tl, tt⟩ := ai_tgts_some hts
  /- where the switch goes -/
  have row : ∀ (H : Heap) (locs : List Loc) (nc ns : Nat) (Q : State → Prop) (ls : Array Slot) (st : List Value) (X : Int32), W p l e R s m args below meth c H locs nc ns Q (F0 m (if X.toInt < lo' then df' else ts.getD (X.toInt - lo').toNat df') ls st) → W p l e R s m args below meth c H locs nc ns Q (F0 m pc ls (.int X :: st)) := by
    intro H locs nc ns Q ls st X k
    by_cases h1 : X.toInt < lo'
    · rw [if_pos h1] at k
      exact lv_tableOut C.1.1 C.1.2.1 hd (Or.inl (by omega)) hdf k
    · rw [if_neg h1] at k
      cases ht : ts[(X.toInt - lo').toNat]? with
      | none =>
        have hlen := List.getElem?_eq_none_iff.mp ht
        rw [List.getD_eq_getElem?_getD, ht] at k
        exact lv_tableOut C.1.1 C.1.2.1 hd (Or.inr (by omega)) hdf k
      | some t =>
        have hlen := (List.getElem?_eq_some_iff.mp ht).1
        rw [List.getD_eq_getElem?_getD, ht] at k
        obtain ⟨off, o1, o2⟩ := tt _ _ ht
        exact lv_tableIn C.1.1 C.1.2.1 hd (by omega) (by omega) (by rw [← Array.getElem?_toList, hlo]; exact o1) o2 k
  intro loc stk w outs h Q hQ ws ls st H locs hM
  obtain ⟨n, hp, env, cs⟩ := w
  have he : ak_e ι env := hM.2.2.2.2.2.2
  cases stk with
  | nil => exact absurd h (by simp [ai_tsw])
  | cons x' stk =>
    simp only [ai_tsw] at h
    obtain ⟨u, hu, huv, -, -⟩ := ai_res_eq ι env he x' (fun x => @Bool.rec (fun _ => ai_P) (@Bool.rec (fun _ => ai_P) none (ai_two (ai_nar x.2 0 (Nat.add lo' 2147483647) (n, hp, env, cs) (jm df' loc stk)) (ai_casd x.2 df' (n, hp, env, cs) (fun t => jm t loc stk) ts lo')) (Nat.beq x.1 1)) (@Bool.rec (fun _ => ai_P) none (@Bool.rec (fun _ => ai_P) (jm df' loc stk (n, hp, env, cs)) (ai_nth ts (jm df' loc stk (n, hp, env, cs)) (fun t => jm t loc stk (n, hp, env, cs)) (Nat.sub x.2 lo')) (Nat.ble lo' x.2)) (Nat.ble x.2 2147483647)) (Nat.beq x.1 0))
    have h := hu.symm.trans h
    obtain ⟨X, st, rfl, hx, hst⟩ := ak_s_cons hM.2.2.2.2.2.1
    have hx := huv _ _ hx
    simp only [ak_if, Nat.beq_eq, Nat.ble_eq, ai_nth_eq] at h
    split at h
    · rename_i h0
      obtain ⟨X, rfl, hX, -⟩ := ak_v_int hx (by omega)
      have hX := hX h0
      refine row _ _ _ _ _ _ _ X ?_
      split at h
      · rename_i hsm
        have eX : X.toInt = (u.2 : Int) := by rw [hX]; exact nI_toInt (by omega)
        rw [eX]
        split at h
        · rename_i hge
          rw [if_neg (by omega), List.getD_eq_getElem?_getD, show ((u.2 : Int) - lo').toNat = Nat.sub u.2 lo' by show _ = u.2 - lo'; omega]
          cases ht : ts[Nat.sub u.2 lo']? with
          | none => rw [ht] at h; exact hj df' _ _ _ _ h Q hQ ws ls _ H locs (hM.restk hst)
          | some t => rw [ht] at h; exact hj t _ _ _ _ h Q hQ ws ls _ H locs (hM.restk hst)
        · rw [if_pos (by omega)]
          exact hj df' _ _ _ _ h Q hQ ws ls _ H locs (hM.restk hst)
      · exact absurd h (by simp)
    · split at h
      · rename_i h1
        obtain ⟨X, rfl, -, hX⟩ := ak_v_int hx (by omega)
        have hX := hX h1
        have hbX := ak_b_int X
        rw [hX] at hbX
        refine row _ _ _ _ _ _ _ X ?_
        obtain ⟨o1, o2, a1, a2, rfl⟩ := ai_two_some h
        by_cases hlt : X.toInt < lo'
        · rw [if_pos hlt]
          rw [hX] at hlt
          obtain ⟨e1, b1, b2⟩ := ai_nar_some he a1 (Nat.zero_le _) (by show _ ≤ lo' + 2147483647; omega)
          exact hj df' _ _ _ _ b1 Q (fun z hz => hQ z (List.mem_append_left _ hz)) ws ls _ H locs ((hM.restk hst).reenv b2)
        · rw [if_neg hlt]
          rw [hX] at hlt
          obtain ⟨e1, o3, b1, b2, b3⟩ := ai_casd_some he a2 (i := (X.toInt - lo').toNat) (by rw [hX]; omega)
          exact hj _ _ _ _ _ b1 Q (fun z hz => hQ z (List.mem_append_right _ (b2 z hz))) ws ls _ H locs ((hM.restk hst).reenv b3)
      · exact absurd h (by simp)
end JUMP
