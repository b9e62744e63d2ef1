/-! ===== rows: arrays ===== -/
section BARR
variable {γ : bG} {y : bY} {d b1 b2 pc : Nat} {lo : List (Option Value)} {st : List Value} {τ : bt} {h : bh} {nc ns : Nat}
theorem bz_clamp {j : Int} (h : brg j) : (bz j).toNatClampNeg = j.toNat := by
  show (bz j).toInt.toNat = j.toNat
  rw [bz_toInt h]
theorem b_vin {j : Int} {n : Nat} (h1 : 0 ≤ j) (h2 : j < n) (hn : n ≤ 30000) : vp_in (bz j) n ∧ (bz j).toNatClampNeg = j.toNat := by
  have hr : brg j := ⟨by omega, by omega⟩
  exact ⟨vp_in_iff.mpr (by rw [bz_toInt hr]; exact ⟨h1, h2⟩), bz_clamp hr⟩
/-- the class of an array by its kind -/
def bkt (kd : Nat) : FieldType := if kd = 1 then .int else if kd = 2 then .byte else if kd = 3 then .boolean else if kd = 4 then .long else if kd = 5 then .object "SpanCopier$Word" else .object "SpanCopier$World"
theorem bT_at {ι : bI} {kd : Nat} (h : 1 ≤ kd ∧ kd ≤ 6) : (bT ι)[kd - 1]? = some (ι.2.2.1 kd, bkt kd) := by
  rcases (show kd = 1 ∨ kd = 2 ∨ kd = 3 ∨ kd = 4 ∨ kd = 5 ∨ kd = 6 by omega) with rfl | rfl | rfl | rfl | rfl | rfl <;> rfl
/-- arrays that lie among the cells: of ints -/
theorem bcell.ints {ι : bI} {ws : va_W} {a : Nat} (hc : bcell ι τ h ws a) (ht : 21 ≤ τ.1 a ∧ 1 ≤ τ.1 a % 20 ∧ τ.1 a % 20 ≤ 3) (hn : 0 < τ.2 a) : ∃ (k : Nat) (f : Nat → Int32), ws[k]? = some (a, .inl (ι.2.2.1 (τ.1 a % 20), τ.2 a, .inl f)) ∧ τ.2 a ≤ 30000 ∧ (τ.1 a % 20 = 2 → ∀ i, i < τ.2 a → fits .byte (.int (f i)) = true) ∧ ∀ i, i < τ.2 a → (f i).toInt = h.1 a i := by
  rcases hc with ⟨h1, -⟩ | ⟨-, hx⟩ | ⟨⟨-, h1⟩, -⟩ | ⟨⟨-, h1⟩, -⟩ | ⟨h1, -⟩ | ⟨h1, -⟩ | ⟨h1, -, h2⟩
  · omega
  · exact hx
  all_goals omega
theorem b_alen {a : Nat} (C : bC γ y d b1 b2) (hd : decode y.2.1 pc = .ok (.arraylength, 1)) (ht : 21 ≤ τ.1 a ∧ (τ.1 a = 31 ∨ 1 ≤ τ.1 a % 20 ∧ τ.1 a % 20 ≤ 6)) (kk : τ.2 a ≤ 30000 → bJ γ (pc + 1) lo (.int (bz (τ.2 a : Int)) :: st) τ h nc ns) : bJ γ pc lo (.ref a :: st) τ h nc ns := by
  intro ws ls H locs hM
  have ev : ∀ n : Nat, Int32.ofNat n = bz (n : Int) := fun n => rfl
  rcases hM.2.2.2.1 a (by omega) with ⟨h1, -⟩ | ⟨h1, k, f, hw, h3, -⟩ | ⟨h1, k, f, hw, h3⟩ | ⟨h1, k, f, hw, h3, -⟩ | ⟨h1, -⟩ | ⟨h1, j, l, h2, h3, h4, -⟩ | ⟨h1, h2, h3⟩
  · omega
  · exact va_alen C.1.1 C.1.2.1 C.2.2.1.1 hM.1 k (τ.1 a % 20 - 1) hw (bT_at (by omega)) (ev _) hd (kk h3 ws ls H locs hM)
  · exact va_alen C.1.1 C.1.2.1 C.2.2.1.1 hM.1 k 3 hw rfl (ev _) hd (kk h3 ws ls H locs hM)
  · exact va_alen C.1.1 C.1.2.1 C.2.2.1.1 hM.1 k (τ.1 a % 20 - 1) hw (bT_at (by omega)) (ev _) hd (kk h3 ws ls H locs hM)
  · omega
  · have hl : l.length ≤ 38 := by
      unfold bsar at h2
      split at h2
      · cases h2; decide
      · split at h2
        · cases h2; decide
        · split at h2
          · cases h2; decide +kernel
          · cases h2
    have kk := kk (by omega) ws ls H locs hM
    subst h3
    exact va_tlen C.1.1 C.1.2.1 (C.2.2.1.2.1.2.1 j l h2).2 hM.2.2.1 (by rw [h4]; exact ev _) hd kk
  · have kk := kk (by omega) ws ls H locs hM
    subst h2
    exact va_tlen C.1.1 C.1.2.1 C.2.2.1.2.1.2.2.2 hM.2.2.1 (by rw [h3]; exact ev _) hd kk
theorem b_iald {a : Nat} {j : Int} (C : bC γ y d b1 b2) (hd : decode y.2.1 pc = .ok (.iaload, 1)) (ht : τ.1 a = 21 ∨ τ.1 a = 41) (h1 : 0 ≤ j) (h2 : j < τ.2 a) (kk : brg (h.1 a j.toNat) → bJ γ (pc + 1) lo (.int (bz (h.1 a j.toNat)) :: st) τ h nc ns) : bJ γ pc lo (.int (bz j) :: .ref a :: st) τ h nc ns := by
  intro ws ls H locs hM
  obtain ⟨k, f, hw, hn, -, hf⟩ := (hM.2.2.2.1 a (by omega)).ints (by omega) (by omega)
  obtain ⟨hin, hc⟩ := b_vin h1 h2 hn
  have hlt : j.toNat < τ.2 a := by omega
  have e1 : τ.1 a % 20 = 1 := by omega
  rw [e1] at hw
  refine va_iald C.1.1 C.1.2.1 C.2.2.1.1 hM.1 k 0 hw rfl hin hd ?_
  rw [hc, bz_of (f j.toNat), hf _ hlt]
  exact kk (by rw [← hf _ hlt]; exact brg_of _) ws ls H locs hM
/-- of a constant array -/
theorem b_ialdC {a jj : Nat} {j : Int} {l : List Nat} (C : bC γ y d b1 b2) (hd : decode y.2.1 pc = .ok (.iaload, 1)) (hs : bsar jj = some l) (ha : a = γ.1.2.2.2 jj) (h1 : 0 ≤ j) (h2 : j < l.length) (kk : bJ γ (pc + 1) lo (.int (bz ((l.getD j.toNat 0 : Nat) : Int)) :: st) τ h nc ns) : bJ γ pc lo (.int (bz j) :: .ref a :: st) τ h nc ns := by
  intro ws ls H locs hM
  have hl : l.length ≤ 38 := by
    unfold bsar at hs
    split at hs
    · cases hs; decide
    · split at hs
      · cases hs; decide
      · split at hs
        · cases hs; decide +kernel
        · cases hs
  obtain ⟨hin, hc⟩ := b_vin h1 h2 (by omega)
  subst ha
  exact va_ti C.1.1 C.1.2.1 (C.2.2.1.2.1.2.1 jj l hs).2 hM.2.2.1 hin (by rw [hc]) hd (kk ws ls H locs hM)
theorem b_bald {a : Nat} {j : Int} (C : bC γ y d b1 b2) (hd : decode y.2.1 pc = .ok (.baload, 1)) (ht : τ.1 a = 22 ∨ τ.1 a = 23 ∨ τ.1 a = 43) (h1 : 0 ≤ j) (h2 : j < τ.2 a) (kk : brg (h.1 a j.toNat) → bJ γ (pc + 1) lo (.int (bz (h.1 a j.toNat)) :: st) τ h nc ns) : bJ γ pc lo (.int (bz j) :: .ref a :: st) τ h nc ns := by
  intro ws ls H locs hM
  obtain ⟨k, f, hw, hn, -, hf⟩ := (hM.2.2.2.1 a (by omega)).ints (by omega) (by omega)
  obtain ⟨hin, hc⟩ := b_vin h1 h2 hn
  have hlt : j.toNat < τ.2 a := by omega
  have kk := kk (by rw [← hf _ hlt]; exact brg_of _) ws ls H locs hM
  rw [← hf _ hlt, ← bz_of, ← hc] at kk
  rcases (show τ.1 a % 20 = 2 ∨ τ.1 a % 20 = 3 by omega) with e1 | e1
  · rw [e1] at hw
    exact va_bald C.1.1 C.1.2.1 C.2.2.1.1 hM.1 k 1 hw rfl hin hd kk
  · rw [e1] at hw
    exact va_zald C.1.1 C.1.2.1 C.2.2.1.1 hM.1 k 2 hw rfl hin hd kk
theorem bcell.longs {ι : bI} {ws : va_W} {a : Nat} (hc : bcell ι τ h ws a) (ht : τ.1 a = 24 ∨ τ.1 a = 44) : ∃ (k : Nat) (f : Nat → Int64), ws[k]? = some (a, .inl (ι.2.2.1 4, τ.2 a, .inr (.inl f))) ∧ τ.2 a ≤ 30000 := by
  rcases hc with ⟨h1, -⟩ | ⟨⟨-, h1, h2⟩, -⟩ | ⟨-, hx⟩ | ⟨⟨-, h1⟩, -⟩ | ⟨h1, -⟩ | ⟨h1, -⟩ | ⟨h1, -⟩
  all_goals first | omega | exact hx
theorem bcell.refs {ι : bI} {ws : va_W} {a : Nat} (hc : bcell ι τ h ws a) (ht : τ.1 a = 25 ∨ τ.1 a = 26) : ∃ (k : Nat) (f : Nat → Option Nat), ws[k]? = some (a, .inl (ι.2.2.1 (τ.1 a % 20), τ.2 a, .inr (.inr (.inr (.inr f))))) ∧ τ.2 a ≤ 30000 ∧ ∀ i, i < τ.2 a → f i = h.2 a i := by
  rcases hc with ⟨h1, -⟩ | ⟨⟨-, h1, h2⟩, -⟩ | ⟨⟨-, h1⟩, -⟩ | ⟨-, hx⟩ | ⟨h1, -⟩ | ⟨h1, -⟩ | ⟨h1, -⟩
  all_goals first | omega | exact hx
theorem b_lald {a : Nat} {j : Int} (C : bC γ y d b1 b2) (hd : decode y.2.1 pc = .ok (.laload, 1)) (ht : τ.1 a = 24 ∨ τ.1 a = 44) (h1 : 0 ≤ j) (h2 : j < τ.2 a) (kk : ∀ v, bJ γ (pc + 1) lo (.long v :: st) τ h nc ns) : bJ γ pc lo (.int (bz j) :: .ref a :: st) τ h nc ns := by
  intro ws ls H locs hM
  obtain ⟨k, f, hw, hn⟩ := (hM.2.2.2.1 a (by omega)).longs ht
  exact va_lald C.1.1 C.1.2.1 C.2.2.1.1 hM.1 k 3 hw rfl (b_vin h1 h2 hn).1 hd (kk _ ws ls H locs hM)
theorem b_aald {a : Nat} {j : Int} (C : bC γ y d b1 b2) (hd : decode y.2.1 pc = .ok (.aaload, 1)) (ht : τ.1 a = 25 ∨ τ.1 a = 26) (h1 : 0 ≤ j) (h2 : j < τ.2 a) (kk : bJ γ (pc + 1) lo (va_rf (h.2 a j.toNat) :: st) τ h nc ns) : bJ γ pc lo (.int (bz j) :: .ref a :: st) τ h nc ns := by
  intro ws ls H locs hM
  obtain ⟨k, f, hw, hn, hf⟩ := (hM.2.2.2.1 a (by omega)).refs ht
  obtain ⟨hin, hc⟩ := b_vin h1 h2 hn
  have kk := kk ws ls H locs hM
  rw [← hf _ (by omega), ← hc] at kk
  rcases ht with e1 | e1
  · have e2 : τ.1 a % 20 = 5 := by omega
    rw [e2] at hw
    exact va_aldq C.1.1 C.1.2.1 C.2.2.1.1 hM.1 k 4 hw rfl hin hd kk
  · have e2 : τ.1 a % 20 = 6 := by omega
    rw [e2] at hw
    exact va_aldq C.1.1 C.1.2.1 C.2.2.1.1 hM.1 k 5 hw rfl hin hd kk
theorem b_upd (f : Nat → Int32) (k : Nat) (x : Int32) (j : Nat) : upd f k x j = if j = k then x else f j := rfl
/-- an int is put into a row of ints: the state behind it -/
theorem bM.putI {ι : bI} {s : State} {nL k a n : Nat} {ws : va_W} {ls : Array Slot} {H H1 : Heap} {locs locs1 : List Loc} {f : Nat → Int32} {z : Int} (hM : bM ι s nL lo τ h ws ls H locs) (ht : 21 ≤ τ.1 a ∧ 1 ≤ τ.1 a % 20 ∧ τ.1 a % 20 ≤ 3) (hw : ws[k]? = some (a, .inl (ι.2.2.1 (τ.1 a % 20), τ.2 a, .inl f))) (hn : τ.2 a ≤ 30000) (hfit : τ.1 a % 20 = 2 → ∀ i, i < τ.2 a → fits .byte (.int (f i)) = true) (hf : ∀ i, i < τ.2 a → (f i).toInt = h.1 a i) (hz : brg z) (hzf : τ.1 a % 20 = 2 → fits .byte (.int (bz z)) = true) (hP : va_P ι.2.1 vwCl (ws.set k (a, .inl (ι.2.2.1 (τ.1 a % 20), τ.2 a, .inl (upd f n (bz z))))) H1) (hD : va_D (bA ι) (ws.set k (a, .inl (ι.2.2.1 (τ.1 a % 20), τ.2 a, .inl (upd f n (bz z)))))) (hS : va_S (bA ι) s.heap H1 locs1) : bM ι s nL lo τ (bsetI h a n z) (ws.set k (a, .inl (ι.2.2.1 (τ.1 a % 20), τ.2 a, .inl (upd f n (bz z))))) ls H1 locs1 := by
  refine hM.write hw hP hD hS (Or.inr (Or.inl ⟨ht, k, _, List.getElem?_set_self ((List.getElem?_eq_some_iff.mp hw).1), hn, fun h2 i hi => ?_, fun i hi => ?_⟩)) (fun b hb i => ⟨if_neg (fun q => hb q.1), rfl⟩)
  · rw [b_upd]
    split
    · exact hzf h2
    · exact hfit h2 i hi
  · rw [b_upd]
    show _ = if a = a ∧ i = n then z else h.1 a i
    by_cases e : i = n
    · rw [if_pos e, if_pos ⟨rfl, e⟩, bz_toInt hz]
    · rw [if_neg e, if_neg (fun q => e q.2), hf i hi]
theorem b_iast {a : Nat} {j z : Int} (C : bC γ y d b1 b2) (hd : decode y.2.1 pc = .ok (.iastore, 1)) (ht : τ.1 a = 21 ∨ τ.1 a = 41) (h1 : 0 ≤ j) (h2 : j < τ.2 a) (hz : brg z) (kk : bJ γ (pc + 1) lo st τ (bsetI h a j.toNat z) nc ns) : bJ γ pc lo (.int (bz z) :: .int (bz j) :: .ref a :: st) τ h nc ns := by
  intro ws ls H locs hM
  obtain ⟨k, f, hw, hn, hfit, hf⟩ := (hM.2.2.2.1 a (by omega)).ints (by omega) (by omega)
  obtain ⟨hin, hc⟩ := b_vin h1 h2 hn
  have e1 : τ.1 a % 20 = 1 := by omega
  have key : ∀ (H1 : Heap) (locs1 : List Loc), _ → _ → _ → _ := fun H1 locs1 a1 a2 a3 => kk _ ls H1 locs1 (hM.putI (n := j.toNat) (z := z) (by omega) hw hn hfit hf hz (fun q => by omega) a1 a2 a3)
  rw [e1] at hw key
  refine va_iast C.1.1 C.1.2.1 C.2.2.1.1 hM.1 hM.2.1 hM.2.2.1 k 0 hw rfl hin hd ?_
  rw [hc]
  exact key
/-- the byte that is kept of an int -/
theorem bz_byte (x : Int32) : ∃ u : Int, -128 ≤ u ∧ u ≤ 127 ∧ vp_nar .byte x = bz u ∧ (-128 ≤ x.toInt → x.toInt ≤ 127 → u = x.toInt) := by
  have e1 : vp_nar .byte x = x.toInt8.toInt32 := rfl
  refine ⟨(x.toInt8.toInt32).toInt, ?_, ?_, ?_, ?_⟩
  · rw [Int8.toInt_toInt32]; exact Int8.le_toInt _
  · rw [Int8.toInt_toInt32]; have := Int8.toInt_lt x.toInt8; omega
  · rw [e1]; exact bz_of _
  · intro h1 h2
    rw [Int8.toInt_toInt32, Int32.toInt_toInt8, Int.bmod_def]
    simp only [Nat.reducePow, Int.reduceAdd, Int.reduceDiv, Int.cast_ofNat_Int]
    split <;> omega
theorem fits_byte {u : Int} (h1 : -128 ≤ u) (h2 : u ≤ 127) : fits .byte (.int (bz u)) = true := by
  have e : narrow .byte (.int (bz u)) = .int (bz u) := by
    show Value.int (bz u).toInt8.toInt32 = _
    congr 1
    apply Int32.toInt_inj.mp
    rw [Int8.toInt_toInt32, Int32.toInt_toInt8, bz_toInt ⟨by omega, by omega⟩, Int.bmod_def]
    simp only [Nat.reducePow, Int.reduceAdd, Int.reduceDiv, Int.cast_ofNat_Int]
    split <;> omega
  have hr : brg u := ⟨by omega, by omega⟩
  unfold fits
  simp only [decide_eq_true_eq, Bool.and_eq_true]
  rw [Int32.le_iff_toInt_le, Int32.le_iff_toInt_le, bz_toInt hr]
  exact ⟨h1, h2⟩
end BARR
