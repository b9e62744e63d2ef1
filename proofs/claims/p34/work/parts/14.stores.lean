/-! ===== rows: the other stores, things made, constants ===== -/
section BSTO
variable {γ : bG} {y : bY} {d b1 b2 pc : Nat} {lo : List (Option Value)} {st : List Value} {τ : bt} {h : bh} {nc ns : Nat}
theorem b_bast {a : Nat} {j z : Int} (C : bC γ y d b1 b2) (hd : decode y.2.1 pc = .ok (.bastore, 1)) (ht : τ.1 a = 22) (h1 : 0 ≤ j) (h2 : j < τ.2 a) (hz : brg z) (kk : ∀ u : Int, -128 ≤ u → u ≤ 127 → (-128 ≤ z → z ≤ 127 → u = z) → bJ γ (pc + 1) lo st τ (bsetI h a j.toNat u) nc ns) : bJ γ pc lo (.int (bz z) :: .int (bz j) :: .ref a :: st) τ h nc ns := by
  intro ws ls H locs hM
  obtain ⟨k, f, hw, hn, hfit, hf⟩ := (hM.2.2.2.1 a (by omega)).ints (by omega) (by omega)
  obtain ⟨hin, hc⟩ := b_vin h1 h2 hn
  have e1 : τ.1 a % 20 = 2 := by omega
  obtain ⟨u, u1, u2, u3, u4⟩ := bz_byte (bz z)
  rw [bz_toInt hz] at u4
  have key : ∀ (H1 : Heap) (locs1 : List Loc), _ → _ → _ → _ := fun H1 locs1 a1 a2 a3 => kk u u1 u2 u4 _ ls H1 locs1 (hM.putI (n := j.toNat) (z := u) (by omega) hw hn hfit hf ⟨by omega, by omega⟩ (fun q => fits_byte u1 u2) a1 a2 a3)
  rw [e1] at hw key
  refine va_bast C.1.1 C.1.2.1 C.2.2.1.1 hM.1 hM.2.1 hM.2.2.1 k 1 hw rfl hin hd ?_
  rw [hc, u3]
  exact key
theorem b_zast {a : Nat} {j z : Int} (C : bC γ y d b1 b2) (hd : decode y.2.1 pc = .ok (.bastore, 1)) (ht : τ.1 a = 23 ∨ τ.1 a = 43) (h1 : 0 ≤ j) (h2 : j < τ.2 a) (hz : z = 0 ∨ z = 1) (kk : bJ γ (pc + 1) lo st τ (bsetI h a j.toNat z) nc ns) : bJ γ pc lo (.int (bz z) :: .int (bz j) :: .ref a :: st) τ h nc ns := by
  intro ws ls H locs hM
  obtain ⟨k, f, hw, hn, hfit, hf⟩ := (hM.2.2.2.1 a (by omega)).ints (by omega) (by omega)
  obtain ⟨hin, hc⟩ := b_vin h1 h2 hn
  have e1 : τ.1 a % 20 = 3 := by omega
  have hr : brg z := by rcases hz with rfl | rfl <;> exact ⟨by omega, by omega⟩
  have u3 : vp_nar .boolean (bz z) = bz z := by rcases hz with rfl | rfl <;> decide +kernel
  have key : ∀ (H1 : Heap) (locs1 : List Loc), _ → _ → _ → _ := fun H1 locs1 a1 a2 a3 => kk _ ls H1 locs1 (hM.putI (n := j.toNat) (z := z) (by omega) hw hn hfit hf hr (fun q => by omega) a1 a2 a3)
  rw [e1] at hw key
  refine va_zast C.1.1 C.1.2.1 C.2.2.1.1 hM.1 hM.2.1 hM.2.2.1 k 2 hw rfl hin hd ?_
  rw [hc, u3]
  exact key
theorem b_last {a : Nat} {j : Int} {v : Int64} (C : bC γ y d b1 b2) (hd : decode y.2.1 pc = .ok (.lastore, 1)) (ht : τ.1 a = 24 ∨ τ.1 a = 44) (h1 : 0 ≤ j) (h2 : j < τ.2 a) (kk : bJ γ (pc + 1) lo st τ h nc ns) : bJ γ pc lo (.long v :: .int (bz j) :: .ref a :: st) τ h nc ns := by
  intro ws ls H locs hM
  obtain ⟨k, f, hw, hn⟩ := (hM.2.2.2.1 a (by omega)).longs ht
  refine va_last C.1.1 C.1.2.1 C.2.2.1.1 hM.1 hM.2.1 hM.2.2.1 k 3 hw rfl (b_vin h1 h2 hn).1 hd (fun H1 locs1 a1 a2 a3 => kk _ ls H1 locs1 (hM.write hw a1 a2 a3 ?_ (fun b hb i => ⟨rfl, rfl⟩)))
  exact Or.inr (Or.inr (Or.inl ⟨by omega, k, _, List.getElem?_set_self ((List.getElem?_eq_some_iff.mp hw).1), hn⟩))
/-- a World is put into a row of Worlds -/
theorem b_aastW {a w : Nat} {j : Int} (C : bC γ y d b1 b2) (hd : decode y.2.1 pc = .ok (.aastore, 1)) (ht : τ.1 a = 26) (hw9 : τ.1 w = 10) (h1 : 0 ≤ j) (h2 : j < τ.2 a) (kk : bJ γ (pc + 1) lo st τ (bsetR h a j.toNat (some w)) nc ns) : bJ γ pc lo (.ref w :: .int (bz j) :: .ref a :: st) τ h nc ns := by
  intro ws ls H locs hM
  obtain ⟨k, f, hw, hn, hf⟩ := (hM.2.2.2.1 a (by omega)).refs (Or.inr ht)
  obtain ⟨k2, fs, hw2, -, -⟩ := (hM.2.2.2.1 w (by omega)).obj (ci := 9) (by omega) (by omega)
  obtain ⟨hin, hc⟩ := b_vin h1 h2 hn
  have e1 : τ.1 a % 20 = 6 := by omega
  rw [e1] at hw
  obtain ⟨r, hr, hr1⟩ : ∃ r : vw_C, vwCl[9]? = some r ∧ r.1 = "SpanCopier$World" := ⟨_, rfl, rfl⟩
  refine va_astq C.1.1 C.1.2.1 C.2.2.1.1 hM.1 hM.2.1 hM.2.2.1 k 5 k2 9 hw (by rw [hr1]; rfl) hw2 hr hin hd (fun H1 locs1 a1 a2 a3 => kk _ ls H1 locs1 (hM.write hw a1 a2 a3 ?_ (fun b hb i => ⟨rfl, if_neg (fun q => hb q.1)⟩)))
  refine Or.inr (Or.inr (Or.inr (Or.inl ⟨by omega, k, va_up f (bz j).toNatClampNeg (some w), by rw [e1]; exact List.getElem?_set_self ((List.getElem?_eq_some_iff.mp hw).1), hn, fun i hi => ?_⟩)))
  rw [hc]
  show (if i = j.toNat then some w else f i) = if a = a ∧ i = j.toNat then some w else h.2 a i
  by_cases e : i = j.toNat
  · rw [if_pos e, if_pos ⟨rfl, e⟩]
  · rw [if_neg e, if_neg (fun q => e q.2), hf i hi]
end BSTO
