/-! ===== rows: Word's row of all, a Word's code ===== -/
section BWORDS
variable {γ : bG} {y : bY} {d b1 b2 pc : Nat} {lo : List (Option Value)} {st : List Value} {τ : bt} {h : bh} {nc ns : Nat}
theorem b_getsA {idx : Nat} (C : bC γ y d b1 b2) (X : bX γ) (hlink : Cond.fieldLink y.1.cls idx "SpanCopier$Word" "ALL" "[LSpanCopier$Word;" ∈ bW) (hd : decode y.2.1 pc = .ok (.getstatic idx, 3)) (kk : bJ γ (pc + 3) lo (.ref (γ.1.2.2.2 44) :: st) τ h nc ns) : bJ γ pc lo st τ h nc ns :=
  fun ws ls H locs hM => va_gets C.1.1 C.1.2.1 X.2.2.2.2.1 hM.2.2.1 C.2.1.1 (C.2.1.2.1 _ hlink) (fun _ h => h) hd (kk ws ls H locs hM)
theorem b_tlenA (C : bC γ y d b1 b2) (X : bX γ) (hd : decode y.2.1 pc = .ok (.arraylength, 1)) (kk : bJ γ (pc + 1) lo (.int (bz 38) :: st) τ h nc ns) : bJ γ pc lo (.ref (γ.1.2.2.2 44) :: st) τ h nc ns :=
  fun ws ls H locs hM => va_tlen C.1.1 C.1.2.1 X.2.2.2.2.2.1 hM.2.2.1 (v := bz 38) (by decide) hd (kk ws ls H locs hM)
theorem b_aaldA {j : Nat} (C : bC γ y d b1 b2) (X : bX γ) (hj : j < 38) (hd : decode y.2.1 pc = .ok (.aaload, 1)) (kk : bJ γ (pc + 1) lo (.ref (γ.1.2.2.2 j) :: st) τ h nc ns) : bJ γ pc lo (.int (bz (j : Int)) :: .ref (γ.1.2.2.2 44) :: st) τ h nc ns := by
  intro ws ls H locs hM
  obtain ⟨cell, h1, h2, h3, h4, h5, h6, h7⟩ := X.2.2.2.2.2.1
  obtain ⟨hin, hc⟩ := b_vin (j := (j : Int)) (n := 38) (by omega) (by omega) (by omega)
  have hin' : ¬ (bz (j : Int) < 0 ∨ cell.slots.size ≤ (bz (j : Int)).toNatClampNeg) := by
    intro q
    rcases q with q | q
    · exact hin (Or.inl q)
    · rw [hc] at q; omega
  exact W.aald (v := .ref (γ.1.2.2.2 j)) (ty := .object "SpanCopier$Word") C.1.1 C.1.2.1 (by rw [hM.2.2.1.2.1 _ (Array.getElem?_eq_some_iff.mp h1).1 h7]; exact h1) h2 rfl h3 hin' (by rw [hc, h6 _ (by omega)]; rfl) rfl rfl hd (kk ws ls H locs hM)
theorem b_getcode {idx j : Nat} (C : bC γ y d b1 b2) (X : bX γ) (hj : j < 38) (hlink : Cond.fieldLink y.1.cls idx "SpanCopier$Word" "code" "J" ∈ bW) (hd : decode y.2.1 pc = .ok (.getfield idx, 3)) (kk : ∀ w : Int64, bJ γ (pc + 3) lo (.long w :: st) τ h nc ns) : bJ γ pc lo (.ref (γ.1.2.2.2 j) :: st) τ h nc ns := by
  intro ws ls H locs hM
  obtain ⟨w, hE⟩ := X.2.2.2.2.2.2
  obtain ⟨cf, k, fi, f, cell, h1, h2, h3, h4, h5, h6⟩ := (hE j hj).kept hM.2.2.1.2.1
  exact W.getf C.1.1 C.1.2.1 C.2.1.1 (C.2.1.2.1 _ hlink) h1 h2 h3 h4 (v := .long (w j)) h5 rfl rfl hd (kk (w j) ws ls H locs hM)
end BWORDS
