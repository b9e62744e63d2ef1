/-! ===== rows: things made, constants, copies ===== -/
section BMADE
variable {γ : bG} {y : bY} {d b1 b2 pc : Nat} {lo : List (Option Value)} {st : List Value} {τ : bt} {h : bh} {nc ns : Nat}
/-- a Word is put into a row of Words -/
theorem b_aastE {a w : Nat} {j : Int} (C : bC γ y d b1 b2) (hd : decode y.2.1 pc = .ok (.aastore, 1)) (ht : τ.1 a = 25) (hw9 : τ.1 w = 30) (h1 : 0 ≤ j) (h2 : j < τ.2 a) (kk : bJ γ (pc + 1) lo st τ (bsetR h a j.toNat (some w)) nc ns) : bJ γ pc lo (.ref w :: .int (bz j) :: .ref a :: st) τ h nc ns := by
  intro ws ls H locs hM
  obtain ⟨k, f, hw, hn, hf⟩ := (hM.2.2.2.1 a (by omega)).refs (Or.inl ht)
  obtain ⟨hin, hc⟩ := b_vin h1 h2 hn
  have e1 : τ.1 a % 20 = 5 := by omega
  rw [e1] at hw
  obtain ⟨i, hi, rfl⟩ : ∃ i, i < 38 ∧ w = γ.1.2.2.2 i := by
    rcases hM.2.2.2.1 w (by omega) with ⟨h1, -⟩ | ⟨⟨h1, h3, h4⟩, -⟩ | ⟨⟨-, h1⟩, -⟩ | ⟨⟨-, h1⟩, -⟩ | ⟨-, i, h3, h4, -⟩ | ⟨h1, -⟩ | ⟨h1, -⟩
    · omega
    · omega
    · omega
    · omega
    · exact ⟨i, h3, h4⟩
    · omega
    · omega
  have hr : va_Any "SpanCopier$Word" γ.2.1.2.2.2.2.1 H (γ.1.2.2.2 i) := by
    obtain ⟨cell, z1, z2, z3⟩ := va_recvE C.2.2.1.2.1.1 (show i < b_nm.length from hi) hM.2.2.1
    obtain ⟨kC, hkC, -⟩ := Vm.findClass_spec z3
    exact ⟨cell, z1, z2, ⟨kC, hkC⟩, fun comp hcomp => by cases z3.symm.trans hcomp; exact va_asg _ _⟩
  refine va_astqM C.1.1 C.1.2.1 C.2.2.1.1 hM.1 hM.2.1 hM.2.2.1 k 4 hw rfl hr hin hd (fun H1 locs1 a1 a2 a3 => kk _ ls H1 locs1 (hM.write hw a1 a2 a3 ?_ (fun b hb i => ⟨rfl, if_neg (fun q => hb q.1)⟩)))
  refine Or.inr (Or.inr (Or.inr (Or.inl ⟨by omega, k, va_up f (bz j).toNatClampNeg (some (γ.1.2.2.2 i)), by rw [e1]; exact List.getElem?_set_self ((List.getElem?_eq_some_iff.mp hw).1), hn, fun i' hi' => ?_⟩)))
  rw [hc]
  show (if i' = j.toNat then some (γ.1.2.2.2 i) else f i') = if a = a ∧ i' = j.toNat then some (γ.1.2.2.2 i) else h.2 a i'
  by_cases e : i' = j.toNat
  · rw [if_pos e, if_pos ⟨rfl, e⟩]
  · rw [if_neg e, if_neg (fun q => e q.2), hf i' hi']
theorem bst_w : ∀ j, j < 38 → bst j = ("SpanCopier$Word", b_nm.getD j "", "LSpanCopier$Word;") := by decide +kernel
theorem bZj {ι : bI} {s : State} {j : Nat} (h : bS ι s s.heap) (hj : j < 38 ∨ 40 ≤ j ∧ j ≤ 43) : va_Z (bst j).1 (bst j).2.1 (bst j).2.2 (.ref (ι.2.2.2 j)) (bA ι) s s.heap := by
  rcases hj with hj | hj
  · rw [bst_w j hj]
    exact (h.1.1 j hj).1
  · rcases (show j = 40 ∨ j = 41 ∨ j = 42 ∨ j = 43 by omega) with rfl | rfl | rfl | rfl
    · exact (h.2.1 40 _ rfl).1
    · exact (h.2.1 41 _ rfl).1
    · exact h.2.2.1
    · exact (h.2.1 43 _ rfl).1
theorem b_gets {j idx : Nat} (C : bC γ y d b1 b2) (hj : j < 38 ∨ 40 ≤ j ∧ j ≤ 43) (hlink : Cond.fieldLink y.1.cls idx (bst j).1 (bst j).2.1 (bst j).2.2 ∈ bW ∨ ∃ host, Cond.fieldLinkNest y.1.cls idx (bst j).1 (bst j).2.1 (bst j).2.2 host ∈ lw_tbl) (hd : decode y.2.1 pc = .ok (.getstatic idx, 3)) (kk : bJ γ (pc + 3) lo (va_rf (some (γ.1.2.2.2 j)) :: st) τ h nc ns) : bJ γ pc lo st τ h nc ns := by
  intro ws ls H locs hM
  rcases hlink with hlk | ⟨host, hlk⟩
  · exact va_gets C.1.1 C.1.2.1 (bZj C.2.2.1.2.1 hj) hM.2.2.1 C.2.1.1 (C.2.1.2.1 _ hlk) (fun _ h => h) hd (kk ws ls H locs hM)
  · exact va_getsN C.1.1 C.1.2.1 (bZj C.2.2.1.2.1 hj) hM.2.2.1 C.2.1.1 (va_Nw.use rfl (C.2.2.1.2.2.2.1 _ _ _ _ _ _ hlk)) (fun _ h => h) hd (kk ws ls H locs hM)
/-- a new cell, its kind and length; nothing in it -/
def bnT (τ : bt) (a t n : Nat) : bt := (fun b => if b = a then t else τ.1 b, fun b => if b = a then n else τ.2 b)
def bnH (h : bh) (a : Nat) : bh := (fun b j => if b = a then 0 else h.1 b j, fun b j => if b = a then none else h.2 b j)
/-- constant things lie below what may be written -/
theorem bconst {ι : bI} {s : State} {j : Nat} (h : bS ι s s.heap) (hj : j < 38 ∨ 40 ≤ j ∧ j ≤ 43) : ι.2.2.2 j < s.heap.size ∧ ¬ bA ι (ι.2.2.2 j) := by
  have key : ∀ (ty : FieldType) (t N : Nat) (f : Nat → Value), va_T ty t N f (bA ι) s s.heap → t < s.heap.size ∧ ¬ bA ι t := by
    intro ty t N f hT
    obtain ⟨cell, h1, h2, h3, h4, h5, h6, h7⟩ := hT
    exact ⟨(Array.getElem?_eq_some_iff.mp h1).1, h7⟩
  rcases hj with hj | hj
  · obtain ⟨cell, h1, h2, h3, h4⟩ := (h.1.1 j hj).2.1
    exact ⟨(Array.getElem?_eq_some_iff.mp h1).1, h4⟩
  · rcases (show j = 40 ∨ j = 41 ∨ j = 42 ∨ j = 43 by omega) with rfl | rfl | rfl | rfl
    · exact key _ _ _ _ (h.2.1 40 _ rfl).2
    · exact key _ _ _ _ (h.2.1 41 _ rfl).2
    · exact key _ _ _ _ h.2.2.2
    · exact key _ _ _ _ (h.2.1 43 _ rfl).2
/-- a cell that is known is not the new one -/
theorem bcell.old {ι : bI} {s : State} {ws : va_W} {a b : Nat} {e : va_E} (hc : bcell ι τ h ws b) (hD : va_D (bA ι) (ws ++ [(a, e)])) (hE : bS ι s s.heap) : b ≠ a := by
  have hlast : (ws ++ [(a, e)])[ws.length]? = some (a, e) := by rw [List.getElem?_append_right (Nat.le_refl _), Nat.sub_self]; rfl
  have hA : bA ι a := hD.2 _ _ hlast
  have hw : ∀ {k : Nat} {e2 : va_E}, ws[k]? = some (b, e2) → b ≠ a := by
    intro k e2 hk hba
    have hk1 := (List.getElem?_eq_some_iff.mp hk).1
    have := hD.1 k ws.length (b, e2) (a, e) (by rw [List.getElem?_append_left hk1]; exact hk) hlast hba
    omega
  have hcst : ∀ {j : Nat}, j < 38 ∨ 40 ≤ j ∧ j ≤ 43 → b = ι.2.2.2 j → b ≠ a := fun hj hb hba => (bconst hE hj).2 (by rw [← hb, hba]; exact hA)
  rcases hc with ⟨-, k, fs, h1, -⟩ | ⟨-, k, f, h1, -⟩ | ⟨-, k, f, h1, -⟩ | ⟨-, k, f, h1, -⟩ | ⟨-, i, h1, h2, -⟩ | ⟨-, j, l, h1, h2, -⟩ | ⟨-, h2, -⟩
  · exact hw h1
  · exact hw h1
  · exact hw h1
  · exact hw h1
  · exact hcst (Or.inl h1) h2
  · refine hcst (Or.inr ?_) h2
    unfold bsar at h1
    split at h1
    · omega
    · split at h1
      · omega
      · split at h1
        · omega
        · cases h1
  · exact hcst (Or.inr ⟨by omega, by omega⟩) h2
theorem bM.fresh {ι : bI} {s : State} {nL a : Nat} {ws : va_W} {ls : Array Slot} {H : Heap} {locs : List Loc} {e : va_E} (hM : bM ι s nL lo τ h ws ls H locs) (hE : bS ι s s.heap) (hD : va_D (bA ι) (ws ++ [(a, e)])) : τ.1 a = 0 := by
  by_cases e : τ.1 a = 0
  · exact e
  · exact absurd rfl ((hM.2.2.2.1 a e).old hD hE)
/-- the state when a cell comes -/
theorem bM.more {ι : bI} {s : State} {nL a t n : Nat} {ws : va_W} {ls : Array Slot} {H H1 : Heap} {locs locs1 : List Loc} {e : va_E} (hM : bM ι s nL lo τ h ws ls H locs) (hE : bS ι s s.heap) (hP : va_P ι.2.1 vwCl (ws ++ [(a, e)]) H1) (hD : va_D (bA ι) (ws ++ [(a, e)])) (hS : va_S (bA ι) s.heap H1 locs1) (hc : bcell ι (bnT τ a t n) (bnH h a) (ws ++ [(a, e)]) a) : bM ι s nL lo (bnT τ a t n) (bnH h a) (ws ++ [(a, e)]) ls H1 locs1 := by
  refine ⟨hP, hD, hS, fun b hb => ?_, hM.2.2.2.2⟩
  by_cases e9 : b = a
  · rw [e9]; exact hc
  · have e1 : (bnT τ a t n).1 b = τ.1 b := if_neg e9
    have e2 : (bnT τ a t n).2 b = τ.2 b := if_neg e9
    rw [e1] at hb
    have h0 := (hM.2.2.2.1 b hb).other (h' := bnH h a) (ws' := ws ++ [(a, e)]) (fun i => if_neg e9) (fun i => if_neg e9) (fun k e2 hk => by rw [List.getElem?_append_left (List.getElem?_eq_some_iff.mp hk).1]; exact hk)
    unfold bcell at h0 ⊢
    rw [e1, e2]
    exact h0
/-- a field's value at first -/
theorem bfv_dflt {ci k : Nat} {q : vw_C} {ty : FieldType} (hq : vwCl[ci]? = some q) (hpd : parseFieldDescriptor (q.2.1 k).2.2.1 = some ty) (hok : ty = .int ∨ ty = .boolean ∨ ty = .long ∨ (∃ C, ty = .object C) ∨ ∃ t, ty = .array t) : bfv (bfk ci k) (defaultValue ty) 0 none := by
  have e : ∀ n, (match (some ty : Option FieldType) with | some .int => 0 | some .boolean => 1 | some .long => 3 | _ => 2) = n → bfk ci k = n := by
    intro n hn
    unfold bfk
    rw [bfd_of hq, hpd]
    exact hn
  rcases hok with rfl | rfl | rfl | ⟨C, rfl⟩ | ⟨t, rfl⟩
  · exact Or.inl ⟨Or.inl (e 0 rfl), rfl, by unfold brg; omega⟩
  · exact Or.inl ⟨Or.inr (e 1 rfl), rfl, by unfold brg; omega⟩
  · exact Or.inr (Or.inr ⟨e 3 rfl, _, rfl⟩)
  · exact Or.inr (Or.inl ⟨e 2 rfl, rfl⟩)
  · exact Or.inr (Or.inl ⟨e 2 rfl, rfl⟩)
def btyok (ci k : Nat) : Bool := match parseFieldDescriptor (bfd ci k).2.2.1 with
  | some .int => true
  | some .boolean => true
  | some .long => true
  | some (.object _) => true
  | some (.array _) => true
  | _ => false
theorem btyok_all : ∀ ci, ci < vwCl.length → ∀ k, k < bn ci → btyok ci k = true := by decide +kernel
theorem b_new {ci idx : Nat} {q : vw_C} (C : bC γ y d b1 b2) (hq : vwCl[ci]? = some q) (hci : ci ≤ 19) (hcl : Cond.classLink y.1.cls idx q.1 ∈ bW) (hd : decode y.2.1 pc = .ok (.new idx, 3)) (hc1 : nc + 1 ≤ b1) (hc2 : ns + q.2.2 ≤ b2) (kk : ∀ a, τ.1 a = 0 → bJ γ (pc + 3) lo (.ref a :: st) (bnT τ a (ci + 1) 0) (bnH h a) (nc + 1) (ns + q.2.2)) : bJ γ pc lo st τ h nc ns := by
  intro ws ls H locs hM
  have hc := bcls _ (List.mem_of_getElem? hq)
  have hn : bn ci = q.2.2 := bn_of hq
  obtain ⟨ty0, hty0⟩ := hc.2.1
  have hA : ∀ z, γ.2.1.2.2.2.2.1.heap.size ≤ z → bA γ.1 z := fun z hz => Nat.le_trans C.2.2.1.2.2.1 hz
  have hlen : ci < vwCl.length := (List.getElem?_eq_some_iff.mp hq).1
  have hfs : ∀ j, j < q.2.2 → defaultValue (ty0 j) = vp_V ((List.range q.2.2).map (fun j => defaultValue (ty0 j))) j := by
    intro j hj
    unfold vp_V
    rw [List.getD_eq_getElem?_getD, List.getElem?_map, List.getElem?_range hj]
    rfl
  have hok : ∀ j, j < q.2.2 → ty0 j = .int ∨ ty0 j = .boolean ∨ ty0 j = .long ∨ (∃ C, ty0 j = .object C) ∨ ∃ t, ty0 j = .array t := by
    intro j hj
    have h1 := btyok_all ci hlen j (by rw [hn]; exact hj)
    unfold btyok at h1
    rw [bfd_of hq, hty0 j hj] at h1
    cases hz : ty0 j <;> rw [hz] at h1 <;> first | (cases h1; done) | simp
  obtain ⟨Cn, T, N⟩ := q
  refine va_new (fs := (List.range N).map (fun j => defaultValue (ty0 j))) C.1.1 C.1.2.1 C.2.1.2.1 hc.1 ty0 hty0 C.2.1.1 (C.2.1.2.1 _ hcl) (C.2.1.2.1 _ hc.2.2.2.1) (C.2.1.2.1 _ hc.2.2.2.2) C.2.2.1.1 hM.1 hM.2.1 hM.2.2.1 hA hq hfs (by rw [C.2.2.2.2.2.1]; exact hc1) (by rw [C.2.2.2.2.2.2]; exact hc2) hd (fun a H1 a1 a2 a3 => ?_)
  have e1 : (bnT τ a (ci + 1) 0).1 a = ci + 1 := if_pos rfl
  refine kk a (hM.fresh C.2.2.1.2.1 a2) _ ls H1 locs (hM.more C.2.2.1.2.1 a1 a2 a3 (Or.inl ⟨by rw [e1]; omega, ws.length, (List.range N).map (fun j => defaultValue (ty0 j)), ?_, ?_, fun i hi => ?_⟩))
  · rw [e1, Nat.add_sub_cancel, List.getElem?_append_right (Nat.le_refl _), Nat.sub_self]; rfl
  · rw [e1, Nat.add_sub_cancel, List.length_map, List.length_range]; exact hn.symm
  · rw [List.length_map, List.length_range] at hi
    rw [e1, Nat.add_sub_cancel, ← hfs i hi]
    have z1 : (bnH h a).1 a i = 0 := if_pos rfl
    have z2 : (bnH h a).2 a i = none := if_pos rfl
    rw [z1, z2]
    exact bfv_dflt hq (hty0 i hi) (hok i hi)
/-- an array of numbers -/
theorem b_newa {t : Nat} {n : Int} {at_ : ArrayType} (C : bC γ y d b1 b2) (hkd : (t % 20 = 1 ∧ at_ = .int) ∨ (t % 20 = 2 ∧ at_ = .byte) ∨ (t % 20 = 3 ∧ at_ = .boolean) ∨ (t % 20 = 4 ∧ at_ = .long)) (ht : 21 ≤ t) (harr : Cond.arrayClass (newarray.typeOf at_) ∈ bW) (hd : decode y.2.1 pc = .ok (.newarray at_, 2)) (h1 : 0 ≤ n) (h2 : n ≤ 30000) (hc1 : nc + 1 ≤ b1) (hc2 : ns + n.toNat ≤ b2) (kk : ∀ a, τ.1 a = 0 → bJ γ (pc + 2) lo (.ref a :: st) (bnT τ a t n.toNat) (bnH h a) (nc + 1) (ns + n.toNat)) : bJ γ pc lo (.int (bz n) :: st) τ h nc ns := by
  intro ws ls H locs hM
  have hr : brg n := ⟨by omega, by omega⟩
  have hA : ∀ z, γ.2.1.2.2.2.2.1.heap.size ≤ z → bA γ.1 z := fun z hz => Nat.le_trans C.2.2.1.2.2.1 hz
  have hn : ¬ bz n < 0 := fun z => by have := (bz_lt hr brg0).mp z; omega
  have hcl : (bz n).toNatClampNeg = n.toNat := bz_clamp hr
  have hcc : nc + 1 ≤ γ.2.1.2.2.2.1.cells := by rw [C.2.2.2.2.2.1]; exact hc1
  have hss : ns + n.toNat ≤ γ.2.1.2.2.2.1.slots := by rw [C.2.2.2.2.2.2]; exact hc2
  have same : ∀ (t0 : Nat) (ty : FieldType) (z : ClassId) (k : ClassId), (bT γ.1)[t0]? = some (z, ty) → va_K γ.1.2.1 vwCl (bT γ.1 ++ [(k, ty)]) γ.2.1.2.2.2.2.1 → (∀ c0, ty ≠ .object c0) → k = z := by
    intro t0 ty z k h0 hK hno
    have q1 := (C.2.2.1.1.2 t0 _ h0).2
    have q2 := (hK.2 6 (k, ty) rfl).2
    cases ty <;> first | exact Option.some.inj (q2.symm.trans q1) | exact absurd rfl (hno _)
  have e1 : ∀ a, (bnT τ a t n.toNat).1 a = t := fun a => if_pos rfl
  have e2 : ∀ a, (bnT τ a t n.toNat).2 a = n.toNat := fun a => if_pos rfl
  have e3 : ∀ a i, (bnH h a).1 a i = 0 := fun a i => if_pos rfl
  have last : ∀ (a : Nat) (e : va_E), (ws ++ [(a, e)])[ws.length]? = some (a, e) := fun a e => by rw [List.getElem?_append_right (Nat.le_refl _), Nat.sub_self]; rfl
  have hN : n.toNat ≤ 30000 := by omega
  rcases hkd with ⟨k1, rfl⟩ | ⟨k1, rfl⟩ | ⟨k1, rfl⟩ | ⟨k1, rfl⟩
  · refine va_newa (a0 := (n.toNat, .inl (fun _ => 0))) (ty := .int) C.1.1 C.1.2.1 (C.2.1.2.1 _ harr) rfl C.2.2.1.1 hM.1 hM.2.1 hM.2.2.1 hA (fun _ => rfl) hn hcl (by show n.toNat * 4 ≤ _; omega) hcc hss hd (fun a k H1 a0 a1 a2 a3 => ?_)
    obtain rfl := same 0 .int (γ.1.2.2.1 1) k rfl a0 (fun _ h => by cases h)
    exact kk a (hM.fresh C.2.2.1.2.1 a2) _ ls H1 locs (hM.more C.2.2.1.2.1 a1 a2 a3 (Or.inr (Or.inl ⟨by rw [e1]; omega, ws.length, (fun _ => 0), by rw [e1, e2, k1]; exact last _ _, by rw [e2]; exact hN, fun z => by rw [e1] at z; omega, fun i _ => by rw [e3]; rfl⟩)))
  · refine va_newa (a0 := (n.toNat, .inl (fun _ => 0))) (ty := .byte) C.1.1 C.1.2.1 (C.2.1.2.1 _ harr) rfl C.2.2.1.1 hM.1 hM.2.1 hM.2.2.1 hA (fun _ => rfl) hn hcl (by show n.toNat * 1 ≤ _; omega) hcc hss hd (fun a k H1 a0 a1 a2 a3 => ?_)
    obtain rfl := same 1 .byte (γ.1.2.2.1 2) k rfl a0 (fun _ h => by cases h)
    exact kk a (hM.fresh C.2.2.1.2.1 a2) _ ls H1 locs (hM.more C.2.2.1.2.1 a1 a2 a3 (Or.inr (Or.inl ⟨by rw [e1]; omega, ws.length, (fun _ => 0), by rw [e1, e2, k1]; exact last _ _, by rw [e2]; exact hN, fun _ _ _ => (show fits .byte (.int 0) = true by decide +kernel), fun i _ => by rw [e3]; rfl⟩)))
  · refine va_newa (a0 := (n.toNat, .inl (fun _ => 0))) (ty := .boolean) C.1.1 C.1.2.1 (C.2.1.2.1 _ harr) rfl C.2.2.1.1 hM.1 hM.2.1 hM.2.2.1 hA (fun _ => rfl) hn hcl (by show n.toNat * 1 ≤ _; omega) hcc hss hd (fun a k H1 a0 a1 a2 a3 => ?_)
    obtain rfl := same 2 .boolean (γ.1.2.2.1 3) k rfl a0 (fun _ h => by cases h)
    exact kk a (hM.fresh C.2.2.1.2.1 a2) _ ls H1 locs (hM.more C.2.2.1.2.1 a1 a2 a3 (Or.inr (Or.inl ⟨by rw [e1]; omega, ws.length, (fun _ => 0), by rw [e1, e2, k1]; exact last _ _, by rw [e2]; exact hN, fun z => by rw [e1] at z; omega, fun i _ => by rw [e3]; rfl⟩)))
  · refine va_newa (a0 := (n.toNat, .inr (.inl (fun _ => 0)))) (ty := .long) C.1.1 C.1.2.1 (C.2.1.2.1 _ harr) rfl C.2.2.1.1 hM.1 hM.2.1 hM.2.2.1 hA (fun _ => rfl) hn hcl (by show n.toNat * 8 ≤ _; omega) hcc hss hd (fun a k H1 a0 a1 a2 a3 => ?_)
    obtain rfl := same 3 .long (γ.1.2.2.1 4) k rfl a0 (fun _ h => by cases h)
    exact kk a (hM.fresh C.2.2.1.2.1 a2) _ ls H1 locs (hM.more C.2.2.1.2.1 a1 a2 a3 (Or.inr (Or.inr (Or.inl ⟨by rw [e1]; omega, ws.length, (fun _ => 0), by rw [e2]; exact last _ _, by rw [e2]; exact hN⟩))))
/-- an array of references -/
theorem b_anewa {t idx : Nat} {n : Int} {Cn : String} (C : bC γ y d b1 b2) (hkd : (t = 25 ∧ Cn = "SpanCopier$Word") ∨ (t = 26 ∧ Cn = "SpanCopier$World")) (hcl : Cond.classLink y.1.cls idx Cn ∈ bW) (hd : decode y.2.1 pc = .ok (.anewarray idx, 3)) (h1 : 0 ≤ n) (h2 : n ≤ 30000) (hc1 : nc + 1 ≤ b1) (hc2 : ns + n.toNat ≤ b2) (kk : ∀ a, τ.1 a = 0 → bJ γ (pc + 3) lo (.ref a :: st) (bnT τ a t n.toNat) (bnH h a) (nc + 1) (ns + n.toNat)) : bJ γ pc lo (.int (bz n) :: st) τ h nc ns := by
  intro ws ls H locs hM
  have hr : brg n := ⟨by omega, by omega⟩
  have hA : ∀ z, γ.2.1.2.2.2.2.1.heap.size ≤ z → bA γ.1 z := fun z hz => Nat.le_trans C.2.2.1.2.2.1 hz
  have hn : ¬ bz n < 0 := fun z => by have := (bz_lt hr brg0).mp z; omega
  have hcl2 : (bz n).toNatClampNeg = n.toNat := bz_clamp hr
  have hcc : nc + 1 ≤ γ.2.1.2.2.2.1.cells := by rw [C.2.2.2.2.2.1]; exact hc1
  have hss : ns + n.toNat ≤ γ.2.1.2.2.2.1.slots := by rw [C.2.2.2.2.2.2]; exact hc2
  have hao : va_AO Cn γ.2.1.2.2.2.2.1 := by
    rcases hkd with ⟨-, e⟩ | ⟨-, e⟩
    · rw [e]; exact C.2.2.1.2.2.2.2.2.1
    · rw [e]; exact C.2.2.1.2.2.2.2.2.2
  have last : ∀ (a : Nat) (e : va_E), (ws ++ [(a, e)])[ws.length]? = some (a, e) := fun a e => by rw [List.getElem?_append_right (Nat.le_refl _), Nat.sub_self]; rfl
  have e1 : ∀ a, (bnT τ a t n.toNat).1 a = t := fun a => if_pos rfl
  have e2 : ∀ a, (bnT τ a t n.toNat).2 a = n.toNat := fun a => if_pos rfl
  have e3 : ∀ a i, (bnH h a).2 a i = none := fun a i => if_pos rfl
  refine va_newq C.1.1 C.1.2.1 C.2.1.1 (C.2.1.2.1 _ hcl) hao C.2.2.1.1 hM.1 hM.2.1 hM.2.2.1 hA hn hcl2 (by omega) hcc hss hd (fun a k H1 a0 a1 a2 a3 => ?_)
  obtain ⟨-, -, -, -, -, q2⟩ := (a0.2 6 (k, .object Cn) rfl).2
  rcases hkd with ⟨rfl, rfl⟩ | ⟨rfl, rfl⟩
  · obtain ⟨-, -, -, -, -, q1⟩ := (C.2.2.1.1.2 4 (γ.1.2.2.1 5, .object "SpanCopier$Word") rfl).2
    obtain rfl : k = γ.1.2.2.1 5 := Option.some.inj (q2.symm.trans q1)
    exact kk a (hM.fresh C.2.2.1.2.1 a2) _ ls H1 locs (hM.more C.2.2.1.2.1 a1 a2 a3 (Or.inr (Or.inr (Or.inr (Or.inl ⟨by rw [e1]; omega, ws.length, (fun _ => none), by rw [e1, e2]; exact last _ _, by rw [e2]; omega, fun i _ => (e3 a i).symm⟩)))))
  · obtain ⟨-, -, -, -, -, q1⟩ := (C.2.2.1.1.2 5 (γ.1.2.2.1 6, .object "SpanCopier$World") rfl).2
    obtain rfl : k = γ.1.2.2.1 6 := Option.some.inj (q2.symm.trans q1)
    exact kk a (hM.fresh C.2.2.1.2.1 a2) _ ls H1 locs (hM.more C.2.2.1.2.1 a1 a2 a3 (Or.inr (Or.inr (Or.inr (Or.inl ⟨by rw [e1]; omega, ws.length, (fun _ => none), by rw [e1, e2]; exact last _ _, by rw [e2]; omega, fun i _ => (e3 a i).symm⟩)))))
end BMADE
