/-! ===== contracts, calls, ends ===== -/
/-- words of a throw that calls don't hand on by themselves -/
def bnw (U : State) : Prop := va_Nw (.castable "java/util/NoSuchElementException" "java/util/NoSuchElementException") U ∧ va_Nw (.declares ⟨"java/lang/RuntimeException", "<init>", "()V"⟩) U ∧ va_Nw (.declares ⟨"java/lang/Exception", "<init>", "()V"⟩) U ∧ va_Nw (.declares ⟨"java/lang/Throwable", "<init>", "()V"⟩) U
/-- Word's row of all, and a Word's code -/
def bWo (ι : bI) (U : State) (H : Heap) : Prop := va_Z "SpanCopier$Word" "ALL" "[LSpanCopier$Word;" (.ref (ι.2.2.2 44)) (bA ι) U H ∧ va_T (.object "SpanCopier$Word") (ι.2.2.2 44) 38 (fun i => .ref (ι.2.2.2 i)) (bA ι) U H ∧ ∃ w : Nat → Int64, va_Ef 38 "SpanCopier$Word" "code" "J" (fun i => .long (w i)) ι.2.2.2 (bA ι) U H
theorem bWo.moved {ι : bI} {u U : State} {H : Heap} (hvm : u.vm.Alike U.vm) (h : bWo ι u H) : bWo ι U H := by
  obtain ⟨h1, h2, w, h3⟩ := h
  exact ⟨h1.moved hvm, h2.moved hvm, w, h3.moved hvm⟩
theorem bWo.kept {ι : bI} {U : State} {H H1 : Heap} (h : bWo ι U H) (hq : ∀ q : Nat, q < H.size → ¬ bA ι q → H1[q]? = H[q]?) : bWo ι U H1 := by
  obtain ⟨h1, h2, w, h3⟩ := h
  exact ⟨h1.kept hq, h2.kept hq, w, h3.kept hq⟩
def bTh (ι : bI) (U : State) (H : Heap) : Prop := vx_Zq Bundle.tN "UNASSIGNED_STACK" Bundle.steD (bA ι) U H ∧ vx_Zq Bundle.tN "SUPPRESSED_SENTINEL" Bundle.listD (bA ι) U H ∧ bnw U ∧ bWo ι U H
theorem bTh.moved {ι : bI} {u U : State} {H : Heap} (hW : u.WarmedH U.vm) (h : bTh ι u H) : bTh ι U H := ⟨h.1.moved hW.alike, h.2.1.moved hW.alike, ⟨va_Nw.warmC hW h.2.2.1.1, va_Nw.warmD hW h.2.2.1.2.1, va_Nw.warmD hW h.2.2.1.2.2.1, va_Nw.warmD hW h.2.2.1.2.2.2⟩, h.2.2.2.moved hW.alike⟩
theorem bTh.kept {ι : bI} {U : State} {H H1 : Heap} (h : bTh ι U H) (hq : ∀ q : Nat, q < H.size → ¬ bA ι q → H1[q]? = H[q]?) : bTh ι U H1 := ⟨h.1.kept hq, h.2.1.kept hq, h.2.2.1, h.2.2.2.kept hq⟩
/-- a heap as it is told -/
def bHp (ι : bI) (τ : bt) (h : bh) (H : Heap) : Prop := ∃ ws : va_W, va_P ι.2.1 vwCl ws H ∧ va_D (bA ι) ws ∧ ∀ a, τ.1 a ≠ 0 → bcell ι τ h ws a
/-- what a method is told: where all begins, the heap -/
def bPc (ι : bI) (τ : bt) (h : bh) (avs : List Value) : Array Value → State → Prop := va_Pc avs (fun U => ι.1 ≤ U.heap.size ∧ bHp ι τ h U.heap ∧ va_K ι.2.1 vwCl (bT ι) U ∧ bS ι U U.heap ∧ bNw U ∧ bTh ι U U.heap)
abbrev bPost : Type := bI → List Value → bt → bh → Option Value → bt → bh → Prop
def bQ (ι : bI) (τ : bt) (h : bh) (avs : List Value) (Post : bPost) : Array Value → State → Outcome → State → Prop := fun _ s0 oc t => (∃ (v : Option Value) (τ' : bt) (h' : bh), oc = .returned v ∧ Post ι avs τ h v τ' h' ∧ bHp ι τ' h' t.heap) ∧ va_F (bA ι) s0 t
def bWd (y : bY) (nL : Nat) : List Cond := .code y.1 y.2.1 nL y.2.2 :: bW
def bRm (d b1 b2 : Nat) : Room := { frames := d + 1, cells := b1, slots := b2, locals := 64 * (d + 1) }
/-- a method's contract: told Pre it returns, and Post is so; from depth d0 on; b1, b2: cells and slots at most -/
def bOk (y : bY) (nL d0 b1 b2 : Nat) (Pre : bI → List Value → bt → bh → Prop) (Post : bPost) : Prop := ∀ (l : Launch), l.stackTraces = false → ∀ (d : Nat), d0 ≤ d → ∀ (ι : bI) (τ : bt) (h : bh) (avs : List Value), Pre ι avs τ h → Met l y.1 (bWd y nL) (bRm d b1 b2) (bPc ι τ h avs) (bQ ι τ h avs Post) b1 b2 (bA ι)
theorem bS.moved {ι : bI} {u U : State} {H : Heap} (hvm : u.vm.Alike U.vm) (h : bS ι u H) : bS ι U H := by
  obtain ⟨h1, h2, h3⟩ := h
  exact ⟨h1.moved hvm, fun j l hl => ⟨(h2 j l hl).1.moved hvm, (h2 j l hl).2.moved hvm⟩, ⟨h3.1.moved hvm, h3.2.moved hvm⟩⟩
theorem bS.kept {ι : bI} {U : State} {H H1 : Heap} (h : bS ι U H) (hq : ∀ q : Nat, q < H.size → ¬ bA ι q → H1[q]? = H[q]?) : bS ι U H1 := by
  obtain ⟨h1, h2, h3⟩ := h
  exact ⟨h1.kept hq, fun j l hl => ⟨(h2 j l hl).1.kept hq, (h2 j l hl).2.kept hq⟩, ⟨h3.1.kept hq, h3.2.kept hq⟩⟩
theorem bNw.moved {s U : State} (hW : s.WarmedH U.vm) (h : bNw s) : bNw U :=
  ⟨fun a i b n d k hm => va_Nw.warmF hW (h.1 a i b n d k hm), fun a i x k hm => va_Nw.warmM hW (h.2.1 a i x k hm), va_AO.moved hW.alike h.2.2.1, va_AO.moved hW.alike h.2.2.2⟩
theorem b_blind (ι : bI) (τ : bt) (h : bh) (avs : List Value) : FrameBlind (bPc ι τ h avs) := by
  intro a U g mk ⟨h1, h2, h3, h4, h5, h6, h7, h8, h9, h10⟩
  have al : U.vm.Alike (U.calling g mk a).vm := Vm.Alike.refl U.vm
  exact ⟨h1, h2, h3, va_K.moved al h4, bS.moved al h5, ⟨fun a i b n d k hm => va_Nw.same rfl rfl (h6.1 a i b n d k hm), fun a i x k hm => va_Nw.same rfl rfl (h6.2.1 a i x k hm), va_AO.moved al h6.2.2.1, va_AO.moved al h6.2.2.2⟩, h7.moved al, h8.moved al, ⟨va_Nw.same rfl rfl h9.1, va_Nw.same rfl rfl h9.2.1, va_Nw.same rfl rfl h9.2.2.1, va_Nw.same rfl rfl h9.2.2.2⟩, h10.moved al⟩
/-- locals of a method that begins -/
def blv (avs : List Value) : List (Option Value) := avs.foldr (fun v r => if v.category = 2 then some v :: none :: r else some v :: r) []
theorem blv_at : ∀ (avs : List Value) (k i : Nat) (v : Value), (blv avs)[i]? = some (some v) → (k + i, v) ∈ lv_args k avs := by
  intro avs
  induction avs with
  | nil => intro k i v h; simp [blv] at h
  | cons a avs ih =>
    intro k i v h
    have e : blv (a :: avs) = if a.category = 2 then some a :: none :: blv avs else some a :: blv avs := rfl
    rw [e] at h
    by_cases hc : a.category = 2
    · rw [if_pos hc] at h
      have e2 : lv_args k (a :: avs) = (k, a) :: lv_args (k + 2) avs := by simp [lv_args, hc]
      rw [e2]
      match i, h with
      | 0, h => cases h; exact List.mem_cons_self
      | 1, h => cases h
      | i + 2, h =>
        have := ih (k + 2) i v h
        rw [show k + 2 + i = k + (i + 2) by omega] at this
        exact List.mem_cons_of_mem _ this
    · rw [if_neg hc] at h
      have e2 : lv_args k (a :: avs) = (k, a) :: lv_args (k + 1) avs := by
        have : a.category = 1 := by cases a <;> simp [Value.category] at hc ⊢
        simp [lv_args, this]
      rw [e2]
      match i, h with
      | 0, h => cases h; exact List.mem_cons_self
      | i + 1, h =>
        have := ih (k + 1) i v h
        rw [show k + 1 + i = k + (i + 1) by omega] at this
        exact List.mem_cons_of_mem _ this
theorem blv_len : ∀ (avs : List Value), (lg_sl avs).length = (blv avs).length := by
  intro avs
  induction avs with
  | nil => rfl
  | cons a avs ih =>
    have e : blv (a :: avs) = if a.category = 2 then some a :: none :: blv avs else some a :: blv avs := rfl
    rw [e]
    by_cases hc : a.category = 2
    · rw [if_pos hc]; simp [lg_sl, hc] at ih ⊢; omega
    · rw [if_neg hc]; simp [lg_sl, hc] at ih ⊢; omega
/-- a method's frame as it begins, and what is asked at its end -/
def bBeg (ι : bI) (τ : bt) (h : bh) (avs : List Value) (Post : bPost) (nL b1 b2 : Nat) (γ : bG) : Prop := γ.1 = ι ∧ γ.2.2.1 = nL ∧ γ.2.1.2.2.2.2.2.2.1 = avs.toArray ∧ γ.2.2.2 = MQ γ.2.1.2.2.2.2.2.2.2.1 (bQ ι τ h avs Post) avs.toArray γ.2.1.2.2.2.2.1 b1 b2 (bA ι) ∧ γ.2.1.2.1.stackTraces = false ∧ bTh ι γ.2.1.2.2.2.2.1 γ.2.1.2.2.2.2.1.heap
/-- a contract out of a walk from the beginning -/
theorem bOk_of {y : bY} {nL d0 b1 b2 : Nat} {Pre : bI → List Value → bt → bh → Prop} {Post : bPost} (hpl : plainFor y.1 = true) (hlen : ∀ ι avs τ h, Pre ι avs τ h → (blv avs).length ≤ nL) (body : ∀ (γ : bG) (ι : bI) (τ : bt) (h : bh) (avs : List Value) (d : Nat), d0 ≤ d → Pre ι avs τ h → bBeg ι τ h avs Post nL b1 b2 γ → bC γ y d b1 b2 → bJ γ 0 (blv avs ++ List.replicate (nL - (blv avs).length) none) [] τ h 0 0) : bOk y nL d0 b1 b2 Pre Post := by
  intro l hl d hd ι τ h avs hp
  refine Jvm.Free.MetFree.of_bodySF (code := y.2.1) (maxLocals := nL) (ret := y.2.2) hpl ?_ ?_
  · intro args s m h hn
    obtain ⟨meth, c, h1, h2, h3, h4, h5, h6, -, -⟩ := Cond.code_spec hn (atoms_spec (ws := bWd y nL) h _ List.mem_cons_self)
    exact ⟨meth, c, h1, h2, h3, h4, h5, h6⟩
  · intro p e s m args below meth c s₁ B hml hP _
    obtain ⟨rfl, hb, ⟨ws, hP, hD, hc⟩, hK, hE, hN, hTh⟩ := hP
    have hh0 : s₁.heap = s.heap := by rw [B.state]; rfl
    have hts := atoms_spec (ws := bWd y nL) B.pre
    have hlen := hlen ι avs τ h hp
    have hlv := lv_entry avs (n := nL) (by rw [blv_len]; exact hlen)
    have key : W p l e (headSpec (bWd y nL) (bRm d b1 b2)).room s m avs.toArray below meth c s.heap [] 0 0 (MQ below (bQ ι τ h avs Post) avs.toArray s b1 b2 (bA ι)) (entryFrame m avs.toArray nL) := by
      rw [lg_entry_eq]
      generalize (lg_sl avs ++ List.replicate (nL - (lg_sl avs).length) Slot.unset).toArray = ls at hlv ⊢
      refine body (ι, (p, l, e, (headSpec (bWd y nL) (bRm d b1 b2)).room, s, m, avs.toArray, below, meth, c), nL, MQ below (bQ ι τ h avs Post) avs.toArray s b1 b2 (bA ι)) ι τ h avs d hd hp ⟨rfl, rfl, rfl, rfl, hl, hTh⟩ ⟨⟨B.exec, B.bytes, B.returns, hml⟩, ⟨findClass_of_methodNamed B.named, fun w hw => hts w (List.mem_cons_of_mem _ hw), B.notSynchronized, (name_of_methodNamed B.named B.method).1⟩, ⟨hK, hE, hb, hN⟩, Nat.le_refl _, Nat.le_refl _, rfl, rfl⟩ ws ls s.heap [] ⟨hP, hD, va_S.rf, hc, ?_, lv_args 0 avs, hlv, fun i v hi => ?_⟩
      · show (blv avs ++ List.replicate (nL - (blv avs).length) none).length ≤ nL; rw [List.length_append, List.length_replicate]; omega
      · by_cases hi2 : i < (blv avs).length
        · rw [List.getElem?_append_left hi2] at hi
          have := blv_at avs 0 i v hi
          rwa [Nat.zero_add] at this
        · rw [List.getElem?_append_right (by omega), List.getElem?_replicate] at hi
          split at hi <;> cases hi
    obtain ⟨t, a1, o, b1, b2, b3⟩ := key s₁ hh0 (Stand.of_body B)
    exact ⟨t, o, a1, b1, b2, ⟨b3.1, b3.2⟩⟩
section BRET
variable {γ : bG} {y : bY} {d b1 b2 pc nL : Nat} {lo : List (Option Value)} {st : List Value} {τ τ0 : bt} {h h0 : bh} {nc ns : Nat} {ι : bI} {avs : List Value} {Post : bPost}
/-- what an end owes -/
theorem b_end {v : Option Value} {ws : va_W} {H : Heap} {locs : List Loc} (B : bBeg ι τ0 h0 avs Post nL b1 b2 γ) (hP : va_P γ.1.2.1 vwCl ws H) (hD : va_D (bA γ.1) ws) (hS : va_S (bA γ.1) γ.2.1.2.2.2.2.1.heap H locs) (hc : ∀ a, τ.1 a ≠ 0 → bcell γ.1 τ h ws a) (hp : Post ι avs τ0 h0 v τ h) (t : State) (ht : t.heap = H) : bQ ι τ0 h0 avs Post avs.toArray γ.2.1.2.2.2.2.1 (.returned v) t := by
  obtain ⟨e1, -⟩ := B
  subst e1
  exact ⟨⟨v, τ, h, rfl, hp, ws, by rw [ht]; exact hP, hD, hc⟩, hS.F ht⟩
theorem b_iret {z : Int} (C : bC γ y d b1 b2) (B : bBeg ι τ0 h0 avs Post nL b1 b2 γ) (hd : decode y.2.1 pc = .ok (.ireturn, 1)) (hty : y.2.2 = some .int ∨ (y.2.2 = some .boolean ∧ (z = 0 ∨ z = 1))) (h1 : nc ≤ b1) (h2 : ns ≤ b2) (hp : Post ι avs τ0 h0 (some (.int (bz z))) τ h) : bJ γ pc lo [.int (bz z)] τ h nc ns := by
  intro ws ls H locs ⟨m1, m2, m3, m4, m5⟩
  have hend := fun t ht => b_end B m1 m2 m3 m4 hp t ht
  obtain ⟨e1, e2, e3, e4, -⟩ := B
  subst e1
  have goal : W γ.2.1.1 γ.2.1.2.1 γ.2.1.2.2.1 γ.2.1.2.2.2.1 γ.2.1.2.2.2.2.1 γ.2.1.2.2.2.2.2.1 γ.2.1.2.2.2.2.2.2.1 γ.2.1.2.2.2.2.2.2.2.1 γ.2.1.2.2.2.2.2.2.2.2.1 γ.2.1.2.2.2.2.2.2.2.2.2 H locs nc ns (MQ γ.2.1.2.2.2.2.2.2.2.1 (bQ γ.1 τ0 h0 avs Post) avs.toArray γ.2.1.2.2.2.2.1 b1 b2 (bA γ.1)) (F0 γ.2.1.2.2.2.2.2.1 pc ls [.int (bz z)]) := by
    rw [← e3]
    rw [← e3] at hend
    refine W.widen h1 h2 ?_
    rcases hty with hty | ⟨hty, hz⟩
    · exact W.zret C.1.1 C.1.2.1 (C.1.2.2.1.trans hty) rfl (fun t ht _ => hend t ht) m3.2.2 hd C.2.1.2.2.1
    · refine W.zret C.1.1 C.1.2.1 (C.1.2.2.1.trans hty) ?_ (fun t ht _ => hend t ht) m3.2.2 hd C.2.1.2.2.1
      rcases hz with rfl | rfl <;> decide +kernel
  show W _ _ _ _ _ _ _ _ _ _ H locs nc ns γ.2.2.2 _
  rw [e4]
  exact goal
theorem b_vret (C : bC γ y d b1 b2) (B : bBeg ι τ0 h0 avs Post nL b1 b2 γ) (hd : decode y.2.1 pc = .ok (.return_, 1)) (hty : y.2.2 = none) (h1 : nc ≤ b1) (h2 : ns ≤ b2) (hp : Post ι avs τ0 h0 none τ h) : bJ γ pc lo [] τ h nc ns := by
  intro ws ls H locs ⟨m1, m2, m3, m4, m5⟩
  have hend := fun t ht => b_end B m1 m2 m3 m4 hp t ht
  obtain ⟨e1, e2, e3, e4, -⟩ := B
  subst e1
  show W _ _ _ _ _ _ _ _ _ _ H locs nc ns γ.2.2.2 _
  rw [e4]
  rw [← e3] at hend ⊢
  refine W.widen h1 h2 ?_
  exact W.vret C.1.1 C.1.2.1 (C.1.2.2.1.trans hty) (fun t ht _ => hend t ht) m3.2.2 hd C.2.1.2.2.1
theorem b_aret {o : Option Nat} {ty : FieldType} (C : bC γ y d b1 b2) (B : bBeg ι τ0 h0 avs Post nL b1 b2 γ) (hd : decode y.2.1 pc = .ok (.areturn, 1)) (hty : y.2.2 = some ty) (hty2 : (∃ n, ty = .object n) ∨ ∃ t, ty = .array t) (h1 : nc ≤ b1) (h2 : ns ≤ b2) (hp : Post ι avs τ0 h0 (some (va_rf o)) τ h) : bJ γ pc lo [va_rf o] τ h nc ns := by
  intro ws ls H locs ⟨m1, m2, m3, m4, m5⟩
  have hend := fun t ht => b_end B m1 m2 m3 m4 hp t ht
  obtain ⟨e1, e2, e3, e4, -⟩ := B
  subst e1
  show W _ _ _ _ _ _ _ _ _ _ H locs nc ns γ.2.2.2 _
  rw [e4]
  rw [← e3] at hend ⊢
  refine W.widen h1 h2 ?_
  exact W.aret C.1.1 C.1.2.1 (C.1.2.2.1.trans hty) hty2 (by cases o; exact Or.inl rfl; exact Or.inr ⟨_, rfl⟩) (fun t ht _ => hend t ht) m3.2.2 hd C.2.1.2.2.1
end BRET
