/-! ===== calls ===== -/
theorem bgood {y : bY} {nL : Nat} (h : Cond.code y.1 y.2.1 nL y.2.2 ∈ bW) : GoodIn bW (bWd y nL) := by
  have g : ∀ w ∈ bW, w ∈ bW ∧ ((w.onTables && w.keeps) = true ∨ ∃ ty, w = .arrayClass ty) := fun w hw => ⟨hw, good_of_word (List.mem_filter.mp hw).2⟩
  intro w hw
  rcases List.mem_cons.mp hw with rfl | hw
  · exact g _ h
  · exact g w hw
/-- how a method is called: mode 0 to 6 -/
def bmd (mode : Nat) (own : String) (idx : Nat) (y : MethodName) (ci : Nat) : Prop :=
  (mode = 0 ∧ Cond.methodLink own idx y ∈ bW ∧ Cond.instanceMethod y ∈ bW ∧ Cond.selects y.cls y y ∈ bW ∧ ∃ q, vwCl[ci]? = some q ∧ q.1 = y.cls) ∨
  (mode = 1 ∧ (∃ host, Cond.methodLinkNest own idx y host ∈ lw_tbl) ∧ Cond.instanceMethod y ∈ bW ∧ Cond.selects y.cls y y ∈ bW ∧ ∃ q, vwCl[ci]? = some q ∧ q.1 = y.cls) ∨
  (mode = 2 ∧ Cond.methodLink own idx y ∈ bW ∧ Cond.instanceMethod y ∈ bW ∧ y.name = "<init>") ∨
  (mode = 3 ∧ (∃ host, Cond.methodLinkNest own idx y host ∈ lw_tbl) ∧ Cond.instanceMethod y ∈ bW ∧ y.name = "<init>") ∨
  ((mode = 4 ∨ mode = 5) ∧ Cond.methodLink own idx y ∈ bW ∧ Cond.static y ∈ bW) ∨
  (mode = 6 ∧ (∃ host, Cond.methodLinkNest own idx y host ∈ lw_tbl) ∧ Cond.static y ∈ bW)
/-- what the tables say of a method that is called -/
def bym (y : bY) (nL : Nat) : Prop := Cond.code y.1 y.2.1 nL y.2.2 ∈ bW ∧ Cond.initialized y.1.cls ∈ bW ∧ y.1.cls ≠ "java/lang/invoke/MethodHandle" ∧ y.1.cls ≠ "java/lang/invoke/VarHandle" ∧ nL ≤ 45 ∧ plainFor y.1 = true ∧ (y.1.name = "<init>" → y.2.2 = none)
section BCALL
variable {γ : bG} {y : bY} {d b1 b2 pc : Nat} {lo : List (Option Value)} {rest : List Value} {τ : bt} {h : bh} {nc ns : Nat}
/-- where throwing can be followed -/
def bX (γ : bG) : Prop := γ.2.1.2.1.stackTraces = false ∧ bTh γ.1 γ.2.1.2.2.2.2.1 γ.2.1.2.2.2.2.1.heap
theorem bBeg.x {ι : bI} {τ0 : bt} {h0 : bh} {avs : List Value} {Post : bPost} {nL : Nat} (B : bBeg ι τ0 h0 avs Post nL b1 b2 γ) : bX γ := by
  obtain ⟨rfl, -, -, -, h1, h2⟩ := B
  exact ⟨h1, h2⟩
/-- behind a call -/
theorem b_go {H : Heap} {locs : List Loc} {mc ms : Nat} {ls : Array Slot} {st0 : List Value} {avs : List Value} {Post : bPost} {a : Array Value} (hr : va_Run γ.2.1.1 γ.2.1.2.1 γ.2.1.2.2.1 γ.2.1.2.2.2.1 γ.2.1.2.2.2.2.1 γ.2.1.2.2.2.2.2.1 γ.2.1.2.2.2.2.2.2.1 γ.2.1.2.2.2.2.2.2.2.1 γ.2.1.2.2.2.2.2.2.2.2.1 γ.2.1.2.2.2.2.2.2.2.2.2 H locs nc ns mc ms (F0 γ.2.1.2.2.2.2.2.1 pc ls st0) rest (bQ γ.1 τ h avs Post a) (bA γ.1)) (hS : va_S (bA γ.1) γ.2.1.2.2.2.2.1.heap H locs) (hl : blo lo γ.2.2.1 ls)
    (kk : ∀ (v : Option Value) (τ' : bt) (h' : bh), Post γ.1 avs τ h v τ' h' → bJ γ (pc + 3) lo (v.toList ++ rest) τ' h' (nc + mc) (ns + ms)) : bWW γ.2.1 H locs nc ns γ.2.2.2 (F0 γ.2.1.2.2.2.2.2.1 pc ls st0) := by
  intro T hT X
  obtain ⟨v, st₀, t, T', L, h0, X', hL, e1, -, ⟨⟨v', τ', h', hv, hp, ws, q5, q6, q7⟩, hz, hk⟩, st⟩ := hr T hT X
  cases hv
  rw [h0] at hz hk
  obtain ⟨t2, a1, b1⟩ := kk v τ' h' hp ws ls T'.heap (locs ++ L) ⟨by rw [e1]; exact q5, q6,
    ⟨by rw [e1]; exact Nat.le_trans hS.1 hz, fun q z1 z2 => by rw [e1, hk q (Nat.lt_of_lt_of_le z1 hS.1) z2]; exact hS.2.1 q z1 z2, fun q hq => by
      rcases List.mem_append.mp hq with hq | hq
      · exact hS.2.2 q hq
      · exact hL q hq⟩, q7, hl⟩ T' rfl X'
  exact ⟨t2, st t2 a1, b1⟩
/-- at a call the callee's start holds -/
theorem b_pre {ws : va_W} {ls : Array Slot} {H : Heap} {locs : List Loc} (C : bC γ y d b1 b2) (X : bX γ) (hM : bM γ.1 γ.2.1.2.2.2.2.1 γ.2.2.1 lo τ h ws ls H locs) (avs : List Value) (U : State) (hU : U.heap = H) (hW : γ.2.1.2.2.2.2.1.WarmedH U.vm) : bPc γ.1 τ h avs avs.toArray U := by
  obtain ⟨m1, m2, m3, m4, m5⟩ := hM
  refine ⟨rfl, ?_, ⟨ws, by rw [hU]; exact m1, m2, m4⟩, va_K.moved hW.alike C.2.2.1.1, ?_, C.2.2.1.2.2.2.moved hW, ?_⟩
  · rw [hU]; exact Nat.le_trans C.2.2.1.2.2.1 m3.1
  · rw [hU]; exact (C.2.2.1.2.1.moved hW.alike).kept m3.2.1
  · rw [hU]; exact (X.2.moved hW).kept m3.2.1
/-- a call by a contract -/
theorem b_call {mode idx ci k nL' d0 c1 c2 : Nat} {y' : bY} {Pre : bI → List Value → bt → bh → Prop} {Post : bPost} {avs : List Value} (C : bC γ y (d + 1) b1 b2) (X : bX γ) (K : bOk y' nL' d0 c1 c2 Pre Post) (hd0 : d0 ≤ d) (hy : bym y' nL') (hmd : bmd mode y.1.cls idx y'.1 ci) (hk : (parseMethodDescriptor y'.1.desc).map (fun d => d.parameters.length) = some (if mode ≤ 3 then k - 1 else k)) (hdec : (mode ≤ 1 ∧ decode y.2.1 pc = .ok (.invokevirtual idx, 3)) ∨ (2 ≤ mode ∧ mode ≤ 3 ∧ decode y.2.1 pc = .ok (.invokespecial idx, 3)) ∨ (4 ≤ mode ∧ decode y.2.1 pc = .ok (.invokestatic idx, 3))) (hlen : avs.length = k) (hrcv : mode ≤ 3 → ∃ (a : Nat) (As : List Value), avs = .ref a :: As ∧ (mode ≤ 1 → τ.1 a = ci + 1 ∧ ci ≤ 19)) (hp : Pre γ.1 avs τ h) (hsum : (rest.map fun v => v.category).sum ≤ 8) (hc : nc + c1 ≤ b1) (hsl : ns + c2 ≤ b2) (kk : ∀ (v : Option Value) (τ' : bt) (h' : bh), Post γ.1 avs τ h v τ' h' → bJ γ (pc + 3) lo (v.toList ++ rest) τ' h' (nc + c1) (ns + c2)) : bJ γ pc lo (avs.reverse ++ rest) τ h nc ns := by
  intro ws ls H locs hM
  have pre := b_pre C X hM avs
  have hMet := K γ.2.1.2.1 X.1 d hd0 γ.1 τ h avs hp
  have hls : ls.size = γ.2.2.1 := by obtain ⟨-, lv, hl, -⟩ := hM.2.2.2.2; exact hl.1
  have hR : (bRm d c1 c2).frames + 1 ≤ γ.2.1.2.2.2.1.frames ∧ 8 + (nL' + 11) + (bRm d c1 c2).locals ≤ γ.2.1.2.2.2.1.locals := by
    have r1 := C.2.2.2.1
    have r2 := C.2.2.2.2.1
    have r3 := hy.2.2.2.2.1
    exact ⟨r1, by show 8 + (nL' + 11) + 64 * (d + 1) ≤ _; omega⟩
  have hfix : CallFix γ.2.1.1 γ.2.1.2.2.2.2.2.1 γ.2.1.2.2.2.2.2.2.2.2.2 y.2.1 γ.2.2.1 γ.2.1.2.2.2.2.1 γ.2.1.2.2.2.2.2.2.1 bW y.1.cls := ⟨C.1.1, C.1.2.1, C.1.2.2.2, C.2.1.1, C.2.1.2.1⟩
  have hf : nc + c1 ≤ γ.2.1.2.2.2.1.cells ∧ ns + c2 ≤ γ.2.1.2.2.2.1.slots := ⟨by rw [C.2.2.2.2.2.1]; exact hc, by rw [C.2.2.2.2.2.2]; exact hsl⟩
  have hW : 2 * (F0 γ.2.1.2.2.2.2.2.1 pc ls (avs.reverse ++ rest)).monitorRoom + (rest.map fun v => v.category).sum ≤ 8 := lv_room hsum
  have hn1 : ∀ j : Nat, (parseMethodDescriptor y'.1.desc).map (fun d => d.parameters.length) = some j → (y'.1.cls ≠ "java/lang/invoke/MethodHandle" ∧ y'.1.cls ≠ "java/lang/invoke/VarHandle" ∧ (parseMethodDescriptor y'.1.desc).map (fun d => d.parameters.length) = some j) := fun j h => ⟨hy.2.2.1, hy.2.2.2.1, h⟩
  have hini := C.2.1.2.1 _ hy.2.1
  refine b_go (mc := c1) (ms := c2) (avs := avs) (a := avs.toArray) ?_ hM.2.2.1 hM.2.2.2.2 kk
  rcases hmd with ⟨rfl, a1, a2, a3, q, a4, a5⟩ | ⟨rfl, ⟨host, a1⟩, a2, a3, q, a4, a5⟩ | ⟨rfl, a1, a2, a3⟩ | ⟨rfl, ⟨host, a1⟩, a2, a3⟩ | ⟨hm, a1, a2⟩ | ⟨rfl, ⟨host, a1⟩, a2⟩
  · obtain ⟨a, As, rfl, hob⟩ := hrcv (by omega)
    obtain ⟨o1, o2⟩ := hob (by omega)
    obtain ⟨v2, fs, hw, -, -⟩ := (hM.2.2.2.1 a (by omega)).obj o1 o2
    have hdg : decode y.2.1 pc = .ok (.invokevirtual idx, 3) := by rcases hdec with ⟨-, h⟩ | ⟨h, -⟩ | ⟨h, -⟩ <;> first | exact h | omega
    exact va_runV (As := As) (n := k - 1) (C := y'.1.cls) (index := idx) hfix hMet ⟨callB_of (k - 1) C.2.1.2.1 (bgood hy.1) rfl rfl rfl hini (C.2.1.2.1 _ a1) (hn1 _ (by simpa using hk)) hR, C.2.1.2.1 _ a2, C.2.1.2.1 _ a3⟩ ⟨b_blind _ _ _ _, by rw [← a5]; exact va_recv C.2.2.1.1 hM.1 a4 hw, pre⟩ rfl (by simp at hlen; omega) hls (by simp) hW hdg hf
  · obtain ⟨a, As, rfl, hob⟩ := hrcv (by omega)
    obtain ⟨o1, o2⟩ := hob (by omega)
    obtain ⟨v2, fs, hw, -, -⟩ := (hM.2.2.2.1 a (by omega)).obj o1 o2
    have hdg : decode y.2.1 pc = .ok (.invokevirtual idx, 3) := by rcases hdec with ⟨-, h⟩ | ⟨h, -⟩ | ⟨h, -⟩ <;> first | exact h | omega
    exact va_runVN (As := As) (n := k - 1) (C := y'.1.cls) (index := idx) (host := host) hfix hMet ⟨va_cnB (k - 1) C.2.1.2.1 (bgood hy.1) rfl rfl rfl (C.2.2.1.2.2.2.2.1 _ _ _ _ a1) hini (hn1 _ (by simpa using hk)) hR, C.2.1.2.1 _ a2, C.2.1.2.1 _ a3⟩ ⟨b_blind _ _ _ _, by rw [← a5]; exact va_recv C.2.2.1.1 hM.1 a4 hw, pre⟩ rfl (by simp at hlen; omega) hls (by simp) hW hdg hf
  · obtain ⟨a, As, rfl, -⟩ := hrcv (by omega)
    obtain ⟨ym, yb, yr⟩ := y'
    obtain rfl := hy.2.2.2.2.2.2 a3
    have hdg : decode y.2.1 pc = .ok (.invokespecial idx, 3) := by rcases hdec with ⟨h, -⟩ | ⟨-, -, h⟩ | ⟨h, -⟩ <;> first | exact h | omega
    exact va_runI (As := As) (n := k - 1) (index := idx) hfix hMet ⟨callB_of (k - 1) C.2.1.2.1 (bgood hy.1) rfl rfl rfl hini (C.2.1.2.1 _ a1) (hn1 _ (by simpa using hk)) hR, a3, C.2.1.2.1 _ a2⟩ ⟨b_blind _ _ _ _, pre⟩ rfl (by simp at hlen; omega) hls (by simp) hW hdg hf
  · obtain ⟨a, As, rfl, -⟩ := hrcv (by omega)
    obtain ⟨ym, yb, yr⟩ := y'
    obtain rfl := hy.2.2.2.2.2.2 a3
    have hdg : decode y.2.1 pc = .ok (.invokespecial idx, 3) := by rcases hdec with ⟨h, -⟩ | ⟨-, -, h⟩ | ⟨h, -⟩ <;> first | exact h | omega
    exact va_runIN (As := As) (n := k - 1) (index := idx) (host := host) hfix hMet ⟨va_cnB (k - 1) C.2.1.2.1 (bgood hy.1) rfl rfl rfl (C.2.2.1.2.2.2.2.1 _ _ _ _ a1) hini (hn1 _ (by simpa using hk)) hR, a3, C.2.1.2.1 _ a2⟩ ⟨b_blind _ _ _ _, pre⟩ rfl (by simp at hlen; omega) hls (by simp) hW hdg hf
  · have hdg : decode y.2.1 pc = .ok (.invokestatic idx, 3) := by rcases hdec with ⟨h, -⟩ | ⟨-, h, -⟩ | ⟨-, h⟩ <;> first | exact h | omega
    exact va_runS (As := avs) (n := k) (index := idx) hfix hMet ⟨callB_of k C.2.1.2.1 (bgood hy.1) rfl rfl rfl hini (C.2.1.2.1 _ a1) (hn1 _ (by rw [hk, if_neg (by omega)])) hR, C.2.1.2.1 _ a2⟩ ⟨b_blind _ _ _ _, pre⟩ rfl hlen hls rfl hW hdg hf
  · have hdg : decode y.2.1 pc = .ok (.invokestatic idx, 3) := by rcases hdec with ⟨h, -⟩ | ⟨-, h, -⟩ | ⟨-, h⟩ <;> first | exact h | omega
    exact va_runSN (As := avs) (n := k) (index := idx) (host := host) hfix hMet ⟨va_cnB k C.2.1.2.1 (bgood hy.1) rfl rfl rfl (C.2.2.1.2.2.2.2.1 _ _ _ _ a1) hini (hn1 _ (by rw [hk, if_neg (by omega)])) hR, C.2.1.2.1 _ a2, trivial⟩ ⟨b_blind _ _ _ _, pre⟩ rfl hlen hls rfl hW hdg hf
/-- the constructor of the topmost class -/
theorem b_obj {idx a : Nat} (C : bC γ y d b1 b2) (hlink : Cond.methodLink y.1.cls idx Lib.objectInit ∈ bW) (hin : Cond.instanceMethod Lib.objectInit ∈ bW) (hcode : Cond.code Lib.objectInit ⟨#[0xb1]⟩ 1 none ∈ bW) (hd : decode y.2.1 pc = .ok (.invokespecial idx, 3)) (hsum : (rest.map fun v => v.category).sum ≤ 8) (kk : bJ γ (pc + 3) lo rest τ h nc ns) : bJ γ pc lo (.ref a :: rest) τ h nc ns := by
  intro ws ls H locs hM
  obtain ⟨-, lv, hl, -⟩ := hM.2.2.2.2
  have hfr : 1 ≤ γ.2.1.2.2.2.1.frames := by have := C.2.2.2.1; omega
  have hlo : 2 * 0 + (rest.map fun v => v.category).sum + 12 ≤ γ.2.1.2.2.2.1.locals := by
    have r3 := C.2.2.2.2.1
    omega
  exact W.objInit C.1.1 C.1.2.1 C.2.1.1 (C.2.1.2.1 _ hlink) (C.2.1.2.1 _ hin) (C.2.1.2.1 _ hcode) rfl (hl.1.trans C.1.2.2.2.symm) rfl hd hfr hlo (kk ws ls H locs hM)
/-- a loop: what falls is a number -/
theorem b_loop {α : Type} {J : α → Prop} (Inv : α → Prop) (μ : α → Nat) (step : ∀ x, Inv x → (∀ z, Inv z → μ z < μ x → J z) → J x) : ∀ x, Inv x → J x := by
  intro x hx
  generalize hn : μ x = n
  induction n using Nat.strongRecOn generalizing x with
  | _ n ih => exact step x hx (fun z hz hlt => ih (μ z) (by omega) z hz rfl)
end BCALL
