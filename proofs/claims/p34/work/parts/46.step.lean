/-! ===== the checker: an instruction ===== -/
/-- the types of a class's fields -/
def ccod (ci : Nat) : List Nat := cond (Nat.beq ci 0) [2, 2, 2, 0] (cond (Nat.beq ci 1) [2, 2, 0, 0, 0] (cond (Nat.beq ci 2) [2, 2, 2, 2, 2, 0, 0, 0, 0, 0, 0] (cond (Nat.beq ci 3) [2, 0] (cond (Nat.beq ci 4) [2, 0, 0, 0, 0, 0] (cond (Nat.beq ci 5) [2, 2, 2, 0, 0] (cond (Nat.beq ci 6) [2, 0, 0, 1, 1] (cond (Nat.beq ci 7) [2, 2, 0, 0, 1, 0, 0, 0, 0] (cond (Nat.beq ci 8) [2, 0, 0, 0, 0, 0, 0, 3, 2, 0, 0] (cond (Nat.beq ci 9) [2, 2, 2, 2, 2, 2, 2, 2, 0, 0, 0] (cond (Nat.beq ci 10) [2, 2, 2, 2, 2, 2, 2, 2, 2, 0, 0, 0] (cond (Nat.beq ci 11) [0, 2, 0, 0, 0, 0, 0, 0, 0, 0, 0, 0, 3, 0, 2, 2, 2, 2, 2, 2, 2, 2, 2, 2, 2, 0, 2, 2, 1, 0, 2, 2, 0, 1, 2, 0, 0, 0, 0] ([]))))))))))))
noncomputable def cno : cQ := fun _ _ _ => false
noncomputable def cjt (pc : Nat) (off : Int) (jm : Nat → cQ) (f : cQ → cQ) : cQ := cond (cge ((pc : Int) + off)) (f (jm ((pc : Int) + off).toNat)) cno
noncomputable def cinv (T : cTb) (E : cEf) (b1 b2 : Nat) (Ga : List (List (Nat × Nat × cCn))) (mid k mode ci : Nat) (sq : cQ) : cQ := cond (Nat.ble mode 6) (fun S lo st => cop (cnth Ga mid) (fun al => cany (fun a => cq_call cB1 E b1 b2 mode ci k a.1 a.2.1 a.2.2 sq S lo st) al)) (cond (Nat.beq mode 7) (cq_obj sq) (cond (Nat.beq mode 8) (cq_copy T E sq) (cq_ord b1 b2 sq)))
noncomputable def cfld (r5 : Nat) (a b c d : cQ) : cQ := cond (Nat.beq r5 0) a (cond (Nat.beq r5 1) b (cond (Nat.beq r5 2) c (cond (Nat.beq r5 3) d cno)))
/-- T: roles; locals, cells, slots; the contract; what is kept in mind; contracts of those that are called; the constructor's object, kind, role -/
noncomputable def cst0 (T : cTb) (nL b1 b2 : Nat) (c : cCn) (R : cKp) (Ga : List (List (Nat × Nat × cCn))) (cr : List (Nat × Nat × Nat)) (e : cN) (sq : cQ) (jm : Nat → cQ) : cQ := match e.2.1 with
  | .iconst n => cq_k n sq
  | .bipush n => cq_k n sq
  | .sipush n => cq_k n sq
  | .ldc _ => cq_k (dki e.2.2.2.1) sq
  | .ldc_w _ => cq_k (dki e.2.2.2.1) sq
  | .ldc2_w _ => cq_lg sq
  | .lconst _ => cq_lg sq
  | .aconst_null => cq_null sq
  | .iload i => cq_ldI i sq
  | .iload_n i => cq_ldI i.val sq
  | .lload i => cq_ldL i sq
  | .lload_n i => cq_ldL i.val sq
  | .aload i => cq_ldA i sq
  | .aload_n i => cq_ldA i.val sq
  | .istore i => cq_stI nL i sq
  | .istore_n i => cq_stI nL i.val sq
  | .astore i => cq_stA nL i sq
  | .astore_n i => cq_stA nL i.val sq
  | .lstore i => cq_stL nL i sq
  | .iinc i n => cq_inc nL i n sq
  | .iadd => cq_add sq
  | .isub => cq_sub sq
  | .imul => cq_mul sq
  | .iand => cq_and sq
  | .ior => cq_2 sq
  | .ixor => cq_2 sq
  | .ishl => cq_2 sq
  | .ishr => cq_2 sq
  | .iushr => cq_ushr sq
  | .irem => cq_rem sq
  | .idiv => cq_div sq
  | .i2b => cq_i2b sq
  | .i2l => cq_i2l sq
  | .ladd => cq_l2 sq
  | .lsub => cq_l2 sq
  | .lmul => cq_l2 sq
  | .lor => cq_l2 sq
  | .lshl => cq_lshl sq
  | .lcmp => cq_lcmp sq
  | .dup => cq_dup sq
  | .dup2 => cq_dup2 sq
  | .pop => cq_pop sq
  | .goto off => cjt e.1 off jm (fun t => t)
  | .if_icmp .eq off => cjt e.1 off jm (fun t => cq_icmp 0 1 t sq)
  | .if_icmp .ne off => cjt e.1 off jm (fun t => cq_icmp 1 0 t sq)
  | .if_icmp .lt off => cjt e.1 off jm (fun t => cq_icmp 2 3 t sq)
  | .if_icmp .ge off => cjt e.1 off jm (fun t => cq_icmp 3 2 t sq)
  | .if_icmp .gt off => cjt e.1 off jm (fun t => cq_icmp 4 5 t sq)
  | .if_icmp .le off => cjt e.1 off jm (fun t => cq_icmp 5 4 t sq)
  | .ifCond .eq off => cjt e.1 off jm (fun t => cq_if 0 1 t sq)
  | .ifCond .ne off => cjt e.1 off jm (fun t => cq_if 1 0 t sq)
  | .ifCond .lt off => cjt e.1 off jm (fun t => cq_if 2 3 t sq)
  | .ifCond .ge off => cjt e.1 off jm (fun t => cq_if 3 2 t sq)
  | .ifCond .gt off => cjt e.1 off jm (fun t => cq_if 4 5 t sq)
  | .ifCond .le off => cjt e.1 off jm (fun t => cq_if 5 4 t sq)
  | .if_acmp .eq off => cjt e.1 off jm (fun t => cq_acmp t sq)
  | .if_acmp .ne off => cjt e.1 off jm (fun t => cq_acmp t sq)
  | .ifnull off => cjt e.1 off jm (fun t => cq_nul t sq)
  | .ifnonnull off => cjt e.1 off jm (fun t => cq_nul sq t)
  | .tableswitch df l0 hi0 offs => cq_tsw e.1 df l0 hi0 offs.toList jm
  | .lookupswitch df ps => cq_lsw e.1 df ps.toList jm
  | .getfield _ => cfld e.2.2.2.2.2.2.2 (cq_getI T e.2.2.2.2.1 e.2.2.2.1 sq) (cq_getI T e.2.2.2.2.1 e.2.2.2.1 sq) (cq_getR T e.2.2.2.2.1 e.2.2.2.1 sq) (cq_getL e.2.2.2.2.1 sq)
  | .putfield _ => cfld e.2.2.2.2.2.2.2 (cq_putI false T c.2.2 e.2.2.2.2.1 e.2.2.2.1 sq) (cq_putI true T c.2.2 e.2.2.2.2.1 e.2.2.2.1 sq) (cq_putR T c.2.2 e.2.2.2.2.1 e.2.2.2.1 sq) (cq_putL e.2.2.2.2.1 sq)
  | .getstatic _ => cq_gets T e.2.2.2.1 sq
  | .new _ => cq_new b1 b2 e.2.2.2.1 e.2.2.2.2.1 (ccod e.2.2.2.1) sq
  | .newarray _ => cq_newa b1 b2 T e.2.2.2.1 e.2.2.2.2.1 sq
  | .anewarray _ => cq_newa b1 b2 T e.2.2.2.1 e.2.2.2.2.1 sq
  | .arraylength => cq_len sq
  | .iaload => cq_iald T sq
  | .baload => cq_ald cokB T sq
  | .laload => cq_lald sq
  | .aaload => cq_aald T sq
  | .iastore => cq_ast cokI cfls T c.2.2 sq
  | .bastore => cq_bst T c.2.2 sq
  | .lastore => cq_last sq
  | .aastore => cq_aast T c.2.2 sq
  | .invokevirtual _ => cinv T c.2.2 b1 b2 Ga e.2.2.2.1 e.2.2.2.2.1 e.2.2.2.2.2.1 e.2.2.2.2.2.2.2 sq
  | .invokespecial _ => cinv T c.2.2 b1 b2 Ga e.2.2.2.1 e.2.2.2.2.1 e.2.2.2.2.2.1 e.2.2.2.2.2.2.2 sq
  | .invokestatic _ => cinv T c.2.2 b1 b2 Ga e.2.2.2.1 e.2.2.2.2.1 e.2.2.2.2.2.1 e.2.2.2.2.2.2.2 sq
  | .ireturn => cq_iret (Nat.beq e.2.2.2.1 1) T b1 b2 (cB2 c R.1.tail R.2) c R.1.tail R.2
  | .lreturn => cq_lret T b1 b2 (cB2 c R.1.tail R.2) c R.1.tail R.2
  | .areturn => cq_aret T b1 b2 (cB2 c R.1.tail R.2) c R.1.tail R.2
  | .return_ => cq_rret b1 b2 (cB2 c R.1.tail R.2) c R.1.tail R.2 T c.2.2 cr
  | _ => cno
theorem cno_ok {Θ : cTh} {γ : bG} {pc : Nat} : cSn Θ γ pc cno := fun S lo st hq => Bool.noConfusion (show false = true from hq)
theorem cjt_ok {Θ : cTh} {γ : bG} {pc : Nat} {off : Int} {jm : Nat → cQ} {f : cQ → cQ} (h : ∀ t : Nat, (pc : Int) + off = (t : Int) → cSn Θ γ pc (f (jm t))) : cSn Θ γ pc (cjt pc off jm f) := by
  unfold cjt
  cases hc : cge ((pc : Int) + off) with
  | true =>
    have := cge_iff.mp hc
    exact h _ (by omega)
  | false => exact cno_ok
section CSTP
variable {Θ : cTh} {γ : bG} {y : bY} {d b1 b2 nL pc : Nat} {sq : cQ} {jm : Nat → cQ} {T : cTb} {c : cCn} {R : cKp} {Ga : List (List (Nat × Nat × cCn))} {Γ : List (bY × Nat)} {cr : List (Nat × Nat × Nat)} {g0 : Nat → Nat} {ρ0 : Nat → Int} {σ0 : Nat → Option Nat} {τ0 : bt} {h0 : bh} {ι : bI} {avs : List Value}
theorem cs_num {z : Int} (hz : brg z) (k : cSn Θ γ pc sq) {p2 : Nat} (row : ∀ (lo : List (Option Value)) (st : List Value) (τ : bt) (h : bh) (nc ns : Nat), bJ γ pc lo (.int (bz z) :: st) τ h nc ns → bJ γ p2 lo st τ h nc ns) : cSn Θ γ p2 (cq_k z sq) := fun S lo st hq ρ σ g τ h lo' st' hG hR => row _ _ _ _ _ _ (cs_k k hz hq hG hR)
theorem cs_lng (k : cSn Θ γ pc sq) {p2 : Nat} (row : ∀ (lo : List (Option Value)) (st : List Value) (τ : bt) (h : bh) (nc ns : Nat), (∀ v : Int64, bJ γ pc lo (.long v :: st) τ h nc ns) → bJ γ p2 lo st τ h nc ns) : cSn Θ γ p2 (cq_lg sq) := fun S lo st hq ρ σ g τ h lo' st' hG hR => row _ _ _ _ _ _ (fun v => cs_lg k hq hG hR)
/-- contracts of those that are called -/
def cCal (T : cTb) (d : Nat) (Γ : List (bY × Nat)) (Ga : List (List (Nat × Nat × cCn))) : Prop := ∀ (i : Nat) (q : bY × Nat) (al : List (Nat × Nat × cCn)), Γ[i]? = some q → Ga[i]? = some al → ∀ a ∈ al, cOk T q.1 q.2 d a.1 a.2.1 a.2.2 ∧ cwCn a.2.2 = true
theorem cs_inv {op idx mid k mode ci : Nat} {ins : Instr} (C : bC γ y (d + 1) b1 b2) (X : bX γ) (hT : Θ.1 = T) (hE : Θ.2.1 = c.2.2) (hA : cCal T d Γ Ga) (hop : (op = 0 ∧ ins = .invokevirtual idx) ∨ (op = 1 ∧ ins = .invokespecial idx) ∨ (op = 2 ∧ ins = .invokestatic idx)) (hd : decode y.2.1 pc = .ok (ins, 3)) (hcv : dk_cv y Γ op idx mid k mode ci) (ks : cSn Θ γ (pc + 3) sq) : cSn Θ γ pc (cinv T c.2.2 b1 b2 Ga mid k mode ci sq) := by
  unfold cinv
  subst hT
  rw [← hE]
  rcases hcv with ⟨h6, hci, ⟨q, hq, hy, hmd, hk⟩, hm⟩ | ⟨rfl, rfl, hl⟩ | ⟨rfl, rfl, hl⟩ | ⟨rfl, rfl, hl⟩
  · rw [show Nat.ble mode 6 = true from Nat.ble_eq.mpr h6]
    intro S lo st hq2
    obtain ⟨al, ha, hq2⟩ := cop_ok hq2
    rw [cnth_eq] at ha
    obtain ⟨a, hma, hq2⟩ := cany_iff hq2
    obtain ⟨K, hw⟩ := hA mid q al hq ha a hma
    refine cs_call C X K hw (Nat.le_refl _) hy hmd hci hk ?_ ks S lo st hq2
    rcases hm with ⟨m1, rfl⟩ | ⟨m1, m2, rfl⟩ | ⟨m1, rfl⟩
    · rcases hop with ⟨-, rfl⟩ | ⟨h, -⟩ | ⟨h, -⟩
      · exact Or.inl ⟨m1, hd⟩
      · omega
      · omega
    · rcases hop with ⟨h, -⟩ | ⟨-, rfl⟩ | ⟨h, -⟩
      · omega
      · exact Or.inr (Or.inl ⟨m1, m2, hd⟩)
      · omega
    · rcases hop with ⟨h, -⟩ | ⟨h, -⟩ | ⟨-, rfl⟩
      · omega
      · omega
      · exact Or.inr (Or.inr ⟨m1, hd⟩)
  · rcases hop with ⟨h, -⟩ | ⟨-, rfl⟩ | ⟨h, -⟩
    · omega
    · exact cs_obj C hl (bW_of (by decide +kernel) rfl) (bW_of (by decide +kernel) rfl) hd ks
    · omega
  · rcases hop with ⟨h, -⟩ | ⟨h, -⟩ | ⟨-, rfl⟩
    · omega
    · omega
    · exact cs_copy C hl hd ks
  · rcases hop with ⟨-, rfl⟩ | ⟨h, -⟩ | ⟨h, -⟩
    · exact cs_ord C X hl hd ks
    · omega
    · omega
theorem cfld_ok {r5 tc : Nat} {a b c' d' : cQ} (hr : tc = r5) (h0 : tc = 0 → cSn Θ γ pc a) (h1 : tc = 1 → cSn Θ γ pc b) (h2 : tc = 2 → cSn Θ γ pc c') (h3 : tc = 3 → cSn Θ γ pc d') : cSn Θ γ pc (cfld r5 a b c' d') := by
  subst hr
  unfold cfld
  cases e0 : Nat.beq tc 0 with
  | true => exact h0 (Nat.eq_of_beq_eq_true e0)
  | false =>
    cases e1 : Nat.beq tc 1 with
    | true => exact h1 (Nat.eq_of_beq_eq_true e1)
    | false =>
      cases e2 : Nat.beq tc 2 with
      | true => exact h2 (Nat.eq_of_beq_eq_true e2)
      | false =>
        cases e3 : Nat.beq tc 3 with
        | true => exact h3 (Nat.eq_of_beq_eq_true e3)
        | false => exact cno_ok
set_option maxHeartbeats 4000000 in
theorem cst0_ok {e : cN} (C : bC γ y (d + 1) b1 b2) (X : bX γ) (hn : γ.2.2.1 = nL) (Bg : bBeg ι τ0 h0 avs (cPst T c g0 ρ0 σ0) nL b1 b2 γ) (O : cOf T c g0 ρ0 σ0 τ0 h0 R.1.tail R.2 Θ) (hE : dk_ok y Γ e) (hA : cCal T d Γ Ga) (ks : cSn Θ γ (e.1 + e.2.2.1) sq) (kj : ∀ t, cSn Θ γ t (jm t)) : cSn Θ γ e.1 (cst0 T nL b1 b2 c R Ga cr e sq jm) := by
  obtain ⟨pc, ins, len, r1, r2, r3, r4, r5⟩ := e
  obtain ⟨hd, hlen, hl⟩ := hE
  have hT : Θ.1 = T := O.1
  have hEf : Θ.2.1 = c.2.2 := O.2.1
  dsimp only at hd hlen hl ks
  show cSn Θ γ pc _
  unfold cst0
  dsimp only
  split
  · obtain rfl : len = 1 := hlen rfl
    exact cs_num ⟨by have := hl.1; omega, by have := hl.2; omega⟩ ks fun _ _ _ _ _ _ k => b_iconst C hd k
  · obtain rfl : len = 2 := hlen rfl
    exact cs_num ⟨by have := hl.1; omega, by have := hl.2; omega⟩ ks fun _ _ _ _ _ _ k => b_bipush C hd hl k
  · obtain rfl : len = 3 := hlen rfl
    exact cs_num ⟨by have := hl.1; omega, by have := hl.2; omega⟩ ks fun _ _ _ _ _ _ k => b_sipush C hd hl k
  · obtain rfl : len = 2 := hlen rfl
    exact cs_num hl.2 ks fun _ _ _ _ _ _ k => b_ldc C hl.1 hd k
  · obtain rfl : len = 3 := hlen rfl
    exact cs_num hl.2 ks fun _ _ _ _ _ _ k => b_ldcw C hl.1 hd k
  · obtain rfl : len = 3 := hlen rfl
    obtain ⟨v, hv⟩ := hl
    exact cs_lng ks fun _ _ _ _ _ _ k => b_ldc2 C hv hd k
  · obtain rfl : len = 1 := hlen rfl
    exact cs_lng ks fun _ _ _ _ _ _ k => b_lconst C hd k
  · obtain rfl : len = 1 := hlen rfl
    exact cs_null C hd ks
  · obtain rfl : len = 2 := hlen rfl
    exact cs_iload C hd ks
  · obtain rfl : len = 1 := hlen rfl
    exact cs_iload_n C hd ks
  · obtain rfl : len = 2 := hlen rfl
    exact cs_lload C hd ks
  · obtain rfl : len = 1 := hlen rfl
    exact cs_lload_n C hd ks
  · obtain rfl : len = 2 := hlen rfl
    exact cs_aload C hd ks
  · obtain rfl : len = 1 := hlen rfl
    exact cs_aload_n C hd ks
  · obtain rfl : len = 2 := hlen rfl
    exact cs_istore C hn hd ks
  · obtain rfl : len = 1 := hlen rfl
    exact cs_istore_n C hn hd ks
  · obtain rfl : len = 2 := hlen rfl
    exact cs_astore C hn hd ks
  · obtain rfl : len = 1 := hlen rfl
    exact cs_astore_n C hn hd ks
  · obtain rfl : len = 2 := hlen rfl
    exact cs_lstore C hn hd ks
  · obtain rfl : len = 3 := hlen rfl
    exact cs_iinc C hn hd ks
  · obtain rfl : len = 1 := hlen rfl
    exact cs_iadd C hd ks
  · obtain rfl : len = 1 := hlen rfl
    exact cs_isub C hd ks
  · obtain rfl : len = 1 := hlen rfl
    exact cs_imul C hd ks
  · obtain rfl : len = 1 := hlen rfl
    exact cs_iand C hd ks
  · obtain rfl : len = 1 := hlen rfl
    exact cs_ior C hd ks
  · obtain rfl : len = 1 := hlen rfl
    exact cs_ixor C hd ks
  · obtain rfl : len = 1 := hlen rfl
    exact cs_ishl C hd ks
  · obtain rfl : len = 1 := hlen rfl
    exact cs_ishr C hd ks
  · obtain rfl : len = 1 := hlen rfl
    exact cs_iushr C hd ks
  · obtain rfl : len = 1 := hlen rfl
    exact cs_irem C hd ks
  · obtain rfl : len = 1 := hlen rfl
    exact cs_idiv C hd ks
  · obtain rfl : len = 1 := hlen rfl
    exact cs_i2b C hd ks
  · obtain rfl : len = 1 := hlen rfl
    exact cs_i2l C hd ks
  · obtain rfl : len = 1 := hlen rfl
    exact cs_ladd C hd ks
  · obtain rfl : len = 1 := hlen rfl
    exact cs_lsub C hd ks
  · obtain rfl : len = 1 := hlen rfl
    exact cs_lmul C hd ks
  · obtain rfl : len = 1 := hlen rfl
    exact cs_lor C hd ks
  · obtain rfl : len = 1 := hlen rfl
    exact cs_lshl C hd ks
  · obtain rfl : len = 1 := hlen rfl
    exact cs_lcmp C hd ks
  · obtain rfl : len = 1 := hlen rfl
    exact cs_dup C hd ks
  · obtain rfl : len = 1 := hlen rfl
    exact cs_dup2 C hd ks
  · obtain rfl : len = 1 := hlen rfl
    exact cs_pop C hd ks
  · obtain rfl : len = 3 := hlen rfl
    exact cjt_ok fun t ht => cs_goto C hd ht (kj t)
  · obtain rfl : len = 3 := hlen rfl
    exact cjt_ok fun t ht => cs_icmp_eq C hd ht (kj t) ks
  · obtain rfl : len = 3 := hlen rfl
    exact cjt_ok fun t ht => cs_icmp_ne C hd ht (kj t) ks
  · obtain rfl : len = 3 := hlen rfl
    exact cjt_ok fun t ht => cs_icmp_lt C hd ht (kj t) ks
  · obtain rfl : len = 3 := hlen rfl
    exact cjt_ok fun t ht => cs_icmp_ge C hd ht (kj t) ks
  · obtain rfl : len = 3 := hlen rfl
    exact cjt_ok fun t ht => cs_icmp_gt C hd ht (kj t) ks
  · obtain rfl : len = 3 := hlen rfl
    exact cjt_ok fun t ht => cs_icmp_le C hd ht (kj t) ks
  · obtain rfl : len = 3 := hlen rfl
    exact cjt_ok fun t ht => cs_if_eq C hd ht (kj t) ks
  · obtain rfl : len = 3 := hlen rfl
    exact cjt_ok fun t ht => cs_if_ne C hd ht (kj t) ks
  · obtain rfl : len = 3 := hlen rfl
    exact cjt_ok fun t ht => cs_if_lt C hd ht (kj t) ks
  · obtain rfl : len = 3 := hlen rfl
    exact cjt_ok fun t ht => cs_if_ge C hd ht (kj t) ks
  · obtain rfl : len = 3 := hlen rfl
    exact cjt_ok fun t ht => cs_if_gt C hd ht (kj t) ks
  · obtain rfl : len = 3 := hlen rfl
    exact cjt_ok fun t ht => cs_if_le C hd ht (kj t) ks
  · obtain rfl : len = 3 := hlen rfl
    exact cjt_ok fun t ht => cs_acmp_eq C hd ht (kj t) ks
  · obtain rfl : len = 3 := hlen rfl
    exact cjt_ok fun t ht => cs_acmp_ne C hd ht (kj t) ks
  · obtain rfl : len = 3 := hlen rfl
    exact cjt_ok fun t ht => cs_ifnull C hd ht (kj t) ks
  · obtain rfl : len = 3 := hlen rfl
    exact cjt_ok fun t ht => cs_ifnonnull C hd ht (kj t) ks
  · exact cs_tsw C hd hl kj
  · exact cs_lsw C hd hl kj
  · obtain rfl : len = 3 := hlen rfl
    obtain ⟨q, h1, h2, h3, h4, h5⟩ := hl
    subst hT
    exact cfld_ok h5 (fun z => cs_getI C h1 h2 h3 h4 hd (Or.inl z) ks) (fun z => cs_getI C h1 h2 h3 h4 hd (Or.inr z) ks) (fun z => cs_getR C h1 h2 h3 h4 hd z ks) (fun z => cs_getL C h1 h2 h3 h4 hd z ks)
  · obtain rfl : len = 3 := hlen rfl
    obtain ⟨q, ty, h1, h2, h3, h4, h5, h6, h7⟩ := hl
    subst hT
    rw [← hEf]
    exact cfld_ok h6 (fun z => cs_putI C h1 h2 h3 h4 hd h5 (Or.inl ⟨rfl, z⟩) ks) (fun z => cs_putI C h1 h2 h3 h4 hd h5 (Or.inr ⟨rfl, z⟩) ks) (fun z => cs_putR C h1 h2 h3 h4 hd h5 z (h7 (h6.symm.trans z)) ks) (fun z => cs_putL C h1 h2 h3 h4 hd h5 z ks)
  · obtain rfl : len = 3 := hlen rfl
    subst hT
    exact cs_gets C hl.1 hl.2 hd ks
  · obtain rfl : len = 3 := hlen rfl
    obtain ⟨q, h1, h2, rfl, h4⟩ := hl
    exact cs_new C h1 h2 h4 hd ks
  · obtain rfl : len = 2 := hlen rfl
    subst hT
    exact cs_newa C hl.1 hl.2.1 hl.2.2 hd ks
  · obtain rfl : len = 3 := hlen rfl
    subst hT
    obtain ⟨Cn, h1, h2⟩ := hl
    exact cs_anewa C h1 h2 hd ks
  · obtain rfl : len = 1 := hlen rfl
    exact cs_len C hd ks
  · obtain rfl : len = 1 := hlen rfl
    subst hT
    exact cs_iald C hd ks
  · obtain rfl : len = 1 := hlen rfl
    subst hT
    exact cs_bald C hd ks
  · obtain rfl : len = 1 := hlen rfl
    exact cs_lald C hd ks
  · obtain rfl : len = 1 := hlen rfl
    subst hT
    exact cs_aald C hd ks
  · obtain rfl : len = 1 := hlen rfl
    subst hT
    rw [← hEf]
    exact cs_iast C hd ks
  · obtain rfl : len = 1 := hlen rfl
    subst hT
    rw [← hEf]
    exact cs_bst C hd ks
  · obtain rfl : len = 1 := hlen rfl
    exact cs_last C hd ks
  · obtain rfl : len = 1 := hlen rfl
    subst hT
    rw [← hEf]
    exact cs_aast C hd ks
  · obtain rfl : len = 3 := hlen rfl
    exact cs_inv C X hT hEf hA (Or.inl ⟨rfl, rfl⟩) hd hl ks
  · obtain rfl : len = 3 := hlen rfl
    exact cs_inv C X hT hEf hA (Or.inr (Or.inl ⟨rfl, rfl⟩)) hd hl ks
  · obtain rfl : len = 3 := hlen rfl
    exact cs_inv C X hT hEf hA (Or.inr (Or.inr ⟨rfl, rfl⟩)) hd hl ks
  · obtain rfl : len = 1 := hlen rfl
    refine cs_iret C Bg O hd ?_
    rcases hl with ⟨rfl, h2⟩ | ⟨rfl, h2⟩
    · exact Or.inr ⟨rfl, h2⟩
    · exact Or.inl ⟨rfl, h2⟩
  · obtain rfl : len = 1 := hlen rfl
    exact cs_lret C Bg O hd hl
  · obtain rfl : len = 1 := hlen rfl
    obtain ⟨ty, h1, h2⟩ := hl
    exact cs_aret C Bg O hd h1 h2
  · obtain rfl : len = 1 := hlen rfl
    subst hT
    rw [← hEf]
    exact cs_rret C Bg O hd hl
  · exact cno_ok
/-- two cases of a local: at most n, above it -/
noncomputable def cspl (i n : Nat) (q : cQ) : cQ := fun S lo st => cop (cnth lo i) (fun v => cond (Nat.beq v.1 0) (cond (casm (cpl n (csc (-1) v.2.2)) q S lo st) (casm (cpl (-1 - n) v.2.2) q S lo st) false) false)
theorem cs_spl {i n : Nat} {q : cQ} (k : cSn Θ γ pc q) : cSn Θ γ pc (cspl i n q) := by
  intro S lo st hq ρ σ g τ h lo' st' hG hR
  obtain ⟨v, hv, hq⟩ := cop_ok hq
  rw [cnth_eq] at hv
  obtain ⟨h0, hq⟩ := c_and hq
  obtain ⟨q1, q2⟩ := c_and hq
  have h0 := Nat.eq_of_beq_eq_true h0
  obtain ⟨x, hx, hc⟩ := hR.loc hv (by omega)
  obtain ⟨e1, g1⟩ := cv_int h0 rfl (hc ρ σ (cag.rf hR.1))
  have key : ∀ ρ' σ', cag S.1 S.2.1 ρ σ ρ' σ' → cE ρ' v.2.2 = cE ρ v.2.2 := by
    intro ρ' σ' ha
    obtain ⟨e2, g2⟩ := cv_int h0 rfl (hc ρ' σ' ha)
    rw [e1] at e2
    injection e2 with e2
    exact ((bz_eq g1 g2).mp e2).symm
  by_cases hn : cE ρ v.2.2 ≤ n
  · exact cs_asm (fun S2 hq2 _ _ hR2 => k _ _ _ hq2 _ _ _ _ _ _ _ hG hR2) q1 hR (fun ρ' σ' ha => by rw [cpl_ev, csc_ev, key ρ' σ' ha]; omega)
  · exact cs_asm (fun S2 hq2 _ _ hR2 => k _ _ _ hq2 _ _ _ _ _ _ _ hG hR2) q2 hR (fun ρ' σ' ha => by rw [cpl_ev, key ρ' σ' ha]; omega)
noncomputable def cspx (cr : List (Nat × Nat × Nat)) (pc : Nat) (q : cQ) : cQ := @List.rec (Nat × Nat × Nat) (fun _ => cQ) q (fun p _ ih => cond (cond (Nat.beq p.1 pc) (Nat.ble 9000 p.2.1) false) (cspl (p.2.1 - 9000) p.2.2 ih) ih) cr
theorem cs_spx {q : cQ} (k : cSn Θ γ pc q) : ∀ cr, cSn Θ γ pc (cspx cr pc q) := by
  intro cr
  induction cr with
  | nil => exact k
  | cons p r ih =>
    show cSn Θ γ pc (cond (cond (Nat.beq p.1 pc) (Nat.ble 9000 p.2.1) false) (cspl (p.2.1 - 9000) p.2.2 (cspx r pc q)) (cspx r pc q))
    cases cond (Nat.beq p.1 pc) (Nat.ble 9000 p.2.1) false with
    | true => exact cs_spl ih
    | false => exact ih
/-- cr: cells that get a role at the end (number, kind, role), cases (place, 9000 and the local, number) -/
noncomputable def cstp (T : cTb) (nL b1 b2 : Nat) (c : cCn) (R : cKp) (Ga : List (List (Nat × Nat × cCn))) (cr : List (Nat × Nat × Nat)) (e : cN) (sq : cQ) (jm : Nat → cQ) : cQ := cspx cr e.1 (cst0 T nL b1 b2 c R Ga (cfil (fun q => Nat.blt q.2.1 9000) cr) e sq jm)
theorem cstp_ok {e : cN} (C : bC γ y (d + 1) b1 b2) (X : bX γ) (hn : γ.2.2.1 = nL) (Bg : bBeg ι τ0 h0 avs (cPst T c g0 ρ0 σ0) nL b1 b2 γ) (O : cOf T c g0 ρ0 σ0 τ0 h0 R.1.tail R.2 Θ) (hE : dk_ok y Γ e) (hA : cCal T d Γ Ga) (ks : cSn Θ γ (e.1 + e.2.2.1) sq) (kj : ∀ t, cSn Θ γ t (jm t)) : cSn Θ γ e.1 (cstp T nL b1 b2 c R Ga cr e sq jm) := cs_spx (cst0_ok C X hn Bg O hE hA ks kj) cr
end CSTP
