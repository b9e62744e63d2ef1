/-! ===== unit and sum ===== -/
theorem cR10 : cfR cT0 10 = some (10, 0, 0, cSg 10) := by rfl
theorem cR2 : cfR cT0 2 = some (2, 0, 0, cSg 2) := by rfl
theorem cR8 : cfR cT0 8 = some (8, 0, 0, cSg 8) := by rfl
section OC
variable {γ : bG} {y : bY} {d b1 b2 pc : Nat} {lo : List (Option Value)} {nc ns : Nat} {Γ : List (bY × Nat)} {g : Nat → Nat} {τ : bt} {h : bh}
/-- an object that another holds -/
theorem c_obj {a k r r' kd : Nat} {S : List (Nat × cS)} (hw : cWT cT0 g τ h) (ga : g a = r) (h0 : r ≠ 0) (hc : cslt cT0 r k = (1, 0, 0, r', false)) (hr : cfR cT0 r' = some (kd, 0, 0, S)) : ∃ b, h.2 a k = some b ∧ g b = r' ∧ τ.1 b = kd ∧ τ.2 b = 0 := by
  obtain ⟨b, b1, b2, -, b4, b5, b6⟩ := m_arr hw ga h0 hc hr
  have b6 : (τ.2 b : Int) ≤ 0 := b6
  exact ⟨b, b1, b2, b4, by omega⟩
theorem c_keep {E : cEf} {g' : Nat → Nat} {τ' : bt} {h' : bh} {a kd r : Nat} (hH : cHi E g τ h g' τ' h') (ht : τ.1 a = kd) (hk : kd ≠ 0) (hg : g a = r) (hr : r ≠ 0) (hl : τ.2 a = 0) : τ'.1 a = kd ∧ g' a = r ∧ τ'.2 a = 0 := by
  obtain ⟨h1, h2, h3, -⟩ := hH a (by omega)
  refine ⟨by omega, ?_, by omega⟩
  rcases h3 with h3 | ⟨h3, -⟩ <;> omega
theorem b_oc {mid k mode r4 ci idx a d0 c1 c2' ro : Nat} {q : bY × Nat} {zs : List Int} {rest : List Value} {c : cCn} {e : cL} (C : bC γ y (d + 1) b1 b2) (X : bX γ) (hE : dk_ok y Γ (pc, .invokevirtual idx, 3, mid, k, mode, r4, ci)) (hm : mode ≤ 1) (hq : Γ[mid]? = some q) (K : cOk cT0 q.1 q.2 d0 c1 c2' c) (hd0 : d0 ≤ d) (h1 : c.1.2.2.1 = ([], [], [(0, ci + 1, ro, false, (0, []))], [])) (h2 : c.1.2.2.2 = (1, 0, (0, [])) :: lA 0 zs.length) (h3 : c.2.1.2.2.2 = [(0, 0, e)]) (hk : zs.length + 1 = k) (hw : cWT cT0 g τ h) (hkt : cKt γ.1 g) (ha : τ.1 a = ci + 1 ∧ g a = ro ∧ τ.2 a = 0) (hz : ∀ z ∈ zs, brg z) (hsum : (rest.map fun v => v.category).sum ≤ 8) (hc : nc + c1 ≤ b1) (hs : ns + c2' ≤ b2) (kk : ∀ (z : Int) (g' : Nat → Nat) (τ' : bt) (h' : bh), brg z → cWT cT0 g' τ' h' → cKt γ.1 g' → cHi c.2.2 g τ h g' τ' h' → bJ γ (pc + 3) lo (.int (bz z) :: rest) τ' h' (nc + c1) (ns + c2')) : bJ γ pc lo ((zs.map (fun z => Value.int (bz z))).reverse ++ (.ref a :: rest)) τ h nc ns := by
  have hρ : ∀ s, brg ((fun i => zs.getD i 0) s) := fun s => brg_getD hz s
  refine b_inv C X hE hm hq (K g (fun i => zs.getD i 0) (fun _ => some a)) hd0 (by rw [List.length_map]; exact hk) ha.1 ⟨hw, hkt, hρ, ?_, ?_⟩ hsum hc hs ?_
  · rw [h1]
    refine ⟨⟨hρ, fun q hq => absurd hq List.not_mem_nil⟩, fun q hq => absurd hq List.not_mem_nil, fun q hq => ?_, fun q hq => absurd hq List.not_mem_nil⟩
    obtain rfl := List.mem_singleton.mp hq
    refine Or.inr ⟨a, rfl, ha.1, Nat.succ_ne_zero _, ha.2.1, ?_⟩
    show (τ.2 a : Int) = 0 + 0
    rw [ha.2.2]
    rfl
  · rw [h2]
    exact ⟨cv_P rfl, lA_ok zs 0 hz (fun i _ => by rw [Nat.zero_add])⟩
  · rintro v τ' h' ⟨g', ρ', σ', hw', hk', hH', -, hst, hv⟩
    rw [h3] at hv
    cases v with
    | none => exact hv.elim
    | some v =>
      obtain ⟨rfl, hr⟩ := cv_int (e := e) rfl rfl hv.1
      exact kk _ g' τ' h' hr hw' hk' hH'
end OC
def ekU : List cN := [(0, .aload_n 0, 1, 0, 0, 0, 0, 0),
  (1, .getfield 26, 3, 2, 10, 0, 2142, 2),
  (4, .getfield 120, 3, 0, 9, 1, 2087, 2),
  (7, .astore_n 3, 1, 0, 0, 0, 0, 0),
  (8, .aload_n 3, 1, 0, 0, 0, 0, 0),
  (9, .iload_n 1, 1, 0, 0, 0, 0, 0),
  (10, .invokevirtual 202, 3, 0, 2, 1, 4180, 1),
  (13, .ifCond .eq 12, 3, 0, 0, 0, 0, 0),
  (16, .iload_n 2, 1, 0, 0, 0, 0, 0),
  (17, .ifCond .lt 8, 3, 0, 0, 0, 0, 0),
  (20, .iload_n 2, 1, 0, 0, 0, 0, 0),
  (21, .iconst 5, 1, 0, 0, 0, 0, 0),
  (22, .if_icmp .le 11, 3, 0, 0, 0, 0, 0),
  (33, .iload_n 2, 1, 0, 0, 0, 0, 0),
  (34, .tableswitch 88 0 4 #[34, 41, 59, 74, 81], 34, 0, 0, 0, 0, 0),
  (68, .aload_n 3, 1, 0, 0, 0, 0, 0),
  (69, .iload_n 1, 1, 0, 0, 0, 0, 0),
  (70, .iconst 0, 1, 0, 0, 0, 0, 0),
  (71, .invokevirtual 209, 3, 1, 3, 1, 4181, 1),
  (74, .ireturn, 1, 0, 0, 0, 0, 0),
  (75, .aload_n 3, 1, 0, 0, 0, 0, 0),
  (76, .iload_n 1, 1, 0, 0, 0, 0, 0),
  (77, .iconst 0, 1, 0, 0, 0, 0, 0),
  (78, .invokevirtual 209, 3, 1, 3, 1, 4181, 1),
  (81, .invokestatic 212, 3, 2, 1, 6, 6037, 1),
  (84, .ifCond .eq 7, 3, 0, 0, 0, 0, 0),
  (87, .iconst 0, 1, 0, 0, 0, 0, 0),
  (88, .goto 4, 3, 0, 0, 0, 0, 0),
  (91, .iconst 1, 1, 0, 0, 0, 0, 0),
  (92, .ireturn, 1, 0, 0, 0, 0, 0),
  (93, .aload_n 3, 1, 0, 0, 0, 0, 0),
  (94, .iload_n 1, 1, 0, 0, 0, 0, 0),
  (95, .iconst 1, 1, 0, 0, 0, 0, 0),
  (96, .invokevirtual 209, 3, 1, 3, 1, 4181, 1),
  (99, .aload_n 0, 1, 0, 0, 0, 0, 0),
  (100, .getfield 26, 3, 2, 10, 0, 2142, 2),
  (103, .getfield 149, 3, 9, 9, 1, 2110, 0),
  (106, .isub, 1, 0, 0, 0, 0, 0),
  (107, .ireturn, 1, 0, 0, 0, 0, 0),
  (108, .aload_n 3, 1, 0, 0, 0, 0, 0),
  (109, .iload_n 1, 1, 0, 0, 0, 0, 0),
  (110, .iconst 2, 1, 0, 0, 0, 0, 0),
  (111, .invokevirtual 209, 3, 1, 3, 1, 4181, 1),
  (114, .ireturn, 1, 0, 0, 0, 0, 0),
  (115, .aload_n 3, 1, 0, 0, 0, 0, 0),
  (116, .iload_n 1, 1, 0, 0, 0, 0, 0),
  (117, .iconst 3, 1, 0, 0, 0, 0, 0),
  (118, .invokevirtual 209, 3, 1, 3, 1, 4181, 1),
  (121, .ireturn, 1, 0, 0, 0, 0, 0),
  (122, .aload_n 3, 1, 0, 0, 0, 0, 0),
  (123, .iload_n 1, 1, 0, 0, 0, 0, 0),
  (124, .iconst 4, 1, 0, 0, 0, 0, 0),
  (125, .invokevirtual 209, 3, 1, 3, 1, 4181, 1),
  (128, .ireturn, 1, 0, 0, 0, 0, 0)]
def egU : List (bY × Nat) := [(ey11, 2), (ey12, 3), (ey8, 1)]
theorem eGU : dk_G egU [0, 0, 2] := dk_G_cons emp11 (dk_G_cons emp12 (dk_G_cons emp8 (dk_G_nil)))
theorem ecU : ∀ e ∈ ekU, dk_ok ey146 egU e := fun e he => dk_ck_ok eGU ((by decide +kernel : ∀ e ∈ ekU, dk_ck ey146 egU [0, 0, 2] e = true) e he)
theorem dU25 : decode ey146.2.1 25 = .ok (.new 206, 3) := by decide +kernel
theorem dU28 : decode ey146.2.1 28 = .ok (.dup, 1) := by decide +kernel
theorem dU29 : decode ey146.2.1 29 = .ok (.invokespecial 208, 3) := by decide +kernel
theorem dU32 : decode ey146.2.1 32 = .ok (.athrow, 1) := by decide +kernel
theorem dS9 : decode ey151.2.1 9 = .ok (.new 206, 3) := by decide +kernel
theorem dS12 : decode ey151.2.1 12 = .ok (.dup, 1) := by decide +kernel
theorem dS13 : decode ey151.2.1 13 = .ok (.invokespecial 208, 3) := by decide +kernel
theorem dS16 : decode ey151.2.1 16 = .ok (.athrow, 1) := by decide +kernel
theorem uX_fun (g0 : Nat → Nat) (x : Nat) (z1 z2 : Int) : bOkX ey146 4 8 1 6 (fun ι avs τ h => avs = [.ref x, .int (bz z1), .int (bz z2)] ∧ brg z1 ∧ brg z2 ∧ cWT cT0 g0 τ h ∧ cKt ι g0 ∧ τ.1 x = 11 ∧ g0 x = 11 ∧ τ.2 x = 0) (fun ι avs τ h v τ' h' => ∃ (g' : Nat → Nat) (z : Int), cWT cT0 g' τ' h' ∧ cKt ι g' ∧ cHi [] g0 τ h g' τ' h' ∧ brg z ∧ v = some (.int (bz z))) (fun ι avs τ h τ' h' => ∃ g' : Nat → Nat, cWT cT0 g' τ' h' ∧ cKt ι g' ∧ cHi [] g0 τ h g' τ' h') := by
  refine bOkX_of (by decide) ?_ ?_
  · rintro ι avs τ h ⟨rfl, -⟩
    exact Nat.le_of_ble_eq_true rfl
  · intro γ ι τ h avs d hd hp Bg C
    obtain ⟨rfl, hz1, hz2, hw, hk, tx, gx, lx⟩ := hp
    have hn : γ.2.2.1 = 4 := Bg.2.1
    obtain rfl : γ.1 = ι := Bg.1
    obtain ⟨d, rfl⟩ : ∃ d', d = d' + 1 := ⟨d - 1, by omega⟩
    have hz2l := hz2.1
    have hz2u := hz2.2
    obtain ⟨wd, q1, q2, q3, -⟩ := c_obj (k := 2) hw gx (by decide) rfl cR10
    obtain ⟨l, j1, j2, j3, j4⟩ := c_obj (k := 0) hw q2 (by decide) rfl cR2
    refine b_al0 C (dk_at ecU (i := 0) rfl).1 rfl ?_
    refine b_gR C (dk_at ecU (i := 1) rfl) tx q1 ?_
    refine b_gR C (dk_at ecU (i := 2) rfl) q3 j1 ?_
    refine b_astore_n (o := some l) C (dk_at ecU (i := 3) rfl).1 (by rw [hn]; decide) (bno2_of (fun w hw _ => by cases hw; exact (show (1 : Nat) ≠ 2 by decide))) ?_
    refine b_al0 C (dk_at ecU (i := 4) rfl).1 rfl ?_
    refine b_iload_n C (dk_at ecU (i := 5) rfl).1 rfl ?_
    refine b_oc (zs := [z1]) (rest := []) C Bg.x (dk_at ecU (i := 6) rfl) (by decide) rfl eoc54 (by omega) rfl rfl rfl rfl hw hk ⟨j3, j2, j4⟩ (fun z hz => by obtain rfl := List.mem_singleton.mp hz; exact hz1) (Nat.le_of_ble_eq_true rfl) (Nat.le_of_ble_eq_true rfl) (Nat.le_of_ble_eq_true rfl) (fun r1 g1 τ1 h1 hr1 w1 k1 H1 => ?_)
    have l1 := c_keep H1 j3 (by decide) j2 (by decide) j4
    refine b_if_eq (t := 25) C (dk_at ecU (i := 7) rfl).1 (by decide) hr1 (fun z13 => ?_) (fun z13 => ?_)
    · exact b_thr C Bg rfl dU25 dU28 dU29 dU32 (by omega) (Nat.le_of_ble_eq_true rfl) (Nat.le_of_ble_eq_true rfl) ⟨g1, w1, k1, H1⟩
    · refine b_iload_n C (dk_at ecU (i := 8) rfl).1 rfl ?_
      refine b_if_lt (t := 25) C (dk_at ecU (i := 9) rfl).1 (by decide) hz2 (fun z17 => ?_) (fun z17 => ?_)
      · exact b_thr C Bg rfl dU25 dU28 dU29 dU32 (by omega) (Nat.le_of_ble_eq_true rfl) (Nat.le_of_ble_eq_true rfl) ⟨g1, w1, k1, H1⟩
      · refine b_iload_n C (dk_at ecU (i := 10) rfl).1 rfl ?_
        refine b_iconst C (dk_at ecU (i := 11) rfl).1 ?_
        refine b_icmp_le (t := 33) C (dk_at ecU (i := 12) rfl).1 (by decide) hz2 ⟨by omega, by omega⟩ (fun z22 => ?_) (fun z22 => ?_)
        · refine b_iload_n C (dk_at ecU (i := 13) rfl).1 rfl ?_
          have hz25 : z2 = 0 ∨ z2 = 1 ∨ z2 = 2 ∨ z2 = 3 ∨ z2 = 4 ∨ z2 = 5 := by omega
          rcases hz25 with e | e | e | e | e | e
          · subst e
            refine b_tableIn (off := 34) (t := 68) C (dk_at ecU (i := 14) rfl).1 ⟨by decide, by decide⟩ ⟨by decide, by decide⟩ rfl (by decide) ?_
            refine b_al0 C (dk_at ecU (i := 15) rfl).1 rfl ?_
            refine b_iload_n C (dk_at ecU (i := 16) rfl).1 rfl ?_
            refine b_iconst C (dk_at ecU (i := 17) rfl).1 ?_
            refine b_oc (zs := [z1, 0]) (rest := []) C Bg.x (dk_at ecU (i := 18) rfl) (by decide) rfl eoc56 (by omega) rfl rfl rfl rfl w1 k1 l1 (fun z hz => by rcases List.mem_cons.mp hz with rfl | hz; exact hz1; obtain rfl := List.mem_singleton.mp hz; exact ⟨by decide, by decide⟩) (Nat.le_of_ble_eq_true rfl) (Nat.le_of_ble_eq_true rfl) (Nat.le_of_ble_eq_true rfl) (fun r2 g2 τ2 h2 hr2 w2 k2 H2 => ?_)
            refine b_any (fun u hu => ?_)
            exact b_iretX C Bg (dk_at ecU (i := 19) rfl).1 (Or.inl rfl) (Nat.le_of_ble_eq_true rfl) (Nat.le_of_ble_eq_true rfl) ⟨g2, u, w2, k2, cHi.trans (E' := []) rfl H1 H2, hu, rfl⟩
          · subst e
            refine b_tableIn (off := 41) (t := 75) C (dk_at ecU (i := 14) rfl).1 ⟨by decide, by decide⟩ ⟨by decide, by decide⟩ rfl (by decide) ?_
            refine b_al0 C (dk_at ecU (i := 20) rfl).1 rfl ?_
            refine b_iload_n C (dk_at ecU (i := 21) rfl).1 rfl ?_
            refine b_iconst C (dk_at ecU (i := 22) rfl).1 ?_
            refine b_oc (zs := [z1, 0]) (rest := []) C Bg.x (dk_at ecU (i := 23) rfl) (by decide) rfl eoc56 (by omega) rfl rfl rfl rfl w1 k1 l1 (fun z hz => by rcases List.mem_cons.mp hz with rfl | hz; exact hz1; obtain rfl := List.mem_singleton.mp hz; exact ⟨by decide, by decide⟩) (Nat.le_of_ble_eq_true rfl) (Nat.le_of_ble_eq_true rfl) (Nat.le_of_ble_eq_true rfl) (fun r2 g2 τ2 h2 hr2 w2 k2 H2 => ?_)
            refine b_ins (As := [.int (bz r2)]) (rest := []) C Bg.x (dk_at ecU (i := 24) rfl) (by decide) rfl (eoc51 g2 (fun _ => r2) (fun _ => none)) (by omega) rfl ⟨w2, k2, fun _ => hr2, ⟨⟨fun _ => hr2, fun q hq => absurd hq List.not_mem_nil⟩, fun q hq => absurd hq List.not_mem_nil, fun q hq => absurd hq List.not_mem_nil, fun q hq => absurd hq List.not_mem_nil⟩, ⟨cv_I (e := (0, [(0, 1)])) hr2 (by show 0 + (1 * r2 + 0) = r2; omega), trivial⟩⟩ (Nat.le_of_ble_eq_true rfl) (Nat.le_of_ble_eq_true rfl) (Nat.le_of_ble_eq_true rfl) ?_
            rintro v τ3 h3 ⟨g3, ρ3, σ3, w3, k3, H3, -, -, hv3⟩
            cases v with
            | none => exact (show False from hv3).elim
            | some v =>
              obtain ⟨rfl, hr3⟩ := cv_int (e := (0, [(1, 1)])) rfl rfl hv3.1
              refine b_if_eq (t := 91) C (dk_at ecU (i := 25) rfl).1 (by decide) hr3 (fun z84 => ?_) (fun z84 => ?_)
              · refine b_iconst C (dk_at ecU (i := 28) rfl).1 ?_
                refine b_any (fun u hu => ?_)
                exact b_iretX C Bg (dk_at ecU (i := 29) rfl).1 (Or.inl rfl) (Nat.le_of_ble_eq_true rfl) (Nat.le_of_ble_eq_true rfl) ⟨g3, u, w3, k3, cHi.trans (E' := []) rfl (cHi.trans (E' := []) rfl H1 H2) H3, hu, rfl⟩
              · refine b_iconst C (dk_at ecU (i := 26) rfl).1 ?_
                refine b_goto (t := 92) C (dk_at ecU (i := 27) rfl).1 (by decide) ?_
                refine b_any (fun u hu => ?_)
                exact b_iretX C Bg (dk_at ecU (i := 29) rfl).1 (Or.inl rfl) (Nat.le_of_ble_eq_true rfl) (Nat.le_of_ble_eq_true rfl) ⟨g3, u, w3, k3, cHi.trans (E' := []) rfl (cHi.trans (E' := []) rfl H1 H2) H3, hu, rfl⟩
          · subst e
            refine b_tableIn (off := 59) (t := 93) C (dk_at ecU (i := 14) rfl).1 ⟨by decide, by decide⟩ ⟨by decide, by decide⟩ rfl (by decide) ?_
            refine b_al0 C (dk_at ecU (i := 30) rfl).1 rfl ?_
            refine b_iload_n C (dk_at ecU (i := 31) rfl).1 rfl ?_
            refine b_iconst C (dk_at ecU (i := 32) rfl).1 ?_
            refine b_oc (zs := [z1, 1]) (rest := []) C Bg.x (dk_at ecU (i := 33) rfl) (by decide) rfl eoc56 (by omega) rfl rfl rfl rfl w1 k1 l1 (fun z hz => by rcases List.mem_cons.mp hz with rfl | hz; exact hz1; obtain rfl := List.mem_singleton.mp hz; exact ⟨by decide, by decide⟩) (Nat.le_of_ble_eq_true rfl) (Nat.le_of_ble_eq_true rfl) (Nat.le_of_ble_eq_true rfl) (fun r2 g2 τ2 h2 hr2 w2 k2 H2 => ?_)
            obtain ⟨tx2, gx2, -⟩ := c_keep (cHi.trans (E' := []) rfl H1 H2) tx (by decide) gx (by decide) lx
            obtain ⟨wd2, q1, q2, q3, -⟩ := c_obj (k := 2) w2 gx2 (by decide) rfl cR10
            refine b_al0 C (dk_at ecU (i := 34) rfl).1 rfl ?_
            refine b_gR C (dk_at ecU (i := 35) rfl) tx2 q1 ?_
            refine b_gI C (dk_at ecU (i := 36) rfl) q3 (fun _ => ?_)
            refine b_isub C (dk_at ecU (i := 37) rfl).1 ?_
            refine b_any (fun u hu => ?_)
            exact b_iretX C Bg (dk_at ecU (i := 38) rfl).1 (Or.inl rfl) (Nat.le_of_ble_eq_true rfl) (Nat.le_of_ble_eq_true rfl) ⟨g2, u, w2, k2, cHi.trans (E' := []) rfl H1 H2, hu, rfl⟩
          · subst e
            refine b_tableIn (off := 74) (t := 108) C (dk_at ecU (i := 14) rfl).1 ⟨by decide, by decide⟩ ⟨by decide, by decide⟩ rfl (by decide) ?_
            refine b_al0 C (dk_at ecU (i := 39) rfl).1 rfl ?_
            refine b_iload_n C (dk_at ecU (i := 40) rfl).1 rfl ?_
            refine b_iconst C (dk_at ecU (i := 41) rfl).1 ?_
            refine b_oc (zs := [z1, 2]) (rest := []) C Bg.x (dk_at ecU (i := 42) rfl) (by decide) rfl eoc56 (by omega) rfl rfl rfl rfl w1 k1 l1 (fun z hz => by rcases List.mem_cons.mp hz with rfl | hz; exact hz1; obtain rfl := List.mem_singleton.mp hz; exact ⟨by decide, by decide⟩) (Nat.le_of_ble_eq_true rfl) (Nat.le_of_ble_eq_true rfl) (Nat.le_of_ble_eq_true rfl) (fun r2 g2 τ2 h2 hr2 w2 k2 H2 => ?_)
            refine b_any (fun u hu => ?_)
            exact b_iretX C Bg (dk_at ecU (i := 43) rfl).1 (Or.inl rfl) (Nat.le_of_ble_eq_true rfl) (Nat.le_of_ble_eq_true rfl) ⟨g2, u, w2, k2, cHi.trans (E' := []) rfl H1 H2, hu, rfl⟩
          · subst e
            refine b_tableIn (off := 81) (t := 115) C (dk_at ecU (i := 14) rfl).1 ⟨by decide, by decide⟩ ⟨by decide, by decide⟩ rfl (by decide) ?_
            refine b_al0 C (dk_at ecU (i := 44) rfl).1 rfl ?_
            refine b_iload_n C (dk_at ecU (i := 45) rfl).1 rfl ?_
            refine b_iconst C (dk_at ecU (i := 46) rfl).1 ?_
            refine b_oc (zs := [z1, 3]) (rest := []) C Bg.x (dk_at ecU (i := 47) rfl) (by decide) rfl eoc56 (by omega) rfl rfl rfl rfl w1 k1 l1 (fun z hz => by rcases List.mem_cons.mp hz with rfl | hz; exact hz1; obtain rfl := List.mem_singleton.mp hz; exact ⟨by decide, by decide⟩) (Nat.le_of_ble_eq_true rfl) (Nat.le_of_ble_eq_true rfl) (Nat.le_of_ble_eq_true rfl) (fun r2 g2 τ2 h2 hr2 w2 k2 H2 => ?_)
            refine b_any (fun u hu => ?_)
            exact b_iretX C Bg (dk_at ecU (i := 48) rfl).1 (Or.inl rfl) (Nat.le_of_ble_eq_true rfl) (Nat.le_of_ble_eq_true rfl) ⟨g2, u, w2, k2, cHi.trans (E' := []) rfl H1 H2, hu, rfl⟩
          · subst e
            refine b_tableOut (t := 122) C (dk_at ecU (i := 14) rfl).1 ⟨by decide, by decide⟩ (by decide) (by decide) ?_
            refine b_al0 C (dk_at ecU (i := 49) rfl).1 rfl ?_
            refine b_iload_n C (dk_at ecU (i := 50) rfl).1 rfl ?_
            refine b_iconst C (dk_at ecU (i := 51) rfl).1 ?_
            refine b_oc (zs := [z1, 4]) (rest := []) C Bg.x (dk_at ecU (i := 52) rfl) (by decide) rfl eoc56 (by omega) rfl rfl rfl rfl w1 k1 l1 (fun z hz => by rcases List.mem_cons.mp hz with rfl | hz; exact hz1; obtain rfl := List.mem_singleton.mp hz; exact ⟨by decide, by decide⟩) (Nat.le_of_ble_eq_true rfl) (Nat.le_of_ble_eq_true rfl) (Nat.le_of_ble_eq_true rfl) (fun r2 g2 τ2 h2 hr2 w2 k2 H2 => ?_)
            refine b_any (fun u hu => ?_)
            exact b_iretX C Bg (dk_at ecU (i := 53) rfl).1 (Or.inl rfl) (Nat.le_of_ble_eq_true rfl) (Nat.le_of_ble_eq_true rfl) ⟨g2, u, w2, k2, cHi.trans (E' := []) rfl H1 H2, hu, rfl⟩
        · exact b_thr C Bg rfl dU25 dU28 dU29 dU32 (by omega) (Nat.le_of_ble_eq_true rfl) (Nat.le_of_ble_eq_true rfl) ⟨g1, w1, k1, H1⟩
def ekS : List cN := [(0, .iload_n 1, 1, 0, 0, 0, 0, 0),
  (1, .ifCond .eq 16, 3, 0, 0, 0, 0, 0),
  (4, .iload_n 1, 1, 0, 0, 0, 0, 0),
  (5, .iconst 1, 1, 0, 0, 0, 0, 0),
  (6, .if_icmp .eq 11, 3, 0, 0, 0, 0, 0),
  (17, .iload_n 1, 1, 0, 0, 0, 0, 0),
  (18, .ifCond .ne 13, 3, 0, 0, 0, 0, 0),
  (21, .aload_n 0, 1, 0, 0, 0, 0, 0),
  (22, .getfield 26, 3, 2, 10, 0, 2142, 2),
  (25, .getfield 227, 3, 8, 9, 1, 2108, 0),
  (28, .goto 13, 3, 0, 0, 0, 0, 0),
  (31, .aload_n 0, 1, 0, 0, 0, 0, 0),
  (32, .getfield 26, 3, 2, 10, 0, 2142, 2),
  (35, .getfield 161, 3, 2, 9, 1, 2091, 2),
  (38, .invokevirtual 230, 3, 0, 1, 1, 6045, 7),
  (41, .ireturn, 1, 0, 0, 0, 0, 0)]
def egS : List (bY × Nat) := [(ey79, 3)]
theorem eGS : dk_G egS [0] := dk_G_cons emp79 (dk_G_nil)
theorem ecS : ∀ e ∈ ekS, dk_ok ey151 egS e := fun e he => dk_ck_ok eGS ((by decide +kernel : ∀ e ∈ ekS, dk_ck ey151 egS [0] e = true) e he)
theorem sX_fun (g0 : Nat → Nat) (x : Nat) (z1 : Int) : bOkX ey151 2 8 1 6 (fun ι avs τ h => avs = [.ref x, .int (bz z1)] ∧ brg z1 ∧ cWT cT0 g0 τ h ∧ cKt ι g0 ∧ τ.1 x = 11 ∧ g0 x = 11 ∧ τ.2 x = 0) (fun ι avs τ h v τ' h' => ∃ (g' : Nat → Nat) (z : Int), cWT cT0 g' τ' h' ∧ cKt ι g' ∧ cHi [] g0 τ h g' τ' h' ∧ brg z ∧ v = some (.int (bz z))) (fun ι avs τ h τ' h' => ∃ g' : Nat → Nat, cWT cT0 g' τ' h' ∧ cKt ι g' ∧ cHi [] g0 τ h g' τ' h') := by
  refine bOkX_of (by decide) ?_ ?_
  · rintro ι avs τ h ⟨rfl, -⟩
    exact Nat.le_of_ble_eq_true rfl
  · intro γ ι τ h avs d hd hp Bg C
    obtain ⟨rfl, hz1, hw, hk, tx, gx, lx⟩ := hp
    have hn : γ.2.2.1 = 2 := Bg.2.1
    obtain rfl : γ.1 = ι := Bg.1
    obtain ⟨d, rfl⟩ : ∃ d', d = d' + 1 := ⟨d - 1, by omega⟩
    obtain ⟨wd, q1, q2, q3, -⟩ := c_obj (k := 2) hw gx (by decide) rfl cR10
    obtain ⟨l, j1, j2, j3, j4⟩ := c_obj (k := 2) hw q2 (by decide) rfl cR8
    refine b_iload_n C (dk_at ecS (i := 0) rfl).1 rfl ?_
    refine b_if_eq (t := 17) C (dk_at ecS (i := 1) rfl).1 (by decide) hz1 (fun z1 => ?_) (fun z1 => ?_)
    · refine b_iload_n C (dk_at ecS (i := 5) rfl).1 rfl ?_
      refine b_if_ne (t := 31) C (dk_at ecS (i := 6) rfl).1 (by decide) hz1 (fun z18 => ?_) (fun z18 => ?_)
      · refine b_al0 C (dk_at ecS (i := 11) rfl).1 rfl ?_
        refine b_gR C (dk_at ecS (i := 12) rfl) tx q1 ?_
        refine b_gR C (dk_at ecS (i := 13) rfl) q3 j1 ?_
        refine b_oc (zs := []) (rest := []) C Bg.x (dk_at ecS (i := 14) rfl) (by decide) rfl eoc90 (by omega) rfl rfl rfl rfl hw hk ⟨j3, j2, j4⟩ (fun z hz => absurd hz List.not_mem_nil) (Nat.le_of_ble_eq_true rfl) (Nat.le_of_ble_eq_true rfl) (Nat.le_of_ble_eq_true rfl) (fun r2 g2 τ2 h2 hr2 w2 k2 H2 => ?_)
        refine b_any (fun u hu => ?_)
        exact b_iretX C Bg (dk_at ecS (i := 15) rfl).1 (Or.inl rfl) (Nat.le_of_ble_eq_true rfl) (Nat.le_of_ble_eq_true rfl) ⟨g2, u, w2, k2, H2, hu, rfl⟩
      · refine b_al0 C (dk_at ecS (i := 7) rfl).1 rfl ?_
        refine b_gR C (dk_at ecS (i := 8) rfl) tx q1 ?_
        refine b_gI C (dk_at ecS (i := 9) rfl) q3 (fun _ => ?_)
        refine b_goto (t := 41) C (dk_at ecS (i := 10) rfl).1 (by decide) ?_
        refine b_any (fun u hu => ?_)
        exact b_iretX C Bg (dk_at ecS (i := 15) rfl).1 (Or.inl rfl) (Nat.le_of_ble_eq_true rfl) (Nat.le_of_ble_eq_true rfl) ⟨g0, u, hw, hk, cHi.rfl, hu, rfl⟩
    · refine b_iload_n C (dk_at ecS (i := 2) rfl).1 rfl ?_
      refine b_iconst C (dk_at ecS (i := 3) rfl).1 ?_
      refine b_icmp_eq (t := 17) C (dk_at ecS (i := 4) rfl).1 (by decide) hz1 ⟨by omega, by omega⟩ (fun z6 => ?_) (fun z6 => ?_)
      · refine b_iload_n C (dk_at ecS (i := 5) rfl).1 rfl ?_
        refine b_if_ne (t := 31) C (dk_at ecS (i := 6) rfl).1 (by decide) hz1 (fun z18 => ?_) (fun z18 => ?_)
        · refine b_al0 C (dk_at ecS (i := 11) rfl).1 rfl ?_
          refine b_gR C (dk_at ecS (i := 12) rfl) tx q1 ?_
          refine b_gR C (dk_at ecS (i := 13) rfl) q3 j1 ?_
          refine b_oc (zs := []) (rest := []) C Bg.x (dk_at ecS (i := 14) rfl) (by decide) rfl eoc90 (by omega) rfl rfl rfl rfl hw hk ⟨j3, j2, j4⟩ (fun z hz => absurd hz List.not_mem_nil) (Nat.le_of_ble_eq_true rfl) (Nat.le_of_ble_eq_true rfl) (Nat.le_of_ble_eq_true rfl) (fun r2 g2 τ2 h2 hr2 w2 k2 H2 => ?_)
          refine b_any (fun u hu => ?_)
          exact b_iretX C Bg (dk_at ecS (i := 15) rfl).1 (Or.inl rfl) (Nat.le_of_ble_eq_true rfl) (Nat.le_of_ble_eq_true rfl) ⟨g2, u, w2, k2, H2, hu, rfl⟩
        · refine b_al0 C (dk_at ecS (i := 7) rfl).1 rfl ?_
          refine b_gR C (dk_at ecS (i := 8) rfl) tx q1 ?_
          refine b_gI C (dk_at ecS (i := 9) rfl) q3 (fun _ => ?_)
          refine b_goto (t := 41) C (dk_at ecS (i := 10) rfl).1 (by decide) ?_
          refine b_any (fun u hu => ?_)
          exact b_iretX C Bg (dk_at ecS (i := 15) rfl).1 (Or.inl rfl) (Nat.le_of_ble_eq_true rfl) (Nat.le_of_ble_eq_true rfl) ⟨g0, u, hw, hk, cHi.rfl, hu, rfl⟩
      · exact b_thr C Bg rfl dS9 dS12 dS13 dS16 (by omega) (Nat.le_of_ble_eq_true rfl) (Nat.le_of_ble_eq_true rfl) ⟨g0, hw, hk, cHi.rfl⟩
def eyLU : bY := (⟨"SpanCopierLaw", "unit", "(LSpanCopier;II[J)I"⟩, method_3_code, some .int)
def ekLU : List cN := [(0, .aload_n 3, 1, 0, 0, 0, 0, 0),
  (1, .iconst 0, 1, 0, 0, 0, 0, 0),
  (2, .aload_n 0, 1, 0, 0, 0, 0, 0),
  (3, .iload_n 1, 1, 0, 0, 0, 0, 0),
  (4, .iload_n 2, 1, 0, 0, 0, 0, 0),
  (5, .invokevirtual 7, 3, 0, 3, 0, 5212, 10),
  (8, .i2l, 1, 0, 0, 0, 0, 0),
  (9, .lastore, 1, 0, 0, 0, 0, 0),
  (10, .goto 7, 3, 0, 0, 0, 0, 0),
  (13, .astore 4, 2, 0, 0, 0, 0, 0),
  (15, .iconst 1, 1, 0, 0, 0, 0, 0),
  (16, .ireturn, 1, 0, 0, 0, 0, 0),
  (17, .iconst 0, 1, 0, 0, 0, 0, 0),
  (18, .ireturn, 1, 0, 0, 0, 0, 0)]
def egLU : List (bY × Nat) := [(ey146, 4)]
theorem eGLU : dk_G egLU [0] := dk_G_cons emp146 (dk_G_nil)
theorem ecLU : ∀ e ∈ ekLU, dk_ok eyLU egLU e := fun e he => dk_ck_ok eGLU ((by decide +kernel : ∀ e ∈ ekLU, dk_ck eyLU egLU [0] e = true) e he)
theorem LU_fun (g0 : Nat → Nat) (x u : Nat) (z1 z2 : Int) : bOkW eyLU 5 [(0, 10, 13, 13)] 9 1 6 (fun ι avs τ h => avs = [.ref x, .int (bz z1), .int (bz z2), .ref u] ∧ brg z1 ∧ brg z2 ∧ cWT cT0 g0 τ h ∧ cKt ι g0 ∧ (τ.1 x = 11 ∧ g0 x = 11 ∧ τ.2 x = 0) ∧ τ.1 u = 44 ∧ τ.2 u = 1) (fun ι avs τ h v τ' h' => ∃ (g' : Nat → Nat) (z : Int), cWT cT0 g' τ' h' ∧ cKt ι g' ∧ cHi [] g0 τ h g' τ' h' ∧ brg z ∧ v = some (.int (bz z))) := by
  refine bOkW_of (by decide) ?_ ?_
  · rintro ι avs τ h ⟨rfl, -⟩
    exact Nat.le_of_ble_eq_true rfl
  · intro γ ι τ h avs d hd hp Bg htab C
    obtain ⟨rfl, hz1, hz2, hw, hk, ⟨tx, gx, lx⟩, tu, lu⟩ := hp
    have hn : γ.2.2.1 = 5 := Bg.2.1
    obtain rfl : γ.1 = ι := Bg.1
    obtain ⟨d, rfl⟩ : ∃ d', d = d' + 1 := ⟨d - 1, by omega⟩
    refine b_al0 C (dk_at ecLU (i := 0) rfl).1 rfl ?_
    refine b_iconst C (dk_at ecLU (i := 1) rfl).1 ?_
    refine b_al0 C (dk_at ecLU (i := 2) rfl).1 rfl ?_
    refine b_iload_n C (dk_at ecLU (i := 3) rfl).1 rfl ?_
    refine b_iload_n C (dk_at ecLU (i := 4) rfl).1 rfl ?_
    refine b_invX (As := [.int (bz z1), .int (bz z2)]) (rest := [.int (bz 0), .ref u]) C Bg.x htab (dk_at ecLU (i := 5) rfl) rfl (uX_fun g0 x z1 z2) (by omega) rfl tx ⟨rfl, hz1, hz2, hw, hk, tx, gx, lx⟩ (Nat.le_of_ble_eq_true rfl) (Nat.le_of_ble_eq_true rfl) (Nat.le_of_ble_eq_true rfl) ⟨by decide, by decide⟩ (by decide) (bW_of (by decide +kernel) rfl) ?_ ?_
    · rintro v τ' h' ⟨g', z, w1, k1, H1, hz, rfl⟩
      have hu : τ'.1 u = 44 := (H1 u (by omega)).1.trans tu
      have hlu : τ'.2 u = 1 := (H1 u (by omega)).2.1.trans lu
      refine b_i2l C (dk_at ecLU (i := 6) rfl).1 (fun _ => ?_)
      refine b_last C (dk_at ecLU (i := 7) rfl).1 (Or.inr hu) (by decide) (by rw [hlu]; decide) ?_
      refine b_goto (t := 17) C (dk_at ecLU (i := 8) rfl).1 (by decide) ?_
      refine b_iconst C (dk_at ecLU (i := 12) rfl).1 ?_
      exact b_iret C Bg (dk_at ecLU (i := 13) rfl).1 (Or.inl rfl) (Nat.le_refl _) (Nat.le_refl _) ⟨g', 0, w1, k1, H1, ⟨by decide, by decide⟩, rfl⟩
    · rintro e τ' h' ⟨g', w1, k1, H1⟩
      refine b_astore (o := some e) C (dk_at ecLU (i := 9) rfl).1 (by rw [hn]; decide) (bno2_of (fun w hw _ => by cases hw; exact (show (1 : Nat) ≠ 2 by decide))) ?_
      refine b_iconst C (dk_at ecLU (i := 10) rfl).1 ?_
      exact b_iret C Bg (dk_at ecLU (i := 11) rfl).1 (Or.inl rfl) (Nat.le_refl _) (Nat.le_refl _) ⟨g', 1, w1, k1, H1, ⟨by decide, by decide⟩, rfl⟩
def eyLS : bY := (⟨"SpanCopierLaw", "sum", "(LSpanCopier;I[J)I"⟩, method_4_code, some .int)
def ekLS : List cN := [(0, .aload_n 2, 1, 0, 0, 0, 0, 0),
  (1, .iconst 0, 1, 0, 0, 0, 0, 0),
  (2, .aload_n 0, 1, 0, 0, 0, 0, 0),
  (3, .iload_n 1, 1, 0, 0, 0, 0, 0),
  (4, .invokevirtual 15, 3, 0, 2, 0, 6041, 10),
  (7, .i2l, 1, 0, 0, 0, 0, 0),
  (8, .lastore, 1, 0, 0, 0, 0, 0),
  (9, .goto 6, 3, 0, 0, 0, 0, 0),
  (12, .astore_n 3, 1, 0, 0, 0, 0, 0),
  (13, .iconst 1, 1, 0, 0, 0, 0, 0),
  (14, .ireturn, 1, 0, 0, 0, 0, 0),
  (15, .iconst 0, 1, 0, 0, 0, 0, 0),
  (16, .ireturn, 1, 0, 0, 0, 0, 0)]
def egLS : List (bY × Nat) := [(ey151, 2)]
theorem eGLS : dk_G egLS [0] := dk_G_cons emp151 (dk_G_nil)
theorem ecLS : ∀ e ∈ ekLS, dk_ok eyLS egLS e := fun e he => dk_ck_ok eGLS ((by decide +kernel : ∀ e ∈ ekLS, dk_ck eyLS egLS [0] e = true) e he)
theorem LS_fun (g0 : Nat → Nat) (x u : Nat) (z1 : Int) : bOkW eyLS 4 [(0, 9, 12, 13)] 9 1 6 (fun ι avs τ h => avs = [.ref x, .int (bz z1), .ref u] ∧ brg z1 ∧ cWT cT0 g0 τ h ∧ cKt ι g0 ∧ (τ.1 x = 11 ∧ g0 x = 11 ∧ τ.2 x = 0) ∧ τ.1 u = 44 ∧ τ.2 u = 1) (fun ι avs τ h v τ' h' => ∃ (g' : Nat → Nat) (z : Int), cWT cT0 g' τ' h' ∧ cKt ι g' ∧ cHi [] g0 τ h g' τ' h' ∧ brg z ∧ v = some (.int (bz z))) := by
  refine bOkW_of (by decide) ?_ ?_
  · rintro ι avs τ h ⟨rfl, -⟩
    exact Nat.le_of_ble_eq_true rfl
  · intro γ ι τ h avs d hd hp Bg htab C
    obtain ⟨rfl, hz1, hw, hk, ⟨tx, gx, lx⟩, tu, lu⟩ := hp
    have hn : γ.2.2.1 = 4 := Bg.2.1
    obtain rfl : γ.1 = ι := Bg.1
    obtain ⟨d, rfl⟩ : ∃ d', d = d' + 1 := ⟨d - 1, by omega⟩
    refine b_al0 C (dk_at ecLS (i := 0) rfl).1 rfl ?_
    refine b_iconst C (dk_at ecLS (i := 1) rfl).1 ?_
    refine b_al0 C (dk_at ecLS (i := 2) rfl).1 rfl ?_
    refine b_iload_n C (dk_at ecLS (i := 3) rfl).1 rfl ?_
    refine b_invX (As := [.int (bz z1)]) (rest := [.int (bz 0), .ref u]) C Bg.x htab (dk_at ecLS (i := 4) rfl) rfl (sX_fun g0 x z1) (by omega) rfl tx ⟨rfl, hz1, hw, hk, tx, gx, lx⟩ (Nat.le_of_ble_eq_true rfl) (Nat.le_of_ble_eq_true rfl) (Nat.le_of_ble_eq_true rfl) ⟨by decide, by decide⟩ (by decide) (bW_of (by decide +kernel) rfl) ?_ ?_
    · rintro v τ' h' ⟨g', z, w1, k1, H1, hz, rfl⟩
      have hu : τ'.1 u = 44 := (H1 u (by omega)).1.trans tu
      have hlu : τ'.2 u = 1 := (H1 u (by omega)).2.1.trans lu
      refine b_i2l C (dk_at ecLS (i := 5) rfl).1 (fun _ => ?_)
      refine b_last C (dk_at ecLS (i := 6) rfl).1 (Or.inr hu) (by decide) (by rw [hlu]; decide) ?_
      refine b_goto (t := 15) C (dk_at ecLS (i := 7) rfl).1 (by decide) ?_
      refine b_iconst C (dk_at ecLS (i := 11) rfl).1 ?_
      exact b_iret C Bg (dk_at ecLS (i := 12) rfl).1 (Or.inl rfl) (Nat.le_refl _) (Nat.le_refl _) ⟨g', 0, w1, k1, H1, ⟨by decide, by decide⟩, rfl⟩
    · rintro e τ' h' ⟨g', w1, k1, H1⟩
      refine b_astore_n (o := some e) C (dk_at ecLS (i := 8) rfl).1 (by rw [hn]; decide) (bno2_of (fun w hw _ => by cases hw; exact (show (1 : Nat) ≠ 2 by decide))) ?_
      refine b_iconst C (dk_at ecLS (i := 9) rfl).1 ?_
      exact b_iret C Bg (dk_at ecLS (i := 10) rfl).1 (Or.inl rfl) (Nat.le_refl _) (Nat.le_refl _) ⟨g', 1, w1, k1, H1, ⟨by decide, by decide⟩, rfl⟩
