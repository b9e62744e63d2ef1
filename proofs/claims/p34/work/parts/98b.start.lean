/-! ===== from the law's entry to its end ===== -/
set_option maxHeartbeats 4000000 in
theorem whole_start {p : Program} {e : Env} {s : State} {m : MethodId} {below : List Frame} {meth : Method} {c : Code} (l : Launch) (hl : l.stackTraces = false) {b L : Nat} {xs : Nat → Int32} (hL : L ≤ 3072) (hnm : meth.name = "law") (hfit : heapFits s = true) (C0 : lw_At p s m meth c b L xs) : W p l e room_1 s m #[Value.ref b] below meth c s.heap [] 0 0 (lw_Z below #[Value.ref b] s) (entryFrame m ([Value.ref b] : List Value).toArray 7) := by
  obtain ⟨hx, hb, hr, hml, hown, hts, hX, hbl, hlk, hgv0⟩ := C0
  have hgv := flat_of_before _ hgv0
  have hA : ∀ a : Nat, a < s.heap.size → ¬ (fun q : Nat => s.heap.size ≤ q) a := fun a h => Nat.not_le.mpr h
  have hW : ∀ w ∈ bW, w.before #[Value.ref b] s = true := fun w hw => hts w (List.mem_filter.mp hw).1
  obtain ⟨ad, hEn⟩ := sw_enum hts hgv hA
  have hnl : b_nm.length = 38 := by decide
  obtain ⟨t0, z0, a0⟩ := sw_arr (C := "SpanCopier$Order") (n := "WITHOUT") (d := "[I") (l := [8, 1, 2, 12, 3, 1]) hts hgv hA (by decide) sw_n1.1 sw_n2.1 sw_n3.1 sw_n4.1 sw_n5
  obtain ⟨t1, z1, a1⟩ := sw_arr (C := "SpanCopier$Order") (n := "HIGHEST") (d := "[I") (l := [32, 2, 9, 60, 9, 60]) hts hgv hA (by decide) sw_n1.2.1 sw_n2.1 sw_n3.2.1 sw_n4.2.1 sw_n6
  obtain ⟨t3, z3, a3⟩ := sw_arr (C := "SpanCopier$1") (n := "$SwitchMap$SpanCopier$Word") (d := "[I") (l := b_sw) hts hgv hA (by decide) sw_n1.2.2.1 sw_n2.2.1 sw_n3.2.2.1 sw_n4.2.2.1 sw_n7
  obtain ⟨t2, e2, a2⟩ := va_Tof (f := fun _ => .int 0) (N := 0) (by decide) (hgv _ sw_n3.2.2.2.1) (va_eqv (hgv _ sw_n4.2.2.2.1) rfl) (fun j hj => absurd hj (Nat.not_lt_zero _)) hA
  have z2 := va_Zref (hts _ sw_n1.2.2.2.1) (hts _ sw_n2.2.2) e2 hA
  have hev : ∀ i, i < 38 → (Term.static "SpanCopier$Word" (b_nm.getD i "") "LSpanCopier$Word;").eval #[Value.ref b] s none [] s = some (.ref (ad i)) := by
    intro i hi
    obtain ⟨cf, kf, fi, f, a, cell, h1, h2, h3, h4, h5, h6, h7, -⟩ := (hEn.1 i (by rw [hnl]; exact hi)).1
    generalize b_nm.getD i "" = q9 at h1 ⊢
    simp [Term.eval, State.fieldNamed?, h1, h2, h4, h5, h6, h7]
  obtain ⟨t4, e4, a4⟩ := va_Tof (f := fun i => .ref (ad i)) (N := 38) (by decide) (hgv _ sw_n3.2.2.2.2) (va_eqv (hgv _ sw_n4.2.2.2.2) rfl) (fun j hj => va_eqv (hgv _ (sw_nA j hj)) (hev j hj)) hA
  have z4 := va_Zref (hts _ sw_n1.2.2.2.2) (hts _ sw_e2) e4 hA
  have hEf : va_Ef 38 "SpanCopier$Word" "code" "J" (fun i => .long (sw_codes.getD i 0)) ad (fun q : Nat => s.heap.size ≤ q) s s.heap := va_Efof (tm := fun i => .long (sw_codes.getD i 0)) hev (fun i hi => hgv _ (sw_nC i hi)) (fun i hi => rfl) hA
  obtain ⟨D, hD⟩ := sw_classes hW
  obtain ⟨c1, k1⟩ := sw_prim (hts _ sw_n8.1) (fun C h => by cases h)
  obtain ⟨c2, k2⟩ := sw_prim (hts _ sw_n8.2.1) (fun C h => by cases h)
  obtain ⟨c3, k3⟩ := sw_prim (hts _ sw_n8.2.2.1) (fun C h => by cases h)
  obtain ⟨c4, k4⟩ := sw_prim (hts _ sw_n8.2.2.2.1) (fun C h => by cases h)
  obtain ⟨c5, k5⟩ := sw_refA (hts _ sw_n8.2.2.2.2.1)
  obtain ⟨c6, k6⟩ := sw_refA (hts _ sw_n8.2.2.2.2.2)
  obtain ⟨ι, hι⟩ : ∃ ι : bI, ι = (s.heap.size, D, sw_cA c1 c2 c3 c4 c5 c6, sw_ad ad t0 t1 t2 t3 t4) := ⟨_, rfl⟩
  have adi : ∀ i, i < 38 → ι.2.2.2 i = ad i := fun i hi => by rw [hι]; exact if_pos hi
  have ad40 : ι.2.2.2 40 = t0 := by rw [hι]; rfl
  have ad41 : ι.2.2.2 41 = t1 := by rw [hι]; rfl
  have ad42 : ι.2.2.2 42 = t2 := by rw [hι]; rfl
  have ad43 : ι.2.2.2 43 = t3 := by rw [hι]; rfl
  have ad44 : ι.2.2.2 44 = t4 := by rw [hι]; rfl
  have hi1 : ι.1 = s.heap.size := by rw [hι]
  have eA : bA ι = fun q : Nat => s.heap.size ≤ q := by rw [hι]
  have hDj : swD ι.2.2.2 := by
    refine ⟨fun i hi j hj e => ?_, fun i hi => ?_, ?_, ?_, ?_, ?_, ?_, ?_⟩
    · rw [adi i hi, adi j hj] at e
      exact hEn.2 i j (by rw [hnl]; exact hi) (by rw [hnl]; exact hj) e
    · rw [adi i hi, ad40, ad41, ad42, ad43]
      exact ⟨sw_obj hfit (hEf i hi) a0 (Or.inl rfl), sw_obj hfit (hEf i hi) a1 (Or.inl rfl), sw_obj hfit (hEf i hi) a2 (Or.inr rfl), sw_obj hfit (hEf i hi) a3 (Or.inl rfl)⟩
    · rw [ad40, ad41]; exact sw_elem a0 a1 (by decide) (by decide) (by decide +kernel)
    · rw [ad40, ad42]; exact sw_size a0 a2 (by decide)
    · rw [ad40, ad43]; exact sw_size a0 a3 (by decide)
    · rw [ad41, ad42]; exact sw_size a1 a2 (by decide)
    · rw [ad41, ad43]; exact sw_size a1 a3 (by decide)
    · rw [ad42, ad43]; exact sw_size a2 a3 (by decide)
  have hK : va_K ι.2.1 vwCl (bT ι) s := by
    subst hι
    refine ⟨hD, fun k q hq => ?_⟩
    match k, hq with
    | 0, hq => cases hq; exact k1
    | 1, hq => cases hq; exact k2
    | 2, hq => cases hq; exact k3
    | 3, hq => cases hq; exact k4
    | 4, hq => cases hq; exact k5
    | 5, hq => cases hq; exact k6
    | k + 6, hq => simp [bT] at hq
  have hS : bS ι s s.heap := by
    refine ⟨⟨fun i hi => ?_, fun i j hi hj he => ?_⟩, fun j l hjl => ?_, ?_⟩
    · have hi' : i < 38 := by rw [hnl] at hi; exact hi
      rw [adi i hi', eA]
      exact hEn.1 i hi
    · have hi' : i < 38 := by rw [hnl] at hi; exact hi
      have hj' : j < 38 := by rw [hnl] at hj; exact hj
      rw [adi i hi', adi j hj'] at he
      exact hEn.2 i j hi hj he
    · unfold bsar at hjl
      rw [eA]
      split at hjl
      · rename_i h0; subst h0; cases hjl; rw [ad40]; exact ⟨z0, a0⟩
      · split at hjl
        · rename_i h0; subst h0; cases hjl; rw [ad41]; exact ⟨z1, a1⟩
        · split at hjl
          · rename_i h0; subst h0; cases hjl; rw [ad43]; exact ⟨z3, a3⟩
          · cases hjl
    · rw [ad42, eA]
      exact ⟨z2, a2⟩
  have hN : bNw s := ⟨fun a i b' n d h hm => va_Nw.of rfl (hts _ hm), fun a i x h hm => va_Nw.of rfl (hts _ hm), va_AO.of (hts _ sw_n8.2.2.2.2.1), va_AO.of (hts _ sw_n8.2.2.2.2.2)⟩
  have hTh : bTh ι s s.heap := by
    refine ⟨?_, ?_, ⟨va_Nw.of rfl (hts _ sw_n10.1), va_Nw.of rfl (hts _ sw_n10.2.1), va_Nw.of rfl (hts _ sw_n10.2.2.1), va_Nw.of rfl (hts _ sw_n10.2.2.2)⟩, ?_, ?_, fun i => sw_codes.getD i 0, ?_⟩
    · rw [eA]; exact vx_Zqof (hts _ sw_n9.1) (hts _ sw_n9.2.2.1) (hgv _ sw_n9.2.2.2.1) hA
    · rw [eA]; exact vx_Zqof (hts _ sw_n9.2.1) (hts _ sw_n9.2.2.1) (hgv _ sw_n9.2.2.2.2) hA
    · rw [ad44, eA]; exact z4
    · rw [ad44, eA]
      obtain ⟨cell, g1, g2, g3, g4, g5, g6, g7⟩ := a4
      exact ⟨cell, g1, g2, g3, g4, g5, fun j hj => by show _ = some (Value.ref (ι.2.2.2 j)); rw [adi j hj]; exact g6 j hj, g7⟩
    · intro i hi
      rw [adi i hi, eA]
      exact hEf i hi
  have hlv := lv_entry ([.ref b]) (n := 7) (Nat.le_of_ble_eq_true rfl)
  rw [lg_entry_eq]
  generalize (lg_sl ([.ref b]) ++ List.replicate (7 - (lg_sl ([.ref b])).length) Slot.unset).toArray = ls at hlv ⊢
  have hlv : lv_has ls 7 [(0, .ref b)] := hlv
  have hnA : ¬ bA ι b := by rw [eA]; exact hA b hbl
  have C : bC (ι, (p, l, e, room_1, s, m, #[Value.ref b], below, meth, c), 7, lw_Z below #[Value.ref b] s) eyL (79 + 1) 601024 7293034 :=
    ⟨⟨hx, hb, hr, hml⟩, ⟨hown, hW, hlk, hnm⟩, ⟨hK, hS, Nat.le_of_eq hi1, hN⟩, by show 79 + 1 + 1 ≤ 2048; decide, by show 64 * (79 + 1 + 1) ≤ 84000; decide, rfl, rfl⟩
  refine lw_all (g0 := swg ι.2.2.2) (τ0 := swt ι.2.2.2) (h0 := swh ι.2.2.2) (b := b) (L := L) (xs := fun j => (xs j).toInt) C ⟨hl, hTh⟩ rfl ?_ ?_ (fun j => brg_of _) hL ?_ (by decide) (by decide) (sw_wt _) (sw_52 _) (sw_kt hDj) [] ls s.heap [] ⟨(fun k q h => by cases h), ⟨(fun i j p q h => by cases h), (fun k q h => by cases h)⟩, va_S.rf, fun a ha => sw_cell hDj a ha, ⟨Nat.le_refl _, [(0, .ref b)], hlv, fun i v hi => ?_⟩⟩
  · intro pc lo st τ h nc ns z j hd hz hj k ws ls H locs hM
    subst hz
    obtain ⟨v1, v2⟩ := b_vin (j := (j : Int)) (n := L) (by omega) (by omega) (by omega)
    refine va_sld hx hb hX hbl hnA hM.2.2.1 v1 hd ?_
    rw [v2, show ((j : Int)).toNat = j by omega, bz_of (xs j)]
    exact k ws ls H locs hM
  · intro pc lo st τ h nc ns hd k ws ls H locs hM
    refine va_slen hx hb hX hbl hnA hM.2.2.1 hd ?_
    exact k ws ls H locs hM
  · intro lo τ h nc ns r1 r2 ws ls H locs hM
    refine va_forget (fun q hq => by have := hM.2.2.1.2.2 q hq; rw [eA] at this; exact this) ?_
    refine W.widen r1 r2 ?_
    exact lw_ret hx hb hr hlk (pc := 1079) (by decide +kernel)
  · match i, hi with
    | 0, hi => cases hi; exact List.mem_singleton.mpr rfl
    | 1, hi => cases hi
    | 2, hi => cases hi
    | 3, hi => cases hi
    | 4, hi => cases hi
    | 5, hi => cases hi
    | 6, hi => cases hi
    | i + 7, hi => simp at hi
