/-! ===== cells of the small machine ===== -/
theorem ak_map_set {ws : va_W} {k a : Nat} {e0 e : va_E} (hk : ws[k]? = some (a, e0)) : (ws.set k (a, e)).map Prod.fst = ws.map Prod.fst := by
  apply List.ext_getElem?
  intro i
  rw [List.getElem?_map, List.getElem?_map]
  by_cases h : i = k
  · subst h
    rw [List.getElem?_set_self ((List.getElem?_eq_some_iff.mp hk).1), hk]
    rfl
  · rw [List.getElem?_set_ne (Ne.symm h)]
theorem ak_map_app {ws : va_W} {a : Nat} {e : va_E} : (ws ++ [(a, e)]).map Prod.fst = ws.map Prod.fst ++ [a] := by rw [List.map_append]; rfl
/-- the cell that a reference names -/
theorem ai_cel_some {ι : ak_I} {w : ai_W} {ws : va_W} {o : ai_V} {f : ai_C → ai_P} {outs : List ai_O} (hh : ak_h ι w.1 w.2.1 ws) (h : ai_cel w o f = some outs) : o.1 = 6 ∧ o.2 < w.1 ∧ ∃ (c : ai_C) (a : Nat) (e : va_E), f c = some outs ∧ w.2.1[w.1 - (o.2 + 1)]? = some c ∧ ws[o.2]? = some (a, e) ∧ ak_c ι (ws.map Prod.fst) c e ∧ ∀ x, ak_v ι (ws.map Prod.fst) o x → x = .ref a := by
  simp only [ai_cel, ak_if, Nat.beq_eq, Nat.ble_eq, ai_nth_eq] at h
  split at h
  · rename_i h6
    split at h
    · rename_i hlt
      have hlt : o.2 < w.1 := hlt
      have e1 : Nat.sub w.1 (Nat.succ o.2) = w.1 - (o.2 + 1) := rfl
      rw [e1] at h
      cases hc : w.2.1[w.1 - (o.2 + 1)]? with
      | none => rw [hc] at h; exact absurd h (by simp)
      | some c =>
        rw [hc] at h
        obtain ⟨⟨a, e⟩, q1, q2⟩ := hh.2.2 o.2 c hlt hc
        refine ⟨h6, hlt, c, a, e, h, rfl, q1, q2, fun x hx => ?_⟩
        obtain ⟨q, z1, z2⟩ := ak_v_cell hx h6
        rw [List.getElem?_map, q1] at z1
        cases z1
        exact z2
    · exact absurd h (by simp)
  · exact absurd h (by simp)
/-- one cell is another one -/
theorem ak_h_upd {ι : ak_I} {n k a : Nat} {h h' : ai_H} {ws : va_W} {c' : ai_C} {e0 e' : va_E} (hh : ak_h ι n h ws) (hk : k < n) (hw : ws[k]? = some (a, e0)) (hl : h'.length = n) (hn : h'[n - (k + 1)]? = some c') (ho : ∀ j, j ≠ n - (k + 1) → h'[j]? = h[j]?) (hc : ak_c ι (ws.map Prod.fst) c' e') : ak_h ι n h' (ws.set k (a, e')) := by
  refine ⟨hl, by rw [List.length_set]; exact hh.2.1, fun j c hj hc2 => ?_⟩
  rw [ak_map_set hw]
  by_cases e : j = k
  · subst e
    rw [hn] at hc2
    cases hc2
    exact ⟨(a, e'), List.getElem?_set_self ((List.getElem?_eq_some_iff.mp hw).1), hc⟩
  · rw [ho _ (by omega)] at hc2
    obtain ⟨q, q1, q2⟩ := hh.2.2 j c hj hc2
    exact ⟨q, by rw [List.getElem?_set_ne (Ne.symm e)]; exact q1, q2⟩
/-- a cell more -/
theorem ak_h_new {ι : ak_I} {n a : Nat} {h : ai_H} {ws : va_W} {c : ai_C} {e : va_E} (hh : ak_h ι n h ws) (hc : ak_c ι (ws.map Prod.fst ++ [a]) c e) : ak_h ι (n + 1) (c :: h) (ws ++ [(a, e)]) := by
  obtain ⟨h1, h2, h3⟩ := hh
  refine ⟨by simp [h1], by simp [h2], fun j c2 hj hc2 => ?_⟩
  rw [ak_map_app]
  by_cases e1 : j = n
  · subst e1
    rw [show j + 1 - (j + 1) = 0 by omega] at hc2
    cases hc2
    refine ⟨(a, e), ?_, hc⟩
    rw [List.getElem?_append_right (by omega), h2, Nat.sub_self]
    rfl
  · rw [show n + 1 - (j + 1) = (n - (j + 1)) + 1 by omega, List.getElem?_cons_succ] at hc2
    obtain ⟨q, q1, q2⟩ := h3 j c2 (by omega) hc2
    exact ⟨q, by rw [List.getElem?_append_left (by omega)]; exact q1, ak_c_mono (List.prefix_append _ _) q2⟩
/-- how a state goes on when one cell is written: locals, stack and bounds stay -/
theorem ak_M.write {ι : ak_I} {s : State} {nL : Nat} {loc : ai_L} {stk stk' : List ai_V} {n k a : Nat} {h h' : ai_H} {w2 : ai_E × Nat × Nat} {ws : va_W} {ls : Array Slot} {st st' : List Value} {H H1 : Heap} {locs locs1 : List Loc} {e0 e' : va_E} (hM : ak_M ι s nL loc stk (n, h, w2) ws ls st H locs) (hw : ws[k]? = some (a, e0)) (hP : va_P ι.2.1 vwCl (ws.set k (a, e')) H1) (hD : va_D (ak_A ι) (ws.set k (a, e'))) (hS : va_S (ak_A ι) s.heap H1 locs1) (hh : ak_h ι n h' (ws.set k (a, e'))) (hs : ak_s ι (ws.map Prod.fst) stk' st') : ak_M ι s nL loc stk' (n, h', w2) (ws.set k (a, e')) ls st' H1 locs1 :=
  ⟨hP, ⟨hD, by rw [ak_map_set hw]; exact hM.2.1.2⟩, hS, hh, by rw [ak_map_set hw]; exact hM.2.2.2.2.1, by rw [ak_map_set hw]; exact hs, hM.2.2.2.2.2.2⟩
/-- .. and when a cell comes -/
theorem ak_M.more {ι : ak_I} {s : State} {nL : Nat} {loc : ai_L} {stk stk' : List ai_V} {n a nc ns nc' ns' : Nat} {h : ai_H} {env : ai_E} {ws : va_W} {ls : Array Slot} {st st' : List Value} {H H1 : Heap} {locs locs1 : List Loc} {e : va_E} {c : ai_C} (hM : ak_M ι s nL loc stk (n, h, env, nc, ns) ws ls st H locs) (hP : va_P ι.2.1 vwCl (ws ++ [(a, e)]) H1) (hD : va_D (ak_A ι) (ws ++ [(a, e)])) (hS : va_S (ak_A ι) s.heap H1 locs1) (hc : ak_c ι (ws.map Prod.fst ++ [a]) c e) (hs : ak_s ι (ws.map Prod.fst) stk' st') : ak_M ι s nL loc ((6, n) :: stk') (n + 1, c :: h, env, nc', ns') (ws ++ [(a, e)]) ls (.ref a :: st') H1 locs1 := by
  have hp : ws.map Prod.fst <+: (ws ++ [(a, e)]).map Prod.fst := by rw [ak_map_app]; exact List.prefix_append _ _
  refine ⟨hP, ⟨hD, hM.2.1.2.trans hp⟩, hS, ak_h_new hM.2.2.2.1 hc, ak_l_mono hp hM.2.2.2.2.1, ⟨?_, ak_s_mono hp hs⟩, hM.2.2.2.2.2.2⟩
  refine Or.inr (Or.inr (Or.inr (Or.inr (Or.inr (Or.inr (Or.inl ⟨rfl, a, ?_, rfl⟩))))))
  rw [ak_map_app, List.getElem?_append_right (by rw [List.length_map, hM.2.2.2.1.2.1]; exact Nat.le_refl _), List.length_map, hM.2.2.2.1.2.1]
  simp
/-- an object, by its kind -/
theorem ak_c_obj {ι : ak_I} {ads : List Nat} {c : ai_C} {e : va_E} (h : ak_c ι ads c e) (h0 : c.1 = 0) : ∃ fs : List Value, e = .inr (c.2.1, fs) ∧ fs.length = ak_n c.2.1 ∧ ∀ j, j < ak_n c.2.1 → ak_v ι ads (ak_rd c j) (vp_V fs j) := by
  rcases h with h | ⟨h1, h2⟩
  · omega
  · have hz : ak_sz c = ak_n c.2.1 := by unfold ak_sz; rw [if_pos h0]
    rw [hz] at h2
    rcases h1 with ⟨-, fs, rfl, h4⟩ | ⟨h, -⟩ | ⟨h, -⟩ | ⟨h, -⟩ | ⟨h, -⟩ | ⟨h, -⟩ | ⟨h, -⟩
    · exact ⟨fs, rfl, h4, h2⟩
    all_goals omega
/-- an array of ints, bytes, booleans -/
theorem ak_c_ints {ι : ak_I} {ads : List Nat} {c : ai_C} {e : va_E} (h : ak_c ι ads c e) (h0 : 1 ≤ c.1 ∧ c.1 ≤ 3) : ∃ f : Nat → Int32, e = .inl (ι.2.2.1 c.1, c.2.1, .inl f) ∧ (c.1 = 2 → ∀ j, j < c.2.1 → fits .byte (.int (f j)) = true) ∧ ∀ j, j < c.2.1 → ak_v ι ads (ak_rd c j) (.int (f j)) := by
  rcases h with h | ⟨h1, h2⟩
  · omega
  · have hz : ak_sz c = c.2.1 := by unfold ak_sz; rw [if_neg (by omega)]
    rw [hz] at h2
    rcases h1 with ⟨h, -⟩ | ⟨h, f, rfl⟩ | ⟨h, f, rfl, hf⟩ | ⟨h, f, rfl⟩ | ⟨h, -⟩ | ⟨h, -⟩ | ⟨h, -⟩
    · omega
    · exact ⟨f, by rw [h], fun h => by omega, h2⟩
    · exact ⟨f, by rw [h], fun _ => hf, h2⟩
    · exact ⟨f, by rw [h], fun h => by omega, h2⟩
    all_goals omega
theorem ak_c_longs {ι : ak_I} {ads : List Nat} {c : ai_C} {e : va_E} (h : ak_c ι ads c e) (h0 : c.1 = 4) : ∃ f : Nat → Int64, e = .inl (ι.2.2.1 4, c.2.1, .inr (.inl f)) ∧ ∀ j, j < c.2.1 → ak_v ι ads (ak_rd c j) (.long (f j)) := by
  rcases h with h | ⟨h1, h2⟩
  · omega
  · have hz : ak_sz c = c.2.1 := by unfold ak_sz; rw [if_neg (by omega)]
    rw [hz] at h2
    rcases h1 with ⟨h, -⟩ | ⟨h, -⟩ | ⟨h, -⟩ | ⟨h, -⟩ | ⟨h, f, rfl⟩ | ⟨h, -⟩ | ⟨h, -⟩
    all_goals first | omega | exact ⟨f, rfl, h2⟩
theorem ak_c_refs {ι : ak_I} {ads : List Nat} {c : ai_C} {e : va_E} (h : ak_c ι ads c e) (h0 : c.1 = 5 ∨ c.1 = 6) : ∃ f : Nat → Option Nat, e = .inl (ι.2.2.1 c.1, c.2.1, .inr (.inr (.inr (.inr f)))) ∧ ∀ j, j < c.2.1 → ak_v ι ads (ak_rd c j) (va_rf (f j)) := by
  rcases h with h | ⟨h1, h2⟩
  · omega
  · have hz : ak_sz c = c.2.1 := by unfold ak_sz; rw [if_neg (by omega)]
    rw [hz] at h2
    rcases h1 with ⟨h, -⟩ | ⟨h, -⟩ | ⟨h, -⟩ | ⟨h, -⟩ | ⟨h, -⟩ | ⟨h, f, rfl⟩ | ⟨h, f, rfl⟩
    all_goals first | omega | exact ⟨f, by rw [h], h2⟩
/-! .. and made -/
theorem ak_obj_c {ι : ak_I} {ads : List Nat} {c : ai_C} {fs : List Value} (h0 : c.1 = 0) (hl : fs.length = ak_n c.2.1) (h : ∀ j, j < ak_n c.2.1 → ak_v ι ads (ak_rd c j) (vp_V fs j)) : ak_c ι ads c (.inr (c.2.1, fs)) :=
  Or.inr ⟨Or.inl ⟨h0, fs, rfl, hl⟩, by unfold ak_sz; rw [if_pos h0]; exact h⟩
theorem ak_ints_c {ι : ak_I} {ads : List Nat} {c : ai_C} {f : Nat → Int32} (h0 : 1 ≤ c.1 ∧ c.1 ≤ 3) (hf : c.1 = 2 → ∀ j, j < c.2.1 → fits .byte (.int (f j)) = true) (h : ∀ j, j < c.2.1 → ak_v ι ads (ak_rd c j) (.int (f j))) : ak_c ι ads c (.inl (ι.2.2.1 c.1, c.2.1, .inl f)) := by
  refine Or.inr ⟨?_, by unfold ak_sz; rw [if_neg (by omega)]; exact h⟩
  rcases (show c.1 = 1 ∨ c.1 = 2 ∨ c.1 = 3 by omega) with e | e | e
  · exact Or.inr (Or.inl ⟨e, f, by rw [e]⟩)
  · exact Or.inr (Or.inr (Or.inl ⟨e, f, by rw [e], hf e⟩))
  · exact Or.inr (Or.inr (Or.inr (Or.inl ⟨e, f, by rw [e]⟩)))
theorem ak_longs_c {ι : ak_I} {ads : List Nat} {c : ai_C} {f : Nat → Int64} (h0 : c.1 = 4) (h : ∀ j, j < c.2.1 → ak_v ι ads (ak_rd c j) (.long (f j))) : ak_c ι ads c (.inl (ι.2.2.1 4, c.2.1, .inr (.inl f))) :=
  Or.inr ⟨Or.inr (Or.inr (Or.inr (Or.inr (Or.inl ⟨h0, f, rfl⟩)))), by unfold ak_sz; rw [if_neg (by omega)]; exact h⟩
theorem ak_refs_c {ι : ak_I} {ads : List Nat} {c : ai_C} {f : Nat → Option Nat} (h0 : c.1 = 5 ∨ c.1 = 6) (h : ∀ j, j < c.2.1 → ak_v ι ads (ak_rd c j) (va_rf (f j))) : ak_c ι ads c (.inl (ι.2.2.1 c.1, c.2.1, .inr (.inr (.inr (.inr f))))) := by
  refine Or.inr ⟨?_, by unfold ak_sz; rw [if_neg (by omega)]; exact h⟩
  rcases h0 with e | e
  · exact Or.inr (Or.inr (Or.inr (Or.inr (Or.inr (Or.inl ⟨e, f, by rw [e]⟩)))))
  · exact Or.inr (Or.inr (Or.inr (Or.inr (Or.inr (Or.inr ⟨e, f, by rw [e]⟩)))))
/-- what is written into a cell: either nothing is to do, or the cell is changed there alone -/
theorem ai_wrh_some {ι : ak_I} {n k a : Nat} {h : ai_H} {w2 : ai_E × Nat × Nat} {ws : va_W} {o : ai_V} {c : ai_C} {e0 : va_E} {j : Nat} {v : ai_V} {g : ai_W → ai_P} {outs : List ai_O} (hh : ak_h ι n h ws) (ho : o.2 = k) (hk : k < n) (hc : h[n - (k + 1)]? = some c) (hw : ws[k]? = some (a, e0)) (hr : ai_wr c j v (g (n, h, w2)) (fun c => ai_chg o c (n, h, w2) g) = some outs) :
    ∃ (h' : ai_H) (c' : ai_C), g (n, h', w2) = some outs ∧ c'.1 = c.1 ∧ c'.2.1 = c.2.1 ∧ (∀ i, ak_rd c' i = if i = j then v else ak_rd c i) ∧ ∀ e', ak_c ι (ws.map Prod.fst) c' e' → ak_h ι n h' (ws.set k (a, e')) := by
  subst ho
  rcases ai_wr_eq c j v (g (n, h, w2)) (fun c => ai_chg o c (n, h, w2) g) with ⟨h1, h2⟩ | ⟨c', h1, h2, h3, h4⟩
  · rw [h1] at hr
    refine ⟨h, c, hr, rfl, rfl, fun i => ?_, fun e' he' => ak_h_upd hh hk hw hh.1 hc (fun _ _ => rfl) he'⟩
    by_cases e : i = j
    · rw [if_pos e, e, h2]
    · rw [if_neg e]
  · rw [h1] at hr
    have hg : ai_chg o c' (n, h, w2) g = ai_set c' none h (n - (o.2 + 1)) (fun h => g (n, h, w2)) := rfl
    have hlt : n - (o.2 + 1) < h.length := (List.getElem?_eq_some_iff.mp hc).1
    rw [hg, ai_set_eq, if_pos hlt] at hr
    refine ⟨_, c', hr, h2, h3, h4, fun e' he' => ak_h_upd hh hk hw (by rw [List.length_set]; exact hh.1) (List.getElem?_set_self hlt) (fun i hi => List.getElem?_set_ne (Ne.symm hi)) he'⟩
