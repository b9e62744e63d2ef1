/-! ===== the checker: what another state's symbols stand for here (only the check behind it is proved) ===== -/
abbrev cBn : Type := List (Nat × cL) × List (Nat × cV)
noncomputable def cbV (t v : cV) (acc : cBn) : cBn := cond (Nat.beq t.1 0) (@List.rec (Nat × Int) (fun _ => cBn) acc (fun q r _ => @List.rec (Nat × Int) (fun _ => cBn) (cond (cz (q.2 - 1)) (cond (cany (fun p => Nat.beq p.1 q.1) acc.1) acc ((q.1, cpl (-t.2.2.1) v.2.2) :: acc.1, acc.2)) acc) (fun _ _ _ => acc) r) t.2.2.2) (cond (Nat.beq t.1 1) (cond (cany (fun p => Nat.beq p.1 t.2.1) acc.2) acc (acc.1, (t.2.1, v) :: acc.2)) acc)
noncomputable def cbL (ts : List cV) : List cV → cBn → cBn := @List.rec cV (fun _ => List cV → cBn → cBn) (fun _ acc => acc) (fun t _ ih vs acc => @List.rec cV (fun _ => cBn) acc (fun v r _ => ih r (cbV t v acc)) vs) ts
noncomputable def cbR (S : cZ) (l : List cRf) : cBn → cBn := @List.rec cRf (fun _ => cBn → cBn) (fun acc => acc) (fun q _ ih acc => ih (cond (Nat.beq (crb acc.2 q.1).1 1) (@Option.rec cRf (fun _ => cBn) acc (fun p => cbV (cI q.2.2.2.2) (cI p.2.2.2.2) acc) (cfi S.2.2.1.2.2.1 (crb acc.2 q.1).2.1)) acc)) l
noncomputable def cbF (S : cZ) (l : List cFt) : cBn → cBn := @List.rec cFt (fun _ => cBn → cBn) (fun acc => acc) (fun q _ ih acc => ih (cond (Nat.beq (crb acc.2 q.1).1 1) (@Option.rec cV (fun _ => cBn) acc (fun w => cbV q.2.2 w acc) (cff S.2.2.1.2.2.2 (crb acc.2 q.1).2.1 q.2.1)) acc)) l
/-- a state's references and facts -/
noncomputable def cbA (S : cZ) (A : cA) (acc : cBn) : cBn := cbR S A.2.2.1 (cbF S A.2.2.2 (cbR S A.2.2.1 acc))
/-- at a call -/
noncomputable def cB1 (c : cCn) (args : List cV) (S : cZ) : cBn := cbA S c.1.2.2.1 (cbL c.1.2.2.2 args ([], []))
noncomputable def cnum {α : Type} (l : List α) : Nat → List (Nat × α) := @List.rec α (fun _ => Nat → List (Nat × α)) (fun _ => []) (fun a _ ih i => (i, a) :: ih (i + 1)) l
/-- at an end -/
noncomputable def cB2 (c : cCn) (ks : List cL) (vs : List cV) : cFd := fun S st => cbA S c.2.1.2.2.1 (cbL c.2.1.2.2.2 st (cnum ks 0, cnum vs 0))
/-- at a place -/
noncomputable def cB3 (κ : cCt) (S : cZ) (lo st : List cV) : cBn := cbA S κ.1.2.2.1 (cbL κ.2.2.1 st (cbL κ.2.1 lo ([], [])))
noncomputable def cbK (ks' : List cL) : List cL → cBn → cBn := @List.rec cL (fun _ => List cL → cBn → cBn) (fun _ acc => acc) (fun t _ ih ks acc => @List.rec cL (fun _ => cBn) acc (fun v r _ => ih r (cbV (cI t) (cI v) acc)) ks) ks'
/-- at a place, with what is kept in mind -/
noncomputable def cB4 (κ : cCt) (R : cKp) (S : cZ) (lo st : List cV) : cBn := cbA S κ.1.2.2.1 (cbL κ.2.2.1 st (cbL κ.2.1 lo (cbL κ.2.2.2.2 R.2 (cbK κ.2.2.2.1.tail R.1.tail ([], [])))))
