/-! more calls -/
def putSeen (s : Wt) (T : Tb) : Wt := ((wz s, T, (wn s).2.2), s.2)
def putPlan (s : Wt) (T : Tb) : Wt := ((wz s, (wn s).2.1, T, (wn s).2.2.2), s.2)
def putBook (s : Wt) (T : Tb) : Wt := ((wz s, (wn s).2.1, (wn s).2.2.1, T), s.2)
def putTr (s : Wt) (t : List Nat) : Wt := (s.1, s.2.1, s.2.2.1, s.2.2.2.1, t, s.2.2.2.2.2)
def a_see (s : Wt) (c n w : Int) : Int × Wt := if c = -1 then (0, putSeen s []) else if ¬ inN c 11 then (-1, s) else if ¬ (inN n 20 ∧ inN w 63) then (-2, s) else if (wn s).2.1.length = 5 then (-4, s) else (((wn s).2.1.length : Int) + 1, putSeen s ((wn s).2.1 ++ [(c, n, w)]))
def a_wrong (s : Wt) : Int := falseN (wn s).2.1 (wz s)
abbrev planOK (s : Wt) (w n : Int) : Prop := w = 0 ∨ ((w = 1 ∨ w = 2) ∧ inN n 11) ∨ (w = 3 ∧ inP s n)
def a_plan (s : Wt) (w n : Int) : Int × Wt := if w = -1 then (0, putPlan s []) else if ¬ planOK s w n then (-1, s) else if (wn s).2.2.1.length = 10 then (-4, s) else (((wn s).2.2.1.length : Int) + 1, putPlan s ((wn s).2.2.1 ++ [(w, n, 0)]))
def a_ends (s : Wt) (w : Int) : Int := if ¬ inN w 1 then -1 else if w = 0 then (pursesN (planZ (wz s) (wn s).2.2.1 (wn s).2.2.1.length) : Int) else (cntF 12 (fun t => decide (seersN (planZ (wz s) (wn s).2.2.1 (wn s).2.2.1.length) t = 0)) : Int)
def a_book (s : Wt) (p n : Int) : Int × Wt := if p = -1 then (0, putBook s []) else if ¬ inP s p then (-1, s) else if ¬ inN n 9999 then (-2, s) else if (wn s).2.2.2.length = 8 then (-4, s) else (((wn s).2.2.2.length : Int) + 1, putBook s ((wn s).2.2.2 ++ [(p, n, 0)]))
def a_act (s : Wt) (p a x : Int) : Int × Wt := if inP s p ∧ inN a 2 then (actV p.toNat (zP (wz s) p.toNat 1) (zP (wz s) p.toNat 0) a.toNat x, putTr s (actT (zP (wz s) p.toNat 0) a.toNat)) else (0, putTr s [])
def a_trace (s : Wt) (i : Int) : Int := if 0 ≤ i ∧ i < ((wr s).length : Int) then ((wr s).getD i.toNat 0 : Int) else -1
def a_taken (s : Wt) (p k : Int) : Int := if ¬ inN k 6 then -2 else if ¬ inP s p then -11 else if isK (zP (wz s) p.toNat 0) k then (zP (wz s) p.toNat 0 : Int) else -12
/-- a table of now changes -/
theorem RepW.seen {S : Sg} {M M' : Mm} {s : Wt} (h : RepW S M s) (hO : okW s) {T : Tb} (hf : tfr 19 M M') (hT : RepT M' 19 5 T) : RepW S M' (putSeen s T) ∧ mfr S S M M' := by
  obtain ⟨-, -, ⟨-, t1, t2, t3⟩, -, -, -, a7, a8, -⟩ := id h
  exact h.low hO (fun k a b c => hf k (by omega) (by omega)) ⟨rfl, rfl, rfl, rfl⟩ hT (t2.far (hf _ (by omega) (by omega)) (hf _ (by omega) (by omega))) (t3.far (hf _ (by omega) (by omega)) (hf _ (by omega) (by omega))) (a7.cong (by rw [hf 9 (by omega) (by omega)]) (hf 10 (by omega) (by omega))) (fun i hi => (a8 i hi).cong (hf _ (by omega) (by omega)) (hf _ (by omega) (by omega)))
theorem RepW.plan {S : Sg} {M M' : Mm} {s : Wt} (h : RepW S M s) (hO : okW s) {T : Tb} (hf : tfr 21 M M') (hT : RepT M' 21 10 T) : RepW S M' (putPlan s T) ∧ mfr S S M M' := by
  obtain ⟨-, -, ⟨-, t1, t2, t3⟩, -, -, -, a7, a8, -⟩ := id h
  exact h.low hO (fun k a b c => hf k (by omega) (by omega)) ⟨rfl, rfl, rfl, rfl⟩ (t1.far (hf _ (by omega) (by omega)) (hf _ (by omega) (by omega))) hT (t3.far (hf _ (by omega) (by omega)) (hf _ (by omega) (by omega))) (a7.cong (by rw [hf 9 (by omega) (by omega)]) (hf 10 (by omega) (by omega))) (fun i hi => (a8 i hi).cong (hf _ (by omega) (by omega)) (hf _ (by omega) (by omega)))
theorem RepW.book {S : Sg} {M M' : Mm} {s : Wt} (h : RepW S M s) (hO : okW s) {T : Tb} (hf : tfr 23 M M') (hT : RepT M' 23 8 T) : RepW S M' (putBook s T) ∧ mfr S S M M' := by
  obtain ⟨-, -, ⟨-, t1, t2, t3⟩, -, -, -, a7, a8, -⟩ := id h
  exact h.low hO (fun k a b c => hf k (by omega) (by omega)) ⟨rfl, rfl, rfl, rfl⟩ (t1.far (hf _ (by omega) (by omega)) (hf _ (by omega) (by omega))) (t2.far (hf _ (by omega) (by omega)) (hf _ (by omega) (by omega))) hT (a7.cong (by rw [hf 9 (by omega) (by omega)]) (hf 10 (by omega) (by omega))) (fun i hi => (a8 i hi).cong (hf _ (by omega) (by omega)) (hf _ (by omega) (by omega)))
theorem RepW.trc {S : Sg} {M M' : Mm} {s : Wt} (h : RepW S M s) (hO : okW s) {t : List Nat} (hf : afr M M') (hT : trR M' t) : RepW S M' (putTr s t) ∧ mfr S S M M' := by
  obtain ⟨-, -, ⟨-, t1, t2, t3⟩, -, -, -, a7, a8, -⟩ := id h
  exact h.low hO (fun k a b c => hf k (by omega) (by omega)) ⟨rfl, rfl, rfl, rfl⟩ (t1.far (hf _ (by omega) (by omega)) (hf _ (by omega) (by omega))) (t2.far (hf _ (by omega) (by omega)) (hf _ (by omega) (by omega))) (t3.far (hf _ (by omega) (by omega)) (hf _ (by omega) (by omega))) hT (fun i hi => (a8 i hi).cong (hf _ (by omega) (by omega)) (hf _ (by omega) (by omega)))
