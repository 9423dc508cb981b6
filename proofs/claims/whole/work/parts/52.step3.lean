/-! tapes, counts -/
def putK (s : Wt) (i : Nat) (q : Tp) : Wt := (s.1, s.2.1, s.2.2.1, s.2.2.2.1, s.2.2.2.2.1, fun j => if j = i then q else wp s j)
def a_count (s : Wt) (w : Int) : Int := if w = 0 then (zc (wz s) : Int) else if w = 1 then (wl s : Int) else if w = 2 then ((wn s).2.1.length : Int) else if w = 3 then ((wn s).2.2.1.length : Int) else if w = 4 then ((wn s).2.2.2.length : Int) else if w = 5 then ((wx s).length : Int) else if w = 6 then ((wr s).length : Int) else -2
abbrev hasK (q : Tp) (a b : Int) : Prop := 0 ≤ a ∧ 0 ≤ b ∧ b ≤ (q.2.1 : Int) - a
def a_tape (s : Wt) (t k n : Int) : Int × Wt := if ¬ inN t 5 then (-1, s) else if k = -1 then (1, putK s t.toNat (-1, 0, fun _ => 0)) else if ¬ inN k 4 ∨ 60 < n then (-2, s) else if n < 0 then (-14, s) else (1, putK s t.toNat (k, n.toNat, fun _ => 0))
def a_item (s : Wt) (t i v : Int) : Int × Wt := if ¬ inN t 5 then (-1, s) else if (wp s t.toNat).1 = -1 then (-11, s) else if ¬ hasK (wp s t.toNat) i 1 then (-13, s) else (1, putK s t.toNat ((wp s t.toNat).1, (wp s t.toNat).2.1, fun j => if j = i.toNat then narK (wp s t.toNat).1 v else (wp s t.toNat).2.2 j))
def a_read (s : Wt) (t i : Int) : Int := if inN t 5 ∧ (wp s t.toNat).1 ≠ -1 ∧ hasK (wp s t.toNat) i 1 then (wp s t.toNat).2.2 i.toNat else -9223372036854775808
def a_shift (s : Wt) (t i u j n : Int) : Int × Wt := if ¬ (inN t 5 ∧ inN u 5) then (-1, s) else if (wp s t.toNat).1 = -1 ∨ (wp s u.toNat).1 = -1 then (-11, s) else if (wp s t.toNat).1 ≠ (wp s u.toNat).1 then (-12, s) else if ¬ (hasK (wp s t.toNat) i n ∧ hasK (wp s u.toNat) j n) then (-13, s) else (n, putK s u.toNat ((wp s u.toNat).1, (wp s u.toNat).2.1, fun k => if j.toNat ≤ k ∧ k < j.toNat + n.toNat then (wp s t.toNat).2.2 (i.toNat + (k - j.toNat)) else (wp s u.toNat).2.2 k))
/-- a tape changes -/
theorem RepW.tape {S : Sg} {M M' : Mm} {s : Wt} (h : RepW S M s) (hO : okW s) {i : Nat} (hi : i < 6) {q : Tp} (hf : kfr i M M') (hT : RepK M' i q) : RepW S M' (putK s i q) ∧ mfr S S M M' := by
  obtain ⟨-, -, ⟨-, t1, t2, t3⟩, -, -, -, a7, a8, -⟩ := id h
  refine h.low hO (fun k a b c => hf k (by omega) (by omega)) ⟨rfl, rfl, rfl, rfl⟩ (t1.far (hf _ (by omega) (by omega)) (hf _ (by omega) (by omega))) (t2.far (hf _ (by omega) (by omega)) (hf _ (by omega) (by omega))) (t3.far (hf _ (by omega) (by omega)) (hf _ (by omega) (by omega))) (a7.cong (by rw [hf 9 (by omega) (by omega)]) (hf 10 (by omega) (by omega))) (fun j hj => ?_)
  show RepK M' j (if j = i then q else wp s j)
  by_cases e : j = i
  · subst e; rw [if_pos rfl]; exact hT
  · rw [if_neg e]; exact (a8 j hj).cong (hf _ (by omega) (by omega)) (hf _ (by omega) (by omega))
theorem ldcL {o : String} {i : Nat} {x y : Int64} (e : x = y) (h : Cond.constantLong o i x ∈ Ug) : Cond.constantLong o i y ∈ Ug := e ▸ h
