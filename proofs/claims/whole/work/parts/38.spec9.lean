/-! THE TEXT, and how it is read. -/
abbrev PR : Type := Bool × Nat × List Int
def isC (tx : List Nat) (a c : Nat) : Bool := decide (a < tx.length ∧ tx.getD a 0 = c)
/-- one of the signs of String i -/
def pOf (tx : List Nat) (i a : Nat) : Int := if a < tx.length then posN i (tx.getD a 0) else -1
def pNum (tx : List Nat) (a : Nat) : Int × Nat := if pOf tx 1 a = -1 then (-1, a) else if pOf tx 1 (a + 1) = -1 then (pOf tx 1 a, a + 1) else (10 * pOf tx 1 a + pOf tx 1 (a + 1), a + 2)
def pTest (tx : List Nat) (a : Nat) (cs : List Int) : PR := if pOf tx 2 a = -1 then (false, a, cs) else if pOf tx 3 (a + 1) = -1 then (false, a + 1, cs) else if (pNum tx (a + 2)).1 = -1 then (false, (pNum tx (a + 2)).2, cs) else (true, (pNum tx (a + 2)).2, cs ++ [pOf tx 2 a * 300 + pOf tx 3 (a + 1) * 100 + (pNum tx (a + 2)).1])
def pLoop (f : Nat → List Int → PR) (tx : List Nat) (c : Nat) (code : Int) : Nat → Nat → List Int → PR
  | 0, a, cs => (true, a, cs)
  | k + 1, a, cs => if isC tx a c = true then (if (f (a + 1) cs).1 = true then pLoop f tx c code k (f (a + 1) cs).2.1 ((f (a + 1) cs).2.2 ++ [code]) else (false, (f (a + 1) cs).2.1, (f (a + 1) cs).2.2)) else (true, a, cs)
def pTg (f : Nat → List Int → PR) (tx : List Nat) (a : Nat) (cs : List Int) : PR := if (f a cs).1 = true then pLoop f tx 38 (-1) 100 (f a cs).2.1 (f a cs).2.2 else (false, (f a cs).2.1, (f a cs).2.2)
def pEg (f : Nat → List Int → PR) (tx : List Nat) (a : Nat) (cs : List Int) : PR := if (pTg f tx a cs).1 = true then pLoop (pTg f tx) tx 124 (-2) 100 (pTg f tx a cs).2.1 (pTg f tx a cs).2.2 else (false, (pTg f tx a cs).2.1, (pTg f tx a cs).2.2)
def pClose (tx : List Nat) (e : PR) : PR := if e.1 = true then (if isC tx e.2.1 41 = true then (true, e.2.1 + 1, e.2.2) else (false, e.2.1, e.2.2)) else (false, e.2.1, e.2.2)
def pNot (f : PR) : PR := if f.1 = true then (true, f.2.1, f.2.2 ++ [-3]) else (false, f.2.1, f.2.2)
def pF (tx : List Nat) : Nat → Nat → List Int → PR
  | 0 => fun a cs => pTest tx a cs
  | r + 1 => fun a cs => if isC tx a 40 = true then pClose tx (pEg (pF tx r) tx (a + 1) cs) else if isC tx a 33 = true then pNot (pF tx r (a + 1) cs) else pTest tx a cs
def pE (tx : List Nat) (r : Nat) : Nat → List Int → PR := pEg (pF tx r) tx
/-- what a reading does: it goes on, never past the end; a code for a sign at most; the codes work out to one truth more -/
def GoodP (tx : List Nat) (f : Nat → List Int → PR) (d : Nat) : Prop := ∀ a cs, a ≤ tx.length → (f a cs).2.1 ≤ tx.length ∧ a ≤ (f a cs).2.1 ∧ (∃ c : List Int, (f a cs).2.2 = cs ++ c ∧ c.length + a ≤ (f a cs).2.1 ∧ ((f a cs).1 = true → ∀ e, e + d ≤ 31 → c.foldl stepD (some e) = some (e + 1))) ∧ ∀ p, f a (p ++ cs) = ((f a cs).1, (f a cs).2.1, p ++ (f a cs).2.2)
theorem isC_lt {tx : List Nat} {a c : Nat} (h : isC tx a c = true) : a < tx.length ∧ tx.getD a 0 = c := of_decide_eq_true h
theorem pOf_lt {tx : List Nat} {i a : Nat} (h : pOf tx i a ≠ -1) : a < tx.length := by
  unfold pOf at h
  split at h
  · assumption
  · exact absurd rfl h
theorem pOf_rg (tx : List Nat) (i a : Nat) (hi : i < 9) : -1 ≤ pOf tx i a ∧ pOf tx i a ≤ 9 ∧ pOf tx i a < (sL i).length := by
  have h := posN_rg i (tx.getD a 0) hi
  have h2 := sL_ok i hi
  unfold pOf
  split
  · omega
  · omega
theorem pNum_ok (tx : List Nat) (a : Nat) (ha : a ≤ tx.length) : (pNum tx a).2 ≤ tx.length ∧ a ≤ (pNum tx a).2 ∧ -1 ≤ (pNum tx a).1 ∧ (pNum tx a).1 ≤ 99 := by
  have h1 := pOf_rg tx 1 a (by decide)
  have h2 := pOf_rg tx 1 (a + 1) (by decide)
  unfold pNum
  split
  · exact ⟨ha, Nat.le_refl _, by show (-1 : Int) ≤ -1; decide, by show (-1 : Int) ≤ 99; decide⟩
  · rename_i h3
    have h4 := pOf_lt h3
    split
    · exact ⟨by show a + 1 ≤ _; omega, by show a ≤ a + 1; omega, h1.1, by show pOf tx 1 a ≤ 99; omega⟩
    · rename_i h5
      have h6 := pOf_lt h5
      exact ⟨by show a + 2 ≤ _; omega, by show a ≤ a + 2; omega, by show -1 ≤ 10 * pOf tx 1 a + pOf tx 1 (a + 1); omega, by show 10 * pOf tx 1 a + pOf tx 1 (a + 1) ≤ 99; omega⟩
theorem good_test (tx : List Nat) : GoodP tx (pTest tx) 1 := by
  intro a cs ha
  have h1 := pOf_rg tx 2 a (by decide)
  have h2 := pOf_rg tx 3 (a + 1) (by decide)
  have l2 : (sL 2).length = 6 := rfl
  have l3 : (sL 3).length = 3 := rfl
  unfold pTest
  by_cases c1 : pOf tx 2 a = -1
  · simp only [if_pos c1]
    exact ⟨ha, Nat.le_refl _, ⟨[], by simp, by simp, fun h => by cases h⟩, fun p => by trivial⟩
  · have k1 := pOf_lt c1
    simp only [if_neg c1]
    by_cases c2 : pOf tx 3 (a + 1) = -1
    · simp only [if_pos c2]
      exact ⟨k1, Nat.le_succ _, ⟨[], by simp, by simp, fun h => by cases h⟩, fun p => by trivial⟩
    · have k2 := pOf_lt c2
      simp only [if_neg c2]
      obtain ⟨n1, n2, n3, n4⟩ := pNum_ok tx (a + 2) (by omega)
      by_cases c3 : (pNum tx (a + 2)).1 = -1
      · simp only [if_pos c3]
        exact ⟨n1, by omega, ⟨[], by simp, by simp; omega, fun h => by cases h⟩, fun p => by trivial⟩
      · simp only [if_neg c3]
        refine ⟨n1, by omega, ⟨[_], rfl, by simp; omega, fun _ e he => ?_⟩, fun p => by simp⟩
        show stepD (some e) _ = _
        unfold stepD
        simp only
        rw [if_neg (by omega), if_neg (by omega), if_pos (by omega)]
theorem good_loop {tx : List Nat} {f : Nat → List Int → PR} {d : Nat} (hf : GoodP tx f d) (c : Nat) (code : Int) (hc : code = -1 ∨ code = -2) : ∀ k a cs, a ≤ tx.length → (pLoop f tx c code k a cs).2.1 ≤ tx.length ∧ a ≤ (pLoop f tx c code k a cs).2.1 ∧ (∃ c2 : List Int, (pLoop f tx c code k a cs).2.2 = cs ++ c2 ∧ c2.length + a ≤ (pLoop f tx c code k a cs).2.1 ∧ ((pLoop f tx c code k a cs).1 = true → ∀ e, e + d + 1 ≤ 31 → c2.foldl stepD (some (e + 1)) = some (e + 1))) ∧ ∀ p, pLoop f tx c code k a (p ++ cs) = ((pLoop f tx c code k a cs).1, (pLoop f tx c code k a cs).2.1, p ++ (pLoop f tx c code k a cs).2.2) := by
  intro k
  induction k with
  | zero => intro a cs ha; exact ⟨ha, Nat.le_refl _, ⟨[], by simp [pLoop], by simp [pLoop], fun _ e _ => rfl⟩, fun p => rfl⟩
  | succ k ih =>
    intro a cs ha
    by_cases h1 : isC tx a c = true
    · obtain ⟨l1, -⟩ := isC_lt h1
      obtain ⟨g1, g2, ⟨c1, g3, g4, g5⟩, g6⟩ := hf (a + 1) cs l1
      by_cases h2 : (f (a + 1) cs).1 = true
      · have e : ∀ p, pLoop f tx c code (k + 1) a (p ++ cs) = pLoop f tx c code k (f (a + 1) cs).2.1 (p ++ ((f (a + 1) cs).2.2 ++ [code])) := fun p => by
          rw [pLoop, if_pos h1, g6 p, if_pos h2, List.append_assoc]
        have e0 : pLoop f tx c code (k + 1) a cs = pLoop f tx c code k (f (a + 1) cs).2.1 ((f (a + 1) cs).2.2 ++ [code]) := by
          rw [pLoop, if_pos h1, if_pos h2]
        obtain ⟨i1, i2, ⟨c3, i3, i4, i5⟩, i6⟩ := ih (f (a + 1) cs).2.1 ((f (a + 1) cs).2.2 ++ [code]) g1
        rw [e0]
        refine ⟨i1, by omega, ⟨c1 ++ [code] ++ c3, by rw [i3, g3]; simp, by simp; omega, fun h e he => ?_⟩, fun p => by rw [e p, i6 p]⟩
        rw [List.foldl_append, List.foldl_append, g5 h2 (e + 1) (by omega)]
        have e2 : [code].foldl stepD (some (e + 1 + 1)) = some (e + 1) := by
          show stepD (some (e + 1 + 1)) code = _
          unfold stepD
          simp only
          rw [if_neg (by omega), if_pos hc, if_pos (by omega)]
          rfl
        rw [e2]
        exact i5 h e he
      · have e : ∀ p, pLoop f tx c code (k + 1) a (p ++ cs) = (false, (f (a + 1) cs).2.1, p ++ (f (a + 1) cs).2.2) := fun p => by
          rw [pLoop, if_pos h1, g6 p, if_neg h2]
        have e0 : pLoop f tx c code (k + 1) a cs = (false, (f (a + 1) cs).2.1, (f (a + 1) cs).2.2) := by
          rw [pLoop, if_pos h1, if_neg h2]
        rw [e0]
        exact ⟨g1, by show a ≤ (f (a + 1) cs).2.1; omega, ⟨c1, g3, by show c1.length + a ≤ (f (a + 1) cs).2.1; omega, fun h => by cases h⟩, e⟩
    · have e : ∀ p, pLoop f tx c code (k + 1) a p = (true, a, p) := fun p => by
        rw [pLoop, if_neg h1]
      rw [e cs]
      exact ⟨ha, Nat.le_refl _, ⟨[], by simp, by simp, fun _ e _ => rfl⟩, fun p => by rw [e]⟩
theorem good_seq {tx : List Nat} {f : Nat → List Int → PR} {d : Nat} (hf : GoodP tx f d) (c : Nat) (code : Int) (hc : code = -1 ∨ code = -2) : GoodP tx (fun a cs => if (f a cs).1 = true then pLoop f tx c code 100 (f a cs).2.1 (f a cs).2.2 else (false, (f a cs).2.1, (f a cs).2.2)) (d + 1) := by
  intro a cs ha
  obtain ⟨g1, g2, ⟨c1, g3, g4, g5⟩, g6⟩ := hf a cs ha
  by_cases h : (f a cs).1 = true
  · simp only [if_pos h, g6]
    obtain ⟨i1, i2, ⟨c3, i3, i4, i5⟩, i6⟩ := good_loop hf c code hc 100 (f a cs).2.1 (f a cs).2.2 g1
    refine ⟨i1, by omega, ⟨c1 ++ c3, by rw [i3, g3]; simp, by simp; omega, fun h2 e he => ?_⟩, i6⟩
    rw [List.foldl_append, g5 h e (by omega)]
    exact i5 h2 e (by omega)
  · simp only [if_neg h, g6]
    exact ⟨g1, g2, ⟨c1, g3, g4, fun h => by cases h⟩, fun p => by trivial⟩
theorem good_T {tx : List Nat} {f : Nat → List Int → PR} {d : Nat} (hf : GoodP tx f d) : GoodP tx (pTg f tx) (d + 1) := good_seq hf 38 (-1) (Or.inl rfl)
theorem good_E {tx : List Nat} {f : Nat → List Int → PR} {d : Nat} (hf : GoodP tx f d) : GoodP tx (pEg f tx) (d + 2) := good_seq (good_T hf) 124 (-2) (Or.inr rfl)
theorem good_mono {tx : List Nat} {f : Nat → List Int → PR} {d d2 : Nat} (hf : GoodP tx f d) (h : d ≤ d2) : GoodP tx f d2 := fun a cs ha => by
  obtain ⟨g1, g2, ⟨c1, g3, g4, g5⟩, g6⟩ := hf a cs ha
  exact ⟨g1, g2, ⟨c1, g3, g4, fun h2 e he => g5 h2 e (by omega)⟩, g6⟩
theorem good_F (tx : List Nat) : ∀ r, GoodP tx (pF tx r) (1 + 2 * r)
  | 0 => good_test tx
  | r + 1 => by
    have hF := good_F tx r
    have hE := good_E hF
    have hT := good_test tx
    intro a cs ha
    by_cases h1 : isC tx a 40 = true
    · obtain ⟨l1, -⟩ := isC_lt h1
      obtain ⟨g1, g2, ⟨c1, g3, g4, g5⟩, g6⟩ := hE (a + 1) cs l1
      have e : ∀ q, pF tx (r + 1) a q = pClose tx (pEg (pF tx r) tx (a + 1) q) := fun q => by rw [pF]; simp only [if_pos h1]
      rw [e cs]
      simp only [e, g6]
      generalize pEg (pF tx r) tx (a + 1) cs = E at g1 g2 g3 g4 g5
      unfold pClose
      by_cases h2 : E.1 = true
      · simp only [if_pos h2]
        by_cases h3 : isC tx E.2.1 41 = true
        · obtain ⟨l3, -⟩ := isC_lt h3
          simp only [if_pos h3]
          exact ⟨l3, by omega, ⟨c1, g3, by omega, fun _ e he => g5 h2 e (by omega)⟩, fun p => trivial⟩
        · simp only [if_neg h3]
          exact ⟨g1, by omega, ⟨c1, g3, by omega, fun h => by cases h⟩, fun p => trivial⟩
      · simp only [if_neg h2]
        exact ⟨g1, by omega, ⟨c1, g3, by omega, fun h => by cases h⟩, fun p => trivial⟩
    · by_cases h2 : isC tx a 33 = true
      · obtain ⟨l1, -⟩ := isC_lt h2
        obtain ⟨g1, g2, ⟨c1, g3, g4, g5⟩, g6⟩ := hF (a + 1) cs l1
        have e : ∀ q, pF tx (r + 1) a q = pNot (pF tx r (a + 1) q) := fun q => by rw [pF]; simp only [if_neg h1, if_pos h2]
        rw [e cs]
        simp only [e, g6]
        generalize pF tx r (a + 1) cs = E at g1 g2 g3 g4 g5
        unfold pNot
        by_cases h3 : E.1 = true
        · simp only [if_pos h3]
          refine ⟨g1, by omega, ⟨c1 ++ [-3], by rw [g3, List.append_assoc], by simp; omega, fun _ e he => ?_⟩, fun p => by simp⟩
          rw [List.foldl_append, g5 h3 e (by omega)]
          show stepD (some (e + 1)) (-3) = _
          unfold stepD
          simp only
          rw [if_pos trivial, if_pos (by omega)]
        · simp only [if_neg h3]
          exact ⟨g1, by omega, ⟨c1, g3, by omega, fun h => by cases h⟩, fun p => trivial⟩
      · have e : ∀ q, pF tx (r + 1) a q = pTest tx a q := fun q => by rw [pF]; simp only [if_neg h1, if_neg h2]
        rw [e cs]
        simp only [e]
        exact good_mono hT (by omega) a cs ha
/-! a CLAUSE, a LAW -/
/-- its word: 0 far, 1 near, 2 fine; none is told by 3 -/
def pW (tx : List Nat) (a : Nat) : Nat × Nat := if isC tx a 110 = true then (if isC tx (a + 1) 101 = true then (if isC tx (a + 2) 97 = true then (if isC tx (a + 3) 114 = true then (1, a + 4) else (3, a + 3)) else (3, a + 2)) else (3, a + 1))
  else if isC tx a 102 = true then (if isC tx (a + 1) 105 = true then (if isC tx (a + 2) 110 = true then (if isC tx (a + 3) 101 = true then (2, a + 4) else (3, a + 3)) else (3, a + 2)) else if isC tx (a + 1) 97 = true then (if isC tx (a + 2) 114 = true then (0, a + 3) else (3, a + 2)) else (3, a + 1)) else (3, a)
abbrev CR : Type := Bool × Nat × LawC
/-- ahead of the number -/
def pHead (tx : List Nat) (a : Nat) : Nat × Nat := if (pW tx a).1 = 3 then pW tx a else if isC tx (pW tx a).2 32 = true then ((pW tx a).1, (pW tx a).2 + 1) else (3, (pW tx a).2)
def pCl (tx : List Nat) (a : Nat) (L : LawC) : CR := if (pHead tx a).1 = 3 then (false, (pHead tx a).2, L) else
  if (pNum tx (pHead tx a).2).1 = -1 then (false, (pNum tx (pHead tx a).2).2, L) else
  if (pHead tx a).1 = 2 then (true, (pNum tx (pHead tx a).2).2, L ++ [(2, (pNum tx (pHead tx a).2).1.toNat, [])]) else
  if isC tx (pNum tx (pHead tx a).2).2 32 = true then (if (pE tx 4 ((pNum tx (pHead tx a).2).2 + 1) []).1 = true then (true, (pE tx 4 ((pNum tx (pHead tx a).2).2 + 1) []).2.1, L ++ [((pHead tx a).1, (pNum tx (pHead tx a).2).1.toNat, (pE tx 4 ((pNum tx (pHead tx a).2).2 + 1) []).2.2)]) else (false, (pE tx 4 ((pNum tx (pHead tx a).2).2 + 1) []).2.1, L)) else (false, (pNum tx (pHead tx a).2).2, L)
def pLs (tx : List Nat) : Nat → Nat → LawC → CR
  | 0, a, L => (true, a, L)
  | k + 1, a, L => if isC tx a 59 = true then (if (pCl tx (a + 1) L).1 = true then pLs tx k (pCl tx (a + 1) L).2.1 (pCl tx (a + 1) L).2.2 else (false, (pCl tx (a + 1) L).2.1, L)) else (true, a, L)
def pLaw (tx : List Nat) : CR := if (pCl tx 0 []).1 = true then pLs tx 9 (pCl tx 0 []).2.1 (pCl tx 0 []).2.2 else (false, (pCl tx 0 []).2.1, [])
/-- the LAW that the TEXT is; or where its FAULT is -/
def lawOf (tx : List Nat) : LawC ⊕ Nat := if (pLaw tx).1 = true ∧ (pLaw tx).2.1 = tx.length then .inl (pLaw tx).2.2 else .inr (pLaw tx).2.1
