/-! THE MATHEMATICAL STATE. A LAW: its CLAUSES (word 0 far, 1 near, 2 fine; number; the codes of E, in the order in which they are worked out: -1 and, -2 or, -3 not, a TEST is 300 letter + 100 relation + number). -/
abbrev LawC : Type := List (Nat × Nat × List Int)
/-- a street: how many PEOPLE, WALLS, DAY, the PEOPLE (0 KIND, 1 v, 2 PLACE, 3 PURSE, 4 GONE, 5 .. 8 ROW), the LAW -/
abbrev Ab : Type := Nat × Nat × Nat × (Nat → Nat → Nat) × LawC
abbrev zc (z : Ab) : Nat := z.1
abbrev zw (z : Ab) : Nat := z.2.1
abbrev zd (z : Ab) : Nat := z.2.2.1
abbrev zP (z : Ab) : Nat → Nat → Nat := z.2.2.2.1
abbrev zL (z : Ab) : LawC := z.2.2.2.2
def relV (x : Nat) (r n : Nat) : Bool := if r = 0 then decide (x < n) else if r = 1 then decide (x = n) else decide (n < x)
def testV (s : Nat → Nat) (c : Nat) : Bool := relV (s (c / 300)) (c % 300 / 100) (c % 100)
def stepC (s : Nat → Nat) (st : List Bool) (c : Int) : List Bool := if c = -3 then (match st with | b :: t => (!b) :: t | [] => []) else if c = -1 then (match st with | b :: a :: t => (a && b) :: t | _ => []) else if c = -2 then (match st with | b :: a :: t => (a || b) :: t | _ => []) else testV s c.toNat :: st
def evC (s : Nat → Nat) (cs : List Int) : List Bool := cs.foldl (stepC s) []
def holdsC (s : Nat → Nat) (cs : List Int) : Bool := (evC s cs).headD false
/-- how many truths wait; none: it can't be -/
def stepD (d : Option Nat) (c : Int) : Option Nat := match d with
  | none => none
  | some d => if c = -3 then (if 1 ≤ d then some d else none) else if c = -1 ∨ c = -2 then (if 2 ≤ d then some (d - 1) else none) else if 0 ≤ c ∧ c < 1800 ∧ d < 31 then some (d + 1) else none
def wfC (cs : List Int) : Prop := cs.foldl stepD (some 0) = some 1
def clV (s : Nat → Nat) (acc : Int) (q : Nat × Nat × List Int) : Int := if q.1 ≠ 2 ∧ holdsC s q.2.2 = true then (if q.1 = 0 then acc + (q.2.1 : Int) else acc - (q.2.1 : Int)) else acc
def sumL (s : Nat → Nat) (L : LawC) : Int := L.foldl (clV s) 2
def fineL (L : LawC) : Nat := L.foldl (fun acc q => if q.1 = 2 then q.2.1 else acc) 20
def flatL (L : LawC) : List Int := L.flatMap (fun q => q.2.2)
def okC (q : Nat × Nat × List Int) : Prop := q.1 ≤ 2 ∧ q.2.1 ≤ 99 ∧ (q.1 ≠ 2 → wfC q.2.2)
def okL (L : LawC) : Prop := L.length ≤ 10 ∧ (∀ q ∈ L, okC q) ∧ (flatL L).length ≤ 100
theorem foldD_none : ∀ cs : List Int, cs.foldl stepD none = none
  | [] => rfl
  | _ :: t => foldD_none t
theorem stepD_len {s : Nat → Nat} {d e : Nat} {c : Int} {st : List Bool} (hs : st.length = d) (h : stepD (some d) c = some e) : (stepC s st c).length = e := by
  unfold stepD at h
  unfold stepC
  by_cases h1 : c = -3
  · rw [if_pos h1]
    simp only [h1, if_true] at h
    split at h
    · cases h
      match st, hs with
      | b :: t, hs => simpa using hs
      | [], hs => simp at hs; omega
    · cases h
  · rw [if_neg h1]
    simp only [h1, if_false] at h
    by_cases h2 : c = -1 ∨ c = -2
    · rw [if_pos h2] at h
      split at h
      · rename_i hd
        cases h
        match st, hs with
        | b :: a :: t, hs =>
          simp at hs
          rcases h2 with h2 | h2 <;> subst h2 <;> simp <;> omega
        | [b], hs => simp at hs; omega
        | [], hs => simp at hs; omega
      · cases h
    · rw [if_neg h2] at h
      split at h
      · cases h
        rw [if_neg (fun q => h2 (Or.inl q)), if_neg (fun q => h2 (Or.inr q))]
        simp [hs]
      · cases h
/-- ahead of each code the truths that wait are as many as are said -/
theorem wf_take {s : Nat → Nat} {cs : List Int} {e : Nat} (h : cs.foldl stepD (some 0) = some e) (n : Nat) (hn : n ≤ cs.length) : ∃ d, (cs.take n).foldl stepD (some 0) = some d ∧ (evC s (cs.take n)).length = d := by
  induction n with
  | zero => exact ⟨0, rfl, rfl⟩
  | succ n ih =>
    obtain ⟨d, h1, h2⟩ := ih (by omega)
    have hl : n < cs.length := by omega
    have ht : cs.take (n + 1) = cs.take n ++ [cs[n]] := by rw [List.take_succ, List.getElem?_eq_getElem hl]; rfl
    have h3 : cs = cs.take (n + 1) ++ cs.drop (n + 1) := (List.take_append_drop _ _).symm
    have hstep : (cs.take (n + 1)).foldl stepD (some 0) = stepD (some d) cs[n] := by rw [ht, List.foldl_append, h1]; rfl
    cases hq : stepD (some d) cs[n] with
    | none =>
      rw [h3, List.foldl_append, hstep, hq, foldD_none] at h
      cases h
    | some e2 =>
      refine ⟨e2, by rw [hstep, hq], ?_⟩
      unfold evC at h2 ⊢
      rw [ht, List.foldl_append]
      exact stepD_len h2 hq
theorem ev_take {s : Nat → Nat} {cs : List Int} {n : Nat} (hn : n < cs.length) : evC s (cs.take (n + 1)) = stepC s (evC s (cs.take n)) cs[n] := by
  unfold evC
  rw [List.take_succ, List.getElem?_eq_getElem hn, List.foldl_append]
  rfl
theorem foldD_le : ∀ (cs : List Int) (d0 d : Nat), d0 ≤ 31 → cs.foldl stepD (some d0) = some d → d ≤ 31 := by
  intro cs
  induction cs with
  | nil => intro d0 d h0 h; cases h; exact h0
  | cons c t ih =>
    intro d0 d h0 h
    rw [List.foldl_cons] at h
    cases hq : stepD (some d0) c with
    | none => rw [hq, foldD_none] at h; cases h
    | some e =>
      rw [hq] at h
      refine ih e d ?_ h
      unfold stepD at hq
      simp only at hq
      split at hq
      · split at hq
        · cases hq; exact h0
        · cases hq
      · split at hq
        · split at hq
          · cases hq; omega
          · cases hq
        · split at hq
          · cases hq; omega
          · cases hq
theorem stepC_test (s : Nat → Nat) (stk : List Bool) (m : Nat) : stepC s stk (m : Int) = testV s m :: stk := by
  unfold stepC
  rw [if_neg (by omega), if_neg (by omega), if_neg (by omega)]
  rfl
theorem tstV (s : Nat → Nat) {m : Nat} (hm : m < 1800) {x : Int} (hx : x = if (s (m / 300) : Int) < (m : Int) % 100 then -1 else if (s (m / 300) : Int) = (m : Int) % 100 then 0 else 1) : testV s m = true ↔ x = (m : Int) % 300 / 100 - 1 := by
  unfold testV relV
  have h3 : m % 300 / 100 < 3 := by omega
  have e1 : ((m : Int) % 300 / 100) = ((m % 300 / 100 : Nat) : Int) := by omega
  have e2 : ((m : Int) % 100) = ((m % 100 : Nat) : Int) := by omega
  rw [e1, hx, e2]
  generalize m % 300 / 100 = r at h3
  generalize s (m / 300) = a
  generalize m % 100 = b
  rcases (show r = 0 ∨ r = 1 ∨ r = 2 by omega) with rfl | rfl | rfl
  · simp only [if_true, decide_eq_true_eq]
    split <;> (try split) <;> omega
  · simp only [show ¬ (1 : Nat) = 0 by decide, if_false, if_true, decide_eq_true_eq]
    split <;> (try split) <;> omega
  · simp only [show ¬ (2 : Nat) = 0 by decide, show ¬ (2 : Nat) = 1 by decide, if_false, decide_eq_true_eq]
    split <;> (try split) <;> omega
theorem stepD_rg {d e : Nat} {c : Int} (h : stepD (some d) c = some e) : -3 ≤ c ∧ c < 1800 := by
  unfold stepD at h
  simp only at h
  split at h
  · omega
  · split at h
    · omega
    · split at h
      · omega
      · cases h
def lenTo (L : LawC) (n : Nat) : Nat := (flatL (L.take n)).length
theorem lenTo_0 (L : LawC) : lenTo L 0 = 0 := rfl
theorem lenTo_S {L : LawC} {n : Nat} (h : n < L.length) : lenTo L (n + 1) = lenTo L n + L[n].2.2.length := by
  unfold lenTo flatL
  rw [List.take_succ, List.getElem?_eq_getElem h, List.flatMap_append, List.length_append]
  simp
theorem lenTo_le {L : LawC} (n : Nat) : lenTo L n ≤ (flatL L).length := by
  have h : flatL L = flatL (L.take n) ++ flatL (L.drop n) := by
    unfold flatL
    rw [← List.flatMap_append, List.take_append_drop]
  rw [h, List.length_append]
  exact Nat.le_add_right _ _
/-- cell Λ and the five behind it hold the LAW L -/
def RepLaw (M : Mm) (Λ : Nat) (L : LawC) : Prop := M Λ 0 = (fineL L : Int) ∧ M Λ 1 = (L.length : Int) ∧ ∀ (n : Nat) (h : n < L.length), M (Λ + 1) n = (L[n].1 : Int) ∧ M (Λ + 2) n = (L[n].2.1 : Int) ∧ M (Λ + 3) n = (lenTo L (n + 1) : Int) ∧ ∀ (i : Nat) (hi : i < L[n].2.2.length), M (Λ + 4) (lenTo L n + i) = L[n].2.2[i]
def sbj (P : Nat → Nat) (p day : Nat) (j : Nat) : Nat := if j = 0 then p else if j = 1 then P 0 else if j = 2 then P 1 else if j = 3 then P 2 else if j = 4 then P 3 / 100 else day % 10
/-- where a LAW may lie -/
def isLaw (Λ : Nat) : Prop := Λ = 3 ∨ Λ = 12 ∨ ∃ h, Λ = 116 + 6 * h
/-- what never changes once it is made: where the references point -/
def grT : List (Nat × Nat × Nat) := [(0, 0, 18), (0, 1, 39), (0, 3, 1), (0, 5, 60), (0, 6, 9), (0, 7, 11), (1, 0, 2), (9, 0, 10), (18, 0, 25), (18, 1, 19), (18, 2, 21), (18, 3, 23), (39, 0, 46), (39, 1, 40), (39, 2, 42), (39, 3, 44), (19, 0, 20), (21, 0, 22), (23, 0, 24), (40, 0, 41), (42, 0, 43), (44, 0, 45), (60, 0, 61),
  (11, 0, 75), (11, 1, 77), (11, 2, 79), (11, 3, 81), (11, 4, 83), (11, 5, 85), (75, 2, 76), (77, 2, 78), (79, 2, 80), (81, 2, 82), (83, 2, 84), (85, 2, 86),
  (87, 1, 88), (87, 2, 89), (87, 3, 90), (87, 4, 91), (87, 5, 92), (87, 6, 93), (87, 10, 94), (87, 17, 95), (87, 18, 96), (87, 19, 97), (87, 20, 98), (87, 21, 99), (87, 22, 100), (87, 24, 101), (87, 26, 102), (87, 27, 103), (87, 28, 104), (87, 30, 105), (87, 31, 106), (87, 33, 107), (87, 34, 108), (87, 36, 109), (87, 38, 110), (87, 39, 111), (87, 40, 112), (87, 41, 113), (87, 42, 114), (87, 43, 115)]
def isB (B : Nat) : Prop := B = 25 ∨ B = 46 ∨ B = 61
def pe (B p : Nat) : Nat := B + 2 + 2 * p
def Gr (S : Sg) : Prop := 116 ≤ S.1 ∧ (∀ q ∈ grT, S.2 q.1 q.2.1 = (q.2.2 : Int)) ∧ (∀ B, isB B → S.2 B 0 = ((B + 1 : Nat) : Int) ∧ ∀ p, p < 6 → S.2 (B + 1) p = (pe B p : Int) ∧ S.2 (pe B p) 6 = ((pe B p + 1 : Nat) : Int)) ∧ ∀ Λ, isLaw Λ → Λ + 6 ≤ S.1 → S.2 Λ 2 = ((Λ + 1 : Nat) : Int) ∧ S.2 Λ 3 = ((Λ + 2 : Nat) : Int) ∧ S.2 Λ 4 = ((Λ + 3 : Nat) : Int) ∧ S.2 Λ 6 = ((Λ + 4 : Nat) : Int) ∧ S.2 Λ 7 = ((Λ + 5 : Nat) : Int)
section GRA
variable {S : Sg} {B p Λ : Nat}
/-- a cell by its number -/
theorem obn (hG : Gr S) {r c : Nat} (h : sh r = (c, 0) ∧ r < 116 ∧ c < 11) : Ob S r c := ⟨h.1, Nat.lt_of_lt_of_le h.2.1 hG.1, h.2.2⟩
theorem arn (hG : Gr S) {r c n : Nat} (h : sh r = (c, n) ∧ r < 116 ∧ 11 ≤ c) : Ar S r c n := ⟨h.1, Nat.lt_of_lt_of_le h.2.1 hG.1, h.2.2⟩
theorem grn (hG : Gr S) {k j r : Nat} (h : (k, j, r) ∈ grT) : S.2 k j = (r : Int) := hG.2.1 _ h
theorem obB (hG : Gr S) (hB : isB B) : Ob S B 5 := by rcases hB with rfl | rfl | rfl <;> exact obn hG (by decide +kernel)
theorem arB (hG : Gr S) (hB : isB B) : Ar S (B + 1) 15 6 := by rcases hB with rfl | rfl | rfl <;> exact arn hG (by decide +kernel)
theorem obP (hG : Gr S) (hB : isB B) (hp : p < 6) : Ob S (pe B p) 3 := by
  have h : ∀ p, p < 6 → (sh (pe 25 p) = (3, 0) ∧ pe 25 p < 116 ∧ 3 < 11) ∧ (sh (pe 46 p) = (3, 0) ∧ pe 46 p < 116 ∧ 3 < 11) ∧ (sh (pe 61 p) = (3, 0) ∧ pe 61 p < 116 ∧ 3 < 11) := by decide +kernel
  rcases hB with rfl | rfl | rfl
  · exact obn hG (h p hp).1
  · exact obn hG (h p hp).2.1
  · exact obn hG (h p hp).2.2
theorem arP (hG : Gr S) (hB : isB B) (hp : p < 6) : Ar S (pe B p + 1) 12 4 := by
  have h : ∀ p, p < 6 → (sh (pe 25 p + 1) = (12, 4) ∧ pe 25 p + 1 < 116 ∧ 11 ≤ 12) ∧ (sh (pe 46 p + 1) = (12, 4) ∧ pe 46 p + 1 < 116 ∧ 11 ≤ 12) ∧ (sh (pe 61 p + 1) = (12, 4) ∧ pe 61 p + 1 < 116 ∧ 11 ≤ 12) := by decide +kernel
  rcases hB with rfl | rfl | rfl
  · exact arn hG (h p hp).1
  · exact arn hG (h p hp).2.1
  · exact arn hG (h p hp).2.2
theorem sh_law (h : isLaw Λ) : sh Λ = (1, 0) ∧ sh (Λ + 1) = (12, 10) ∧ sh (Λ + 2) = (12, 10) ∧ sh (Λ + 3) = (12, 10) ∧ sh (Λ + 4) = (12, 100) ∧ sh (Λ + 5) = (12, 6) := by
  rcases h with rfl | rfl | ⟨h, rfl⟩
  · decide +kernel
  · decide +kernel
  · have e : ∀ i, i < 6 → sh (116 + 6 * h + i) = shL.getD i (0, 0) := by
      intro i hi
      unfold sh
      rw [if_neg (by omega), show (116 + 6 * h + i - 116) % 6 = i by omega]
    exact ⟨e 0 (by decide), e 1 (by decide), e 2 (by decide), e 3 (by decide), e 4 (by decide), e 5 (by decide)⟩
theorem obLaw (h : isLaw Λ) (hn : Λ + 6 ≤ S.1) : Ob S Λ 1 ∧ Ar S (Λ + 1) 12 10 ∧ Ar S (Λ + 2) 12 10 ∧ Ar S (Λ + 3) 12 10 ∧ Ar S (Λ + 4) 12 100 ∧ Ar S (Λ + 5) 12 6 := by
  obtain ⟨e0, e1, e2, e3, e4, e5⟩ := sh_law h
  exact ⟨⟨e0, by omega, by decide⟩, ⟨e1, by omega, by decide⟩, ⟨e2, by omega, by decide⟩, ⟨e3, by omega, by decide⟩, ⟨e4, by omega, by decide⟩, ⟨e5, by omega, by decide⟩⟩
/-- the LAWS' scratch rows -/
def subjC (k : Nat) : Prop := ∃ Λ, isLaw Λ ∧ k = Λ + 5
theorem ne_subj {k c : Nat} (h : sh k = (c, 0)) : ¬ subjC k := by
  rintro ⟨Λ, h1, rfl⟩
  have h2 := (sh_law h1).2.2.2.2.2
  rw [h] at h2
  simp at h2
end GRA
