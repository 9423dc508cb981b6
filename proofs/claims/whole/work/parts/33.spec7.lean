/-! ACTS: what a body answers, which bodies run (n the number, v, K the KIND) -/
def lkV (n v s : Nat) (x : Int) : Int := if s = 6 then bxor (x + (n : Int)) (v : Int) else if s = 4 then -(x + (n : Int)) else if s = 2 ∨ s = 5 then x * 3 + (n : Int) else x + (n : Int)
def lkT (s : Nat) : List Nat := if s = 6 then [71, 10] else if s = 4 then [50, 10] else if s = 2 ∨ s = 5 then [30, 10] else [10]
def swV (n v K s : Nat) (x : Int) : Int := if s = 6 then lkV n v K x - (v : Int) + (2 + (n : Int)) else if s = 4 then bxor (lkV n v K (x + 1) - (v : Int)) 6 else if s = 1 then bxor (lkV n v K x - (v : Int)) 6 else lkV n v K x - (v : Int)
def swT (K s : Nat) : List Nat := if s = 6 then 70 :: 11 :: (lkT K ++ [10]) else if s = 4 then 51 :: 20 :: 11 :: lkT K else if s = 1 then 20 :: 11 :: lkT K else 11 :: lkT K
def tlV (n v K s : Nat) (x : Int) : Int := if s = 6 ∨ s = 3 then swV n v K K x * 2 + swV n v K K 1 else if s = 5 then swV n v K K (x - (n : Int)) * 2 else swV n v K K x * 2
def tlT (K s : Nat) : List Nat := if s = 6 ∨ s = 3 then 40 :: 12 :: (swT K K ++ swT K K) else if s = 5 then 60 :: 12 :: swT K K else 12 :: swT K K
def actV (n v K a : Nat) (x : Int) : Int := if a = 0 then lkV n v K x else if a = 1 then swV n v K K x else tlV n v K K x
def actT (K a : Nat) : List Nat := if a = 0 then lkT K else if a = 1 then swT K K else tlT K K
theorem lkT_len (s : Nat) : (lkT s).length ≤ 2 := by unfold lkT; split; decide; split; decide; split <;> decide
theorem swT_len (K s : Nat) : (swT K s).length ≤ 5 := by
  have h := lkT_len K
  unfold swT
  split
  · simp; omega
  · split
    · simp; omega
    · split <;> (simp; omega)
theorem tlT_len (K s : Nat) : (tlT K s).length ≤ 12 := by
  have h := swT_len K K
  unfold tlT
  split
  · simp; omega
  · split <;> (simp; omega)
/-- THE TRACE as the actor keeps it -/
def trR (M : Mm) (tr : List Nat) : Prop := M 9 1 = (tr.length : Int) ∧ tr.length ≤ 20 ∧ ∀ i, i < tr.length → M 10 i = (tr.getD i 0 : Int)
def actR (M : Mm) (n v K : Nat) (tr : List Nat) : Prop := trR M tr ∧ M 9 2 = (n : Int) ∧ M 9 3 = (v : Int) ∧ M 9 4 = (K : Int)
def afr (M M' : Mm) : Prop := ∀ k, k ≠ 9 → k ≠ 10 → M' k = M k
theorem afr.tr {M M1 M2 : Mm} (h1 : afr M M1) (h2 : afr M1 M2) : afr M M2 := fun k a b => (h2 k a b).trans (h1 k a b)
theorem actR.add {M : Mm} {n v K b : Nat} {tr : List Nat} (h : actR M n v K tr) (hl : tr.length < 20) : actR (up (up M 10 tr.length (b : Int)) 9 1 ((tr.length : Int) + 1)) n v K (tr ++ [b]) := by
  obtain ⟨⟨h1, h2, h3⟩, h4, h5, h6⟩ := h
  refine ⟨⟨?_, ?_, fun i hi => ?_⟩, ?_, ?_, ?_⟩
  · rw [up_s, List.length_append]; simp
  · rw [List.length_append]; simp; omega
  · rw [List.length_append] at hi
    simp only [List.length_cons, List.length_nil] at hi
    rw [up_row (by decide), List.getD_eq_getElem?_getD]
    by_cases h : i < tr.length
    · rw [up_n (by omega), h3 i h, List.getElem?_append_left h, List.getD_eq_getElem?_getD]
    · have e : i = tr.length := by omega
      subst e
      rw [up_s]
      simp
  · rw [up_n (by omega), up_row (by decide)]; exact h4
  · rw [up_n (by omega), up_row (by decide)]; exact h5
  · rw [up_n (by omega), up_row (by decide)]; exact h6
/-! TAPES -/
abbrev Tp : Type := Int × Nat × (Nat → Int)
def RepK (M : Mm) (i : Nat) (q : Tp) : Prop := M (75 + 2 * i) 0 = q.1 ∧ M (75 + 2 * i) 1 = (q.2.1 : Int) ∧ ∀ j, j < 60 → M (76 + 2 * i) j = q.2.2 j
def okK (q : Tp) : Prop := (-1 ≤ q.1 ∧ q.1 ≤ 4) ∧ q.2.1 ≤ 60 ∧ ∀ j, j < 60 → rgL (q.2.2 j)
def kfr (i : Nat) (M M' : Mm) : Prop := ∀ k, k ≠ 75 + 2 * i → k ≠ 76 + 2 * i → M' k = M k
/-- a number as 32 bits keep it -/
def wI (a : Int) : Int := (Int32.ofInt a).toInt
theorem wI_rg (a : Int) : rg (wI a) := rg_of _
theorem vi_wI (a : Int) : vi a = vi (wI a) := by unfold wI vi; rw [Int32.ofInt_toInt]
/-- a number under another name -/
theorem g_asv {γ : Cg} {Ω : Ow} {Y : Md} {Z : State → Prop} {cs ss : Nat} {S : Sg} {M : Mm} {pc : Nat} {ls : List (Option Value)} {st : List Value} {z z' : Int} (h : vi z = vi z') (k : Go γ Ω Y Z cs ss S M pc ls (vi z' :: st)) : Go γ Ω Y Z cs ss S M pc ls (vi z :: st) := h ▸ k
def narK (s v : Int) : Int := if s = 0 then i2bI v else if s = 1 then i2sI v else if s = 2 then wI v else if s = 4 then (if v = 0 then 0 else 1) else v
theorem i2bI_rg (a : Int) : -128 ≤ i2bI a ∧ i2bI a < 128 := by
  unfold i2bI
  have h1 := Int8.le_toInt (Int32.ofInt a).toInt8
  have h2 := Int8.toInt_lt (Int32.ofInt a).toInt8
  omega
theorem i2sI_rg (a : Int) : -32768 ≤ i2sI a ∧ i2sI a < 32768 := by
  unfold i2sI
  have h1 := Int16.le_toInt (Int32.ofInt a).toInt16
  have h2 := Int16.toInt_lt (Int32.ofInt a).toInt16
  omega
theorem narK_rg {s v : Int} (h : rgL v) : rgL (narK s v) := by
  have h1 := i2bI_rg v
  have h2 := i2sI_rg v
  have h3 := wI_rg v
  unfold narK
  split
  · omega
  · split
    · omega
    · split
      · omega
      · split
        · split <;> decide
        · exact h
theorem obK {S : Sg} (hG : Gr S) {i : Nat} (hi : i < 6) : Ob S (75 + 2 * i) 7 ∧ Ar S (76 + 2 * i) 13 60 ∧ S.2 (75 + 2 * i) 2 = ((76 + 2 * i : Nat) : Int) ∧ S.2 11 i = ((75 + 2 * i : Nat) : Int) := by
  rcases (show i = 0 ∨ i = 1 ∨ i = 2 ∨ i = 3 ∨ i = 4 ∨ i = 5 by omega) with rfl | rfl | rfl | rfl | rfl | rfl <;> exact ⟨obn hG (by decide +kernel), arn hG (by decide +kernel), grn hG (by decide), grn hG (by decide)⟩
