/-! switches at a known number; the model's trace -/
section SWV
variable {γ : Cg} {Ω : Ow} {Y : Md} {Z : State → Prop} {cs ss : Nat} {S : Sg} {M : Mm} {pc tgt : Nat} {ls : List (Option Value)} {st : List Value} {a : Int}
theorem cas_one : ∀ {t : List (Int × Nat)}, (∀ q ∈ t, q.1 = a → q.2 = tgt) → Go γ Ω Y Z cs ss S M tgt ls st → CasG γ Ω Y Z cs ss S M ls st a t
  | [], _, _ => casN
  | (q, g) :: t, h, k => casC (fun e => by
      have := h (q, g) List.mem_cons_self e.symm
      simp only at this
      rw [this]; exact k) (cas_one (fun q hq => h q (List.mem_cons_of_mem _ hq)) k)
theorem g_tabV {cases : List (Int × Nat)} {dfl : Nat} (f : TB Y.2.1 pc cases dfl) (ha : rg a) (hm : (a, tgt) ∈ cases) (hu : ∀ q ∈ cases, q.1 = a → q.2 = tgt) (k : Go γ Ω Y Z cs ss S M tgt ls st) : Go γ Ω Y Z cs ss S M pc ls (vi a :: st) := g_tab f ha (fun h => absurd rfl (h (a, tgt) hm)) (cas_one hu k)
theorem g_tabD {cases : List (Int × Nat)} {dfl : Nat} (f : TB Y.2.1 pc cases dfl) (ha : rg a) (hu : ∀ q ∈ cases, q.1 ≠ a) (k : Go γ Ω Y Z cs ss S M dfl ls st) : Go γ Ω Y Z cs ss S M pc ls (vi a :: st) := g_tab f ha (fun _ => k) (cas_one (tgt := dfl) (fun q hq e => absurd e (hu q hq)) k)
theorem g_lkV {cases : List (Int × Nat)} {dfl : Nat} (f : LK Y.2.1 pc cases dfl) (ha : rg a) (hm : (a, tgt) ∈ cases) (hu : ∀ q ∈ cases, q.1 = a → q.2 = tgt) (k : Go γ Ω Y Z cs ss S M tgt ls st) : Go γ Ω Y Z cs ss S M pc ls (vi a :: st) := g_lk f ha (fun h => absurd rfl (h (a, tgt) hm)) (cas_one hu k)
theorem g_lkD {cases : List (Int × Nat)} {dfl : Nat} (f : LK Y.2.1 pc cases dfl) (ha : rg a) (hu : ∀ q ∈ cases, q.1 ≠ a) (k : Go γ Ω Y Z cs ss S M dfl ls st) : Go γ Ω Y Z cs ss S M pc ls (vi a :: st) := g_lk f ha (fun _ => k) (cas_one (tgt := dfl) (fun q hq e => absurd e (hu q hq)) k)
end SWV
def trM (M : Mm) (t : List Nat) : Prop := M 87 35 = (t.length : Int) ∧ t.length ≤ 20 ∧ ∀ i, i < t.length → M 109 i = (t.getD i 0 : Int)
def tfm (M M' : Mm) : Prop := (∀ k, k ≠ 87 → k ≠ 109 → M' k = M k) ∧ ∀ j, j ≠ 35 → M' 87 j = M 87 j
theorem tfm.tr {M M1 M2 : Mm} (h1 : tfm M M1) (h2 : tfm M1 M2) : tfm M M2 := ⟨fun k a b => (h2.1 k a b).trans (h1.1 k a b), fun j a => (h2.2 j a).trans (h1.2 j a)⟩
theorem trM_add {M : Mm} {t : List Nat} (h : trM M t) (hl : t.length < 20) (b : Nat) : trM (up (up M 109 t.length (b : Int)) 87 35 ((t.length : Int) + 1)) (t ++ [b]) := by
  obtain ⟨h1, h2, h3⟩ := h
  refine ⟨by rw [up_s, List.length_append]; simp, by rw [List.length_append]; simp; omega, fun i hi => ?_⟩
  rw [List.length_append] at hi
  simp only [List.length_cons, List.length_nil] at hi
  rw [up_row (by decide), List.getD_eq_getElem?_getD]
  by_cases q : i < t.length
  · rw [up_n (by omega), h3 i q, List.getElem?_append_left q, List.getD_eq_getElem?_getD]
  · obtain rfl : i = t.length := by omega
    rw [up_s]; simp
section LKE
variable (n v K : Nat) (x : Int)
theorem lkE0 : lkV n v 0 x = x + (n : Int) := by simp [lkV]
theorem lkE1 : lkV n v 1 x = lkV n v 0 x := by simp [lkV]
theorem lkE3 : lkV n v 3 x = lkV n v 0 x := by simp [lkV]
theorem lkE2 : lkV n v 2 x = lkV n v 0 (x * 3) := by simp [lkV]
theorem lkE4 : lkV n v 4 x = -(lkV n v 1 x) := by simp [lkV]
theorem lkE5 : lkV n v 5 x = lkV n v 2 x := by simp [lkV]
theorem lkE6 : lkV n v 6 x = bxor (lkV n v 3 x) (v : Int) := by simp [lkV]
theorem swE0 : swV n v K 0 x = lkV n v K x - (v : Int) := by simp [swV]
theorem swE1 : swV n v K 1 x = bxor (swV n v K 0 x) 6 := by simp [swV]
theorem swE2 : swV n v K 2 x = swV n v K 0 x := by simp [swV]
theorem swE3 : swV n v K 3 x = swV n v K 0 x := by simp [swV]
theorem swE4 : swV n v K 4 x = swV n v K 1 (x + 1) := by simp [swV]
theorem swE5 : swV n v K 5 x = swV n v K 2 x := by simp [swV]
theorem swE6 : swV n v K 6 x = swV n v K 3 x + lkV n v 3 2 := by rw [lkE3, lkE0]; simp [swV]
theorem tlE0 : tlV n v K 0 x = swV n v K K x * 2 := by simp [tlV]
theorem tlE1 : tlV n v K 1 x = tlV n v K 0 x := by simp [tlV]
theorem tlE2 : tlV n v K 2 x = tlV n v K 0 x := by simp [tlV]
theorem tlE3 : tlV n v K 3 x = tlV n v K 0 x + swV n v K K 1 := by simp [tlV]
theorem tlE4 : tlV n v K 4 x = tlV n v K 1 x := by simp [tlV]
theorem tlE5 : tlV n v K 5 x = tlV n v K 2 (x - (n : Int)) := by simp [tlV]
theorem tlE6 : tlV n v K 6 x = tlV n v K 3 x := by simp [tlV]
theorem lkT0 : lkT 0 = [10] := by decide
theorem lkT1 : lkT 1 = lkT 0 := by decide
theorem lkT3 : lkT 3 = lkT 0 := by decide
theorem lkT2 : lkT 2 = [30] ++ lkT 0 := by decide
theorem lkT4 : lkT 4 = [50] ++ lkT 1 := by decide
theorem lkT5 : lkT 5 = lkT 2 := by decide
theorem lkT6 : lkT 6 = [71] ++ lkT 3 := by decide
theorem swT0 : swT K 0 = [11] ++ lkT K := by simp [swT]
theorem swT1 : swT K 1 = [20] ++ swT K 0 := by simp [swT]
theorem swT2 : swT K 2 = swT K 0 := by simp [swT]
theorem swT3 : swT K 3 = swT K 0 := by simp [swT]
theorem swT4 : swT K 4 = [51] ++ swT K 1 := by simp [swT]
theorem swT5 : swT K 5 = swT K 2 := by simp [swT]
theorem swT6 : swT K 6 = [70] ++ (swT K 3 ++ lkT 3) := by rw [lkT3, lkT0]; simp [swT]
theorem tlT0 : tlT K 0 = [12] ++ swT K K := by simp [tlT]
theorem tlT1 : tlT K 1 = tlT K 0 := by simp [tlT]
theorem tlT2 : tlT K 2 = tlT K 0 := by simp [tlT]
theorem tlT3 : tlT K 3 = [40] ++ (tlT K 0 ++ swT K K) := by simp [tlT]
theorem tlT4 : tlT K 4 = tlT K 1 := by simp [tlT]
theorem tlT5 : tlT K 5 = [60] ++ tlT K 2 := by simp [tlT]
theorem tlT6 : tlT K 6 = tlT K 3 := by simp [tlT]
end LKE
