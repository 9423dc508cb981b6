/-! the TEXT and the draft as the memory holds them -/
/-- draft Λ: CLAUSES L, codes cs -/
def RepD (M : Mm) (Λ : Nat) (L : LawC) (cs : List Int) : Prop := M Λ 0 = (fineL L : Int) ∧ M Λ 1 = (L.length : Int) ∧ M Λ 5 = (cs.length : Int) ∧ (∀ (n : Nat) (h : n < L.length), M (Λ + 1) n = (L[n].1 : Int) ∧ M (Λ + 2) n = (L[n].2.1 : Int) ∧ M (Λ + 3) n = (lenTo L (n + 1) : Int)) ∧ ∀ i, i < cs.length → M (Λ + 4) i = cs.getD i 0
def okTx (tx : List Nat) : Prop := tx.length ≤ 100 ∧ ∀ c ∈ tx, c ≤ 127
def RepTx (M : Mm) (tx : List Nat) : Prop := M 1 1 = (tx.length : Int) ∧ ∀ j, j < tx.length → M 2 j = (tx.getD j 0 : Int)
/-- a reading that stands at a -/
def PG (S : Sg) (M : Mm) (tx : List Nat) (Λ : Nat) (L : LawC) (cs : List Int) (a : Nat) : Prop := Gr S ∧ isLaw Λ ∧ Λ + 6 ≤ S.1 ∧ S.2 1 3 = (Λ : Int) ∧ okTx tx ∧ RepTx M tx ∧ RepD M Λ L cs ∧ M 1 2 = (a : Int) ∧ a ≤ tx.length ∧ cs.length ≤ a ∧ L.length ≤ 10
/-- only the draft and where the reading stands may change -/
def lfr (Λ : Nat) (M M' : Mm) : Prop := ∀ k, k ≠ 1 → ¬ (Λ ≤ k ∧ k < Λ + 6) → M' k = M k
theorem lfr.rf {Λ : Nat} {M : Mm} : lfr Λ M M := fun _ _ _ => rfl
theorem lfr.tr {Λ : Nat} {M M1 M2 : Mm} (h1 : lfr Λ M M1) (h2 : lfr Λ M1 M2) : lfr Λ M M2 := fun k a b => (h2 k a b).trans (h1 k a b)
theorem lfr.u1 {Λ : Nat} {M M1 : Mm} (h : lfr Λ M M1) (j : Nat) (v : Int) : lfr Λ M (up M1 1 j v) := fun k a b => by rw [up_row a]; exact h k a b
theorem lfr.uL {Λ : Nat} {M M1 : Mm} (h : lfr Λ M M1) {k : Nat} (hk : Λ ≤ k ∧ k < Λ + 6) (j : Nat) (v : Int) : lfr Λ M (up M1 k j v) := fun k2 a b => by rw [up_row (fun e => b (by omega))]; exact h k2 a b
theorem law_1 {Λ : Nat} (h : isLaw Λ) : 3 ≤ Λ := by rcases h with rfl | rfl | ⟨h, rfl⟩ <;> omega
theorem okTx_get {tx : List Nat} (h : okTx tx) {j : Nat} (hj : j < tx.length) : tx.getD j 0 ≤ 127 := by
  rw [List.getD_eq_getElem?_getD, List.getElem?_eq_getElem hj]
  exact h.2 _ (List.getElem_mem hj)
/-- one sign further -/
theorem PG.go {S : Sg} {M : Mm} {tx : List Nat} {Λ : Nat} {L : LawC} {cs : List Int} {a : Nat} (h : PG S M tx Λ L cs a) (ha : a < tx.length) : PG S (up M 1 2 ((a : Int) + 1)) tx Λ L cs (a + 1) := by
  obtain ⟨h1, h2, h3, h4, h5, ⟨h6, h7⟩, ⟨d1, d2, d3, d4, d5⟩, h8, h9, h10, h11⟩ := h
  have hl := law_1 h2
  refine ⟨h1, h2, h3, h4, h5, ⟨by rw [up_n (by omega)]; exact h6, fun j hj => by rw [up_row (by omega)]; exact h7 j hj⟩, ?_, by rw [up_s]; rfl, ha, by omega, h11⟩
  unfold RepD
  rw [up_row (show Λ ≠ 1 by omega), up_row (show Λ + 1 ≠ 1 by omega), up_row (show Λ + 2 ≠ 1 by omega), up_row (show Λ + 3 ≠ 1 by omega), up_row (show Λ + 4 ≠ 1 by omega)]
  exact ⟨d1, d2, d3, d4, d5⟩
/-- one code more -/
theorem PG.code {S : Sg} {M : Mm} {tx : List Nat} {Λ : Nat} {L : LawC} {cs : List Int} {a : Nat} (h : PG S M tx Λ L cs a) (hc : cs.length < a) (v : Int) : PG S (up (up M (Λ + 4) cs.length v) Λ 5 ((cs.length : Int) + 1)) tx Λ L (cs ++ [v]) a := by
  obtain ⟨h1, h2, h3, h4, h5, ⟨h6, h7⟩, ⟨d1, d2, d3, d4, d5⟩, h8, h9, h10, h11⟩ := h
  have hl := law_1 h2
  have e : ∀ k, k ≠ Λ → k ≠ Λ + 4 → up (up M (Λ + 4) cs.length v) Λ 5 ((cs.length : Int) + 1) k = M k := fun k a b => by rw [up_row a, up_row b]
  refine ⟨h1, h2, h3, h4, h5, ⟨by rw [e 1 (by omega) (by omega)]; exact h6, fun j hj => by rw [e 2 (by omega) (by omega)]; exact h7 j hj⟩, ⟨?_, ?_, ?_, ?_, fun i hi => ?_⟩, by rw [e 1 (by omega) (by omega)]; exact h8, h9, by rw [List.length_append]; simp; omega, h11⟩
  · rw [up_n (by omega), up_row (by omega)]; exact d1
  · rw [up_n (by omega), up_row (by omega)]; exact d2
  · rw [up_s, List.length_append]; simp
  · rw [e _ (by omega) (by omega), e _ (by omega) (by omega), e _ (by omega) (by omega)]; exact d4
  · rw [List.length_append] at hi
    simp only [List.length_cons, List.length_nil] at hi
    rw [up_row (by omega), List.getD_eq_getElem?_getD]
    by_cases hh : i < cs.length
    · rw [up_n (by omega), d5 i hh, List.getElem?_append_left hh, List.getD_eq_getElem?_getD]
    · have e : i = cs.length := by omega
      subst e
      rw [up_s]; simp
theorem fineL_app (L : LawC) (q : Nat × Nat × List Int) : fineL (L ++ [q]) = if q.1 = 2 then q.2.1 else fineL L := by
  unfold fineL
  rw [List.foldl_append]
  rfl
theorem lenTo_app (L : LawC) (q : Nat × Nat × List Int) (n : Nat) (h : n ≤ L.length) : lenTo (L ++ [q]) n = lenTo L n := by
  unfold lenTo
  rw [List.take_append_of_le_length h]
theorem flatL_app (L : LawC) (q : Nat × Nat × List Int) : flatL (L ++ [q]) = flatL L ++ q.2.2 := by
  unfold flatL
  rw [List.flatMap_append]
  simp
theorem lenTo_all (L : LawC) : lenTo L L.length = (flatL L).length := by
  unfold lenTo
  rw [List.take_length]
theorem flatL_at : ∀ (L : LawC) (n : Nat) (h : n < L.length) (i : Nat) (hi : i < L[n].2.2.length), (flatL L).getD (lenTo L n + i) 0 = L[n].2.2[i] := by
  intro L
  induction L with
  | nil => intro n h; exact absurd h (Nat.not_lt_zero _)
  | cons q t ih =>
    intro n h i hi
    have ef : flatL (q :: t) = q.2.2 ++ flatL t := by unfold flatL; rw [List.flatMap_cons]
    cases n with
    | zero =>
      have hi2 : i < q.2.2.length := hi
      rw [ef, List.getD_eq_getElem?_getD, show lenTo (q :: t) 0 + i = i by unfold lenTo flatL; simp, List.getElem?_append_left hi2, List.getElem?_eq_getElem hi2]
      rfl
    | succ n =>
      have hn : n < t.length := by simpa using h
      have el : lenTo (q :: t) (n + 1) = q.2.2.length + lenTo t n := by
        unfold lenTo
        rw [List.take_succ_cons]
        unfold flatL
        rw [List.flatMap_cons, List.length_append]
      have := ih n hn i hi
      rw [ef, el, List.getD_eq_getElem?_getD, List.getElem?_append_right (by omega), show q.2.2.length + lenTo t n + i - q.2.2.length = lenTo t n + i by omega, ← List.getD_eq_getElem?_getD]
      exact this
/-- a draft that is done is a LAW -/
theorem RepD.law {M : Mm} {Λ : Nat} {L : LawC} (h : RepD M Λ L (flatL L)) : RepLaw M Λ L := by
  obtain ⟨d1, d2, d3, d4, d5⟩ := h
  refine ⟨d1, d2, fun n hn => ?_⟩
  obtain ⟨e1, e2, e3⟩ := d4 n hn
  refine ⟨e1, e2, e3, fun i hi => ?_⟩
  have hl : lenTo L n + i < (flatL L).length := by
    have h1 := lenTo_S hn
    have h2 := lenTo_le (L := L) (n + 1)
    omega
  rw [d5 _ hl]
  exact flatL_at L n hn i hi
