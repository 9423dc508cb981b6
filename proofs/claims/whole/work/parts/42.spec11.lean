/-! CLAUSES and LAWS in the draft -/
theorem PG.cl {S : Sg} {M M0 : Mm} {tx : List Nat} {Λ : Nat} {L : LawC} {cs nw : List Int} {a : Nat} (h : PG S M tx Λ L cs a) (hl : L.length < 10) (hcs : cs = flatL L ++ nw) (w n : Nat) (e0 : M0 Λ 0 = ((if w = 2 then n else fineL L : Nat) : Int)) (er : ∀ k, k ≠ Λ → M0 k = M k) (ej : ∀ j, j ≠ 0 → M0 Λ j = M Λ j) : PG S (up (up (up (up M0 (Λ + 1) L.length (w : Int)) (Λ + 2) L.length (n : Int)) (Λ + 3) L.length (cs.length : Int)) Λ 1 ((L.length : Int) + 1)) tx Λ (L ++ [(w, n, nw)]) cs a := by
  obtain ⟨h1, h2, h3, h4, h5, ⟨h6, h7⟩, ⟨d1, d2, d3, d4, d5⟩, h8, h9, h10, h11⟩ := h
  have hl1 := law_1 h2
  have e : ∀ k, (k < Λ ∨ Λ + 4 ≤ k) → up (up (up (up M0 (Λ + 1) L.length (w : Int)) (Λ + 2) L.length (n : Int)) (Λ + 3) L.length (cs.length : Int)) Λ 1 ((L.length : Int) + 1) k = M k := fun k a => by
    rw [up_row (by omega), up_row (by omega), up_row (by omega), up_row (by omega)]; exact er k (by omega)
  have eΛ : ∀ j, j ≠ 1 → up (up (up (up M0 (Λ + 1) L.length (w : Int)) (Λ + 2) L.length (n : Int)) (Λ + 3) L.length (cs.length : Int)) Λ 1 ((L.length : Int) + 1) Λ j = M0 Λ j := fun j hj => by
    rw [up_n (by omega), up_row (by omega), up_row (by omega), up_row (by omega)]
  refine ⟨h1, h2, h3, h4, h5, ⟨by rw [e 1 (by omega)]; exact h6, fun j hj => by rw [e 2 (by omega)]; exact h7 j hj⟩, ⟨?_, ?_, ?_, fun i hi => ?_, fun i hi => by rw [e _ (by omega)]; exact d5 i hi⟩, by rw [e 1 (by omega)]; exact h8, h9, h10, by rw [List.length_append]; simp; omega⟩
  · rw [eΛ 0 (by decide), e0, fineL_app]
  · rw [up_s, List.length_append]; simp
  · rw [eΛ 5 (by decide), ej 5 (by decide)]; exact d3
  · rw [List.length_append] at hi
    simp only [List.length_cons, List.length_nil] at hi
    rw [up_row (show Λ + 1 ≠ Λ by omega), up_row (show Λ + 2 ≠ Λ by omega), up_row (show Λ + 3 ≠ Λ by omega), up_row (show Λ + 1 ≠ Λ + 3 by omega), up_row (show Λ + 1 ≠ Λ + 2 by omega), up_row (show Λ + 2 ≠ Λ + 3 by omega)]
    by_cases hh : i < L.length
    · obtain ⟨k1, k2, k3⟩ := d4 i hh
      have eq : (L ++ [(w, n, nw)])[i] = L[i] := List.getElem_append_left hh
      rw [eq, lenTo_app _ _ _ (by omega), up_n (by omega), up_n (by omega), up_row (show Λ + 2 ≠ Λ + 1 by omega), up_n (by omega), up_row (show Λ + 3 ≠ Λ + 2 by omega), up_row (show Λ + 3 ≠ Λ + 1 by omega), er _ (by omega), er _ (by omega), er _ (by omega)]
      exact ⟨k1, k2, k3⟩
    · have ei : i = L.length := by omega
      subst ei
      have eq : (L ++ [(w, n, nw)])[L.length] = (w, n, nw) := by simp
      have el : lenTo (L ++ [(w, n, nw)]) (L.length + 1) = cs.length := by
        have := lenTo_all (L ++ [(w, n, nw)])
        rw [List.length_append] at this
        simp only [List.length_cons, List.length_nil] at this
        rw [this, flatL_app, hcs]
      rw [eq, el, up_s, up_s, up_s]
      exact ⟨rfl, rfl, rfl⟩
theorem pW_ok (tx : List Nat) (a : Nat) (ha : a ≤ tx.length) : (pW tx a).1 ≤ 3 ∧ (pW tx a).2 ≤ tx.length ∧ a ≤ (pW tx a).2 := by
  unfold pW
  repeat' split
  all_goals simp only [isC, decide_eq_true_eq] at *
  all_goals (refine ⟨?_, ?_, ?_⟩ <;> (try dsimp only) <;> omega)
theorem pHead_ok (tx : List Nat) (a : Nat) (ha : a ≤ tx.length) : (pHead tx a).1 ≤ 3 ∧ (pHead tx a).2 ≤ tx.length ∧ a ≤ (pHead tx a).2 := by
  have h := pW_ok tx a ha
  unfold pHead
  split
  · exact h
  · split
    · rename_i h2
      have := (isC_lt h2).1
      exact ⟨h.1, by show (pW tx a).2 + 1 ≤ _; omega, by show a ≤ (pW tx a).2 + 1; omega⟩
    · exact ⟨Nat.le_refl _, h.2⟩
/-- a CLAUSE that is read is good -/
theorem pCl_ok {tx : List Nat} {a : Nat} {L : LawC} (ha : a ≤ tx.length) (hL : ∀ q ∈ L, okC q) (hf : (flatL L).length ≤ a) : (pCl tx a L).2.1 ≤ tx.length ∧ a ≤ (pCl tx a L).2.1 ∧ (pCl tx a L).2.2.length ≤ L.length + 1 ∧ (∀ q ∈ (pCl tx a L).2.2, okC q) ∧ (flatL (pCl tx a L).2.2).length ≤ (pCl tx a L).2.1 ∧ ((pCl tx a L).1 = false → (pCl tx a L).2.2 = L) := by
  obtain ⟨h1, h2, h3⟩ := pHead_ok tx a ha
  obtain ⟨n1, n2, n3, n4⟩ := pNum_ok tx (pHead tx a).2 h2
  have add : ∀ q, okC q → ∀ x ∈ L ++ [q], okC x := fun q hq x hx => by
    rcases List.mem_append.mp hx with h | h
    · exact hL x h
    · rw [List.mem_singleton.mp h]; exact hq
  unfold pCl
  by_cases c1 : (pHead tx a).1 = 3
  · rw [if_pos c1]; exact ⟨h2, h3, Nat.le_succ _, hL, by show (flatL L).length ≤ (pHead tx a).2; omega, fun _ => rfl⟩
  · rw [if_neg c1]
    by_cases c2 : (pNum tx (pHead tx a).2).1 = -1
    · rw [if_pos c2]; exact ⟨n1, by show a ≤ (pNum tx (pHead tx a).2).2; omega, Nat.le_succ _, hL, by show (flatL L).length ≤ (pNum tx (pHead tx a).2).2; omega, fun _ => rfl⟩
    · rw [if_neg c2]
      by_cases c3 : (pHead tx a).1 = 2
      · rw [if_pos c3]
        exact ⟨n1, by show a ≤ (pNum tx (pHead tx a).2).2; omega, by simp, add _ ⟨Nat.le_refl _, by show (pNum tx (pHead tx a).2).1.toNat ≤ 99; omega, fun h => absurd rfl h⟩, by rw [flatL_app]; simp; omega, fun h => by cases h⟩
      · rw [if_neg c3]
        by_cases c4 : isC tx (pNum tx (pHead tx a).2).2 32 = true
        · rw [if_pos c4]
          have l4 := (isC_lt c4).1
          obtain ⟨g1, g2, ⟨c, g3, g4, g5⟩, -⟩ := good_E (good_F tx 4) ((pNum tx (pHead tx a).2).2 + 1) [] l4
          change (pE tx 4 ((pNum tx (pHead tx a).2).2 + 1) []).2.1 ≤ _ at g1
          change _ ≤ (pE tx 4 ((pNum tx (pHead tx a).2).2 + 1) []).2.1 at g2
          change (pE tx 4 ((pNum tx (pHead tx a).2).2 + 1) []).2.2 = _ at g3
          change _ ≤ (pE tx 4 ((pNum tx (pHead tx a).2).2 + 1) []).2.1 at g4
          change (pE tx 4 ((pNum tx (pHead tx a).2).2 + 1) []).1 = true → _ at g5
          generalize pE tx 4 ((pNum tx (pHead tx a).2).2 + 1) [] = E at g1 g2 g3 g4 g5
          rw [List.nil_append] at g3
          by_cases c5 : E.1 = true
          · rw [if_pos c5]
            refine ⟨g1, by show a ≤ E.2.1; omega, by simp, add _ ⟨by show (pHead tx a).1 ≤ 2; omega, by show (pNum tx (pHead tx a).2).1.toNat ≤ 99; omega, fun _ => ?_⟩, ?_, fun h => by cases h⟩
            · show wfC E.2.2
              rw [g3]
              exact g5 c5 0 (by decide)
            · rw [flatL_app, List.length_append]
              show (flatL L).length + E.2.2.length ≤ E.2.1
              rw [g3]; omega
          · rw [if_neg c5]
            exact ⟨g1, by show a ≤ E.2.1; omega, Nat.le_succ _, hL, by show (flatL L).length ≤ E.2.1; omega, fun _ => rfl⟩
        · rw [if_neg c4]
          exact ⟨n1, by show a ≤ (pNum tx (pHead tx a).2).2; omega, Nat.le_succ _, hL, by show (flatL L).length ≤ (pNum tx (pHead tx a).2).2; omega, fun _ => rfl⟩
