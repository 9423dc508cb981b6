/-! the model's reader -/
/-- a reading that stands at a: codes cs from place b on, o signs are open -/
def PM (S : Sg) (M : Mm) (tx : List Nat) (b : Nat) (cs : List Int) (a : Nat) (o : Int) : Prop := Gr S ∧ okTx tx ∧ M 87 9 = (tx.length : Int) ∧ (∀ j, j < tx.length → M 94 j = (tx.getD j 0 : Int)) ∧ M 87 11 = (a : Int) ∧ a ≤ tx.length ∧ M 87 14 = o ∧ M 87 23 = ((b + cs.length : Nat) : Int) ∧ cs.length ≤ a ∧ b ≤ 600 ∧ ∀ i, i < cs.length → M 100 (b + i) = mcode (cs.getD i 0)
def pfr (b : Nat) (M M' : Mm) : Prop := (∀ k, k ≠ 87 → k ≠ 100 → M' k = M k) ∧ (∀ j, j < b → M' 100 j = M 100 j) ∧ ∀ j, j ≠ 11 → j ≠ 12 → j ≠ 13 → j ≠ 14 → j ≠ 23 → M' 87 j = M 87 j
theorem pfr.rf {b : Nat} {M : Mm} : pfr b M M := ⟨fun _ _ _ => rfl, fun _ _ => rfl, fun _ _ _ _ _ _ => rfl⟩
theorem pfr.tr {b : Nat} {M M1 M2 : Mm} (h1 : pfr b M M1) (h2 : pfr b M1 M2) : pfr b M M2 := ⟨fun k a c => (h2.1 k a c).trans (h1.1 k a c), fun j h => (h2.2.1 j h).trans (h1.2.1 j h), fun j a c d e g => (h2.2.2 j a c d e g).trans (h1.2.2 j a c d e g)⟩
theorem pfr.u0 {b : Nat} {M M1 : Mm} (h : pfr b M M1) {j : Nat} {v : Int} (hj : j = 11 ∨ j = 12 ∨ j = 13 ∨ j = 14 ∨ j = 23) : pfr b M (up M1 87 j v) := ⟨fun k a c => by rw [up_row a]; exact h.1 k a c, fun i hi => by rw [up_row (by decide)]; exact h.2.1 i hi, fun i a c d e g => by rw [up_n (by omega)]; exact h.2.2 i a c d e g⟩
/-- at, value, digits -/
theorem PM.at {S : Sg} {M : Mm} {tx : List Nat} {b a : Nat} {o : Int} {cs : List Int} (h : PM S M tx b cs a o) {M' : Mm} {a2 : Nat} (ha : a ≤ a2 ∧ a2 ≤ tx.length) (e : ∀ k, k ≠ 87 → M' k = M k) (e2 : ∀ j, j ≠ 11 → j ≠ 12 → j ≠ 13 → M' 87 j = M 87 j) (e3 : M' 87 11 = (a2 : Int)) : PM S M' tx b cs a2 o ∧ pfr b M M' := by
  obtain ⟨h1, h2, h3, h4, h5, h6, h7, h8, h9, h10, h11⟩ := h
  exact ⟨⟨h1, h2, by rw [e2 9 (by decide) (by decide) (by decide)]; exact h3, fun j hj => by rw [e 94 (by decide)]; exact h4 j hj, e3, ha.2, by rw [e2 14 (by decide) (by decide) (by decide)]; exact h7, by rw [e2 23 (by decide) (by decide) (by decide)]; exact h8, by omega, h10, fun i hi => by rw [e 100 (by decide)]; exact h11 i hi⟩, fun k a _ => e k a, fun j _ => by rw [e 100 (by decide)], fun j a c d _ _ => e2 j a c d⟩
theorem PM.u {S : Sg} {M : Mm} {tx : List Nat} {b a : Nat} {o : Int} {cs : List Int} (h : PM S M tx b cs a o) {j : Nat} (hj : j = 12 ∨ j = 13) (v : Int) : PM S (up M 87 j v) tx b cs a o ∧ pfr b M (up M 87 j v) := h.at ⟨Nat.le_refl _, h.2.2.2.2.2.1⟩ (fun k hk => up_row hk) (fun i a c d => up_n (by omega)) (by rw [up_n (by omega)]; exact h.2.2.2.2.1)
theorem PM.st {S : Sg} {M : Mm} {tx : List Nat} {b a : Nat} {o : Int} {cs : List Int} (h : PM S M tx b cs a o) (ha : a + 1 ≤ tx.length) : PM S (up M 87 11 ((a : Int) + 1)) tx b cs (a + 1) o ∧ pfr b M (up M 87 11 ((a : Int) + 1)) := h.at ⟨Nat.le_succ _, ha⟩ (fun k hk => up_row hk) (fun i a c d => up_n (by omega)) (by rw [up_s]; omega)
theorem PM.op {S : Sg} {M : Mm} {tx : List Nat} {b a : Nat} {o o2 : Int} {cs : List Int} (h : PM S M tx b cs a o) {v : Int} (hv : v = o2) : PM S (up M 87 14 v) tx b cs a o2 ∧ pfr b M (up M 87 14 v) := by
  subst hv
  obtain ⟨h1, h2, h3, h4, h5, h6, h7, h8, h9, h10, h11⟩ := h
  exact ⟨⟨h1, h2, by rw [up_n (by omega)]; exact h3, fun j hj => by rw [up_row (by decide)]; exact h4 j hj, by rw [up_n (by omega)]; exact h5, h6, up_s _ _ _ _, by rw [up_n (by omega)]; exact h8, h9, h10, fun i hi => by rw [up_row (by decide)]; exact h11 i hi⟩, pfr.rf.u0 (by omega)⟩
theorem PM.code {S : Sg} {M : Mm} {tx : List Nat} {b a : Nat} {o : Int} {cs : List Int} (h : PM S M tx b cs a o) (hc : cs.length < a) {v c : Int} (hv : v = mcode c) : PM S (up (up M 87 23 (((b + cs.length : Nat) : Int) + 1)) 100 (b + cs.length) v) tx b (cs ++ [c]) a o ∧ pfr b M (up (up M 87 23 (((b + cs.length : Nat) : Int) + 1)) 100 (b + cs.length) v) := by
  obtain ⟨h1, h2, h3, h4, h5, h6, h7, h8, h9, h10, h11⟩ := h
  refine ⟨⟨h1, h2, by rw [up_row (by decide), up_n (by omega)]; exact h3, fun j hj => by rw [up_row (by decide), up_row (by decide)]; exact h4 j hj, by rw [up_row (by decide), up_n (by omega)]; exact h5, h6, by rw [up_row (by decide), up_n (by omega)]; exact h7, by rw [up_row (by decide), up_s, List.length_append]; simp; omega, by rw [List.length_append]; simp; omega, h10, fun i hi => ?_⟩, fun k x y => by rw [up_row y, up_row x], fun j hj => by rw [up_n (by omega), up_row (by decide)], fun j p q r s t => by rw [up_row (by decide), up_n (by omega)]⟩
  rw [List.length_append] at hi
  simp only [List.length_cons, List.length_nil] at hi
  rw [List.getD_eq_getElem?_getD]
  by_cases q : i < cs.length
  · rw [up_n (by omega), up_row (by decide), h11 i q, List.getElem?_append_left q, List.getD_eq_getElem?_getD]
  · obtain rfl : i = cs.length := by omega
    rw [up_s, hv]; simp
theorem posN_1 : ∀ c, c < 128 → posN 1 c = if 48 ≤ c ∧ c ≤ 57 then (c : Int) - 48 else -1 := by decide +kernel
theorem posN_z : posN 2 0 = -1 ∧ posN 3 0 = -1 := by decide +kernel
theorem posN_m (c : Nat) : posN 7 c = posN 2 c ∧ posN 8 c = posN 3 c := ⟨rfl, rfl⟩
theorem isC_at {tx : List Nat} {a c : Nat} (h : a < tx.length) : isC tx a c = decide (tx.getD a 0 = c) := by
  unfold isC
  rw [decide_eq_decide]
  exact ⟨fun q => q.2, fun q => ⟨h, q⟩⟩
theorem isC_end {tx : List Nat} {a c : Nat} (h : tx.length ≤ a) : isC tx a c = false := decide_eq_false (by omega)
theorem isC_two {tx : List Nat} {a c d : Nat} (h : isC tx a c = true) (hd : c ≠ d) : isC tx a d = false := by
  obtain ⟨h1, h2⟩ := isC_lt h
  exact decide_eq_false (by omega)
theorem tx_le {tx : List Nat} (h : okTx tx) (a : Nat) : tx.getD a 0 ≤ 127 := by
  rw [List.getD_eq_getElem?_getD]
  by_cases q : a < tx.length
  · rw [List.getElem?_eq_getElem q]
    exact h.2 _ (List.getElem_mem q)
  · rw [List.getElem?_eq_none (by omega)]
    exact Nat.zero_le _
/-- a String's signs one behind another -/
def allS (tx : List Nat) (i : Nat) : Nat → Nat → Nat → Bool × Nat
  | 0, _, a => (true, a)
  | k + 1, n, a => if isC tx a ((sL i).getD n 0).toNat = true then allS tx i k (n + 1) (a + 1) else (false, a)
/-- the word of a CLAUSE as the model tells it -/
def wM (tx : List Nat) (a : Nat) : Int := if isC tx a 110 = true then 1 else if isC tx a 102 = true then (if isC tx (a + 1) 105 = true then 2 else 0) else -1
theorem allS4 (tx : List Nat) (a : Nat) : allS tx 4 4 0 a = if isC tx a 102 = true then (if isC tx (a + 1) 97 = true then (if isC tx (a + 2) 114 = true then (if isC tx (a + 3) 32 = true then (true, a + 4) else (false, a + 3)) else (false, a + 2)) else (false, a + 1)) else (false, a) := rfl
theorem allS5 (tx : List Nat) (a : Nat) : allS tx 5 5 0 a = if isC tx a 110 = true then (if isC tx (a + 1) 101 = true then (if isC tx (a + 2) 97 = true then (if isC tx (a + 3) 114 = true then (if isC tx (a + 4) 32 = true then (true, a + 5) else (false, a + 4)) else (false, a + 3)) else (false, a + 2)) else (false, a + 1)) else (false, a) := rfl
theorem allS6 (tx : List Nat) (a : Nat) : allS tx 6 5 0 a = if isC tx a 102 = true then (if isC tx (a + 1) 105 = true then (if isC tx (a + 2) 110 = true then (if isC tx (a + 3) 101 = true then (if isC tx (a + 4) 32 = true then (true, a + 5) else (false, a + 4)) else (false, a + 3)) else (false, a + 2)) else (false, a + 1)) else (false, a) := rfl
theorem head_n {tx : List Nat} {a : Nat} (h1 : isC tx a 110 = true) : pHead tx a = if (allS tx 5 5 0 a).1 = true then (1, (allS tx 5 5 0 a).2) else (3, (allS tx 5 5 0 a).2) := by
  rw [allS5, if_pos h1]
  unfold pHead pW
  rw [if_pos h1]
  generalize isC tx (a + 1) 101 = b1
  generalize isC tx (a + 2) 97 = b2
  generalize isC tx (a + 3) 114 = b3
  cases b1
  · rfl
  cases b2
  · rfl
  cases b3
  · rfl
  show (if isC tx (a + 4) 32 = true then (1, a + 4 + 1) else (3, a + 4)) = _
  generalize isC tx (a + 4) 32 = b4
  cases b4 <;> rfl
theorem head_i {tx : List Nat} {a : Nat} (h0 : isC tx a 110 = false) (h1 : isC tx a 102 = true) (h2 : isC tx (a + 1) 105 = true) : pHead tx a = if (allS tx 6 5 0 a).1 = true then (2, (allS tx 6 5 0 a).2) else (3, (allS tx 6 5 0 a).2) := by
  rw [allS6, if_pos h1, if_pos h2]
  have e : pW tx a = (if isC tx (a + 2) 110 = true then (if isC tx (a + 3) 101 = true then (2, a + 4) else (3, a + 3)) else (3, a + 2)) := by
    unfold pW
    rw [if_neg (show ¬ isC tx a 110 = true by rw [h0]; decide), if_pos h1, if_pos h2]
  unfold pHead
  rw [e]
  generalize isC tx (a + 2) 110 = b2
  generalize isC tx (a + 3) 101 = b3
  cases b2
  · rfl
  cases b3
  · rfl
  show (if isC tx (a + 4) 32 = true then (2, a + 4 + 1) else (3, a + 4)) = _
  generalize isC tx (a + 4) 32 = b4
  cases b4 <;> rfl
theorem head_a {tx : List Nat} {a : Nat} (h0 : isC tx a 110 = false) (h1 : isC tx a 102 = true) (h2 : isC tx (a + 1) 105 = false) : pHead tx a = if (allS tx 4 4 0 a).1 = true then (0, (allS tx 4 4 0 a).2) else (3, (allS tx 4 4 0 a).2) := by
  rw [allS4, if_pos h1]
  have e : pW tx a = (if isC tx (a + 1) 97 = true then (if isC tx (a + 2) 114 = true then (0, a + 3) else (3, a + 2)) else (3, a + 1)) := by
    unfold pW
    rw [if_neg (show ¬ isC tx a 110 = true by rw [h0]; decide), if_pos h1, if_neg (show ¬ isC tx (a + 1) 105 = true by rw [h2]; decide)]
  unfold pHead
  rw [e]
  generalize isC tx (a + 1) 97 = b2
  generalize isC tx (a + 2) 114 = b3
  cases b2
  · rfl
  cases b3
  · rfl
  show (if isC tx (a + 3) 32 = true then (0, a + 3 + 1) else (3, a + 3)) = _
  generalize isC tx (a + 3) 32 = b4
  cases b4 <;> rfl
theorem head_x {tx : List Nat} {a : Nat} (h0 : isC tx a 110 = false) (h1 : isC tx a 102 = false) : pHead tx a = (3, a) := by
  have e : pW tx a = (3, a) := by
    unfold pW
    rw [if_neg (show ¬ isC tx a 110 = true by rw [h0]; decide), if_neg (show ¬ isC tx a 102 = true by rw [h1]; decide)]
  unfold pHead
  rw [e]
  rfl
