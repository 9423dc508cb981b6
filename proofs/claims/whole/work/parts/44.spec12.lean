/-! a new LAW -/
/-- where the references of a new LAW at q point -/
def newS (S : Sg) (q : Nat) : Nat → Nat → Int := up (up (up (up (up S.2 q 2 ((q + 1 : Nat) : Int)) q 3 ((q + 2 : Nat) : Int)) q 4 ((q + 3 : Nat) : Int)) q 6 ((q + 4 : Nat) : Int)) q 7 ((q + 5 : Nat) : Int)
theorem newS_row {S : Sg} {q k : Nat} (h : k ≠ q) : newS S q k = S.2 k := by
  unfold newS
  rw [up_row h, up_row h, up_row h, up_row h, up_row h]
theorem gr_lt : ∀ q ∈ grT, q.1 < 116 := by decide
theorem Gr.new {S : Sg} (h : Gr S) {hh : Nat} (hS : S.1 = 116 + 6 * hh) : Gr (S.1 + 6, newS S S.1) := by
  obtain ⟨h1, h2, h3, h4⟩ := h
  refine ⟨by show 116 ≤ S.1 + 6; omega, fun q hq => ?_, fun B hB => ?_, fun Λ hΛ hl => ?_⟩
  · have := gr_lt q hq
    show newS S S.1 q.1 q.2.1 = _
    rw [newS_row (by omega)]; exact h2 q hq
  · obtain ⟨g1, g2⟩ := h3 B hB
    have hB2 : B ≤ 61 := by rcases hB with rfl | rfl | rfl <;> decide
    refine ⟨by show newS S S.1 B 0 = _; rw [newS_row (by omega)]; exact g1, fun p hp => ?_⟩
    have hpe := (pe_in (B := B) hp).2.1
    exact ⟨by show newS S S.1 (B + 1) p = _; rw [newS_row (by omega)]; exact (g2 p hp).1, by show newS S S.1 (pe B p) 6 = _; rw [newS_row (by omega)]; exact (g2 p hp).2⟩
  · show newS S S.1 Λ 2 = _ ∧ newS S S.1 Λ 3 = _ ∧ newS S S.1 Λ 4 = _ ∧ newS S S.1 Λ 6 = _ ∧ newS S S.1 Λ 7 = _
    by_cases e : Λ = S.1
    · subst e
      unfold newS
      refine ⟨?_, ?_, ?_, ?_, ?_⟩
      · rw [up_n (by omega), up_n (by omega), up_n (by omega), up_n (by omega), up_s]
      · rw [up_n (by omega), up_n (by omega), up_n (by omega), up_s]
      · rw [up_n (by omega), up_n (by omega), up_s]
      · rw [up_n (by omega), up_s]
      · rw [up_s]
    · rw [newS_row e]
      have hl2 : Λ + 6 ≤ S.1 := by
        have : Λ + 6 ≤ S.1 + 6 := hl
        rcases hΛ with rfl | rfl | ⟨k, rfl⟩ <;> omega
      exact h4 Λ hΛ hl2
/-- the draft is another -/
theorem Gr.draft {S : Sg} (h : Gr S) (v : Int) : Gr (S.1, up S.2 1 3 v) := by
  obtain ⟨h1, h2, h3, h4⟩ := h
  have hn : ∀ q ∈ grT, ¬ (q.1 = 1 ∧ q.2.1 = 3) := by decide
  refine ⟨h1, fun q hq => ?_, fun B hB => ?_, fun Λ hΛ hl => ?_⟩
  · show up S.2 1 3 v q.1 q.2.1 = _
    rw [up_n (hn q hq)]; exact h2 q hq
  · obtain ⟨g1, g2⟩ := h3 B hB
    have hB2 : 25 ≤ B := by rcases hB with rfl | rfl | rfl <;> decide
    refine ⟨by show up S.2 1 3 v B 0 = _; rw [up_row (by omega)]; exact g1, fun p hp => ?_⟩
    have hpe := (pe_in (B := B) hp).1
    exact ⟨by show up S.2 1 3 v (B + 1) p = _; rw [up_row (by omega)]; exact (g2 p hp).1, by show up S.2 1 3 v (pe B p) 6 = _; rw [up_row (by omega)]; exact (g2 p hp).2⟩
  · have := law_1 hΛ
    show up S.2 1 3 v Λ 2 = _ ∧ up S.2 1 3 v Λ 3 = _ ∧ up S.2 1 3 v Λ 4 = _ ∧ up S.2 1 3 v Λ 6 = _ ∧ up S.2 1 3 v Λ 7 = _
    rw [up_row (by omega)]
    exact h4 Λ hΛ hl
/-- the TEXT's object and its draft Λ -/
def TxR (S : Sg) (M : Mm) (tx : List Nat) (Λ : Nat) : Prop := isLaw Λ ∧ Λ + 6 ≤ S.1 ∧ S.2 1 3 = (Λ : Int) ∧ okTx tx ∧ RepTx M tx
theorem pLs_ok {tx : List Nat} : ∀ k a L, a ≤ tx.length → (∀ q ∈ L, okC q) → (flatL L).length ≤ a → (pLs tx k a L).2.1 ≤ tx.length ∧ (pLs tx k a L).2.2.length ≤ L.length + k ∧ (∀ q ∈ (pLs tx k a L).2.2, okC q) ∧ (flatL (pLs tx k a L).2.2).length ≤ (pLs tx k a L).2.1 := by
  intro k
  induction k with
  | zero => intro a L h1 h2 h3; exact ⟨h1, Nat.le_refl _, h2, h3⟩
  | succ k ih =>
    intro a L h1 h2 h3
    rw [pLs]
    by_cases c1 : isC tx a 59 = true
    · rw [if_pos c1]
      have l1 := (isC_lt c1).1
      obtain ⟨p1, p2, p3, p4, p5, p6⟩ := pCl_ok (L := L) (a := a + 1) l1 h2 (by omega)
      by_cases c2 : (pCl tx (a + 1) L).1 = true
      · rw [if_pos c2]
        obtain ⟨i1, i2, i3, i4⟩ := ih _ _ p1 p4 p5
        exact ⟨i1, by omega, i3, i4⟩
      · rw [if_neg c2]
        exact ⟨p1, Nat.le_add_right _ _, h2, by show (flatL L).length ≤ (pCl tx (a + 1) L).2.1; omega⟩
    · rw [if_neg c1]; exact ⟨h1, Nat.le_add_right _ _, h2, h3⟩
/-- a LAW that is read is good -/
theorem lawOf_ok {tx : List Nat} (ht : okTx tx) {L : LawC} (h : lawOf tx = .inl L) : okL L := by
  obtain ⟨p1, p2, p3, p4, p5, p6⟩ := pCl_ok (tx := tx) (a := 0) (L := []) (Nat.zero_le _) (fun q h => by cases h) (Nat.le_refl _)
  unfold lawOf at h
  by_cases c1 : (pLaw tx).1 = true ∧ (pLaw tx).2.1 = tx.length
  · rw [if_pos c1] at h
    obtain rfl := Sum.inl.inj h
    have c2 := c1.1
    unfold pLaw at c2 ⊢
    by_cases c3 : (pCl tx 0 []).1 = true
    · rw [if_pos c3]
      obtain ⟨i1, i2, i3, i4⟩ := pLs_ok 9 (pCl tx 0 []).2.1 (pCl tx 0 []).2.2 p1 p4 p5
      have := ht.1
      have p3' : (pCl tx 0 []).2.2.length ≤ 0 + 1 := p3
      exact ⟨by omega, i3, by omega⟩
    · rw [if_neg c3] at c2; cases c2
  · rw [if_neg c1] at h; cases h
