/-! the model's CLAUSES and LAWS -/
def cfr (i b : Nat) (M M' : Mm) : Prop := (∀ k, k ≠ 87 → (k < 96 ∨ 101 ≤ k) → M' k = M k) ∧ (∀ k, 96 ≤ k → k ≤ 99 → ∀ j, j ≠ i → M' k j = M k j) ∧ (∀ j, j < b → M' 100 j = M 100 j) ∧ ∀ j, j ≠ 11 → j ≠ 12 → j ≠ 13 → j ≠ 14 → j ≠ 23 → M' 87 j = M 87 j
theorem pfr.cfr {i b : Nat} {M M' : Mm} (h : pfr b M M') : cfr i b M M' := ⟨fun k a c => h.1 k a (by omega), fun k a c j _ => by rw [h.1 k (by omega) (by omega)], h.2.1, h.2.2⟩
theorem cfr.tr {i b : Nat} {M M1 M2 : Mm} (h1 : cfr i b M M1) (h2 : cfr i b M1 M2) : cfr i b M M2 := ⟨fun k a c => (h2.1 k a c).trans (h1.1 k a c), fun k a c j d => (h2.2.1 k a c j d).trans (h1.2.1 k a c j d), fun j h => (h2.2.2.1 j h).trans (h1.2.2.1 j h), fun j a c d e g => (h2.2.2.2 j a c d e g).trans (h1.2.2.2 j a c d e g)⟩
theorem cfr.upR {i b : Nat} {M M1 : Mm} (h : cfr i b M M1) {k : Nat} {v : Int} (hk : 96 ≤ k ∧ k ≤ 99) : cfr i b M (up M1 k i v) := ⟨fun r a c => by rw [up_row (by omega)]; exact h.1 r a c, fun r a c j d => by rw [up_n (by omega)]; exact h.2.1 r a c j d, fun j hj => by rw [up_row (by omega)]; exact h.2.2.1 j hj, fun j a c d e g => by rw [up_row (by omega)]; exact h.2.2.2 j a c d e g⟩
theorem PM.row {S : Sg} {M : Mm} {tx : List Nat} {b a : Nat} {o : Int} {cs : List Int} (h : PM S M tx b cs a o) {k i : Nat} {v : Int} (hk : 96 ≤ k ∧ k ≤ 99) : PM S (up M k i v) tx b cs a o := by
  obtain ⟨h1, h2, h3, h4, h5, h6, h7, h8, h9, h10, h11⟩ := h
  exact ⟨h1, h2, by rw [up_row (by omega)]; exact h3, fun j hj => by rw [up_row (by omega)]; exact h4 j hj, by rw [up_row (by omega)]; exact h5, h6, by rw [up_row (by omega)]; exact h7, by rw [up_row (by omega)]; exact h8, h9, h10, fun i hi => by rw [up_row (by omega)]; exact h11 i hi⟩
/-- CLAUSE i of the table -/
def entM (M : Mm) (i : Nat) (q : Nat × Nat × List Int) (bg : Nat) : Prop := M 96 i = (q.1 : Int) ∧ M 97 i = (q.2.1 : Int) ∧ M 98 i = (bg : Int) ∧ M 99 i = (q.2.2.length : Int)
def nxt (tx : List Nat) (k a : Nat) (L : LawC) : CR := if (pCl tx a L).1 = true then pLs tx k (pCl tx a L).2.1 (pCl tx a L).2.2 else (false, (pCl tx a L).2.1, L)
theorem nxt_law (tx : List Nat) : nxt tx 9 0 [] = pLaw tx := rfl
theorem pLs_S {tx : List Nat} {k a : Nat} {L : LawC} (h : isC tx a 59 = true) : pLs tx (k + 1) a L = nxt tx k (a + 1) L := by rw [pLs, if_pos h]; rfl
theorem pLs_N {tx : List Nat} {k a : Nat} {L : LawC} (h : isC tx a 59 = false) : pLs tx k a L = (true, a, L) := by
  cases k with
  | zero => rfl
  | succ k => rw [pLs, if_neg (by rw [h]; decide)]
theorem lenTo_lt {L : LawC} {n : Nat} (h : n < L.length) : lenTo L n + L[n].2.2.length ≤ (flatL L).length := by
  have h1 := lenTo_S h
  have h2 := lenTo_le (L := L) (n + 1)
  omega
/-- codes and entries make a LAW -/
theorem LTat_mk {M : Mm} {h b : Nat} {L : LawC} (h95 : M 95 h = (L.length : Int)) (he : ∀ (n : Nat) (hn : n < L.length), entM M (10 * h + n) L[n] (b + lenTo L n)) (hc : ∀ i, i < (flatL L).length → M 100 (b + i) = mcode ((flatL L).getD i 0)) : LTat M (b + (flatL L).length) h L := by
  refine ⟨h95, fun n hn => ?_⟩
  obtain ⟨e1, e2, e3, e4⟩ := he n hn
  have hl := lenTo_lt hn
  refine ⟨e1, e2, b + lenTo L n, e3, e4, by omega, fun i hi => ?_⟩
  rw [Nat.add_assoc, hc _ (by omega), flatL_at L n hn i hi]
theorem LTat.le {M : Mm} {K K' h : Nat} {L : LawC} (H : LTat M K h L) (hK : K ≤ K') : LTat M K' h L := by
  refine ⟨H.1, fun n hn => ?_⟩
  obtain ⟨e1, e2, b, e3, e4, e5, e6⟩ := H.2 n hn
  exact ⟨e1, e2, b, e3, e4, by omega, e6⟩
/-- an older LAW stays -/
theorem LTat.old {M M' : Mm} {K h w : Nat} {L : LawC} (H : LTat M K h L) (hw : h < w) (hL : L.length ≤ 10) (e95 : M' 95 h = M 95 h) (e : ∀ k, 96 ≤ k → k ≤ 99 → ∀ j, j < 10 * w → M' k j = M k j) (ec : ∀ j, j < K → M' 100 j = M 100 j) : LTat M' K h L := by
  refine ⟨e95.trans H.1, fun n hn => ?_⟩
  obtain ⟨e1, e2, b, e3, e4, e5, e6⟩ := H.2 n hn
  exact ⟨by rw [e 96 (by decide) (by decide) _ (by omega)]; exact e1, by rw [e 97 (by decide) (by decide) _ (by omega)]; exact e2, b, by rw [e 98 (by decide) (by decide) _ (by omega)]; exact e3, by rw [e 99 (by decide) (by decide) _ (by omega)]; exact e4, e5, fun i hi => by rw [ec _ (by omega)]; exact e6 i hi⟩
theorem snp_cfr {M M' : Mm} (e : ∀ k, k ≠ 87 → (k < 94 ∨ 101 ≤ k) → M' k = M k) (e2 : ∀ j, (j = 0 ∨ j = 7 ∨ j = 8 ∨ j = 25 ∨ j = 29 ∨ j = 32 ∨ j = 16) → M' 87 j = M 87 j) (i : Nat) (hi : i < 112) : snp M' i = snp M i := by
  have a := cel_row i hi
  have b := cel_87 i hi
  unfold snp
  by_cases c : (cel i).1 = 87
  · rw [c]; exact e2 _ (b c)
  · rw [e _ c (by omega)]
/-- a refused statute -/
theorem RepM.stat0 {M M' : Mm} {s : Wt} (h : RepM M s) (hO : okW s) {K : Nat} (hK : M 87 23 = (K : Int)) (e : ∀ k, k ≠ 87 → (k < 96 ∨ 101 ≤ k) → M' k = M k) (er : ∀ k, 96 ≤ k → k ≤ 99 → ∀ j, j < 10 * wl s → M' k j = M k j) (ec : ∀ j, j < K → M' 100 j = M 100 j) (e2 : ∀ j, j ≠ 9 → j ≠ 11 → j ≠ 12 → j ≠ 13 → j ≠ 14 → M' 87 j = M 87 j) (e9 : M' 87 9 = 0) : RepM M' (putX s []) ∧ mdl M M' := by
  obtain ⟨Lt, K2, ⟨g2, g1⟩, g3, g4, h4, h5, h6, -⟩ := id h
  obtain rfl : K2 = K := by omega
  have e8 : ∀ j, (j = 0 ∨ j = 7 ∨ j = 8 ∨ j = 25 ∨ j = 29 ∨ j = 32 ∨ j = 16) → M' 87 j = M 87 j := fun j hj => e2 j (by omega) (by omega) (by omega) (by omega) (by omega)
  refine ⟨⟨Lt, K2, ⟨g2, g1⟩, by rw [e2 23 (by decide) (by decide) (by decide) (by decide) (by decide)]; exact g3, by rw [e2 15 (by decide) (by decide) (by decide) (by decide) (by decide)]; exact g4, fun h hh => (h4 h hh).old hh (g1 h) (by rw [e 95 (by decide) (by decide)]) er ec, h5.cong hO.1.len (snp_cfr (fun k a b => e k a (by omega)) e8), ?_, ⟨e9, fun j hj => absurd hj (Nat.not_lt_zero _)⟩, ?_, fun i hi => ?_⟩, fun k hk => e k (by omega) (by omega)⟩
  · show keptM M' _ (wk s)
    unfold keptM at h6 ⊢
    rw [e2 37 (by decide) (by decide) (by decide) (by decide) (by decide), e 110 (by decide) (by decide)]
    exact h6
  · show M' 87 35 = ((wr s).length : Int) ∧ _
    rw [e2 35 (by decide) (by decide) (by decide) (by decide) (by decide), e 109 (by decide) (by decide)]; exact h.tr
  · rw [e 113 (by decide) (by decide), e 114 (by decide) (by decide), e 115 (by decide) (by decide)]; exact h.tp i hi
/-- a statute that is taken -/
theorem RepM.stat1 {M M' : Mm} {s : Wt} (h : RepM M s) (hO : okW s) (hl6 : wl s < 6) {K : Nat} {L : LawC} (hL : okL L) (hK : M 87 23 = (K : Int)) (e : ∀ k, k ≠ 87 → (k < 95 ∨ 101 ≤ k) → M' k = M k) (e95 : ∀ j, j ≠ wl s → M' 95 j = M 95 j) (er : ∀ k, 96 ≤ k → k ≤ 99 → ∀ j, j < 10 * wl s → M' k j = M k j) (ec : ∀ j, j < K → M' 100 j = M 100 j) (e2 : ∀ j, j ≠ 9 → j ≠ 11 → j ≠ 12 → j ≠ 13 → j ≠ 14 → j ≠ 15 → j ≠ 16 → j ≠ 23 → M' 87 j = M 87 j) (e9 : M' 87 9 = 0) (e15 : M' 87 15 = (wl s : Int) + 1) (e16 : M' 87 16 = (wl s : Int)) (e23 : M' 87 23 = ((K + (flatL L).length : Nat) : Int)) (hT : LTat M' (K + (flatL L).length) (wl s) L) : RepM M' (putL s L) ∧ mdl M M' := by
  obtain ⟨Lt, K2, ⟨g2, g1⟩, g3, g4, h4, h5, h6, -⟩ := id h
  obtain rfl : K2 = K := by omega
  have hLl := hL.2.2
  have hlw : ∀ x L', lwP Lt (wl s) x L' → lwP (fun j => if j = wl s then L else Lt j) (wl s + 1) x L' := fun x L' h => by
    rcases h with h | ⟨j, a, b, c⟩
    · exact Or.inl h
    · refine Or.inr ⟨j, by omega, b, ?_⟩
      dsimp only
      rw [if_neg (by omega)]; exact c
  obtain ⟨d1, d2, d3, d4, ⟨a1, a2⟩, ⟨b1, b2⟩, ⟨c1, c2⟩, d8⟩ := h5.dr hO.1.len
  have er' : ∀ k, k ≠ 87 → (k < 95 ∨ 101 ≤ k) → M' k = M k := e
  have e8 : ∀ j, (j = 0 ∨ j = 7 ∨ j = 8 ∨ j = 25 ∨ j = 29 ∨ j = 32) → M' 87 j = M 87 j := fun j hj => e2 j (by omega) (by omega) (by omega) (by omega) (by omega) (by omega) (by omega) (by omega)
  refine ⟨⟨fun j => if j = wl s then L else Lt j, K2 + (flatL L).length, ⟨by show _ ≤ 100 * (wl s + 1); omega, fun h => by dsimp only; split; exact hL.1; exact g1 h⟩, e23, by rw [e15]; show (wl s : Int) + 1 = ((wl s + 1 : Nat) : Int); omega, fun h hh => ?_, DR.sr ⟨by rw [e8 0 (by omega)]; exact d1, by rw [e8 7 (by omega)]; exact d2, by rw [e8 8 (by omega)]; exact d3, fun p hp => ?_, ⟨by rw [e8 25 (by omega)]; exact a1, fun i hi => by rw [e 102 (by decide) (by decide), e 103 (by decide) (by decide), e 104 (by decide) (by decide)]; exact a2 i hi⟩, ⟨by rw [e8 29 (by omega)]; exact b1, fun i hi => by rw [e 105 (by decide) (by decide), e 106 (by decide) (by decide)]; exact b2 i hi⟩, ⟨by rw [e8 32 (by omega)]; exact c1, fun i hi => by rw [e 107 (by decide) (by decide), e 108 (by decide) (by decide)]; exact c2 i hi⟩, Or.inr ⟨wl s, Nat.lt_succ_self _, e16, (if_pos rfl).symm⟩⟩ hO.1.len, ?_, ⟨e9, fun j hj => absurd hj (Nat.not_lt_zero _)⟩, ?_, fun i hi => ?_⟩, fun k hk => e k (by omega) (by omega)⟩
  · have hh2 : h < wl s + 1 := hh
    dsimp only
    by_cases q : h = wl s
    · subst q; rw [if_pos rfl]; exact hT
    · rw [if_neg q]
      exact ((h4 h (by omega)).old (by omega) (g1 h) (e95 h q) er ec).le (by omega)
  · have := d4 p hp
    unfold MP at this ⊢
    rw [e 88 (by decide) (by decide), e 89 (by decide) (by decide), e 90 (by decide) (by decide), e 91 (by decide) (by decide), e 92 (by decide) (by decide), e 93 (by decide) (by decide)]
    exact this
  · show keptM M' _ (wk s)
    unfold keptM at h6 ⊢
    rw [e2 37 (by decide) (by decide) (by decide) (by decide) (by decide) (by decide) (by decide) (by decide), e 110 (by decide) (by decide)]
    cases hk : wk s with
    | none => rw [hk] at h6; exact h6
    | some k0 =>
      rw [hk] at h6
      obtain ⟨u1, u2, u3, u4, u5, u6, u7, u8, u9⟩ := h6
      exact ⟨u1, u2, u3, u4, u5, u6, u7, u8, hlw _ _ u9⟩
  · show M' 87 35 = ((wr s).length : Int) ∧ _
    rw [e2 35 (by decide) (by decide) (by decide) (by decide) (by decide) (by decide) (by decide) (by decide), e 109 (by decide) (by decide)]; exact h.tr
  · rw [e 113 (by decide) (by decide), e 114 (by decide) (by decide), e 115 (by decide) (by decide)]; exact h.tp i hi
