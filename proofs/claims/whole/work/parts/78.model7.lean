/-! the model's tapes, image, trace -/
theorem RepM.tape {M M' : Mm} {s : Wt} (h : RepM M s) (hO : okW s) {i : Nat} {q : Tp} (e : ∀ k, k ≠ 113 → k ≠ 114 → k ≠ 115 → M' k = M k) (hT : M' 113 i = q.1 ∧ M' 114 i = (q.2.1 : Int) ∧ ∀ j, j < 60 → M' 115 (60 * i + j) = q.2.2 j) (oth : ∀ l, l < 6 → l ≠ i → M' 113 l = M 113 l ∧ M' 114 l = M 114 l ∧ ∀ j, j < 60 → M' 115 (60 * l + j) = M 115 (60 * l + j)) : RepM M' (putK s i q) ∧ mdl M M' := by
  refine h.oth (s' := putK s i q) hO (fun k a b c d => e k (by omega) (by omega) (by omega)) (fun j a b => by rw [e 87 (by decide) (by decide) (by decide)]) ⟨rfl, rfl, rfl⟩ ?_ ?_ (fun l hl => ?_)
  · rw [e 87 (by decide) (by decide) (by decide), e 94 (by decide) (by decide) (by decide)]; exact h.tx
  · rw [e 87 (by decide) (by decide) (by decide), e 109 (by decide) (by decide) (by decide)]; exact h.tr
  · by_cases hli : l = i
    · subst hli
      have : wp (putK s l q) l = q := if_pos rfl
      rw [this]; exact hT
    · have : wp (putK s i q) l = wp s l := if_neg hli
      rw [this]
      obtain ⟨o1, o2, o3⟩ := oth l hl hli
      obtain ⟨t1, t2, t3⟩ := h.tp l hl
      exact ⟨o1.trans t1, o2.trans t2, fun j hj => (o3 j hj).trans (t3 j hj)⟩
theorem snp_37 {M : Mm} {v : Int} (i : Nat) (hi : i < 112) : snp (up M 87 37 v) i = snp M i := by
  have := cel_87 i hi
  unfold snp
  rw [up_n (by omega)]
theorem RepM.image {M M' : Mm} {s : Wt} (h : RepM M s) (hO : okW s) (e : ∀ k, k ≠ 110 → M' k = up M 87 37 1 k) (hk : ∀ j, j < 112 → M' 110 j = snp (up M 87 37 1) j) : RepM M' (putKp s (some (wn s))) ∧ mdl M M' := by
  obtain ⟨Lt, K, h1, h2, h3, h4, h5, h6, ⟨t1, t2⟩, ⟨r1, r2, r3⟩, h9⟩ := h
  have er : ∀ k, k ≠ 110 → k ≠ 87 → M' k = M k := fun k a b => by rw [e k a, up_row b]
  have e8 : ∀ j, j ≠ 37 → M' 87 j = M 87 j := fun j hj => by rw [e 87 (by decide), up_n (by omega)]
  refine ⟨⟨Lt, K, h1, by rw [e8 23 (by decide)]; exact h2, by rw [e8 15 (by decide)]; exact h3, fun h hh => (h4 h hh).cong (fun k a b => er k (by omega) (by omega)), ?_, ⟨by rw [e 87 (by decide), up_s], ?_⟩, ⟨by rw [e8 9 (by decide)]; exact t1, fun j hj => by rw [er 94 (by decide) (by decide)]; exact t2 j hj⟩, ⟨by rw [e8 35 (by decide)]; exact r1, r2, fun i hi => by rw [er 109 (by decide) (by decide)]; exact r3 i hi⟩, fun i hi => by rw [er 113 (by decide) (by decide), er 114 (by decide) (by decide), er 115 (by decide) (by decide)]; exact h9 i hi⟩, fun k hk => er k (by omega) (by omega)⟩
  · refine h5.cong hO.1.len (fun i hi => ?_)
    have a := cel_row i hi
    rw [← snp_37 (M := M) (v := 1) i hi]
    unfold snp
    rw [e _ (by omega)]
  · exact h5.cong hO.1.len (fun i hi => by rw [hk i hi, snp_37 i hi])
theorem RepM.undo {M M' : Mm} {s : Wt} {k0 : Sn} (h : RepM M s) (hO : okW s) (hk : wk s = some k0) (e : AG M M' 110 (fun j => j < 112)) : RepM M' (putN s k0) ∧ mdl M M' := by
  obtain ⟨Lt, K, h1, h2, h3, h4, h5, h6, ⟨t1, t2⟩, ⟨r1, r2, r3⟩, h9⟩ := h
  have hO2 := hO.2.1
  rw [hk] at h6 hO2
  obtain ⟨h6a, h6b⟩ := h6
  have e8 : ∀ j, (j = 9 ∨ j = 15 ∨ j = 23 ∨ j = 35 ∨ j = 37) → M' 87 j = M 87 j := fun j hj => e.1 87 j (fun i hi q => by have := cel_87 i hi (by rw [q]); rw [q] at this; simp only at this; omega)
  have er : ∀ k, (94 ≤ k ∧ k ≤ 100) → M' k = M k := fun k hk => funext fun j => e.1 k j (fun i hi q => by have := cel_row i hi; rw [q] at this; simp only at this; omega)
  refine ⟨⟨Lt, K, h1, by rw [e8 23 (by omega)]; exact h2, by rw [e8 15 (by omega)]; exact h3, fun h hh => (h4 h hh).cong (fun k a b => er k (by omega)), h6b.cong (okS.len hO2) (fun i hi => e.2 i hi hi), ?_, ⟨by rw [e8 9 (by omega)]; exact t1, fun j hj => by rw [er 94 (by omega)]; exact t2 j hj⟩, ⟨by rw [e8 35 (by omega)]; exact r1, r2, fun i hi => by rw [e.row (by decide)]; exact r3 i hi⟩, fun i hi => by rw [e.row (by decide), e.row (by decide), e.row (by decide)]; exact h9 i hi⟩, e.mdl⟩
  show keptM M' _ (wk s)
  rw [hk]
  exact ⟨by rw [e8 37 (by omega)]; exact h6a, by rw [e.row (by decide)]; exact h6b⟩
theorem RepM.kept {M : Mm} {s : Wt} (h : RepM M s) : (wk s = none ∧ M 87 37 = 0) ∨ ∃ k, wk s = some k ∧ M 87 37 = 1 := by
  obtain ⟨Lt, K, h1, h2, h3, h4, h5, h6, -⟩ := h
  cases hk : wk s with
  | none => rw [hk] at h6; exact Or.inl ⟨rfl, h6⟩
  | some k => rw [hk] at h6; exact Or.inr ⟨k, rfl, h6.1⟩
theorem RepM.lws {M : Mm} {s : Wt} (h : RepM M s) : M 87 15 = (wl s : Int) := by
  obtain ⟨Lt, K, h1, h2, h3, -⟩ := h
  exact h3
/-- one sign more -/
theorem RepM.feed {M : Mm} {s : Wt} (h : RepM M s) (hO : okW s) {c : Nat} : RepM (up (up M 87 9 (((wx s).length : Int) + 1)) 94 (wx s).length (c : Int)) (putX s (wx s ++ [c])) ∧ mdl M (up (up M 87 9 (((wx s).length : Int) + 1)) 94 (wx s).length (c : Int)) := by
  refine h.oth hO (fun k a b _ _ => by rw [up_row b, up_row a]) (fun j a b => by rw [up_row (by decide), up_n (by omega)]) ⟨rfl, rfl, rfl⟩ ⟨?_, fun j hj => ?_⟩ ?_ ?_
  · show _ = ((wx s ++ [c]).length : Int)
    rw [up_row (by decide), up_s, List.length_append]; simp
  · have hj2 : j < (wx s ++ [c]).length := hj
    rw [List.length_append] at hj2
    simp only [List.length_cons, List.length_nil] at hj2
    show _ = ((wx s ++ [c]).getD j 0 : Int)
    rw [List.getD_eq_getElem?_getD]
    by_cases q : j < (wx s).length
    · rw [up_n (by omega), up_row (by decide), h.tx.2 j q, List.getElem?_append_left q, List.getD_eq_getElem?_getD]
    · obtain rfl : j = (wx s).length := by omega
      rw [up_s]; simp
  · rw [up_row (show 109 ≠ 94 by decide), up_row (show 109 ≠ 87 by decide), up_row (show 87 ≠ 94 by decide), up_n (by omega)]; exact h.tr
  · intro i hi
    rw [up_row (by decide), up_row (by decide), up_row (by decide), up_row (by decide), up_row (by decide), up_row (by decide)]
    exact h.tp i hi
/-- the TRACE -/
theorem RepM.trc {M M' : Mm} {s : Wt} (h : RepM M s) (hO : okW s) {t : List Nat} (e : ∀ k, k ≠ 87 → k ≠ 109 → M' k = M k) (e2 : ∀ j, j ≠ 35 → M' 87 j = M 87 j) (ht : M' 87 35 = (t.length : Int) ∧ t.length ≤ 20 ∧ ∀ i, i < t.length → M' 109 i = (t.getD i 0 : Int)) : RepM M' (putTr s t) ∧ mdl M M' := by
  refine h.oth hO (fun k a b c d => e k a c) (fun j a b => e2 j b) ⟨rfl, rfl, rfl⟩ ?_ ht ?_
  · rw [e 94 (by decide) (by decide), e2 9 (by decide)]; exact h.tx
  · intro i hi
    rw [e 113 (by decide) (by decide), e 114 (by decide) (by decide), e 115 (by decide) (by decide)]
    exact h.tp i hi
def abN (u : Nat) : Nat := if u = 4 then 1 else if u = 5 then 2 else if u = 6 then 3 else 0
theorem abN_ok : ∀ u, u < 7 → 0 < u → kAb.getD u 0 = (abN u : Int) ∧ abN u < u ∧ kAb.getD (abN u) 0 ≤ 0 := by decide +kernel
theorem isK_up {u : Nat} {k : Int} (hu : u < 7) (h0 : 0 < u) (hk : 0 ≤ k) (hne : (u : Int) ≠ k) : isK u k ↔ isK (abN u) k := by
  obtain ⟨a, b, c⟩ := abN_ok u hu h0
  unfold isK
  rw [a]
  omega
/-- a copy of n items from B on to A on: those from lo up to hi are done -/
def cpT (M : Mm) (A B lo hi : Nat) : Nat → Int := fun x => if A + lo ≤ x ∧ x < A + hi then M 115 (B + (x - A)) else M 115 x
theorem cpT_0 (M : Mm) (A B k : Nat) : cpT M A B k k = M 115 := by
  funext x
  unfold cpT
  rw [if_neg (by omega)]
theorem cpT_up {M M1 : Mm} {A B k : Nat} (h : M1 115 = cpT M A B 0 k) : up M1 115 (A + k) (M 115 (B + k)) 115 = cpT M A B 0 (k + 1) := by
  funext x
  by_cases e : x = A + k
  · subst e
    rw [up_s]
    unfold cpT
    rw [if_pos (by omega), show A + k - A = k by omega]
  · rw [up_n (by omega), h]
    unfold cpT
    by_cases q : A + 0 ≤ x ∧ x < A + k
    · rw [if_pos q, if_pos (by omega)]
    · rw [if_neg q, if_neg (by omega)]
theorem cpT_dn {M M1 : Mm} {A B k n : Nat} (hk : k < n) (h : M1 115 = cpT M A B (k + 1) n) : up M1 115 (A + k) (M 115 (B + k)) 115 = cpT M A B k n := by
  funext x
  by_cases e : x = A + k
  · subst e
    rw [up_s]
    unfold cpT
    rw [if_pos (by omega), show A + k - A = k by omega]
  · rw [up_n (by omega), h]
    unfold cpT
    by_cases q : A + (k + 1) ≤ x ∧ x < A + n
    · rw [if_pos q, if_pos (by omega)]
    · rw [if_neg q, if_neg (by omega)]
theorem lcm_lt0 {a b : Int} : lcm a b < 0 ↔ a < b := by unfold lcm; split <;> (try split) <;> omega
theorem lcm_gt0 {a b : Int} : 0 < lcm a b ↔ b < a := by unfold lcm; split <;> (try split) <;> omega
/-- the books' people are there -/
def bkZ (s : Sn) : Prop := ∀ i, i < s.2.2.2.length → tg s.2.2.2 i 0 < (zc s.1 : Int)
