/-! the model's whole state, call by call -/
def mdl (M M' : Mm) : Prop := ∀ k, (k < 87 ∨ 116 ≤ k) → M' k = M k
theorem mdl.rf {M : Mm} : mdl M M := fun _ _ => rfl
theorem mdl.tr {M M1 M2 : Mm} (h1 : mdl M M1) (h2 : mdl M1 M2) : mdl M M2 := fun k a => (h2 k a).trans (h1 k a)
theorem mdl.upR {M M1 : Mm} (h : mdl M M1) {k j : Nat} {v : Int} (hk : 87 ≤ k ∧ k < 116) : mdl M (up M1 k j v) := fun k2 a => by rw [up_row (by omega)]; exact h k2 a
theorem askA.mdl {M M' : Mm} (h : askA M M') : mdl M M' := fun k a => h.2.1 k (by omega)
theorem stf.mdl {M M' : Mm} (h : stf M M') : mdl M M' := fun k a => h.1 k (by omega) (by omega) (by omega)
theorem AG.mdl {M M' : Mm} {r : Nat} {D : Nat → Prop} (h : AG M M' r D) : mdl M M' := fun k a => funext fun j => h.1 k j (fun i hi e => by have := cel_row i hi; rw [e] at this; simp only at this; omega)
theorem RepM.same {M : Mm} {s : Wt} (h : RepM M s) : RepM M ((wz s, (wn s).2), s.2) := h
theorem RepM.seen {M M' : Mm} {s : Wt} {T : Tb} (h : RepM M s) (hO : okW s) (e : ∀ k, k ≠ 87 → k ≠ 102 → k ≠ 103 → k ≠ 104 → M' k = M k) (e2 : ∀ j, j ≠ 25 → M' 87 j = M 87 j) (hT : seenR M' T) (hl : T.length ≤ 5) : RepM M' (putSeen s T) ∧ mdl M M' := by
  refine ⟨RepM.now (k := (wz s, T, (wn s).2.2)) h (fun lw hs => ?_) (fun k hk => e k (by omega) (by omega) (by omega) (by omega)) (fun j hj => e2 j (by omega)), fun k hk => e k (by omega) (by omega) (by omega) (by omega)⟩
  obtain ⟨d1, d2, d3, d4, -, ⟨b1, b2⟩, ⟨c1, c2⟩, d8⟩ := hs.dr hO.1.len
  have ee : ∀ k, k ≠ 87 → (k < 102 ∨ 105 ≤ k) → M' k = M k := fun k a b => e k a (by omega) (by omega) (by omega)
  refine DR.sr ⟨by rw [e2 0 (by decide)]; exact d1, by rw [e2 7 (by decide)]; exact d2, by rw [e2 8 (by decide)]; exact d3, fun p hp => ?_, hT, ⟨by rw [e2 29 (by decide)]; exact b1, fun i hi => by rw [ee 105 (by decide) (by decide), ee 106 (by decide) (by decide)]; exact b2 i hi⟩, ⟨by rw [e2 32 (by decide)]; exact c1, fun i hi => by rw [ee 107 (by decide) (by decide), ee 108 (by decide) (by decide)]; exact c2 i hi⟩, by rw [e2 16 (by decide)]; exact d8⟩ ⟨hO.1.len.1, hl, hO.1.len.2.2⟩
  have := d4 p hp
  unfold MP at this ⊢
  rw [ee 88 (by decide) (by decide), ee 89 (by decide) (by decide), ee 90 (by decide) (by decide), ee 91 (by decide) (by decide), ee 92 (by decide) (by decide), ee 93 (by decide) (by decide)]
  exact this
theorem RepM.plan {M M' : Mm} {s : Wt} {T : Tb} (h : RepM M s) (hO : okW s) (e : ∀ k, k ≠ 87 → k ≠ 105 → k ≠ 106 → M' k = M k) (e2 : ∀ j, j ≠ 29 → M' 87 j = M 87 j) (hT : planR M' T) (hl : T.length ≤ 10) : RepM M' (putPlan s T) ∧ mdl M M' := by
  refine ⟨RepM.now (k := (wz s, (wn s).2.1, T, (wn s).2.2.2)) h (fun lw hs => ?_) (fun k hk => e k (by omega) (by omega) (by omega)) (fun j hj => e2 j (by omega)), fun k hk => e k (by omega) (by omega) (by omega)⟩
  obtain ⟨d1, d2, d3, d4, ⟨b1, b2⟩, -, ⟨c1, c2⟩, d8⟩ := hs.dr hO.1.len
  have ee : ∀ k, k ≠ 87 → (k < 105 ∨ 107 ≤ k) → M' k = M k := fun k a b => e k a (by omega) (by omega)
  refine DR.sr ⟨by rw [e2 0 (by decide)]; exact d1, by rw [e2 7 (by decide)]; exact d2, by rw [e2 8 (by decide)]; exact d3, fun p hp => ?_, ⟨by rw [e2 25 (by decide)]; exact b1, fun i hi => by rw [ee 102 (by decide) (by decide), ee 103 (by decide) (by decide), ee 104 (by decide) (by decide)]; exact b2 i hi⟩, hT, ⟨by rw [e2 32 (by decide)]; exact c1, fun i hi => by rw [ee 107 (by decide) (by decide), ee 108 (by decide) (by decide)]; exact c2 i hi⟩, by rw [e2 16 (by decide)]; exact d8⟩ ⟨hO.1.len.1, hO.1.len.2.1, hl, hO.1.len.2.2.2⟩
  have := d4 p hp
  unfold MP at this ⊢
  rw [ee 88 (by decide) (by decide), ee 89 (by decide) (by decide), ee 90 (by decide) (by decide), ee 91 (by decide) (by decide), ee 92 (by decide) (by decide), ee 93 (by decide) (by decide)]
  exact this
theorem RepM.book {M M' : Mm} {s : Wt} {T : Tb} (h : RepM M s) (hO : okW s) (e : ∀ k, k ≠ 87 → k ≠ 107 → k ≠ 108 → M' k = M k) (e2 : ∀ j, j ≠ 32 → M' 87 j = M 87 j) (hT : bookR M' T) (hl : T.length ≤ 8) : RepM M' (putBook s T) ∧ mdl M M' := by
  refine ⟨RepM.now (k := (wz s, (wn s).2.1, (wn s).2.2.1, T)) h (fun lw hs => ?_) (fun k hk => e k (by omega) (by omega) (by omega)) (fun j hj => e2 j (by omega)), fun k hk => e k (by omega) (by omega) (by omega)⟩
  obtain ⟨d1, d2, d3, d4, ⟨b1, b2⟩, ⟨c1, c2⟩, -, d8⟩ := hs.dr hO.1.len
  have ee : ∀ k, k ≠ 87 → (k < 107 ∨ 109 ≤ k) → M' k = M k := fun k a b => e k a (by omega) (by omega)
  refine DR.sr ⟨by rw [e2 0 (by decide)]; exact d1, by rw [e2 7 (by decide)]; exact d2, by rw [e2 8 (by decide)]; exact d3, fun p hp => ?_, ⟨by rw [e2 25 (by decide)]; exact b1, fun i hi => by rw [ee 102 (by decide) (by decide), ee 103 (by decide) (by decide), ee 104 (by decide) (by decide)]; exact b2 i hi⟩, ⟨by rw [e2 29 (by decide)]; exact c1, fun i hi => by rw [ee 105 (by decide) (by decide), ee 106 (by decide) (by decide)]; exact c2 i hi⟩, hT, by rw [e2 16 (by decide)]; exact d8⟩ ⟨hO.1.len.1, hO.1.len.2.1, hO.1.len.2.2.1, hl⟩
  have := d4 p hp
  unfold MP at this ⊢
  rw [ee 88 (by decide) (by decide), ee 89 (by decide) (by decide), ee 90 (by decide) (by decide), ee 91 (by decide) (by decide), ee 92 (by decide) (by decide), ee 93 (by decide) (by decide)]
  exact this
/-- rows 94, 109, 113 .. 115 and the fields 9, 35 may change -/
theorem RepM.oth {M M' : Mm} {s s' : Wt} (h : RepM M s) (hO : okW s) (e : ∀ k, k ≠ 87 → k ≠ 94 → k ≠ 109 → (k < 113 ∨ 116 ≤ k) → M' k = M k) (e2 : ∀ j, j ≠ 9 → j ≠ 35 → M' 87 j = M 87 j) (q : wn s' = wn s ∧ wk s' = wk s ∧ wl s' = wl s) (t : M' 87 9 = ((wx s').length : Int) ∧ ∀ j, j < (wx s').length → M' 94 j = ((wx s').getD j 0 : Int)) (r : M' 87 35 = ((wr s').length : Int) ∧ (wr s').length ≤ 20 ∧ ∀ i, i < (wr s').length → M' 109 i = ((wr s').getD i 0 : Int)) (k : ∀ i, i < 6 → M' 113 i = (wp s' i).1 ∧ M' 114 i = ((wp s' i).2.1 : Int) ∧ ∀ j, j < 60 → M' 115 (60 * i + j) = (wp s' i).2.2 j) : RepM M' s' ∧ mdl M M' := by
  obtain ⟨Lt, K, h1, h2, h3, h4, h5, h6, -⟩ := h
  obtain ⟨q1, q2, q3⟩ := q
  refine ⟨⟨Lt, K, by rw [q3]; exact h1, by rw [e2 23 (by decide) (by decide)]; exact h2, by rw [e2 15 (by decide) (by decide), q3]; exact h3, fun h hh => ?_, ?_, ?_, t, r, k⟩, fun k hk => e k (by omega) (by omega) (by omega) (by omega)⟩
  · rw [q3] at hh
    exact (h4 h hh).cong (fun k a b => e k (by omega) (by omega) (by omega) (by omega))
  · rw [q1, q3]
    refine h5.cong hO.1.len (fun i hi => ?_)
    have a := cel_row i hi
    have b := cel_87 i hi
    unfold snp
    by_cases c : (cel i).1 = 87
    · rw [c]; exact e2 _ (by omega) (by omega)
    · rw [e _ c (by omega) (by omega) (by omega)]
  · rw [q2, q3]
    unfold keptM at h6 ⊢
    rw [e2 37 (by decide) (by decide), e 110 (by decide) (by decide) (by decide) (by decide)]
    exact h6
theorem RepM.tx {M : Mm} {s : Wt} (h : RepM M s) : M 87 9 = ((wx s).length : Int) ∧ ∀ j, j < (wx s).length → M 94 j = ((wx s).getD j 0 : Int) := by
  obtain ⟨Lt, K, h1, h2, h3, h4, h5, h6, h7, -⟩ := h
  exact h7
theorem RepM.tr {M : Mm} {s : Wt} (h : RepM M s) : M 87 35 = ((wr s).length : Int) ∧ (wr s).length ≤ 20 ∧ ∀ i, i < (wr s).length → M 109 i = ((wr s).getD i 0 : Int) := by
  obtain ⟨Lt, K, h1, h2, h3, h4, h5, h6, h7, h8, -⟩ := h
  exact h8
theorem RepM.tp {M : Mm} {s : Wt} (h : RepM M s) : ∀ i, i < 6 → M 113 i = (wp s i).1 ∧ M 114 i = ((wp s i).2.1 : Int) ∧ ∀ j, j < 60 → M 115 (60 * i + j) = (wp s i).2.2 j := by
  obtain ⟨Lt, K, h1, h2, h3, h4, h5, h6, h7, h8, h9⟩ := h
  exact h9
theorem seen_add {M : Mm} {T : Tb} (h : seenR M T) (c n w : Int) : seenR (up (up (up (up M 102 T.length c) 103 T.length n) 87 25 ((T.length : Int) + 1)) 104 T.length w) (T ++ [(c, n, w)]) := by
  obtain ⟨h1, h2⟩ := h
  refine ⟨by rw [up_row (by decide), up_s, List.length_append]; simp, fun i hi => ?_⟩
  rw [List.length_append] at hi
  simp only [List.length_cons, List.length_nil] at hi
  rw [tg_app, tg_app, tg_app, up_row (show 102 ≠ 104 by decide), up_row (show 102 ≠ 87 by decide), up_row (show 102 ≠ 103 by decide), up_row (show 103 ≠ 104 by decide), up_row (show 103 ≠ 87 by decide)]
  by_cases e : i < T.length
  · obtain ⟨u0, u1, u2⟩ := h2 i e
    rw [if_pos e, if_pos e, if_pos e, up_n (by omega), up_n (by omega), up_row (show 103 ≠ 102 by decide), up_n (by omega), up_row (show 104 ≠ 87 by decide), up_row (show 104 ≠ 103 by decide), up_row (show 104 ≠ 102 by decide)]
    exact ⟨u0, u1, u2⟩
  · obtain rfl : i = T.length := by omega
    simp only [Nat.lt_irrefl, if_false, if_true, up_s]
    exact ⟨trivial, by simp, by simp⟩
theorem plan_add {M : Mm} {T : Tb} (h : planR M T) (w n v : Int) (hv : w ≠ 0 → v = n) : planR (up (up (up M 105 T.length w) 87 29 ((T.length : Int) + 1)) 106 T.length v) (T ++ [(w, n, 0)]) := by
  obtain ⟨h1, h2⟩ := h
  refine ⟨by rw [up_row (by decide), up_s, List.length_append]; simp, fun i hi => ?_⟩
  rw [List.length_append] at hi
  simp only [List.length_cons, List.length_nil] at hi
  rw [tg_app, tg_app, up_row (show 105 ≠ 106 by decide), up_row (show 105 ≠ 87 by decide)]
  by_cases e : i < T.length
  · obtain ⟨u0, u1⟩ := h2 i e
    rw [if_pos e, if_pos e, up_n (by omega), up_n (by omega), up_row (show 106 ≠ 87 by decide), up_row (show 106 ≠ 105 by decide)]
    exact ⟨u0, u1⟩
  · obtain rfl : i = T.length := by omega
    simp only [Nat.lt_irrefl, if_false, if_true, up_s]
    exact ⟨trivial, by simpa using hv⟩
theorem book_add {M : Mm} {T : Tb} (h : bookR M T) (p n : Int) : bookR (up (up (up M 107 T.length p) 87 32 ((T.length : Int) + 1)) 108 T.length n) (T ++ [(p, n, 0)]) := by
  obtain ⟨h1, h2⟩ := h
  refine ⟨by rw [up_row (by decide), up_s, List.length_append]; simp, fun i hi => ?_⟩
  rw [List.length_append] at hi
  simp only [List.length_cons, List.length_nil] at hi
  rw [tg_app, tg_app, up_row (show 107 ≠ 108 by decide), up_row (show 107 ≠ 87 by decide)]
  by_cases e : i < T.length
  · obtain ⟨u0, u1⟩ := h2 i e
    rw [if_pos e, if_pos e, up_n (by omega), up_n (by omega), up_row (show 108 ≠ 87 by decide), up_row (show 108 ≠ 107 by decide)]
    exact ⟨u0, u1⟩
  · obtain rfl : i = T.length := by omega
    simp only [Nat.lt_irrefl, if_false, if_true, up_s]
    exact ⟨trivial, by simp⟩
/-- one more comes, n numbers of its ROW written -/
def joinM (M M1 : Mm) (z : Ab) (k v c : Int) (n : Nat) : Prop := (∀ r, (r < 88 ∨ 94 ≤ r) → M1 r = M r) ∧ (∀ r p, 88 ≤ r → r ≤ 92 → p ≠ zc z → M1 r p = M r p) ∧ (∀ i, i < 4 * zc z → M1 93 i = M 93 i) ∧ M1 88 (zc z) = k ∧ M1 89 (zc z) = v ∧ M1 90 (zc z) = c ∧ M1 91 (zc z) = 100 ∧ M1 92 (zc z) = 0 ∧ ∀ j, j < n → M1 93 (4 * zc z + j) = 0
theorem join_0 {M : Mm} {z : Ab} (k v c : Int) : joinM M (up (up (up (up (up M 88 (zc z) k) 89 (zc z) v) 90 (zc z) c) 91 (zc z) 100) 92 (zc z) 0) z k v c 0 := by
  refine ⟨fun r hr => ?_, fun r p h1 h2 hp => ?_, fun i hi => ?_, ?_, ?_, ?_, ?_, ?_, fun j hj => absurd hj (Nat.not_lt_zero _)⟩
  · rw [up_row (by omega), up_row (by omega), up_row (by omega), up_row (by omega), up_row (by omega)]
  · rw [up_n (by omega), up_n (by omega), up_n (by omega), up_n (by omega), up_n (by omega)]
  · rw [up_row (by omega), up_row (by omega), up_row (by omega), up_row (by omega), up_row (by omega)]
  · rw [up_row (by omega), up_row (by omega), up_row (by omega), up_row (by omega), up_s]
  · rw [up_row (by omega), up_row (by omega), up_row (by omega), up_s]
  · rw [up_row (by omega), up_row (by omega), up_s]
  · rw [up_row (by omega), up_s]
  · rw [up_s]
theorem joinM.nx {M M1 : Mm} {z : Ab} {k v c : Int} {n : Nat} (h : joinM M M1 z k v c n) : joinM M (up M1 93 (4 * zc z + n) 0) z k v c (n + 1) := by
  obtain ⟨h1, h2, h3, h4, h5, h6, h7, h8, h9⟩ := h
  refine ⟨fun r hr => by rw [up_row (by omega)]; exact h1 r hr, fun r p a b hp => by rw [up_row (by omega)]; exact h2 r p a b hp, fun i hi => by rw [up_n (by omega)]; exact h3 i hi, by rw [up_row (by omega)]; exact h4, by rw [up_row (by omega)]; exact h5, by rw [up_row (by omega)]; exact h6, by rw [up_row (by omega)]; exact h7, by rw [up_row (by omega)]; exact h8, fun j hj => ?_⟩
  by_cases e : j = n
  · subst e; rw [up_s]
  · rw [up_n (by omega)]; exact h9 j (by omega)
theorem joinM.fin {M M1 : Mm} {z : Ab} {k v c : Nat} (h : joinM M M1 z k v c 4) (hX : MX M z) : stf M (up M1 87 0 ((zc z : Int) + 1)) ∧ MX (up M1 87 0 ((zc z : Int) + 1)) (joinZ z k v c) := by
  obtain ⟨h1, h2, h3, h4, h5, h6, h7, h8, h9⟩ := h
  obtain ⟨x1, x2, x3, x4, x5⟩ := hX
  have e87 := h1 87 (by omega)
  refine ⟨⟨fun r a b c => by rw [up_row (by omega)]; exact h1 r (by omega), fun j a b c => by rw [up_n (by omega), e87]⟩, by rw [up_s]; rfl, by rw [up_n (by omega), e87]; exact x2, by rw [up_n (by omega), e87]; exact x3, fun p hp => ?_, x5.cong (by rw [up_n (by omega), e87]) (fun r a b => by rw [up_row (by omega)]; exact h1 r (by omega))⟩
  have hp' : p < zc z + 1 := hp
  unfold MP
  rw [up_row (by decide), up_row (by decide), up_row (by decide), up_row (by decide), up_row (by decide), up_row (by decide)]
  by_cases e : p = zc z
  · subst e
    have pj : ∀ a, zP (joinZ z k v c) (zc z) a = (if a = 0 then k else if a = 1 then v else if a = 2 then c else if a = 3 then 100 else 0) := fun a => if_pos rfl
    simp only [pj]
    exact ⟨h4, h5, h6, h7, h8, fun j hj => by rw [h9 j hj, if_neg (by omega), if_neg (by omega), if_neg (by omega), if_neg (by omega)]; rfl⟩
  · have pj : ∀ a, zP (joinZ z k v c) p a = zP z p a := fun a => if_neg e
    simp only [pj]
    obtain ⟨r0, r1, r2, r3, r4, r5⟩ := x4 p (by omega)
    rw [h2 88 p (by decide) (by decide) e, h2 89 p (by decide) (by decide) e, h2 90 p (by decide) (by decide) e, h2 91 p (by decide) (by decide) e, h2 92 p (by decide) (by decide) e]
    exact ⟨r0, r1, r2, r3, r4, fun j hj => by rw [h3 _ (by omega)]; exact r5 j hj⟩
theorem joinZ_L (z : Ab) (k v c : Nat) : zL (joinZ z k v c) = zL z := rfl
