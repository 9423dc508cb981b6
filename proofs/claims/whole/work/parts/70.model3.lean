/-! what the IMAGE of the model keeps: 112 numbers, each from a place of its own -/
def celT : List (Nat × Nat) := [(88, 0), (88, 1), (88, 2), (88, 3), (88, 4), (88, 5), (89, 0), (89, 1), (89, 2), (89, 3), (89, 4), (89, 5), (90, 0), (90, 1), (90, 2), (90, 3), (90, 4), (90, 5), (91, 0), (91, 1), (91, 2), (91, 3), (91, 4), (91, 5), (92, 0), (92, 1), (92, 2), (92, 3), (92, 4), (92, 5), (93, 0), (93, 1), (93, 2), (93, 3), (93, 4), (93, 5), (93, 6), (93, 7), (93, 8), (93, 9), (93, 10), (93, 11), (93, 12), (93, 13), (93, 14), (93, 15), (93, 16), (93, 17), (93, 18), (93, 19), (93, 20), (93, 21), (93, 22), (93, 23), (102, 0), (102, 1), (102, 2), (102, 3), (102, 4), (103, 0), (103, 1), (103, 2), (103, 3), (103, 4), (104, 0), (104, 1), (104, 2), (104, 3), (104, 4), (105, 0), (105, 1), (105, 2), (105, 3), (105, 4), (105, 5), (105, 6), (105, 7), (105, 8), (105, 9), (106, 0), (106, 1), (106, 2), (106, 3), (106, 4), (106, 5), (106, 6), (106, 7), (106, 8), (106, 9), (107, 0), (107, 1), (107, 2), (107, 3), (107, 4), (107, 5), (107, 6), (107, 7), (108, 0), (108, 1), (108, 2), (108, 3), (108, 4), (108, 5), (108, 6), (108, 7), (87, 0), (87, 7), (87, 8), (87, 25), (87, 29), (87, 32), (87, 16)]
def cel (i : Nat) : Nat × Nat := celT.getD i (0, 0)
def snp (M : Mm) (i : Nat) : Int := M (cel i).1 (cel i).2
theorem cel_0 : ∀ i, i < 6 → cel (0 + i) = (88, i) := by decide +kernel
theorem snp_0 {M : Mm} {i : Nat} (h : i < 6) : snp M (0 + i) = M 88 i := by unfold snp; rw [cel_0 i h]
theorem cel_6 : ∀ i, i < 6 → cel (6 + i) = (89, i) := by decide +kernel
theorem snp_6 {M : Mm} {i : Nat} (h : i < 6) : snp M (6 + i) = M 89 i := by unfold snp; rw [cel_6 i h]
theorem cel_12 : ∀ i, i < 6 → cel (12 + i) = (90, i) := by decide +kernel
theorem snp_12 {M : Mm} {i : Nat} (h : i < 6) : snp M (12 + i) = M 90 i := by unfold snp; rw [cel_12 i h]
theorem cel_18 : ∀ i, i < 6 → cel (18 + i) = (91, i) := by decide +kernel
theorem snp_18 {M : Mm} {i : Nat} (h : i < 6) : snp M (18 + i) = M 91 i := by unfold snp; rw [cel_18 i h]
theorem cel_24 : ∀ i, i < 6 → cel (24 + i) = (92, i) := by decide +kernel
theorem snp_24 {M : Mm} {i : Nat} (h : i < 6) : snp M (24 + i) = M 92 i := by unfold snp; rw [cel_24 i h]
theorem cel_30 : ∀ i, i < 24 → cel (30 + i) = (93, i) := by decide +kernel
theorem snp_30 {M : Mm} {i : Nat} (h : i < 24) : snp M (30 + i) = M 93 i := by unfold snp; rw [cel_30 i h]
theorem cel_54 : ∀ i, i < 5 → cel (54 + i) = (102, i) := by decide +kernel
theorem snp_54 {M : Mm} {i : Nat} (h : i < 5) : snp M (54 + i) = M 102 i := by unfold snp; rw [cel_54 i h]
theorem cel_59 : ∀ i, i < 5 → cel (59 + i) = (103, i) := by decide +kernel
theorem snp_59 {M : Mm} {i : Nat} (h : i < 5) : snp M (59 + i) = M 103 i := by unfold snp; rw [cel_59 i h]
theorem cel_64 : ∀ i, i < 5 → cel (64 + i) = (104, i) := by decide +kernel
theorem snp_64 {M : Mm} {i : Nat} (h : i < 5) : snp M (64 + i) = M 104 i := by unfold snp; rw [cel_64 i h]
theorem cel_69 : ∀ i, i < 10 → cel (69 + i) = (105, i) := by decide +kernel
theorem snp_69 {M : Mm} {i : Nat} (h : i < 10) : snp M (69 + i) = M 105 i := by unfold snp; rw [cel_69 i h]
theorem cel_79 : ∀ i, i < 10 → cel (79 + i) = (106, i) := by decide +kernel
theorem snp_79 {M : Mm} {i : Nat} (h : i < 10) : snp M (79 + i) = M 106 i := by unfold snp; rw [cel_79 i h]
theorem cel_89 : ∀ i, i < 8 → cel (89 + i) = (107, i) := by decide +kernel
theorem snp_89 {M : Mm} {i : Nat} (h : i < 8) : snp M (89 + i) = M 107 i := by unfold snp; rw [cel_89 i h]
theorem cel_97 : ∀ i, i < 8 → cel (97 + i) = (108, i) := by decide +kernel
theorem snp_97 {M : Mm} {i : Nat} (h : i < 8) : snp M (97 + i) = M 108 i := by unfold snp; rw [cel_97 i h]
theorem snp_105 {M : Mm} : snp M 105 = M 87 0 := rfl
theorem snp_106 {M : Mm} : snp M 106 = M 87 7 := rfl
theorem snp_107 {M : Mm} : snp M 107 = M 87 8 := rfl
theorem snp_108 {M : Mm} : snp M 108 = M 87 25 := rfl
theorem snp_109 {M : Mm} : snp M 109 = M 87 29 := rfl
theorem snp_110 {M : Mm} : snp M 110 = M 87 32 := rfl
theorem snp_111 {M : Mm} : snp M 111 = M 87 16 := rfl
theorem snp_z {M : Mm} {i : Nat} (h : i < 6) : snp M i = M 88 i := by have := snp_0 (M := M) h; rwa [Nat.zero_add] at this
theorem cel_inj : ∀ i, i < 112 → ∀ j, j < 112 → cel i = cel j → i = j := by decide +kernel
theorem cel_row : ∀ i, i < 112 → ((87 ≤ (cel i).1 ∧ (cel i).1 ≤ 93) ∨ (102 ≤ (cel i).1 ∧ (cel i).1 ≤ 108)) := by decide +kernel
theorem cel_87 : ∀ i, i < 112 → (cel i).1 = 87 → ((cel i).2 = 0 ∨ (cel i).2 = 7 ∨ (cel i).2 = 8 ∨ (cel i).2 = 25 ∨ (cel i).2 = 29 ∨ (cel i).2 = 32 ∨ (cel i).2 = 16) := by decide +kernel
/-- row r gets the numbers of which D holds -/
def KP (M M1 : Mm) (r : Nat) (D : Nat → Prop) : Prop := (∀ k, k ≠ r → M1 k = M k) ∧ ∀ j, D j → M1 r j = snp M j
theorem KP.upR {M M1 : Mm} {r i : Nat} {D : Nat → Prop} (h : KP M M1 r D) {v : Int} (hv : v = snp M i) : KP M (up M1 r i v) r (fun j => j = i ∨ D j) := by
  refine ⟨fun k hk => by rw [up_row hk]; exact h.1 k hk, fun j hj => ?_⟩
  by_cases e : j = i
  · subst e; rw [up_s]; exact hv
  · rw [up_n (by omega)]; exact h.2 j (hj.resolve_left e)
theorem KP.mono {M M1 : Mm} {r : Nat} {D D' : Nat → Prop} (h : KP M M1 r D) (e : ∀ j, D' j → D j) : KP M M1 r D' := ⟨h.1, fun j hj => h.2 j (e j hj)⟩
/-- those of which D holds get back what row r keeps -/
def AG (M M1 : Mm) (r : Nat) (D : Nat → Prop) : Prop := (∀ k j, (∀ i, i < 112 → cel i ≠ (k, j)) → M1 k j = M k j) ∧ ∀ i, i < 112 → D i → snp M1 i = M r i
theorem AG.upR {M M1 : Mm} {r i k j : Nat} {D : Nat → Prop} (h : AG M M1 r D) (hi : i < 112) (hc : cel i = (k, j)) {v : Int} (hv : v = M r i) : AG M (up M1 k j v) r (fun i' => i' = i ∨ D i') := by
  refine ⟨fun k2 j2 hn => ?_, fun i2 hi2 hD => ?_⟩
  · have := hn i hi
    rw [hc] at this
    rw [up_n (by rintro ⟨rfl, rfl⟩; exact this rfl)]
    exact h.1 k2 j2 hn
  · by_cases e : i2 = i
    · subst e
      unfold snp
      rw [hc, up_s]; exact hv
    · unfold snp
      rw [up_n (by rintro ⟨a, b⟩; exact e (cel_inj i2 hi2 i hi (by rw [hc, ← a, ← b])))]
      exact h.2 i2 hi2 (hD.resolve_left e)
theorem AG.mono {M M1 : Mm} {r : Nat} {D D' : Nat → Prop} (h : AG M M1 r D) (e : ∀ j, D' j → D j) : AG M M1 r D' := ⟨h.1, fun j hj hD => h.2 j hj (e j hD)⟩
theorem AG.row {M M1 : Mm} {r k : Nat} {D : Nat → Prop} (h : AG M M1 r D) (hk : 109 ≤ k) : M1 k = M k := funext fun j => h.1 k j (fun i hi e => by have := cel_row i hi; rw [e] at this; simp only at this; omega)
/-- what a trial of the model leaves as it was -/
def askA (M M' : Mm) : Prop := (∀ i, i < 112 → snp M' i = snp M i) ∧ (∀ k, (k < 87 ∨ (94 ≤ k ∧ k ≤ 100) ∨ k = 109 ∨ k = 110 ∨ 113 ≤ k) → M' k = M k) ∧ ∀ j, j ≠ 0 → j ≠ 7 → j ≠ 8 → M' 87 j = M 87 j
theorem askA.rf {M : Mm} : askA M M := ⟨fun _ _ => rfl, fun _ _ => rfl, fun _ _ _ _ => rfl⟩
theorem askA.tr {M M1 M2 : Mm} (h1 : askA M M1) (h2 : askA M1 M2) : askA M M2 := ⟨fun i h => (h2.1 i h).trans (h1.1 i h), fun k h => (h2.2.1 k h).trans (h1.2.1 k h), fun j a b c => (h2.2.2 j a b c).trans (h1.2.2 j a b c)⟩
theorem ask.askA {M M' : Mm} (h : ask M M') : askA M M' := by
  refine ⟨fun i hi => ?_, fun k hk => h k (by omega) (by omega), fun j _ _ _ => by rw [h 87 (by decide) (by decide)]⟩
  have := cel_row i hi
  unfold snp
  rw [h _ (by omega) (by omega)]
/-- keep, a trial of the street, again -/
theorem askA.of {M M1 M2 M3 : Mm} (h1 : ∀ k, k ≠ 111 → M1 k = M k) (h1' : ∀ j, j < 112 → M1 111 j = snp M j) (h2 : stf M1 M2) (h3 : AG M2 M3 111 (fun j => j < 112)) : askA M M3 := by
  have e111 : M2 111 = M1 111 := h2.1 111 (by omega) (by decide) (by decide)
  refine ⟨fun i hi => ?_, fun k hk => funext fun j => ?_, fun j a b c => ?_⟩
  · rw [h3.2 i hi hi, e111]; exact h1' i hi
  · rw [h3.1 k j (fun i hi e => ?_), h2.1 k (by omega) (by omega) (by omega), h1 k (by omega)]
    have := cel_row i hi
    rw [e] at this
    simp only at this
    omega
  · by_cases q : j = 25 ∨ j = 29 ∨ j = 32 ∨ j = 16
    · have e2 : M2 87 j = M 87 j := by rw [h2.2 j a b c, h1 87 (by decide)]
      rcases q with rfl | rfl | rfl | rfl
      · rw [show M3 87 25 = snp M3 108 from rfl, h3.2 108 (by decide) (by decide), e111, h1' 108 (by decide)]; rfl
      · rw [show M3 87 29 = snp M3 109 from rfl, h3.2 109 (by decide) (by decide), e111, h1' 109 (by decide)]; rfl
      · rw [show M3 87 32 = snp M3 110 from rfl, h3.2 110 (by decide) (by decide), e111, h1' 110 (by decide)]; rfl
      · rw [show M3 87 16 = snp M3 111 from rfl, h3.2 111 (by decide) (by decide), e111, h1' 111 (by decide)]; rfl
    · rw [h3.1 87 j (fun i hi e => ?_), h2.2 j a b c, h1 87 (by decide)]
      have := cel_87 i hi (by rw [e])
      rw [e] at this
      simp only at this
      omega
theorem MX.askA {M M' : Mm} {z : Ab} (h : MX M z) (hc : zc z ≤ 6) (e : askA M M') : MX M' z := by
  obtain ⟨h1, h2, h3, h4, h5⟩ := h
  refine ⟨(e.1 105 (by decide)).trans h1, (e.1 106 (by decide)).trans h2, (e.1 107 (by decide)).trans h3, fun p hp => ?_, h5.cong (e.1 111 (by decide)) (fun k a b => e.2.1 k (by omega))⟩
  have hp6 : p < 6 := by omega
  obtain ⟨r0, r1, r2, r3, r4, r5⟩ := h4 p hp
  refine ⟨?_, ?_, ?_, ?_, ?_, fun j hj => ?_⟩
  · rw [← snp_0 (M := M') hp6, e.1 _ (by omega), snp_0 hp6]; exact r0
  · rw [← snp_6 (M := M') hp6, e.1 _ (by omega), snp_6 hp6]; exact r1
  · rw [← snp_12 (M := M') hp6, e.1 _ (by omega), snp_12 hp6]; exact r2
  · rw [← snp_18 (M := M') hp6, e.1 _ (by omega), snp_18 hp6]; exact r3
  · rw [← snp_24 (M := M') hp6, e.1 _ (by omega), snp_24 hp6]; exact r4
  · rw [← snp_30 (M := M') (show 4 * p + j < 24 by omega), e.1 _ (by omega), snp_30 (show 4 * p + j < 24 by omega)]; exact r5 j hj
/-! rows told by hand -/
def seenR (M : Mm) (T : Tb) : Prop := M 87 25 = (T.length : Int) ∧ ∀ i, i < T.length → M 102 i = tg T i 0 ∧ M 103 i = tg T i 1 ∧ M 104 i = tg T i 2
def planR (M : Mm) (T : Tb) : Prop := M 87 29 = (T.length : Int) ∧ ∀ i, i < T.length → M 105 i = tg T i 0 ∧ (tg T i 0 ≠ 0 → M 106 i = tg T i 1)
def bookR (M : Mm) (T : Tb) : Prop := M 87 32 = (T.length : Int) ∧ ∀ i, i < T.length → M 107 i = tg T i 0 ∧ M 108 i = tg T i 1
