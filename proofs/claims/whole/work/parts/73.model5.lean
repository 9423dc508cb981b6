/-! what is FALSE, as the model looks for it: day by day, of some bits -/
def badB (z : Ab) (T : Tb) (bits i : Nat) : Bool := decide ((seersN (walkZ z (tg T i 1).toNat) (tg T i 0).toNat ^^^ (tg T i 2).toNat) &&& bits ≠ 0)
def wrB (z : Ab) (T : Tb) (bits : Nat) : Int := fstF T.length 0 (badB z T bits)
def selB (z : Ab) (T : Tb) (bits n i j : Nat) : Bool := decide ((tg T j 1).toNat < n ∨ ((tg T j 1).toNat = n ∧ j < i)) && badB z T bits j
def fW (z : Ab) (T : Tb) (bits n i : Nat) : Int := fstF T.length 0 (selB z T bits n i)
theorem fstF_congr : ∀ (k i : Nat) {f g : Nat → Bool}, (∀ j, i ≤ j → j < i + k → f j = g j) → fstF k i f = fstF k i g
  | 0, _, _, _, _ => rfl
  | k + 1, i, f, g, h => by rw [fstF, fstF, h i (by omega) (by omega), fstF_congr k (i + 1) (fun j a b => h j (by omega) (by omega))]
theorem fst_ins {L i : Nat} {f g : Nat → Bool} (hi : i < L) (h1 : ∀ j, j ≠ i → g j = f j) (h2 : g i = true) (h3 : f i = false) : fstF L 0 g = if fstF L 0 f = -5 ∨ (i : Int) < fstF L 0 f then (i : Int) else fstF L 0 f := by
  rcases fstF_cases L 0 f with ⟨a1, a2⟩ | ⟨j, -, a2, a3, a4, a5⟩
  · rw [if_pos (Or.inl a1)]
    rcases fstF_cases L 0 g with ⟨-, b2⟩ | ⟨j, -, b2, b3, b4, b5⟩
    · have := b2 i (Nat.zero_le _) (by omega); rw [h2] at this; cases this
    · rw [b3]
      by_cases e : j = i
      · subst e; rfl
      · rw [h1 j e, a2 j (Nat.zero_le _) (by omega)] at b4; cases b4
  · rcases fstF_cases L 0 g with ⟨-, b2⟩ | ⟨l, -, b2, b3, b4, b5⟩
    · have := b2 i (Nat.zero_le _) (by omega); rw [h2] at this; cases this
    · have hij : i ≠ j := fun e => by subst e; rw [h3] at a4; cases a4
      rw [a3, b3]
      by_cases q : i < j
      · rw [if_pos (Or.inr (by omega))]
        by_cases e : l = i
        · rw [e]
        · exfalso
          rw [h1 l e] at b4
          rcases Nat.lt_trichotomy l i with r | r | r
          · rw [a5 l (Nat.zero_le _) (by omega)] at b4; cases b4
          · exact e r
          · have := b5 i (Nat.zero_le _) r; rw [h2] at this; cases this
      · rw [if_neg (by omega)]
        by_cases e : l = i
        · exfalso
          have := b5 j (Nat.zero_le _) (by omega)
          rw [h1 j (Ne.symm hij), a4] at this
          cases this
        · rw [h1 l e] at b4
          rcases Nat.lt_trichotomy l j with r | r | r
          · rw [a5 l (Nat.zero_le _) r] at b4; cases b4
          · rw [r]
          · have := b5 j (Nat.zero_le _) r; rw [h1 j (Ne.symm hij), a4] at this; cases this
section FW
variable {z : Ab} {T : Tb} {bits n i : Nat}
theorem fW_0 : fW z T bits 0 0 = -5 := by
  rcases fstF_cases T.length 0 (selB z T bits 0 0) with ⟨a, -⟩ | ⟨j, -, -, -, a, -⟩
  · exact a
  · unfold selB at a
    rw [decide_eq_false (by omega), Bool.false_and] at a
    cases a
theorem fW_day (h : (tg T i 1).toNat ≠ n) : fW z T bits n (i + 1) = fW z T bits n i := fstF_congr _ _ fun j _ _ => by
  unfold selB
  congr 1
  rw [decide_eq_decide]
  by_cases e : j = i
  · subst e; omega
  · omega
theorem fW_good (h : badB z T bits i = false) : fW z T bits n (i + 1) = fW z T bits n i := fstF_congr _ _ fun j _ _ => by
  by_cases e : j = i
  · subst e; unfold selB; rw [h, Bool.and_false, Bool.and_false]
  · unfold selB
    congr 1
    rw [decide_eq_decide]
    omega
theorem fW_bad (hi : i < T.length) (h : (tg T i 1).toNat = n) (hb : badB z T bits i = true) : fW z T bits n (i + 1) = if fW z T bits n i = -5 ∨ (i : Int) < fW z T bits n i then (i : Int) else fW z T bits n i := by
  refine fst_ins hi (fun j hj => ?_) ?_ ?_
  · unfold selB
    congr 1
    rw [decide_eq_decide]
    omega
  · unfold selB
    rw [hb, Bool.and_true, decide_eq_true_eq]
    omega
  · unfold selB
    rw [decide_eq_false (by omega), Bool.false_and]
theorem fW_next : fW z T bits n T.length = fW z T bits (n + 1) 0 := fstF_congr _ _ fun j _ hj => by
  unfold selB
  congr 1
  rw [decide_eq_decide]
  omega
theorem fW_end (hS : okSeen T) : fW z T bits 21 0 = wrB z T bits := fstF_congr _ _ fun j _ hj => by
  have := (hS j (by omega)).2.1
  unfold selB
  rw [decide_eq_true (by omega), Bool.true_and]
theorem fW_rg : -5 ≤ fW z T bits n i ∧ fW z T bits n i < (T.length : Int) := by
  unfold fW
  rcases fstF_cases T.length 0 (selB z T bits n i) with ⟨a, -⟩ | ⟨j, -, b, a, -⟩
  · rw [a]; omega
  · rw [a]; omega
end FW
theorem xor_63 : ∀ a, a < 64 → ∀ b, b < 64 → ((a ^^^ b) &&& 63 ≠ 0 ↔ a ≠ b) := by decide +kernel
theorem xor_bit : ∀ a, a < 64 → ∀ b, b < 64 → ∀ p, p < 6 → ((a ^^^ b) &&& 2 ^ p ≠ 0 ↔ a.testBit p ≠ b.testBit p) := by decide +kernel
theorem wrong_eq {z : Ab} {T : Tb} (hO : okZ z) (hD : zd z ≤ 9999) (hS : okSeen T) : wrB z T 63 = falseN T z := fstF_congr _ _ fun j _ hj => by
  obtain ⟨s0, s1, s2⟩ := hS j (by omega)
  have h1 := seersN_lt (z := walkZ z (tg T j 1).toNat) (t := (tg T j 0).toNat) (okZ_walk hO (by omega))
  have := xor_63 _ h1 (tg T j 2).toNat (by omega)
  unfold badB
  exact decide_eq_decide.mpr this
theorem sees_bit {z : Ab} {p t : Nat} (hp : p < zc z) (ht : t < 12) : (seersN z t).testBit p = (sightN z p).testBit t := by
  rw [seers_of z ht, bitsP_bit _ _ _ hp]
theorem agree_wr {z : Ab} {T : Tb} {p t v : Nat} (hO : okZ (setP (setP z p 2 t) p 1 v)) (hD : zd z ≤ 9999) (hp : p < zc z) (hS : okSeen T) : wrB (setP (setP z p 2 t) p 1 v) T (2 ^ p) = -5 ↔ agreeN z p t v T = true := by
  have hc6 : p < 6 := by have : zc z ≤ 6 := hO.1; omega
  have key : ∀ i, i < T.length → (badB (setP (setP z p 2 t) p 1 v) T (2 ^ p) i = false ↔ ((sightN (walkZ (setP (setP z p 2 t) p 1 v) (tg T i 1).toNat) p).testBit (tg T i 0).toNat == (tg T i 2).toNat.testBit p) = true) := fun i hi => by
    obtain ⟨s0, s1, s2⟩ := hS i hi
    have h1 := seersN_lt (z := walkZ (setP (setP z p 2 t) p 1 v) (tg T i 1).toNat) (t := (tg T i 0).toNat) (okZ_walk hO (by show zd z + _ ≤ _; omega))
    have h2 := xor_bit _ h1 (tg T i 2).toNat (by omega) p hc6
    rw [sees_bit (z := walkZ (setP (setP z p 2 t) p 1 v) (tg T i 1).toNat) hp (by omega)] at h2
    unfold badB
    rw [decide_eq_false_iff_not, h2, beq_iff_eq]
    exact Classical.not_not
  unfold wrB agreeN
  rw [List.all_eq_true]
  rcases fstF_cases T.length 0 (badB (setP (setP z p 2 t) p 1 v) T (2 ^ p)) with ⟨a1, a2⟩ | ⟨j, -, a2, a3, a4, -⟩
  · exact ⟨fun _ i hi => (key i (List.mem_range.mp hi)).mp (a2 i (Nat.zero_le _) (by have := List.mem_range.mp hi; omega)), fun _ => a1⟩
  · constructor
    · intro h; rw [a3] at h; omega
    · intro h
      have := (key j (by omega)).mpr (h j (List.mem_range.mpr (by omega)))
      rw [a4] at this
      cases this
/-! THE WHOLE STATE as the model holds it -/
def lwP (Lt : Nat → LawC) (l : Nat) (x : Int) (L : LawC) : Prop := (x = -1 ∧ L = []) ∨ ∃ h : Nat, h < l ∧ x = (h : Int) ∧ L = Lt h
def SR (f : Nat → Int) (lw : Int → LawC → Prop) (s : Sn) : Prop := f 105 = (zc s.1 : Int) ∧ f 106 = (zw s.1 : Int) ∧ f 107 = (zd s.1 : Int) ∧ (∀ p, p < zc s.1 → f (0 + p) = (zP s.1 p 0 : Int) ∧ f (6 + p) = (zP s.1 p 1 : Int) ∧ f (12 + p) = (zP s.1 p 2 : Int) ∧ f (18 + p) = (zP s.1 p 3 : Int) ∧ f (24 + p) = (zP s.1 p 4 : Int) ∧ ∀ j, j < 4 → f (30 + (4 * p + j)) = (zP s.1 p (5 + j) : Int)) ∧
  (f 108 = (s.2.1.length : Int) ∧ ∀ i, i < s.2.1.length → f (54 + i) = tg s.2.1 i 0 ∧ f (59 + i) = tg s.2.1 i 1 ∧ f (64 + i) = tg s.2.1 i 2) ∧
  (f 109 = (s.2.2.1.length : Int) ∧ ∀ i, i < s.2.2.1.length → f (69 + i) = tg s.2.2.1 i 0 ∧ (tg s.2.2.1 i 0 ≠ 0 → f (79 + i) = tg s.2.2.1 i 1)) ∧
  (f 110 = (s.2.2.2.length : Int) ∧ ∀ i, i < s.2.2.2.length → f (89 + i) = tg s.2.2.2 i 0 ∧ f (97 + i) = tg s.2.2.2 i 1) ∧ lw (f 111) (zL s.1)
def keptM (M : Mm) (lw : Int → LawC → Prop) (k : Option Sn) : Prop := match k with
  | none => M 87 37 = 0
  | some s => M 87 37 = 1 ∧ SR (M 110) lw s
def RepM (M : Mm) (s : Wt) : Prop := ∃ (Lt : Nat → LawC) (K : Nat), (K ≤ 100 * wl s ∧ ∀ h, (Lt h).length ≤ 10) ∧ M 87 23 = (K : Int) ∧ M 87 15 = (wl s : Int) ∧ (∀ h, h < wl s → LTat M K h (Lt h)) ∧ SR (snp M) (lwP Lt (wl s)) (wn s) ∧ keptM M (lwP Lt (wl s)) (wk s) ∧
  (M 87 9 = ((wx s).length : Int) ∧ ∀ j, j < (wx s).length → M 94 j = ((wx s).getD j 0 : Int)) ∧ (M 87 35 = ((wr s).length : Int) ∧ (wr s).length ≤ 20 ∧ ∀ i, i < (wr s).length → M 109 i = ((wr s).getD i 0 : Int)) ∧ ∀ i, i < 6 → M 113 i = (wp s i).1 ∧ M 114 i = ((wp s i).2.1 : Int) ∧ ∀ j, j < 60 → M 115 (60 * i + j) = (wp s i).2.2 j
/-- lengths -/
def lenS (s : Sn) : Prop := zc s.1 ≤ 6 ∧ s.2.1.length ≤ 5 ∧ s.2.2.1.length ≤ 10 ∧ s.2.2.2.length ≤ 8
theorem okS.len {s : Sn} (h : okS s) : lenS s := ⟨h.1.1, h.2.2.2.2.2.1, h.2.2.2.2.2.2.1, h.2.2.2.2.2.2.2⟩
theorem SR.cong {f f' : Nat → Int} {lw : Int → LawC → Prop} {s : Sn} (h : SR f lw s) (hl : lenS s) (e : ∀ i, i < 112 → f' i = f i) : SR f' lw s := by
  obtain ⟨h1, h2, h3, h4, ⟨a1, a2⟩, ⟨b1, b2⟩, ⟨c1, c2⟩, h8⟩ := h
  obtain ⟨l1, l2, l3, l4⟩ := hl
  refine ⟨by rw [e 105 (by decide)]; exact h1, by rw [e 106 (by decide)]; exact h2, by rw [e 107 (by decide)]; exact h3, fun p hp => ?_, ⟨by rw [e 108 (by decide)]; exact a1, fun i hi => ?_⟩, ⟨by rw [e 109 (by decide)]; exact b1, fun i hi => ?_⟩, ⟨by rw [e 110 (by decide)]; exact c1, fun i hi => ?_⟩, by rw [e 111 (by decide)]; exact h8⟩
  · obtain ⟨r0, r1, r2, r3, r4, r5⟩ := h4 p hp
    exact ⟨by rw [e _ (by omega)]; exact r0, by rw [e _ (by omega)]; exact r1, by rw [e _ (by omega)]; exact r2, by rw [e _ (by omega)]; exact r3, by rw [e _ (by omega)]; exact r4, fun j hj => by rw [e _ (by omega)]; exact r5 j hj⟩
  · obtain ⟨r0, r1, r2⟩ := a2 i hi
    exact ⟨by rw [e _ (by omega)]; exact r0, by rw [e _ (by omega)]; exact r1, by rw [e _ (by omega)]; exact r2⟩
  · obtain ⟨r0, r1⟩ := b2 i hi
    exact ⟨by rw [e _ (by omega)]; exact r0, by rw [e _ (by omega)]; exact r1⟩
  · obtain ⟨r0, r1⟩ := c2 i hi
    exact ⟨by rw [e _ (by omega)]; exact r0, by rw [e _ (by omega)]; exact r1⟩
/-- the scene that is now, cell by cell -/
def DR (M : Mm) (lw : Int → LawC → Prop) (s : Sn) : Prop := M 87 0 = (zc s.1 : Int) ∧ M 87 7 = (zw s.1 : Int) ∧ M 87 8 = (zd s.1 : Int) ∧ (∀ p, p < zc s.1 → MP M p (zP s.1 p)) ∧ seenR M s.2.1 ∧ planR M s.2.2.1 ∧ bookR M s.2.2.2 ∧ lw (M 87 16) (zL s.1)
theorem SR.dr {M : Mm} {lw : Int → LawC → Prop} {s : Sn} (h : SR (snp M) lw s) (hl : lenS s) : DR M lw s := by
  obtain ⟨h1, h2, h3, h4, ⟨a1, a2⟩, ⟨b1, b2⟩, ⟨c1, c2⟩, h8⟩ := h
  obtain ⟨l1, l2, l3, l4⟩ := hl
  refine ⟨h1, h2, h3, fun p hp => ?_, ⟨a1, fun i hi => ?_⟩, ⟨b1, fun i hi => ?_⟩, ⟨c1, fun i hi => ?_⟩, h8⟩
  · obtain ⟨r0, r1, r2, r3, r4, r5⟩ := h4 p hp
    have h6 : p < 6 := by omega
    rw [snp_0 h6] at r0
    rw [snp_6 h6] at r1
    rw [snp_12 h6] at r2
    rw [snp_18 h6] at r3
    rw [snp_24 h6] at r4
    exact ⟨r0, r1, r2, r3, r4, fun j hj => by rw [← snp_30 (M := M) (show 4 * p + j < 24 by omega)]; exact r5 j hj⟩
  · obtain ⟨r0, r1, r2⟩ := a2 i hi
    have h6 : i < 5 := by omega
    rw [snp_54 h6] at r0
    rw [snp_59 h6] at r1
    rw [snp_64 h6] at r2
    exact ⟨r0, r1, r2⟩
  · obtain ⟨r0, r1⟩ := b2 i hi
    have h6 : i < 10 := by omega
    rw [snp_69 h6] at r0
    rw [snp_79 h6] at r1
    exact ⟨r0, r1⟩
  · obtain ⟨r0, r1⟩ := c2 i hi
    have h6 : i < 8 := by omega
    rw [snp_89 h6] at r0
    rw [snp_97 h6] at r1
    exact ⟨r0, r1⟩
theorem DR.sr {M : Mm} {lw : Int → LawC → Prop} {s : Sn} (h : DR M lw s) (hl : lenS s) : SR (snp M) lw s := by
  obtain ⟨h1, h2, h3, h4, ⟨a1, a2⟩, ⟨b1, b2⟩, ⟨c1, c2⟩, h8⟩ := h
  obtain ⟨l1, l2, l3, l4⟩ := hl
  refine ⟨h1, h2, h3, fun p hp => ?_, ⟨a1, fun i hi => ?_⟩, ⟨b1, fun i hi => ?_⟩, ⟨c1, fun i hi => ?_⟩, h8⟩
  · obtain ⟨r0, r1, r2, r3, r4, r5⟩ := h4 p hp
    have h6 : p < 6 := by omega
    rw [snp_0 h6, snp_6 h6, snp_12 h6, snp_18 h6, snp_24 h6]
    exact ⟨r0, r1, r2, r3, r4, fun j hj => by rw [snp_30 (show 4 * p + j < 24 by omega)]; exact r5 j hj⟩
  · have h6 : i < 5 := by omega
    rw [snp_54 h6, snp_59 h6, snp_64 h6]
    exact a2 i hi
  · have h6 : i < 10 := by omega
    rw [snp_69 h6, snp_79 h6]
    exact b2 i hi
  · have h6 : i < 8 := by omega
    rw [snp_89 h6, snp_97 h6]
    exact c2 i hi
theorem RepM.dr {M : Mm} {s : Wt} (h : RepM M s) (hO : okW s) : ∃ lw, DR M lw (wn s) := by
  obtain ⟨Lt, K, -, -, -, -, h5, -⟩ := h
  exact ⟨_, h5.dr hO.1.len⟩
theorem RepM.mx {M : Mm} {s : Wt} (h : RepM M s) (hO : okW s) : MX M (wz s) := by
  obtain ⟨Lt, K, k1, -, -, k4, h5, -⟩ := h
  obtain ⟨d1, d2, d3, d4, -, -, -, d8⟩ := h5.dr hO.1.len
  have hl : wl s ≤ 6 := hO.2.2.1
  refine ⟨d1, d2, d3, d4, ?_⟩
  rcases d8 with ⟨a, b⟩ | ⟨h, a, b, c⟩
  · exact Or.inl ⟨a, b⟩
  · have k1a := k1.1
    refine Or.inr ⟨h, K, by omega, by omega, b, ?_⟩
    rw [show zL (wz s) = Lt h from c]
    exact k4 h a
/-- the scene that is now changes -/
theorem RepM.now {M M' : Mm} {s : Wt} {k : Sn} (h : RepM M s) (hS : ∀ lw, SR (snp M) lw (wn s) → SR (snp M') lw k) (e : ∀ k, ((94 ≤ k ∧ k ≤ 100) ∨ k = 109 ∨ k = 110 ∨ (113 ≤ k ∧ k < 116)) → M' k = M k) (e2 : ∀ j, (j = 9 ∨ j = 15 ∨ j = 23 ∨ j = 35 ∨ j = 37) → M' 87 j = M 87 j) : RepM M' (putN s k) := by
  obtain ⟨Lt, K, h1, h2, h3, h4, h5, h6, ⟨t1, t2⟩, ⟨r1, r2, r3⟩, h9⟩ := h
  refine ⟨Lt, K, h1, by rw [e2 23 (by decide)]; exact h2, by rw [e2 15 (by decide)]; exact h3, fun h hh => (h4 h hh).cong (fun k a b => e k (by omega)), hS _ h5, ?_, ⟨by rw [e2 9 (by decide)]; exact t1, fun j hj => by rw [e 94 (by omega)]; exact t2 j hj⟩, ⟨by rw [e2 35 (by decide)]; exact r1, r2, fun i hi => by rw [e 109 (by omega)]; exact r3 i hi⟩, fun i hi => by rw [e 113 (by omega), e 114 (by omega), e 115 (by omega)]; exact h9 i hi⟩
  show keptM M' _ (wk s)
  unfold keptM at h6 ⊢
  rw [e2 37 (by decide), e 110 (by omega)]
  exact h6
theorem RepM.askA {M M' : Mm} {s : Wt} (h : RepM M s) (hO : okW s) (e : askA M M') : RepM M' s := by
  have := RepM.now (k := wn s) h (fun lw hl => hl.cong hO.1.len e.1) (fun k hk => e.2.1 k (by omega)) (fun j hj => e.2.2 j (by omega) (by omega) (by omega))
  exact this
theorem RepM.st {M M' : Mm} {s : Wt} {z : Ab} (h : RepM M s) (hO : okW s) (e : stf M M') (hX : MX M' z) (hL : zL z = zL (wz s)) (hc : zc z ≤ 6) : RepM M' (putZ s z) := by
  refine RepM.now (k := (z, (wn s).2)) h (fun lw hl => ?_) (fun k hk => e.1 k (by omega) (by omega) (by omega)) (fun j hj => e.2 j (by omega) (by omega) (by omega))
  obtain ⟨d1, d2, d3, d4, ⟨a1, a2⟩, ⟨b1, b2⟩, ⟨c1, c2⟩, d8⟩ := hl.dr hO.1.len
  obtain ⟨x1, x2, x3, x4, -⟩ := hX
  have ee : ∀ k, 102 ≤ k → k ≤ 108 → M' k = M k := fun k a b => e.1 k (by omega) (by omega) (by omega)
  have ej : ∀ j, 9 ≤ j → M' 87 j = M 87 j := fun j hj => e.2 j (by omega) (by omega) (by omega)
  refine DR.sr ⟨x1, x2, x3, x4, ⟨by rw [ej 25 (by decide)]; exact a1, fun i hi => ?_⟩, ⟨by rw [ej 29 (by decide)]; exact b1, fun i hi => ?_⟩, ⟨by rw [ej 32 (by decide)]; exact c1, fun i hi => ?_⟩, ?_⟩ ⟨hc, hO.1.len.2⟩
  · rw [ee 102 (by decide) (by decide), ee 103 (by decide) (by decide), ee 104 (by decide) (by decide)]; exact a2 i hi
  · rw [ee 105 (by decide) (by decide), ee 106 (by decide) (by decide)]; exact b2 i hi
  · rw [ee 107 (by decide) (by decide), ee 108 (by decide) (by decide)]; exact c2 i hi
  · rw [ej 16 (by decide)]
    show lw (M 87 16) (zL z)
    rw [hL]; exact d8
