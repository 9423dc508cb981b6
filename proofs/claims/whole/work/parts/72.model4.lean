/-! the fewest bricks: every set of WALLS that hides a place has one or two that do -/
theorem bits_0 (f : Nat → Bool) : ∀ n, bitsP n f = 0 ↔ ∀ i, i < n → f i = false
  | 0 => by simp [bitsP]
  | n + 1 => by
    have h := bits_0 f n
    have h2 := Nat.two_pow_pos n
    rw [bitsP]
    constructor
    · intro e i hi
      have hf : f n = false := by
        by_cases q : f n = true
        · rw [if_pos q] at e; omega
        · exact Bool.eq_false_iff.mpr q
      rw [hf] at e
      by_cases q : i = n
      · subst q; exact hf
      · exact h.mp (by simpa using e) i (by omega)
    · intro e
      rw [h.mpr (fun i hi => e i (by omega)), e n (by omega)]
      rfl
/-- a wall ahead of step d -/
def wf (W d : Nat) (g : Nat → Nat) : Prop := ∃ m, m < d ∧ W.testBit (g m) = true
theorem wayR_f {W pl t : Nat} (hp : pl < 12) (ht : t < 12) : wayOK W pl (dR pl t) = false ↔ wf W (dR pl t) (fun m => (t + 11 * (m + 1)) % 12) := by
  have e : (t : Nat) = (pl + dR pl t) % 12 := by unfold dR; omega
  have hd : dR pl t < 12 := Nat.mod_lt _ (by decide)
  generalize dR pl t = d at e hd
  unfold wayOK wf
  rw [List.all_eq_false]
  constructor
  · rintro ⟨k, hk, h⟩
    have hk2 := List.mem_range.mp hk
    refine ⟨d - 1 - k, by omega, ?_⟩
    dsimp only
    rw [show (t + 11 * (d - 1 - k + 1)) % 12 = (pl + k) % 12 by omega]
    simpa using h
  · rintro ⟨m, hm, h⟩
    refine ⟨d - 1 - m, List.mem_range.mpr (by omega), ?_⟩
    dsimp only at h
    rw [show (pl + (d - 1 - m)) % 12 = (t + 11 * (m + 1)) % 12 by omega, h]
    decide
theorem wayL_f {W t d : Nat} : wayOK W t d = false ↔ wf W d (fun m => (t + m) % 12) := by
  unfold wayOK wf
  rw [List.all_eq_false]
  constructor
  · rintro ⟨k, hk, h⟩
    exact ⟨k, List.mem_range.mp hk, by simpa using h⟩
  · rintro ⟨m, hm, h⟩
    exact ⟨m, List.mem_range.mpr hm, by rw [h]; decide⟩
theorem least_n {P : Nat → Prop} (hdec : ∀ m, P m ∨ ¬ P m) : ∀ n, (∃ m, m < n ∧ P m) → ∃ m, m < n ∧ P m ∧ ∀ k, k < m → ¬ P k
  | 0, ⟨m, h, _⟩ => absurd h (Nat.not_lt_zero _)
  | n + 1, ⟨m, h1, h2⟩ => by
    by_cases q : ∃ m, m < n ∧ P m
    · obtain ⟨m, a, b, c⟩ := least_n hdec n q
      exact ⟨m, by omega, b, c⟩
    · refine ⟨m, h1, h2, fun k hk hP => q ⟨k, by omega, hP⟩⟩
theorem pick (w s : Nat) (g : Nat → Nat) (hg : ∀ m, g m < 12) : ∃ a, (a = 0 ∨ ∃ c, c < 12 ∧ a = 2 ^ c) ∧ ∀ W, (∀ i, w.testBit i = true → W.testBit i = true) → (∀ i, a.testBit i = true → W.testBit i = true) → ∀ d, d ≤ 12 → wf (w ||| s) d g → wf W d g := by
  by_cases q : ∃ m, m < 12 ∧ (w ||| s).testBit (g m) = true
  · obtain ⟨m0, h1, h2, h3⟩ := least_n (P := fun m => (w ||| s).testBit (g m) = true) (fun m => Classical.em _) 12 q
    have fin : ∀ W : Nat, W.testBit (g m0) = true → ∀ d, d ≤ 12 → wf (w ||| s) d g → wf W d g := by
      rintro W hW d hd ⟨m, hm, hb⟩
      refine ⟨m0, ?_, hW⟩
      apply Nat.lt_of_le_of_lt (Nat.le_of_not_lt fun hlt => h3 m hlt hb) hm
    by_cases hw : w.testBit (g m0) = true
    · exact ⟨0, Or.inl rfl, fun W a _ => fin W (a _ hw)⟩
    · exact ⟨2 ^ g m0, Or.inr ⟨g m0, hg m0, rfl⟩, fun W _ b => fin W (b _ (by rw [Nat.testBit_two_pow]; simp))⟩
  · exact ⟨0, Or.inl rfl, fun W _ _ d hd ⟨m, hm, hb⟩ => absurd ⟨m, by omega, hb⟩ q⟩
def hid (z : Ab) (t s : Nat) : Bool := decide (seersW (zw z ||| s) z t = 0)
theorem hid_two {z : Ab} (hO : okZ z) {t s : Nat} (ht : t < 12) (h : hid z t s = true) : ∃ a b, (a = 0 ∨ ∃ c, c < 12 ∧ a = 2 ^ c) ∧ (b = 0 ∨ ∃ c, c < 12 ∧ b = 2 ^ c) ∧ hid z t (a ||| b) = true := by
  obtain ⟨a, ha, ha2⟩ := pick (zw z) s (fun m => (t + 11 * (m + 1)) % 12) (fun m => Nat.mod_lt _ (by decide))
  obtain ⟨b, hb, hb2⟩ := pick (zw z) s (fun m => (t + m) % 12) (fun m => Nat.mod_lt _ (by decide))
  refine ⟨a, b, ha, hb, ?_⟩
  have h0 := of_decide_eq_true h
  refine decide_eq_true ?_
  unfold seersW at h0 ⊢
  rw [bits_0] at h0 ⊢
  intro p hp
  have h1 := h0 p hp
  have hpl : zP z p 2 < 12 := by have := (hO.2.2.2.1 p hp).2.2.1; omega
  have i1 : ∀ i, (zw z).testBit i = true → (zw z ||| (a ||| b)).testBit i = true := fun i hi => by rw [Nat.testBit_or, hi]; rfl
  have i2 : ∀ i, a.testBit i = true → (zw z ||| (a ||| b)).testBit i = true := fun i hi => by rw [Nat.testBit_or, Nat.testBit_or, hi]; simp
  have i3 : ∀ i, b.testBit i = true → (zw z ||| (a ||| b)).testBit i = true := fun i hi => by rw [Nat.testBit_or, Nat.testBit_or, hi]; simp
  have k1 := ha2 _ i1 i2
  have k2 := hb2 _ i1 i3
  generalize zw z ||| (a ||| b) = W' at k1 k2
  generalize zw z ||| s = W at h1 k1 k2
  unfold seeW seesB at h1 ⊢
  rw [Bool.or_eq_false_iff] at h1 ⊢
  have hd1 : dR (zP z p 2) t ≤ 12 := Nat.le_of_lt (Nat.mod_lt _ (by decide))
  have hd2 : dL (zP z p 2) t ≤ 12 := Nat.le_of_lt (Nat.mod_lt _ (by decide))
  refine ⟨?_, ?_⟩
  · rcases Bool.and_eq_false_iff.mp h1.1 with h | h
    · rw [h]; rfl
    · rw [(wayR_f hpl ht).mpr (k1 _ hd1 ((wayR_f hpl ht).mp h)), Bool.and_false]
  · rcases Bool.and_eq_false_iff.mp h1.2 with h | h
    · rw [h]; rfl
    · rw [wayL_f.mpr (k2 _ hd2 (wayL_f.mp h)), Bool.and_false]
theorem bc_01 : ∀ s, s < 4096 → (bcN s = 0 → s = 0) ∧ (bcN s = 1 → ∃ c, c < 12 ∧ s = 2 ^ c) := by
  have h : ∀ x, x < 64 → ∀ y, y < 64 → (bcN (64 * x + y) = 0 → 64 * x + y = 0) ∧ (bcN (64 * x + y) = 1 → ∃ c, c < 12 ∧ 64 * x + y = 2 ^ c) := by decide +kernel
  intro s hs
  have := h (s / 64) (by omega) (s % 64) (by omega)
  rwa [show 64 * (s / 64) + s % 64 = s by omega] at this
theorem bc_two : ∀ s, s < 4096 → bcN s = 2 → ∃ c l, c < 12 ∧ l < c ∧ s = 2 ^ c ||| 2 ^ l := by
  have h : ∀ x, x < 64 → ∀ y, y < 64 → bcN (64 * x + y) = 2 → ∃ c, c < 12 ∧ ∃ l, l < c ∧ 64 * x + y = 2 ^ c ||| 2 ^ l := by decide +kernel
  intro s hs hb
  have := h (s / 64) (by omega) (s % 64) (by omega)
  rw [show 64 * (s / 64) + s % 64 = s by omega] at this
  obtain ⟨c, hc, l, hl, e⟩ := this hb
  exact ⟨c, l, hc, hl, e⟩
theorem bc_2 : ∀ c, c < 12 → bcN (2 ^ c) = 1 ∧ ∀ l, l < c → bcN (2 ^ c ||| 2 ^ l) = 2 := by decide +kernel
/-- what the model's search has found among the sets below n -/
def gF (z : Ab) (t : Nat) : Nat → Int
  | 0 => -5
  | n + 1 => if n &&& zw z = 0 ∧ (gF z t n = -5 ∨ bcN n < bcN (gF z t n).toNat) ∧ hid z t n = true then (n : Int) else gF z t n
def okB (z : Ab) (t s : Nat) : Prop := s &&& zw z = 0 ∧ hid z t s = true
theorem gF_inv (z : Ab) (t : Nat) : ∀ n, (gF z t n = -5 ∧ ∀ s, s < n → ¬ okB z t s) ∨ ∃ f, f < n ∧ gF z t n = (f : Int) ∧ okB z t f ∧ ∀ s, s < n → okB z t s → bcN f < bcN s ∨ (bcN f = bcN s ∧ f ≤ s)
  | 0 => Or.inl ⟨rfl, fun s h => absurd h (Nat.not_lt_zero _)⟩
  | n + 1 => by
    rcases gF_inv z t n with ⟨h1, h2⟩ | ⟨f, h1, h2, h3, h4⟩
    · by_cases q : okB z t n
      · right
        refine ⟨n, by omega, by rw [gF, if_pos ⟨q.1, Or.inl h1, q.2⟩], q, fun s hs hk => ?_⟩
        by_cases e : s = n
        · subst e; exact Or.inr ⟨rfl, Nat.le_refl _⟩
        · exact absurd hk (h2 s (by omega))
      · left
        refine ⟨by rw [gF, if_neg (fun h => q ⟨h.1, h.2.2⟩)]; exact h1, fun s hs hk => ?_⟩
        by_cases e : s = n
        · subst e; exact q hk
        · exact h2 s (by omega) hk
    · right
      have et : (gF z t n).toNat = f := by rw [h2]; rfl
      by_cases q : okB z t n ∧ bcN n < bcN f
      · refine ⟨n, by omega, by rw [gF, if_pos ⟨q.1.1, Or.inr (by rw [et]; exact q.2), q.1.2⟩], q.1, fun s hs hk => ?_⟩
        by_cases e : s = n
        · subst e; exact Or.inr ⟨rfl, Nat.le_refl _⟩
        · rcases h4 s (by omega) hk with h | h <;> omega
      · have hnot : ¬ (n &&& zw z = 0 ∧ (gF z t n = -5 ∨ bcN n < bcN (gF z t n).toNat) ∧ hid z t n = true) := fun h => by
          refine q ⟨⟨h.1, h.2.2⟩, ?_⟩
          rcases h.2.1 with h5 | h5
          · rw [h2] at h5; omega
          · rw [et] at h5; exact h5
        refine ⟨f, by omega, by rw [gF, if_neg hnot]; exact h2, h3, fun s hs hk => ?_⟩
        by_cases e : s = n
        · subst e
          have : ¬ bcN s < bcN f := fun h => q ⟨hk, h⟩
          omega
        · exact h4 s (by omega) hk
theorem fst2_cases : ∀ (k i : Nat) (g : Nat → Int), (fst2 k i g = -5 ∧ ∀ j, i ≤ j → j < i + k → g j = -5) ∨ ∃ j, i ≤ j ∧ j < i + k ∧ g j ≠ -5 ∧ fst2 k i g = ((2 ^ j ||| 2 ^ (g j).toNat : Nat) : Int) ∧ ∀ l, i ≤ l → l < j → g l = -5 := by
  intro k
  induction k with
  | zero => intro i g; exact Or.inl ⟨rfl, fun j h1 h2 => by omega⟩
  | succ k ih =>
    intro i g
    by_cases h : g i = -5
    · rcases ih (i + 1) g with ⟨h1, h2⟩ | ⟨j, h1, h2, h3, h4, h5⟩
      · refine Or.inl ⟨by rw [fst2, if_pos h]; exact h1, fun j a b => ?_⟩
        by_cases hj : j = i
        · subst hj; exact h
        · exact h2 j (by omega) (by omega)
      · refine Or.inr ⟨j, by omega, by omega, h3, by rw [fst2, if_pos h]; exact h4, fun l a b => ?_⟩
        by_cases hl : l = i
        · subst hl; exact h
        · exact h5 l (by omega) b
    · exact Or.inr ⟨i, by omega, by omega, h, by rw [fst2, if_neg h], fun l h1 h2 => by omega⟩
theorem and_two {w c : Nat} (h : w.testBit c = false) : 2 ^ c &&& w = 0 := by
  apply Nat.eq_of_testBit_eq
  intro i
  rw [Nat.testBit_and, Nat.testBit_two_pow, Nat.zero_testBit]
  by_cases e : c = i
  · subst e; rw [h, Bool.and_false]
  · rw [decide_eq_false e, Bool.false_and]
theorem or_same {w c s : Nat} (h : w.testBit c = true) : w ||| (2 ^ c ||| s) = w ||| s := by
  apply Nat.eq_of_testBit_eq
  intro i
  rw [Nat.testBit_or, Nat.testBit_or, Nat.testBit_or, Nat.testBit_two_pow]
  by_cases e : c = i
  · subst e; rw [h]; simp
  · rw [decide_eq_false e, Bool.false_or]
theorem pair_1 : ∀ c, c < 12 → ∀ l, l < c → ∀ k, k < 12 → c < k → 2 ^ c ||| 2 ^ l ≤ 2 ^ k := by decide +kernel
theorem pair_2 : ∀ c, c < 12 → ∀ l, l < c → ∀ m, m < c → l ≤ m → 2 ^ c ||| 2 ^ l ≤ 2 ^ c ||| 2 ^ m := by decide +kernel
theorem pair_le (c : Nat) (hc : c < 12) (l : Nat) (hl : l < c) (c' : Nat) (hc' : c' < 12) (l' : Nat) (hl' : l' < c') (h : c < c' ∨ (c = c' ∧ l ≤ l')) : 2 ^ c ||| 2 ^ l ≤ 2 ^ c' ||| 2 ^ l' := by
  rcases h with h | ⟨rfl, h⟩
  · exact Nat.le_trans (pair_1 c hc l hl c' hc' h) Nat.left_le_or
  · exact pair_2 c hc l hl l' hl' h
theorem pair_lt : ∀ c, c < 12 → ∀ l, l < c → 2 ^ c ||| 2 ^ l < 4096 := by decide +kernel
theorem or_idem2 (c : Nat) : 2 ^ c ||| 2 ^ c = 2 ^ c := Nat.or_self _
theorem brick_eq {z : Ab} (hO : okZ z) {t : Nat} (ht : t < 12) : gF z t 4096 = brickC z t := by
  have h00 : hid z t 0 = decide (seersN z t = 0) := by unfold hid; rw [Nat.or_zero]; rfl
  have g := gF_inv z t 4096
  by_cases c0 : seersN z t = 0
  · have ok0 : okB z t 0 := ⟨Nat.zero_and _, by rw [h00]; exact decide_eq_true c0⟩
    rw [brickC, if_pos c0]
    rcases g with ⟨-, g2⟩ | ⟨f, g1, g2, g3, g4⟩
    · exact absurd ok0 (g2 0 (by decide))
    · have e : bcN 0 = 0 := by decide +kernel
      rcases g4 0 (by decide) ok0 with h | h
      · omega
      · rw [g2]; omega
  · have n0 : ¬ hid z t 0 = true := by rw [h00]; simpa using c0
    have nb : ∀ c s, hid z t (2 ^ c ||| s) = true → ¬ hid z t s = true → (zw z).testBit c = false := fun c s h1 h2 => by
      by_cases q : (zw z).testBit c = true
      · unfold hid at h1 h2
        rw [or_same q] at h1
        exact absurd h1 h2
      · exact Bool.eq_false_iff.mpr q
    have n1 : ∀ c, hid z t (2 ^ c) = true → (zw z).testBit c = false := fun c h => nb c 0 (by rw [Nat.or_zero]; exact h) n0
    have f0 : ∀ f, f < 4096 → okB z t f → bcN f ≠ 0 := fun f hf hk e => by
      have := (bc_01 f hf).1 e
      subst this
      exact n0 hk.2
    rw [brickC, if_neg c0]
    rcases fstF_cases 12 0 (fun c => decide (seersW (zw z ||| 2 ^ c) z t = 0)) with ⟨h1, h2⟩ | ⟨c, -, hc, h3, h4, h5⟩
    · rw [if_pos h1]
      have s0 : ∀ c, c < 12 → ¬ hid z t (2 ^ c) = true := fun c hc h => by
        have := h2 c (Nat.zero_le _) (by omega)
        unfold hid at h
        rw [h] at this
        cases this
      have f1 : ∀ f, f < 4096 → okB z t f → bcN f ≠ 1 := fun f hf hk e => by
        obtain ⟨c, hc, rfl⟩ := (bc_01 f hf).2 e
        exact s0 c hc hk.2
      have pok : ∀ c, c < 12 → ∀ l, l < c → hid z t (2 ^ c ||| 2 ^ l) = true → okB z t (2 ^ c ||| 2 ^ l) := fun c hc l hl h => by
        have a := nb c (2 ^ l) h (s0 l (by omega))
        have b := nb l (2 ^ c) (by rw [Nat.or_comm]; exact h) (s0 c hc)
        refine ⟨?_, h⟩
        rw [Nat.and_comm, Nat.and_or_distrib_left, Nat.and_comm, and_two a, Nat.and_comm, and_two b]
        rfl
      -- every set that hides has a pair that does
      have two : ∀ s, hid z t s = true → ∃ c l, c < 12 ∧ l < c ∧ hid z t (2 ^ c ||| 2 ^ l) = true := fun s h => by
        obtain ⟨a, b, ha, hb, hab⟩ := hid_two hO ht h
        rcases ha with rfl | ⟨c, hc, rfl⟩
        · rcases hb with rfl | ⟨l, hl, rfl⟩
          · exact absurd (by simpa using hab) n0
          · exact absurd (by simpa using hab) (s0 l hl)
        · rcases hb with rfl | ⟨l, hl, rfl⟩
          · exact absurd (by simpa using hab) (s0 c hc)
          · rcases Nat.lt_trichotomy c l with q | q | q
            · exact ⟨l, c, hl, q, by rw [Nat.or_comm]; exact hab⟩
            · subst q; rw [or_idem2] at hab; exact absurd hab (s0 c hc)
            · exact ⟨c, l, hc, q, hab⟩
      rcases fst2_cases 11 1 (brk2 (zw z) z t) with ⟨k1, k2⟩ | ⟨c, k1, k2, k3, k4, k5⟩
      · rw [k1]
        rcases g with ⟨g1, -⟩ | ⟨f, g1, g2, g3, g4⟩
        · exact g1
        · exfalso
          obtain ⟨c, l, hc, hl, hcl⟩ := two f g3.2
          have := k2 c (by omega) (by omega)
          unfold brk2 at this
          rcases fstF_cases c 0 (fun l => decide (seersW (zw z ||| (2 ^ c ||| 2 ^ l)) z t = 0)) with ⟨-, m2⟩ | ⟨j, -, -, m3, -⟩
          · have m := m2 l (Nat.zero_le _) (by omega)
            unfold hid at hcl
            rw [hcl] at m
            cases m
          · rw [m3] at this; omega
      · have hc12 : c < 12 := by omega
        rcases fstF_cases c 0 (fun l => decide (seersW (zw z ||| (2 ^ c ||| 2 ^ l)) z t = 0)) with ⟨m1, -⟩ | ⟨l, -, hl, m3, m4, m5⟩
        · exact absurd m1 k3
        · have hl' : l < c := by omega
          have e9 : (brk2 (zw z) z t c).toNat = l := by unfold brk2; rw [m3]; rfl
          rw [k4, e9]
          have okp := pok c hc12 l hl' m4
          have bp := (bc_2 c hc12).2 l hl'
          rcases g with ⟨-, g2⟩ | ⟨f, g1, g2, g3, g4⟩
          · exact absurd okp (g2 _ (pair_lt c hc12 l hl'))
          · rw [g2]
            have hle := g4 _ (pair_lt c hc12 l hl') okp
            have a0 := f0 f g1 g3
            have a1 := f1 f g1 g3
            have hf2 : bcN f = 2 ∧ f ≤ 2 ^ c ||| 2 ^ l := by omega
            obtain ⟨c', l', hc', hl2, ef⟩ := bc_two f g1 hf2.1
            have hid' : hid z t (2 ^ c' ||| 2 ^ l') = true := by rw [← ef]; exact g3.2
            have hcc : c < c' ∨ (c = c' ∧ l ≤ l') := by
              rcases Nat.lt_trichotomy c c' with q | q | q
              · exact Or.inl q
              · subst q
                refine Or.inr ⟨rfl, Nat.le_of_not_lt fun h => ?_⟩
                have m := m5 l' (Nat.zero_le _) h
                unfold hid at hid'
                rw [hid'] at m
                cases m
              · exfalso
                have m := k5 c' (by omega) q
                unfold brk2 at m
                rcases fstF_cases c' 0 (fun l => decide (seersW (zw z ||| (2 ^ c' ||| 2 ^ l)) z t = 0)) with ⟨-, m2⟩ | ⟨j, -, -, m3, -⟩
                · have m := m2 l' (Nat.zero_le _) (by omega)
                  unfold hid at hid'
                  rw [hid'] at m
                  cases m
                · rw [m3] at m; omega
            have := pair_le c hc12 l hl' c' hc' l' hl2 hcc
            congr 1
            omega
    · have hc12 : c < 12 := by omega
      rw [if_neg (by rw [h3]; omega), h3]
      show gF z t 4096 = ((2 ^ c : Nat) : Int)
      have okc : okB z t (2 ^ c) := ⟨and_two (n1 c h4), h4⟩
      have b1 := (bc_2 c hc12).1
      have hlt : 2 ^ c < 4096 := Nat.pow_lt_pow_right (a := 2) (m := c) (n := 12) (by decide) hc12
      rcases g with ⟨-, g2⟩ | ⟨f, g1, g2, g3, g4⟩
      · exact absurd okc (g2 _ hlt)
      · rw [g2]
        have hle := g4 _ hlt okc
        have a0 := f0 f g1 g3
        have hf1 : bcN f = 1 ∧ f ≤ 2 ^ c := by omega
        obtain ⟨c', hc', ef⟩ := (bc_01 f g1).2 hf1.1
        have hcc : c ≤ c' := Nat.le_of_not_lt fun h => by
          have m := h5 c' (Nat.zero_le _) h
          have hid' : hid z t (2 ^ c') = true := by rw [← ef]; exact g3.2
          unfold hid at hid'
          rw [hid'] at m
          cases m
        have : 2 ^ c ≤ 2 ^ c' := Nat.pow_le_pow_right (by decide) hcc
        congr 1
        omega
