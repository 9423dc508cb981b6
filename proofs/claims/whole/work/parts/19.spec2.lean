/-! PERSONS -/
abbrev isK (K : Nat) (k : Int) : Prop := (K : Int) = k ∨ kAb.getD K 0 = k ∨ k = 0
theorem kab_rg (K : Nat) : rg (kAb.getD K 0) := by
  by_cases h : K < 7
  · have : ∀ K, K < 7 → rg (kAb.getD K 0) := by decide +kernel
    exact this K h
  · rw [List.getD_eq_getElem?_getD, List.getElem?_eq_none (by simp [kAb]; omega)]
    decide
theorem isK1 {K : Nat} (h : K ≤ 6) : isK K 1 ↔ (K = 1 ∨ K = 4) := by
  have : ∀ K, K < 7 → (isK K 1 ↔ (K = 1 ∨ K = 4)) := by decide +kernel
  exact this K (by omega)
theorem isK2 {K : Nat} (h : K ≤ 6) : isK K 2 ↔ (K = 2 ∨ K = 5) := by
  have : ∀ K, K < 7 → (isK K 2 ↔ (K = 2 ∨ K = 5)) := by decide +kernel
  exact this K (by omega)
theorem isK3 {K : Nat} (h : K ≤ 6) : isK K 3 ↔ (K = 3 ∨ K = 6) := by
  have : ∀ K, K < 7 → (isK K 3 ↔ (K = 3 ∨ K = 6)) := by decide +kernel
  exact this K (by omega)
def reachI (K : Nat) (sm : Int) (rw day : Nat) : Int := max 0 (min 11 (if K = 3 then 2 * sm else if K = 6 then 2 * sm + (rw : Int) else if K = 5 then Int.tdiv sm 2 else if K = 4 ∧ day % 2 = 1 then 0 else sm))
def dR (pl t : Nat) : Nat := (t + 12 - pl) % 12
def dL (pl t : Nat) : Nat := (12 - dR pl t) % 12
def wayOK (w s l : Nat) : Bool := (List.range l).all fun k => !w.testBit ((s + k) % 12)
def wayN (s l : Nat) : Nat := ((2 ^ l - 1) * 2 ^ s ||| (2 ^ l - 1) * 2 ^ s / 2 ^ 12) &&& 4095
theorem wayN_bit : ∀ s, s < 12 → ∀ l, l < 12 → ∀ i, i < 12 → (wayN s l).testBit i = (List.range l).any (fun k => decide ((s + k) % 12 = i)) := by decide +kernel
theorem way_iff {w s l : Nat} (hw : w < 4096) (hs : s < 12) (hl : l < 12) : w &&& wayN s l = 0 ↔ wayOK w s l = true := by
  unfold wayOK
  rw [List.all_eq_true]
  constructor
  · intro h k hk
    have hk' := List.mem_range.mp hk
    have hi : (s + k) % 12 < 12 := Nat.mod_lt _ (by decide)
    have h1 : (w &&& wayN s l).testBit ((s + k) % 12) = false := by rw [h]; exact Nat.zero_testBit _
    rw [Nat.testBit_and, wayN_bit s hs l hl _ hi] at h1
    have h2 : (List.range l).any (fun k' => decide ((s + k') % 12 = (s + k) % 12)) = true := List.any_eq_true.mpr ⟨k, hk, by simp⟩
    rw [h2, Bool.and_true] at h1
    simp [h1]
  · intro h
    apply Nat.eq_of_testBit_eq
    intro i
    rw [Nat.zero_testBit, Nat.testBit_and]
    by_cases hi : i < 12
    · rw [wayN_bit s hs l hl i hi]
      by_cases hb : (List.range l).any (fun k => decide ((s + k) % 12 = i)) = true
      · obtain ⟨k, hk, hk2⟩ := List.any_eq_true.mp hb
        have h3 := h k hk
        simp at hk2
        rw [hk2] at h3
        simp at h3
        rw [h3]; rfl
      · rw [Bool.eq_false_iff.mpr hb, Bool.and_false]
    · have : w.testBit i = false := Nat.testBit_lt_two_pow (Nat.lt_of_lt_of_le hw (Nat.pow_le_pow_right (n := 2) (by decide) (show 12 ≤ i by omega)))
      rw [this]; rfl
def seesB (w K pl : Nat) (e : Int) (t : Nat) : Bool := (decide ((dR pl t : Int) ≤ e) && wayOK w pl (dR pl t)) || (decide (K ≠ 2 ∧ K ≠ 5) && decide ((dL pl t : Int) ≤ e) && wayOK w t (dL pl t))
def bitsP : Nat → (Nat → Bool) → Nat
  | 0, _ => 0
  | n + 1, f => bitsP n f + (if f n = true then 2 ^ n else 0)
theorem bitsP_lt (f : Nat → Bool) : ∀ n, bitsP n f < 2 ^ n
  | 0 => Nat.one_pos
  | n + 1 => by
    have h := bitsP_lt f n
    rw [bitsP, Nat.pow_succ]
    split <;> omega
theorem bitsP_or (f : Nat → Bool) (n : Nat) (h : f n = true) : bitsP n f ||| 2 ^ n = bitsP (n + 1) f := by
  rw [bitsP, if_pos h, Nat.or_comm, Nat.add_comm]
  have := Nat.two_pow_add_eq_or_of_lt (i := n) (b := bitsP n f) (bitsP_lt f n) 1
  rw [Nat.mul_one] at this
  exact this.symm
theorem bitsP_skip (f : Nat → Bool) (n : Nat) (h : f n ≠ true) : bitsP n f = bitsP (n + 1) f := by rw [bitsP, if_neg h]; rfl
theorem bitsP_bit (f : Nat → Bool) : ∀ n i, i < n → (bitsP n f).testBit i = f i := by
  intro n
  induction n with
  | zero => intro i h; omega
  | succ n ih =>
    intro i hi
    by_cases hf : f n = true
    · rw [← bitsP_or f n hf, Nat.testBit_or, Nat.testBit_two_pow]
      by_cases hin : i = n
      · subst hin
        rw [hf]; simp
      · rw [ih i (by omega)]
        simp; omega
    · rw [← bitsP_skip f n hf]
      by_cases hin : i = n
      · subst hin
        rw [Nat.testBit_lt_two_pow (bitsP_lt f i)]
        exact (Bool.eq_false_iff.mpr hf).symm
      · exact ih i (by omega)
theorem bitsP_congr {f g : Nat → Bool} : ∀ n, (∀ i, i < n → f i = g i) → bitsP n f = bitsP n g
  | 0, _ => rfl
  | n + 1, h => by rw [bitsP, bitsP, bitsP_congr n (fun i hi => h i (by omega)), h n (by omega)]
theorem bits12 (f : Nat → Bool) : bitsP 12 f < 4096 := bitsP_lt f 12
def walkP (P : Nat → Nat) (n : Nat) : Nat := if P 4 = 0 ∧ (P 0 = 1 ∨ P 0 = 4) then (P 2 + n * (P 1 % 3)) % 12 else P 2
/-- a person as a cell q holds it -/
def RepP (M : Mm) (q : Nat) (P : Nat → Nat) : Prop := M q 1 = (P 0 : Int) ∧ M q 2 = (P 1 : Int) ∧ M q 3 = (P 2 : Int) ∧ M q 4 = (P 3 : Int) ∧ M q 5 = (P 4 : Int) ∧ ∀ j, j < 4 → M (q + 1) j = (P (5 + j) : Int)
def okP (P : Nat → Nat) : Prop := P 0 ≤ 6 ∧ P 1 ≤ 9 ∧ P 2 ≤ 11 ∧ P 3 ≤ 9999 ∧ P 4 ≤ 1 ∧ ∀ j, j < 4 → P (5 + j) ≤ 9
