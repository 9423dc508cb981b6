/-! THE MODEL's street: object 87, rows 88 .. 115 -/
def mcode (c : Int) : Int := if c = -3 then 0 else if c = -1 then 1 else if c = -2 then 2 else c + 3
/-- LAW h as the model keeps it; K codes are taken in all -/
def LTat (M : Mm) (K h : Nat) (L : LawC) : Prop := M 95 h = (L.length : Int) ∧ ∀ (n : Nat) (hn : n < L.length), M 96 (10 * h + n) = (L[n].1 : Int) ∧ M 97 (10 * h + n) = (L[n].2.1 : Int) ∧ ∃ b : Nat, M 98 (10 * h + n) = (b : Int) ∧ M 99 (10 * h + n) = (L[n].2.2.length : Int) ∧ b + L[n].2.2.length ≤ K ∧ ∀ (i : Nat) (hi : i < L[n].2.2.length), M 100 (b + i) = mcode L[n].2.2[i]
def MLw (M : Mm) (L : LawC) : Prop := (M 87 16 = -1 ∧ L = []) ∨ ∃ h K : Nat, h < 6 ∧ K ≤ 700 ∧ M 87 16 = (h : Int) ∧ LTat M K h L
def MP (M : Mm) (p : Nat) (P : Nat → Nat) : Prop := M 88 p = (P 0 : Int) ∧ M 89 p = (P 1 : Int) ∧ M 90 p = (P 2 : Int) ∧ M 91 p = (P 3 : Int) ∧ M 92 p = (P 4 : Int) ∧ ∀ j, j < 4 → M 93 (4 * p + j) = (P (5 + j) : Int)
def MX (M : Mm) (z : Ab) : Prop := M 87 0 = (zc z : Int) ∧ M 87 7 = (zw z : Int) ∧ M 87 8 = (zd z : Int) ∧ (∀ p, p < zc z → MP M p (zP z p)) ∧ MLw M (zL z)
/-- asking changes the stack of truths and the shares alone -/
def ask (M M' : Mm) : Prop := ∀ k, k ≠ 101 → k ≠ 112 → M' k = M k
theorem ask.rf {M : Mm} : ask M M := fun _ _ _ => rfl
theorem ask.tr {M M1 M2 : Mm} (h1 : ask M M1) (h2 : ask M1 M2) : ask M M2 := fun k a b => (h2 k a b).trans (h1 k a b)
theorem LTat.cong {M M' : Mm} {K h : Nat} {L : LawC} (H : LTat M K h L) (e : ∀ k, 95 ≤ k → k ≤ 100 → M' k = M k) : LTat M' K h L := by
  unfold LTat at H ⊢
  rw [e 95 (by decide) (by decide), e 96 (by decide) (by decide), e 97 (by decide) (by decide), e 98 (by decide) (by decide), e 99 (by decide) (by decide), e 100 (by decide) (by decide)]
  exact H
theorem MLw.cong {M M' : Mm} {L : LawC} (H : MLw M L) (e0 : M' 87 16 = M 87 16) (e : ∀ k, 95 ≤ k → k ≤ 100 → M' k = M k) : MLw M' L := by
  rcases H with ⟨h1, h2⟩ | ⟨h, K, h1, h2, h3, h4⟩
  · exact Or.inl ⟨e0.trans h1, h2⟩
  · exact Or.inr ⟨h, K, h1, h2, e0.trans h3, h4.cong e⟩
theorem MX.ask {M M' : Mm} {z : Ab} (h : MX M z) (e : ask M M') : MX M' z := by
  obtain ⟨h1, h2, h3, h4, h5⟩ := h
  have e' : ∀ k, k < 101 → M' k = M k := fun k hk => e k (by omega) (by omega)
  refine ⟨by rw [e' 87 (by decide)]; exact h1, by rw [e' 87 (by decide)]; exact h2, by rw [e' 87 (by decide)]; exact h3, fun p hp => ?_, h5.cong (by rw [e' 87 (by decide)]) (fun k _ b => e' k (by omega))⟩
  have := h4 p hp
  unfold MP at this ⊢
  rw [e' 88 (by decide), e' 89 (by decide), e' 90 (by decide), e' 91 (by decide), e' 92 (by decide), e' 93 (by decide)]
  exact this
theorem om87 {S : Sg} (hG : Gr S) : Ob S 87 10 := obn hG (by decide +kernel)
/-- the truths that wait, as the stack keeps them (the top first) -/
def stkR (M : Mm) : List Bool → Prop
  | [] => True
  | b :: t => M 101 t.length = (b.toNat : Int) ∧ stkR M t
theorem stkR_up {M : Mm} {v : Int} : ∀ {t : List Bool} {j : Nat}, t.length ≤ j → stkR M t → stkR (up M 101 j v) t
  | [], _, _, _ => trivial
  | b :: t, j, hj, h => ⟨by rw [up_n (by simp at hj; omega)]; exact h.1, stkR_up (by simp at hj; omega) h.2⟩
theorem mcode_test (m : Nat) : mcode (m : Int) = (m : Int) + 3 := by
  unfold mcode
  rw [if_neg (by omega), if_neg (by omega), if_neg (by omega)]
theorem mcode_rg {c : Int} (h : -3 ≤ c ∧ c < 1800) : 0 ≤ mcode c ∧ mcode c < 1803 := by
  unfold mcode
  split
  · omega
  · split
    · omega
    · split <;> omega
/-- a test's truth -/
theorem relV_t (a m : Nat) : relV a (m % 300 / 100) (m % 100) = (if m / 100 % 3 = 0 then decide (a < m % 100) else if m / 100 % 3 = 1 then decide (a = m % 100) else decide (m % 100 < a)) := by
  unfold relV
  rw [show m % 300 / 100 = m / 100 % 3 by omega]
/-! what one sees, step by step -/
def rB (pl i : Nat) : Nat := bitsP 12 (fun t => decide (dR pl t ≤ i))
def lB (pl i : Nat) : Nat := bitsP 12 (fun t => decide (1 ≤ dL pl t ∧ dL pl t ≤ i))
theorem rB_0 : ∀ pl, pl < 12 → rB pl 0 = 2 ^ pl := by decide +kernel
theorem rB_S : ∀ pl, pl < 12 → ∀ i, i < 11 → rB pl i ||| 2 ^ (((pl + i) % 12 + 1) % 12) = rB pl (i + 1) := by decide +kernel
theorem lB_0 : ∀ pl, pl < 12 → lB pl 0 = 0 := by decide +kernel
theorem lB_S : ∀ pl, pl < 12 → ∀ i, i < 11 → lB pl i ||| 2 ^ ((pl + 11 * (i + 1)) % 12) = lB pl (i + 1) := by decide +kernel
theorem rB_lt (pl i : Nat) : rB pl i < 4096 := bitsP_lt _ 12
theorem lB_lt (pl i : Nat) : lB pl i < 4096 := bitsP_lt _ 12
theorem bitsP_hi (f : Nat → Bool) (n i : Nat) (h : n ≤ i) : (bitsP n f).testBit i = false := Nat.testBit_lt_two_pow (Nat.lt_of_lt_of_le (bitsP_lt f n) (Nat.pow_le_pow_right (by decide) h))
theorem bitsP_or2 (f g : Nat → Bool) (n : Nat) : bitsP n f ||| bitsP n g = bitsP n (fun t => f t || g t) := by
  apply Nat.eq_of_testBit_eq
  intro i
  rw [Nat.testBit_or]
  by_cases h : i < n
  · rw [bitsP_bit f n i h, bitsP_bit g n i h, bitsP_bit _ n i h]
  · rw [bitsP_hi f n i (by omega), bitsP_hi g n i (by omega), bitsP_hi _ n i (by omega)]; rfl
theorem wayR {w pl i far : Nat} (h1 : ∀ k, k < i → w.testBit ((pl + k) % 12) = false) (h2 : i = far ∨ (i < far ∧ w.testBit ((pl + i) % 12) = true)) (d : Nat) : d ≤ i ↔ d ≤ far ∧ wayOK w pl d = true := by
  unfold wayOK
  rw [List.all_eq_true]
  constructor
  · intro h
    refine ⟨by omega, fun k hk => ?_⟩
    rw [h1 k (by have := List.mem_range.mp hk; omega)]; rfl
  · rintro ⟨h3, h4⟩
    apply Nat.le_of_not_lt
    intro h5
    rcases h2 with h2 | ⟨-, h2⟩
    · omega
    · have := h4 i (List.mem_range.mpr h5)
      rw [h2] at this
      cases this
theorem dL_t : ∀ pl, pl < 12 → ∀ t, t < 12 → dL pl t < 12 ∧ t = (pl + 12 - dL pl t) % 12 := by decide +kernel
theorem wayL {w pl t j far : Nat} (hp : pl < 12) (ht : t < 12) (h1 : ∀ k, k < j → w.testBit ((pl + 11 * (k + 1)) % 12) = false) (h2 : j = far ∨ (j < far ∧ w.testBit ((pl + 11 * (j + 1)) % 12) = true)) : dL pl t ≤ j ↔ dL pl t ≤ far ∧ wayOK w t (dL pl t) = true := by
  obtain ⟨e1, e2⟩ := dL_t pl hp t ht
  generalize dL pl t = d at e1 e2
  unfold wayOK
  rw [List.all_eq_true]
  constructor
  · intro h
    refine ⟨by omega, fun k hk => ?_⟩
    have hk2 := List.mem_range.mp hk
    have := h1 (d - 1 - k) (by omega)
    rw [show (pl + 11 * (d - 1 - k + 1)) % 12 = (t + k) % 12 by omega] at this
    rw [this]; rfl
  · rintro ⟨h3, h4⟩
    apply Nat.le_of_not_lt
    intro h5
    rcases h2 with h2 | ⟨-, h2⟩
    · omega
    · have := h4 (d - 1 - j) (List.mem_range.mpr (by omega))
      rw [show (t + (d - 1 - j)) % 12 = (pl + 11 * (j + 1)) % 12 by omega, h2] at this
      cases this
theorem dRL : ∀ pl, pl < 12 → ∀ t, t < 12 → dL pl t = 0 → dR pl t = 0 := by decide +kernel
theorem sight_R {w K pl i far : Nat} (hK : K = 2 ∨ K = 5) (h1 : ∀ k, k < i → w.testBit ((pl + k) % 12) = false) (h2 : i = far ∨ (i < far ∧ w.testBit ((pl + i) % 12) = true)) : rB pl i = bitsP 12 (fun t => seesB w K pl (far : Int) t) := by
  refine bitsP_congr 12 fun t _ => ?_
  have h := wayR h1 h2 (dR pl t)
  unfold seesB
  rw [decide_eq_false (show ¬ (K ≠ 2 ∧ K ≠ 5) by omega), Bool.false_and, Bool.false_and, Bool.or_false, Bool.eq_iff_iff, Bool.and_eq_true, decide_eq_true_eq, decide_eq_true_eq, h]
  constructor
  · rintro ⟨a, b⟩; exact ⟨by omega, b⟩
  · rintro ⟨a, b⟩; exact ⟨by omega, b⟩
theorem sight_L {w K pl i j far : Nat} (hp : pl < 12) (hK : ¬ (K = 2 ∨ K = 5)) (h1 : ∀ k, k < i → w.testBit ((pl + k) % 12) = false) (h2 : i = far ∨ (i < far ∧ w.testBit ((pl + i) % 12) = true)) (h3 : ∀ k, k < j → w.testBit ((pl + 11 * (k + 1)) % 12) = false) (h4 : j = far ∨ (j < far ∧ w.testBit ((pl + 11 * (j + 1)) % 12) = true)) : rB pl i ||| lB pl j = bitsP 12 (fun t => seesB w K pl (far : Int) t) := by
  unfold rB lB
  rw [bitsP_or2]
  refine bitsP_congr 12 fun t ht => ?_
  have h := wayR h1 h2 (dR pl t)
  have h' := wayL hp ht h3 h4
  have h0 := dRL pl hp t ht
  have e1 : decide (K ≠ 2 ∧ K ≠ 5) = true := decide_eq_true (by omega)
  unfold seesB
  rw [e1, Bool.true_and]
  rw [Bool.eq_iff_iff, Bool.or_eq_true, Bool.or_eq_true, Bool.and_eq_true, Bool.and_eq_true, decide_eq_true_eq, decide_eq_true_eq, decide_eq_true_eq, decide_eq_true_eq]
  constructor
  · rintro (a | ⟨-, b⟩)
    · have := h.mp a
      exact Or.inl ⟨by omega, this.2⟩
    · have := h'.mp b
      exact Or.inr ⟨by omega, this.2⟩
  · rintro (⟨a, b⟩ | ⟨a, b⟩)
    · exact Or.inl (h.mpr ⟨by omega, b⟩)
    · have := h'.mpr ⟨by omega, b⟩
      by_cases q : dL pl t = 0
      · have h9 := h0 q
        exact Or.inl (by omega)
      · exact Or.inr ⟨by omega, this⟩
theorem sight_0 {w K pl : Nat} : bitsP 12 (fun t => seesB w K pl (-1) t) = 0 := by
  have e : bitsP 12 (fun t => seesB w K pl (-1) t) = bitsP 12 (fun _ => false) := by
    refine bitsP_congr 12 fun t _ => ?_
    have a : ¬ ((dR pl t : Int) ≤ -1) := by omega
    have b : ¬ ((dL pl t : Int) ≤ -1) := by omega
    unfold seesB
    rw [decide_eq_false a, decide_eq_false b, Bool.false_and, Bool.and_false, Bool.false_and]; rfl
  rw [e]
  decide +kernel
theorem or_asc (a b c : Nat) : (a ||| b) ||| c = a ||| (b ||| c) := Nat.or_assoc a b c
theorem eye_gone {z : Ab} {p : Nat} (h : zP z p 4 = 1) : eyeZ z p = -1 := by unfold eyeZ eyeP; rw [if_pos h]
theorem eye_not {z : Ab} {p : Nat} (h : zP z p 4 ≠ 1) : eyeZ z p = reachN z p := by unfold eyeZ eyeP reachN; rw [if_neg h]
theorem seers_of (z : Ab) {t : Nat} (ht : t < 12) : seersN z t = bitsP (zc z) (fun p => (sightN z p).testBit t) := bitsP_congr _ fun p _ => (bitsP_bit _ 12 t ht).symm
