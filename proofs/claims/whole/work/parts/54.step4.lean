/-! where one comes from, what can be, the BOOK -/
def a_from (s : Wt) (p : Int) : Int := if inP s p then (bitsP 12 (fun t => agreeN (wz s) p.toNat t (zP (wz s) p.toNat 1) (wn s).2.1) : Int) else -1
/-- the least v that agrees from below v on, and how many do, from v upward -/
def canN (f : Nat → Bool) : Nat → Int × Nat
  | 0 => (-5, 0)
  | k + 1 => if f (9 - k) = true then (((9 - k : Nat) : Int), (canN f k).2 + 1) else canN f k
def a_can (s : Wt) (p w : Int) : Int := if ¬ (inP s p ∧ inN w 1) then -1 else if w = 0 then ((canN (fun v => agreeN (wz s) p.toNat (zP (wz s) p.toNat 2) v (wn s).2.1) 10).2 : Int) else (canN (fun v => agreeN (wz s) p.toNat (zP (wz s) p.toNat 2) v (wn s).2.1) 10).1
def a_looked (s : Wt) : Int := fstF (wn s).2.2.2.length 0 (fun i => decide (¬ (inP s (tg (wn s).2.2.2 i 0) ∧ (zP (wz s) (tg (wn s).2.2.2 i 0).toNat 3 : Int) = tg (wn s).2.2.2 i 1)))
theorem canN_le (f : Nat → Bool) : ∀ k, (canN f k).2 ≤ k
  | 0 => Nat.le_refl _
  | k + 1 => by
    have h := canN_le f k
    rw [canN]
    split
    · show (canN f k).2 + 1 ≤ k + 1; omega
    · omega
theorem canN_rg (f : Nat → Bool) : ∀ k, -5 ≤ (canN f k).1 ∧ (canN f k).1 ≤ 9
  | 0 => ⟨Int.le_refl _, by show (-5 : Int) ≤ 9; decide⟩
  | k + 1 => by
    have h := canN_rg f k
    rw [canN]
    split
    · exact ⟨by show (-5 : Int) ≤ ((9 - k : Nat) : Int); omega, by show ((9 - k : Nat) : Int) ≤ 9; omega⟩
    · exact h
theorem bits_or {a n : Nat} (h : a < 2 ^ n) (hn : n ≤ 12) : bor (a : Int) ((2 ^ n : Nat) : Int) = ((a + 2 ^ n : Nat) : Int) := by
  have h12 : 2 ^ n ≤ 2 ^ 12 := Nat.pow_le_pow_right (by decide) hn
  rw [bor_n (by omega) (by omega)]
  congr 1
  have := Nat.two_pow_add_eq_or_of_lt h 1
  rw [Nat.mul_one] at this
  rw [Nat.or_comm, ← this, Nat.add_comm]
theorem triF.then {S S1 S2 : Sg} {M M1 M2 : Mm} (h : triF S S1 M M1) (h2 : triF S1 S2 M1 M2) : triF S S2 M M2 := ⟨h2.1.trans h.1, fun k j a => (h2.2.1 k j a).trans (h.2.1 k j a), h2.2.2.1, h.2.2.2.1.tr h2.2.2.2.1, h2.2.2.2.2⟩
