/-! Strings -/
abbrev sL (i : Nat) : List Int := (sc i).2.2.2
theorem sL_ok : ∀ i, i < 9 → (sL i).length ≤ 10 ∧ ∀ j, j < 10 → 0 ≤ (sL i).getD j 0 ∧ (sL i).getD j 0 ≤ 127 := by decide +kernel
/-- where a sign stands first, from place n on -/
def posF (L : List Int) (c : Nat) : Nat → Nat → Int
  | 0, _ => -1
  | k + 1, n => if L.getD n 0 = (c : Int) then (n : Int) else posF L c k (n + 1)
def posN (i c : Nat) : Int := posF (sL i) c (sL i).length 0
theorem posF_rg {L : List Int} {c : Nat} : ∀ k n, posF L c k n = -1 ∨ ((n : Int) ≤ posF L c k n ∧ posF L c k n < (n : Int) + k)
  | 0, _ => Or.inl rfl
  | k + 1, n => by
    rw [posF]
    split
    · right; omega
    · rcases posF_rg (L := L) (c := c) k (n + 1) with h | h
      · exact Or.inl h
      · right; omega
theorem posN_rg (i c : Nat) (hi : i < 9) : -1 ≤ posN i c ∧ posN i c < (sL i).length ∧ posN i c ≤ 9 := by
  have h1 := (sL_ok i hi).1
  rcases posF_rg (L := sL i) (c := c) (sL i).length 0 with h | h
  · unfold posN; omega
  · unfold posN; omega
theorem i2c_n {c : Nat} (h : c < 65536) : i2cI (c : Int) = (c : Int) := by
  unfold i2cI
  have e : ((Int32.ofInt (c : Int)).toUInt32 % 65536).toInt32 = Int32.ofInt (c : Int) := by
    rw [Int32.ofInt_eq_ofNat]
    show ((Int32.ofNat c).toUInt32 % 65536).toInt32 = Int32.ofNat c
    apply Int32.toBitVec_inj.mp
    apply BitVec.eq_of_toNat_eq
    simp
    omega
  rw [e, tI (by omega)]
theorem i2b_n {c : Nat} (h : c < 128) : i2bI (c : Int) = (c : Int) := by
  unfold i2bI
  have : ∀ c, c < 128 → (Int32.ofInt ((c : Nat) : Int)).toInt8.toInt = (c : Int) := by decide +kernel
  exact this c h
