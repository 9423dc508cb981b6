def bt (x : Int32) (i : Nat) : Bool := x.toBitVec.getLsbD i
theorem b_ext {x y : Int32} (h : ∀ i, i < 32 → bt x i = bt y i) : x = y := Int32.toBitVec_inj.mp (BitVec.eq_of_getLsbD_eq (fun i hi => h i hi))
theorem b_or (x y : Int32) (i : Nat) : bt (x ||| y) i = (bt x i || bt y i) := by unfold bt; rw [Int32.toBitVec_or, BitVec.getLsbD_or]
theorem b_and (x y : Int32) (i : Nat) : bt (x &&& y) i = (bt x i && bt y i) := by unfold bt; rw [Int32.toBitVec_and, BitVec.getLsbD_and]
theorem b_xor (x y : Int32) (i : Nat) : bt (x ^^^ y) i = (bt x i ^^ bt y i) := by unfold bt; rw [Int32.toBitVec_xor, BitVec.getLsbD_xor]
theorem b_big {x : Int32} {i : Nat} (h : 32 ≤ i) : bt x i = false := BitVec.getLsbD_of_ge _ _ h
theorem b_255 (i : Nat) : bt 255 i = decide (i < 8) := by
  rcases Nat.lt_or_ge i 32 with h | h
  · exact (by decide +kernel : ∀ i, i < 32 → bt 255 i = decide (i < 8)) i h
  · rw [b_big h, decide_eq_false (by omega)]
theorem b_65535 (i : Nat) : bt 65535 i = decide (i < 16) := by
  rcases Nat.lt_or_ge i 32 with h | h
  · exact (by decide +kernel : ∀ i, i < 32 → bt 65535 i = decide (i < 16)) i h
  · rw [b_big h, decide_eq_false (by omega)]
theorem b_m1 : ∀ i, i < 32 → bt (-1) i = true := by decide +kernel
theorem b_0 (i : Nat) : bt 0 i = false := BitVec.getLsbD_zero
theorem s_l : ∀ n, n < 32 → ((nI n &&& 31).toBitVec.smod 32).toNat = n := by decide +kernel
theorem s_u : ∀ n, n < 32 → (((nI n).toUInt32 &&& Int32.toUInt32 31).toBitVec % 32).toNat = n := by decide +kernel
theorem b_shl (n : Nat) (hn : n < 32) (x : Int32) {i : Nat} (hi : i < 32) : bt (x <<< (nI n &&& 31)) i = (decide (n ≤ i) && bt x (i - n)) := by
  unfold bt
  rw [Int32.toBitVec_shiftLeft]
  show (x.toBitVec <<< ((nI n &&& 31).toBitVec.smod 32).toNat).getLsbD i = _
  rw [s_l n hn, BitVec.getLsbD_shiftLeft]
  rcases Nat.lt_or_ge i n with h | h
  · simp [h, Nat.not_le.mpr h]
  · simp [hi, h, Nat.not_lt.mpr h]
theorem b_ushr (n : Nat) (hn : n < 32) (x : Int32) (i : Nat) : bt ((x.toUInt32 >>> ((nI n).toUInt32 &&& Int32.toUInt32 31)).toInt32) i = bt x (n + i) := by
  show (x.toUInt32 >>> ((nI n).toUInt32 &&& Int32.toUInt32 31)).toBitVec.getLsbD i = x.toUInt32.toBitVec.getLsbD (n + i)
  rw [UInt32.toBitVec_shiftRight]
  show (x.toUInt32.toBitVec >>> (((nI n).toUInt32 &&& Int32.toUInt32 31).toBitVec % 32).toNat).getLsbD i = _
  rw [s_u n hn, BitVec.getLsbD_ushiftRight]
theorem b_sshr (n : Nat) (hn : n < 32) (x : Int32) {i : Nat} (hi : i < 32) : bt (x >>> (nI n &&& 31)) i = if n + i < 32 then bt x (n + i) else bt x 31 := by
  unfold bt
  rw [Int32.toBitVec_shiftRight]
  show (x.toBitVec.sshiftRight ((nI n &&& 31).toBitVec.smod 32).toNat).getLsbD i = _
  rw [s_l n hn, BitVec.getLsbD_sshiftRight, BitVec.msb_eq_getLsbD_last]
  simp [hi]
/-! bits of numbers that are not below 0 -/
theorem bt_nat {a i : Nat} (hi : i < 32) : bt (Int32.ofInt (a : Int)) i = a.testBit i := by
  rw [Int32.ofInt_eq_ofNat]
  show (BitVec.ofNat 32 a).getLsbD i = _
  rw [BitVec.getLsbD_ofNat]
  simp [hi]
theorem of_bits {x : Int32} {n : Nat} (hn : n < 2 ^ 31) (h : ∀ i, i < 32 → bt x i = n.testBit i) : x.toInt = (n : Int) := by
  have e : x = Int32.ofInt (n : Int) := b_ext fun i hi => by rw [h i hi, bt_nat hi]
  rw [e, tI (by omega)]
theorem nI_bs (k : Nat) : Int32.ofInt (k : Int) = nI k := by rw [Int32.ofInt_eq_ofNat]; rfl
theorem hb_of {a i : Nat} (ha : a < 2 ^ 31) (hi : 31 ≤ i) : a.testBit i = false := Nat.testBit_lt_two_pow (Nat.lt_of_lt_of_le ha (Nat.pow_le_pow_right (by decide) hi))
theorem band_n {a b : Nat} (ha : a < 2 ^ 31) : band (a : Int) (b : Int) = ((a &&& b : Nat) : Int) := of_bits (Nat.lt_of_le_of_lt Nat.and_le_left ha) fun i hi => by rw [b_and, bt_nat hi, bt_nat hi, Nat.testBit_and]
theorem bor_n {a b : Nat} (ha : a < 2 ^ 31) (hb : b < 2 ^ 31) : bor (a : Int) (b : Int) = ((a ||| b : Nat) : Int) := of_bits (Nat.or_lt_two_pow ha hb) fun i hi => by rw [b_or, bt_nat hi, bt_nat hi, Nat.testBit_or]
theorem bxor_n {a b : Nat} (ha : a < 2 ^ 31) (hb : b < 2 ^ 31) : bxor (a : Int) (b : Int) = ((a ^^^ b : Nat) : Int) := of_bits (Nat.xor_lt_two_pow ha hb) fun i hi => by rw [b_xor, bt_nat hi, bt_nat hi, Nat.testBit_xor]
theorem bshl_n {a k : Nat} (hk : k < 32) (h : a * 2 ^ k < 2 ^ 31) : bshl (a : Int) (k : Int) = ((a * 2 ^ k : Nat) : Int) := of_bits h fun i hi => by
  show bt (_ <<< (Int32.ofInt (k : Int) &&& 31)) i = _
  rw [nI_bs k, b_shl k hk _ hi, Nat.testBit_mul_two_pow]
  by_cases hki : k ≤ i
  · rw [bt_nat (by omega)]
  · simp [hki]
theorem bshr_n {a k : Nat} (hk : k < 32) (ha : a < 2 ^ 31) : bshr (a : Int) (k : Int) = ((a / 2 ^ k : Nat) : Int) := of_bits (Nat.lt_of_le_of_lt (Nat.div_le_self _ _) ha) fun i hi => by
  show bt (_ >>> (Int32.ofInt (k : Int) &&& 31)) i = _
  rw [nI_bs k, b_sshr k hk _ hi, Nat.testBit_div_two_pow]
  by_cases h : k + i < 32
  · rw [if_pos h, bt_nat h, Nat.add_comm]
  · rw [if_neg h, bt_nat (by decide), hb_of ha (by decide), hb_of ha (by omega)]
theorem bt_m2 : ∀ i, i < 32 → bt (-2) i = decide (i ≠ 0) := by decide +kernel
theorem oI_m2 : Int32.ofInt (-2) = -2 := by decide
/-- the truths that wait, as bits, the newest lowest -/
def toB : List Bool → Nat
  | [] => 0
  | b :: t => 2 * toB t + b.toNat
theorem toB_lt : ∀ l : List Bool, toB l < 2 ^ l.length
  | [] => by decide
  | b :: t => by
    have h := toB_lt t
    rw [List.length_cons, Nat.pow_succ, toB]
    have : b.toNat ≤ 1 := by cases b <;> decide
    omega
theorem toB_lt31 {l : List Bool} (h : l.length ≤ 31) : toB l < 2 ^ 31 := Nat.lt_of_lt_of_le (toB_lt l) (Nat.pow_le_pow_right (by decide) h)
theorem toB_bit0 (b : Bool) (t : List Bool) : (toB (b :: t)).testBit 0 = b := by
  rw [toB, Nat.testBit_zero]
  cases b <;> simp <;> omega
theorem toB_bitS (b : Bool) (t : List Bool) (i : Nat) : (toB (b :: t)).testBit (i + 1) = (toB t).testBit i := by
  rw [Nat.testBit_succ, toB]
  congr 1
  cases b <;> simp <;> omega
theorem toB_div (b : Bool) (t : List Bool) : toB (b :: t) / 2 ^ 1 = toB t := by
  rw [toB]; cases b <;> simp <;> omega
theorem t_and {a b : Bool} {t : List Bool} (h : t.length + 2 ≤ 31) : band (bshr (toB (b :: a :: t) : Int) 1) (bor (toB (b :: a :: t) : Int) (-2)) = (toB ((a && b) :: t) : Int) := by
  have h1 : toB (b :: a :: t) < 2 ^ 31 := toB_lt31 (by simp; omega)
  rw [show (1 : Int) = ((1 : Nat) : Int) from rfl, bshr_n (by decide) h1, toB_div]
  refine of_bits (toB_lt31 (by simp; omega)) fun i hi => ?_
  rw [b_and, bt_nat hi, bor, bop, Int32.ofInt_toInt, b_or, bt_nat hi, oI_m2, bt_m2 i hi]
  cases i with
  | zero => rw [toB_bit0, toB_bit0, toB_bit0]; simp
  | succ i => rw [toB_bitS, toB_bitS, toB_bitS]; simp
theorem t_or {a b : Bool} {t : List Bool} (h : t.length + 2 ≤ 31) : bor (bshr (toB (b :: a :: t) : Int) 1) (band (toB (b :: a :: t) : Int) 1) = (toB ((a || b) :: t) : Int) := by
  have h1 : toB (b :: a :: t) < 2 ^ 31 := toB_lt31 (by simp; omega)
  rw [show (1 : Int) = ((1 : Nat) : Int) from rfl, bshr_n (by decide) h1, toB_div, band_n h1, bor_n (toB_lt31 (by simp; omega)) (Nat.lt_of_le_of_lt Nat.and_le_left h1)]
  congr 1
  apply Nat.eq_of_testBit_eq
  intro i
  rw [Nat.testBit_or, Nat.testBit_and]
  cases i with
  | zero => rw [toB_bit0, toB_bit0, toB_bit0]; simp
  | succ i => rw [toB_bitS, toB_bitS, toB_bitS]; simp [Nat.testBit_succ]
theorem t_not {b : Bool} {t : List Bool} (h : t.length + 1 ≤ 31) : bxor (toB (b :: t) : Int) 1 = (toB ((!b) :: t) : Int) := by
  have h1 : toB (b :: t) < 2 ^ 31 := toB_lt31 (by simp; omega)
  rw [show (1 : Int) = ((1 : Nat) : Int) from rfl, bxor_n h1 (by decide)]
  congr 1
  apply Nat.eq_of_testBit_eq
  intro i
  rw [Nat.testBit_xor]
  cases i with
  | zero => rw [toB_bit0, toB_bit0]; simp
  | succ i => rw [toB_bitS, toB_bitS]; simp [Nat.testBit_succ]
theorem t_push {t : List Bool} {b : Bool} (h : t.length + 1 ≤ 31) : bor (bshl (toB t : Int) 1) (b.toNat : Int) = (toB (b :: t) : Int) := by
  have h1 : toB t < 2 ^ 30 := Nat.lt_of_lt_of_le (toB_lt t) (Nat.pow_le_pow_right (by decide) (by omega))
  rw [show (1 : Int) = ((1 : Nat) : Int) from rfl, bshl_n (by decide) (by omega), bor_n (by omega) (by cases b <;> decide)]
  congr 1
  apply Nat.eq_of_testBit_eq
  intro i
  rw [Nat.testBit_or]
  cases i with
  | zero => rw [toB_bit0, Nat.testBit_zero, Nat.testBit_zero]; cases b <;> simp
  | succ i => rw [toB_bitS, Nat.testBit_mul_two_pow]; cases b <;> simp [Nat.testBit_succ]
theorem t_low {b : Bool} {t : List Bool} (h : t.length + 1 ≤ 31) : band (toB (b :: t) : Int) 1 = (b.toNat : Int) := by
  rw [show (1 : Int) = ((1 : Nat) : Int) from rfl, band_n (toB_lt31 (by simp; omega))]
  congr 1
  rw [show (1 : Nat) = 2 ^ 1 - 1 from rfl, Nat.and_two_pow_sub_one_eq_mod, toB]
  cases b <;> simp <;> omega
