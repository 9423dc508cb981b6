abbrev rg (z : Int) : Prop := -2147483648 ≤ z ∧ z ≤ 2147483647
theorem tI {z : Int} (h : rg z) : (Int32.ofInt z).toInt = z := Int32.toInt_ofInt_of_le (by omega) (by omega)
theorem tL {z : Int} (h : -9223372036854775808 ≤ z ∧ z ≤ 9223372036854775807) : (Int64.ofInt z).toInt = z := Int64.toInt_ofInt_of_le (by omega) (by omega)
theorem vi_of (x : Int32) : Value.int x = vi x.toInt := by rw [vi, Int32.ofInt_toInt]
theorem rg_of (x : Int32) : rg x.toInt := ⟨by have := Int32.le_toInt x; omega, by have := Int32.toInt_lt x; omega⟩
theorem oI_lt {a b : Int} (ha : rg a) (hb : rg b) : Int32.ofInt a < Int32.ofInt b ↔ a < b := by rw [Int32.lt_iff_toInt_lt, tI ha, tI hb]
theorem oI_le {a b : Int} (ha : rg a) (hb : rg b) : Int32.ofInt a ≤ Int32.ofInt b ↔ a ≤ b := by rw [Int32.le_iff_toInt_le, tI ha, tI hb]
theorem oI_eq {a b : Int} (ha : rg a) (hb : rg b) : Int32.ofInt a = Int32.ofInt b ↔ a = b := by rw [← Int32.toInt_inj, tI ha, tI hb]
theorem rg0 : rg 0 := by omega
theorem zI : (0 : Int32) = Int32.ofInt 0 := by decide
def bop (f : Int32 → Int32 → Int32) (a b : Int) : Int := (f (Int32.ofInt a) (Int32.ofInt b)).toInt
def bopL (f : Int64 → Int64 → Int64) (a b : Int) : Int := (f (Int64.ofInt a) (Int64.ofInt b)).toInt
abbrev band : Int → Int → Int := bop (fun x y => x &&& y)
abbrev bor : Int → Int → Int := bop (fun x y => x ||| y)
abbrev bxor : Int → Int → Int := bop (fun x y => x ^^^ y)
abbrev bshl : Int → Int → Int := bop (fun x y => x <<< (y &&& 31))
abbrev bshr : Int → Int → Int := bop (fun x y => x >>> (y &&& 31))
abbrev bushr : Int → Int → Int := bop (fun x y => (x.toUInt32 >>> (y.toUInt32 &&& Int32.toUInt32 31)).toInt32)
theorem vi_bop (f : Int32 → Int32 → Int32) (a b : Int) : vi (bop f a b) = .int (f (Int32.ofInt a) (Int32.ofInt b)) := by rw [vi, bop, Int32.ofInt_toInt]
theorem vl_bopL (f : Int64 → Int64 → Int64) (a b : Int) : vl (bopL f a b) = .long (f (Int64.ofInt a) (Int64.ofInt b)) := by rw [vl, bopL, Int64.ofInt_toInt]
def i2bI (a : Int) : Int := (Int32.ofInt a).toInt8.toInt
def i2sI (a : Int) : Int := (Int32.ofInt a).toInt16.toInt
def i2cI (a : Int) : Int := ((Int32.ofInt a).toUInt32 % 65536).toInt32.toInt
section GR
variable {γ : Cg} {Ω : Ow} {Y : Md} {Z : State → Prop} {cs ss : Nat} {S : Sg} {M : Mm} {pc pc' tgt : Nat} {ls : List (Option Value)} {st : List Value} {a b z : Int} {va vb vc : Value}
/-- an instruction that changes the stack alone -/
theorem go_st {st' : List Value} (h : Cx γ Ω Y → ∀ (H : Heap) (locs : List Loc) (L : Array Slot), W (cP γ) Ω.1 (cE γ) (cR γ) (cS γ) (cM γ) (cA γ) (cB γ) (cMe γ) (cC γ) H locs cs ss Z (F0 (cM γ) pc' L st') → W (cP γ) Ω.1 (cE γ) (cR γ) (cS γ) (cM γ) (cA γ) (cB γ) (cMe γ) (cC γ) H locs cs ss Z (F0 (cM γ) pc L st)) (k : Go γ Ω Y Z cs ss S M pc' ls st') : Go γ Ω Y Z cs ss S M pc ls st := fun C H locs L h1 h2 h3 h4 => h C H locs L (k C H locs L h1 h2 h3 h4)
theorem g_iadd (hd : D1 Y.2.1 pc .iadd pc') (k : Go γ Ω Y Z cs ss S M pc' ls (vi (a + b) :: st)) : Go γ Ω Y Z cs ss S M pc ls (vi b :: vi a :: st) := by
  obtain ⟨hd, rfl⟩ := hd
  exact go_st (fun C H locs L k => lv_iadd C.1 C.2.1 hd (by rw [← Int32.ofInt_add]; exact k)) k
theorem g_isub (hd : D1 Y.2.1 pc .isub pc') (k : Go γ Ω Y Z cs ss S M pc' ls (vi (a - b) :: st)) : Go γ Ω Y Z cs ss S M pc ls (vi b :: vi a :: st) := by
  obtain ⟨hd, rfl⟩ := hd
  exact go_st (fun C H locs L k => lv_isub C.1 C.2.1 hd (by rw [← Int32.ofInt_sub]; exact k)) k
theorem g_imul (hd : D1 Y.2.1 pc .imul pc') (k : Go γ Ω Y Z cs ss S M pc' ls (vi (a * b) :: st)) : Go γ Ω Y Z cs ss S M pc ls (vi b :: vi a :: st) := by
  obtain ⟨hd, rfl⟩ := hd
  exact go_st (fun C H locs L k => lv_imul C.1 C.2.1 hd (by rw [← Int32.ofInt_mul]; exact k)) k
theorem g_ineg (hd : D1 Y.2.1 pc .ineg pc') (k : Go γ Ω Y Z cs ss S M pc' ls (vi (-a) :: st)) : Go γ Ω Y Z cs ss S M pc ls (vi a :: st) := by
  obtain ⟨hd, rfl⟩ := hd
  exact go_st (fun C H locs L k => lv_ineg C.1 C.2.1 hd (by rw [← Int32.ofInt_neg]; exact k)) k
theorem nz_of {b : Int} (hb : rg b) (h : b ≠ 0) : ¬ Int32.ofInt b = 0 := by
  intro q
  have h1 := congrArg Int32.toInt q
  rw [tI hb] at h1
  exact h (h1.trans (by decide))
theorem div_of (ha : rg a) (hb : rg b) (h : b ≠ 0) (h1 : b ≠ -1 ∨ a ≠ -2147483648) : Int32.ofInt a / Int32.ofInt b = Int32.ofInt (Int.tdiv a b) := (Int32.ofInt_tdiv (by rw [i32a]; exact ha.1) (by rw [i32b]; exact ha.2) (by rw [i32a]; exact hb.1) (by rw [i32b]; exact hb.2)).symm
theorem g_idivT (hd : D1 Y.2.1 pc .idiv pc') (ha : rg a) (hb : rg b) (h : b ≠ 0) (h1 : b ≠ -1 ∨ a ≠ -2147483648) (k : Go γ Ω Y Z cs ss S M pc' ls (vi (Int.tdiv a b) :: st)) : Go γ Ω Y Z cs ss S M pc ls (vi b :: vi a :: st) := by
  obtain ⟨hd, rfl⟩ := hd
  exact go_st (fun C H locs L k => lv_idiv C.1 C.2.1 hd (nz_of hb h) (by rw [div_of ha hb h h1]; exact k)) k
/-- of numbers that are not below 0 -/
theorem g_idiv (hd : D1 Y.2.1 pc .idiv pc') (ha : 0 ≤ a ∧ a ≤ 2147483647) (hb : 0 < b ∧ b ≤ 2147483647) (k : Go γ Ω Y Z cs ss S M pc' ls (vi (a / b) :: st)) : Go γ Ω Y Z cs ss S M pc ls (vi b :: vi a :: st) := by
  refine g_idivT hd (by omega) (by omega) (by omega) (Or.inl (by omega)) ?_
  rw [Int.tdiv_eq_ediv_of_nonneg ha.1]
  exact k
theorem g_irem (hd : D1 Y.2.1 pc .irem pc') (ha : 0 ≤ a ∧ a ≤ 2147483647) (hb : 0 < b ∧ b ≤ 2147483647) (k : Go γ Ω Y Z cs ss S M pc' ls (vi (a % b) :: st)) : Go γ Ω Y Z cs ss S M pc ls (vi b :: vi a :: st) := by
  obtain ⟨hd, rfl⟩ := hd
  refine go_st (fun C H locs L k => lv_irem C.1 C.2.1 hd (nz_of (by omega) (by omega)) ?_) k
  rw [div_of (by omega) (by omega) (by omega) (Or.inl (by omega)), ← Int32.ofInt_mul, ← Int32.ofInt_sub, Int.tdiv_eq_ediv_of_nonneg ha.1]
  have e : a - a / b * b = a % b := by rw [Int.emod_def, Int.mul_comm]
  rw [e]
  exact k
theorem g_iand (hd : D1 Y.2.1 pc .iand pc') (k : Go γ Ω Y Z cs ss S M pc' ls (vi (band a b) :: st)) : Go γ Ω Y Z cs ss S M pc ls (vi b :: vi a :: st) := by
  obtain ⟨hd, rfl⟩ := hd
  exact go_st (fun C H locs L k => lv_iand C.1 C.2.1 hd (by rw [vi_bop] at k; exact k)) k
theorem g_ior (hd : D1 Y.2.1 pc .ior pc') (k : Go γ Ω Y Z cs ss S M pc' ls (vi (bor a b) :: st)) : Go γ Ω Y Z cs ss S M pc ls (vi b :: vi a :: st) := by
  obtain ⟨hd, rfl⟩ := hd
  exact go_st (fun C H locs L k => lv_ior C.1 C.2.1 hd (by rw [vi_bop] at k; exact k)) k
theorem g_ixor (hd : D1 Y.2.1 pc .ixor pc') (k : Go γ Ω Y Z cs ss S M pc' ls (vi (bxor a b) :: st)) : Go γ Ω Y Z cs ss S M pc ls (vi b :: vi a :: st) := by
  obtain ⟨hd, rfl⟩ := hd
  exact go_st (fun C H locs L k => lv_ixor C.1 C.2.1 hd (by rw [vi_bop] at k; exact k)) k
theorem g_ishl (hd : D1 Y.2.1 pc .ishl pc') (k : Go γ Ω Y Z cs ss S M pc' ls (vi (bshl a b) :: st)) : Go γ Ω Y Z cs ss S M pc ls (vi b :: vi a :: st) := by
  obtain ⟨hd, rfl⟩ := hd
  exact go_st (fun C H locs L k => lv_ishl C.1 C.2.1 hd (by rw [vi_bop] at k; exact k)) k
theorem g_ishr (hd : D1 Y.2.1 pc .ishr pc') (k : Go γ Ω Y Z cs ss S M pc' ls (vi (bshr a b) :: st)) : Go γ Ω Y Z cs ss S M pc ls (vi b :: vi a :: st) := by
  obtain ⟨hd, rfl⟩ := hd
  exact go_st (fun C H locs L k => lv_ishr C.1 C.2.1 hd (by rw [vi_bop] at k; exact k)) k
theorem g_iushr (hd : D1 Y.2.1 pc .iushr pc') (k : Go γ Ω Y Z cs ss S M pc' ls (vi (bushr a b) :: st)) : Go γ Ω Y Z cs ss S M pc ls (vi b :: vi a :: st) := by
  obtain ⟨hd, rfl⟩ := hd
  exact go_st (fun C H locs L k => lv_iushr C.1 C.2.1 hd rfl (by rw [vi_bop] at k; exact k)) k
theorem g_i2l (hd : D1 Y.2.1 pc .i2l pc') (ha : rg a) (k : Go γ Ω Y Z cs ss S M pc' ls (vl a :: st)) : Go γ Ω Y Z cs ss S M pc ls (vi a :: st) := by
  obtain ⟨hd, rfl⟩ := hd
  exact go_st (fun C H locs L k => lv_i2l C.1 C.2.1 hd (Int32.toInt64_ofInt (by rw [i32a]; exact ha.1) (by rw [i32b]; exact ha.2)) k) k
theorem g_l2i (hd : D1 Y.2.1 pc .l2i pc') (k : Go γ Ω Y Z cs ss S M pc' ls (vi a :: st)) : Go γ Ω Y Z cs ss S M pc ls (vl a :: st) := by
  obtain ⟨hd, rfl⟩ := hd
  exact go_st (fun C H locs L k => lv_l2i C.1 C.2.1 hd Int64.toInt32_ofInt k) k
theorem g_i2b (hd : D1 Y.2.1 pc .i2b pc') (k : Go γ Ω Y Z cs ss S M pc' ls (vi (i2bI a) :: st)) : Go γ Ω Y Z cs ss S M pc ls (vi a :: st) := by
  obtain ⟨hd, rfl⟩ := hd
  exact go_st (fun C H locs L k => lv_i2b C.1 C.2.1 hd rfl k) k
theorem g_i2s (hd : D1 Y.2.1 pc .i2s pc') (k : Go γ Ω Y Z cs ss S M pc' ls (vi (i2sI a) :: st)) : Go γ Ω Y Z cs ss S M pc ls (vi a :: st) := by
  obtain ⟨hd, rfl⟩ := hd
  exact go_st (fun C H locs L k => lv_i2s C.1 C.2.1 hd rfl k) k
theorem g_i2c (hd : D1 Y.2.1 pc .i2c pc') (k : Go γ Ω Y Z cs ss S M pc' ls (vi (i2cI a) :: st)) : Go γ Ω Y Z cs ss S M pc ls (vi a :: st) := by
  obtain ⟨hd, rfl⟩ := hd
  refine go_st (fun C H locs L k => lv_i2c C.1 C.2.1 hd rfl ?_) k
  rw [vi, i2cI, Int32.ofInt_toInt] at k
  exact k
theorem g_ladd (hd : D1 Y.2.1 pc .ladd pc') (k : Go γ Ω Y Z cs ss S M pc' ls (vl (a + b) :: st)) : Go γ Ω Y Z cs ss S M pc ls (vl b :: vl a :: st) := by
  obtain ⟨hd, rfl⟩ := hd
  exact go_st (fun C H locs L k => lv_ladd C.1 C.2.1 hd (by rw [← Int64.ofInt_add]; exact k)) k
theorem g_lor (hd : D1 Y.2.1 pc .lor pc') (k : Go γ Ω Y Z cs ss S M pc' ls (vl (bopL (fun x y => x ||| y) a b) :: st)) : Go γ Ω Y Z cs ss S M pc ls (vl b :: vl a :: st) := by
  obtain ⟨hd, rfl⟩ := hd
  exact go_st (fun C H locs L k => lv_lor C.1 C.2.1 hd (by rw [vl_bopL] at k; exact k)) k
theorem g_land (hd : D1 Y.2.1 pc .land pc') (k : Go γ Ω Y Z cs ss S M pc' ls (vl (bopL (fun x y => x &&& y) a b) :: st)) : Go γ Ω Y Z cs ss S M pc ls (vl b :: vl a :: st) := by
  obtain ⟨hd, rfl⟩ := hd
  exact go_st (fun C H locs L k => lv_land C.1 C.2.1 hd (by rw [vl_bopL] at k; exact k)) k
def blshl (a b : Int) : Int := (Int64.ofInt a <<< ((Int32.ofInt b).toInt64 &&& 63)).toInt
theorem g_lshl (hd : D1 Y.2.1 pc .lshl pc') (k : Go γ Ω Y Z cs ss S M pc' ls (vl (blshl a b) :: st)) : Go γ Ω Y Z cs ss S M pc ls (vi b :: vl a :: st) := by
  obtain ⟨hd, rfl⟩ := hd
  refine go_st (fun C H locs L k => lv_lshl C.1 C.2.1 hd rfl ?_) k
  rw [vl, blshl, Int64.ofInt_toInt] at k
  exact k
theorem g_dup (hd : D1 Y.2.1 pc .dup pc') (hc : va.category = 1) (k : Go γ Ω Y Z cs ss S M pc' ls (va :: va :: st)) : Go γ Ω Y Z cs ss S M pc ls (va :: st) := by
  obtain ⟨hd, rfl⟩ := hd
  exact go_st (fun C H locs L k => lv_dup C.1 C.2.1 hd hc k) k
theorem g_pop (hd : D1 Y.2.1 pc .pop pc') (hc : va.category = 1) (k : Go γ Ω Y Z cs ss S M pc' ls st) : Go γ Ω Y Z cs ss S M pc ls (va :: st) := by
  obtain ⟨hd, rfl⟩ := hd
  exact go_st (fun C H locs L k => lv_pop C.1 C.2.1 hd hc k) k
theorem g_dup_x1 (hd : D1 Y.2.1 pc .dup_x1 pc') (hc : va.category = 1) (hb : vb.category = 1) (k : Go γ Ω Y Z cs ss S M pc' ls (va :: vb :: va :: st)) : Go γ Ω Y Z cs ss S M pc ls (va :: vb :: st) := by
  obtain ⟨hd, rfl⟩ := hd
  exact go_st (fun C H locs L k => lv_dup_x1 C.1 C.2.1 hd hc hb k) k
theorem g_dup2 (hd : D1 Y.2.1 pc .dup2 pc') (hc : va.category = 1) (hb : vb.category = 1) (k : Go γ Ω Y Z cs ss S M pc' ls (va :: vb :: va :: vb :: st)) : Go γ Ω Y Z cs ss S M pc ls (va :: vb :: st) := by
  obtain ⟨hd, rfl⟩ := hd
  exact go_st (fun C H locs L k => lv_dup2_11 C.1 C.2.1 hd hc hb k) k
theorem g_null (hd : D1 Y.2.1 pc .aconst_null pc') (k : Go γ Ω Y Z cs ss S M pc' ls (.null :: st)) : Go γ Ω Y Z cs ss S M pc ls st := by
  obtain ⟨hd, rfl⟩ := hd
  exact go_st (fun C H locs L k => lv_null C.1 C.2.1 hd k) k
theorem g_lconst {n : Fin 2} (hd : D1 Y.2.1 pc (.lconst n) pc') (hz : ((n : Nat) : Int) = z) (k : Go γ Ω Y Z cs ss S M pc' ls (vl z :: st)) : Go γ Ω Y Z cs ss S M pc ls st := by
  obtain ⟨hd, rfl⟩ := hd
  subst hz
  exact go_st (fun C H locs L k => lv_lconst C.1 C.2.1 hd rfl (by rw [vl, Int64.ofInt_eq_ofNat] at k; exact k)) k
theorem g_ldc2 {i : Nat} (hd : D3 Y.2.1 pc (.ldc2_w i) pc') (hw : Jvm.Cond.constantLong Y.1.cls i (Int64.ofInt z) ∈ Ug) (k : Go γ Ω Y Z cs ss S M pc' ls (vl z :: st)) : Go γ Ω Y Z cs ss S M pc ls st := by
  obtain ⟨hd, rfl⟩ := hd
  exact go_st (fun C H locs L k => lv_ldc2 C.1 C.2.1 C.2.2.2.1 (C.2.2.2.2.1 _ hw) hd k) k
/-- a jump's place -/
abbrev DJ (cc : ByteArray) (pc : Nat) (i : Int → Instr) (tgt : Nat) : Prop := ∃ off : Int, decode cc pc = .ok (i off, 3) ∧ (pc : Int) + off = (tgt : Int)
theorem g_goto (hd : DJ Y.2.1 pc .goto tgt) (k : Go γ Ω Y Z cs ss S M tgt ls st) : Go γ Ω Y Z cs ss S M pc ls st := by
  obtain ⟨off, hd, ht⟩ := hd
  exact go_st (fun C H locs L k => lv_goto C.1 C.2.1 hd ht k) k
theorem g_icmp_eq (hd : DJ Y.2.1 pc (.if_icmp .eq) tgt) (hp : pc + 3 = pc') (ha : rg a) (hb : rg b) (k1 : a = b → Go γ Ω Y Z cs ss S M tgt ls st) (k2 : ¬ (a = b) → Go γ Ω Y Z cs ss S M pc' ls st) : Go γ Ω Y Z cs ss S M pc ls (vi b :: vi a :: st) := by
  obtain ⟨off, hd, ht⟩ := hd
  subst hp
  exact fun C H locs L h1 h2 h3 h4 => lv_icmp_eq C.1 C.2.1 hd ht (fun q => k1 (by simpa only [ne_eq, oI_lt, oI_le, oI_eq, ha, hb, rg, and_self, ge_iff_le, gt_iff_lt] using q) C H locs L h1 h2 h3 h4) (fun q => k2 (by simpa only [ne_eq, oI_lt, oI_le, oI_eq, ha, hb, rg, and_self, ge_iff_le, gt_iff_lt] using q) C H locs L h1 h2 h3 h4)
theorem g_if_eq (hd : DJ Y.2.1 pc (.ifCond .eq) tgt) (hp : pc + 3 = pc') (ha : rg a) (k1 : a = 0 → Go γ Ω Y Z cs ss S M tgt ls st) (k2 : ¬ (a = 0) → Go γ Ω Y Z cs ss S M pc' ls st) : Go γ Ω Y Z cs ss S M pc ls (vi a :: st) := by
  obtain ⟨off, hd, ht⟩ := hd
  subst hp
  exact fun C H locs L h1 h2 h3 h4 => lv_if_eq C.1 C.2.1 hd ht (fun q => k1 (by simpa only [ne_eq, zI, oI_lt, oI_le, oI_eq, ha, rg0, rg, and_self, ge_iff_le, gt_iff_lt] using q) C H locs L h1 h2 h3 h4) (fun q => k2 (by simpa only [ne_eq, zI, oI_lt, oI_le, oI_eq, ha, rg0, rg, and_self, ge_iff_le, gt_iff_lt] using q) C H locs L h1 h2 h3 h4)
theorem g_icmp_ne (hd : DJ Y.2.1 pc (.if_icmp .ne) tgt) (hp : pc + 3 = pc') (ha : rg a) (hb : rg b) (k1 : a ≠ b → Go γ Ω Y Z cs ss S M tgt ls st) (k2 : ¬ (a ≠ b) → Go γ Ω Y Z cs ss S M pc' ls st) : Go γ Ω Y Z cs ss S M pc ls (vi b :: vi a :: st) := by
  obtain ⟨off, hd, ht⟩ := hd
  subst hp
  exact fun C H locs L h1 h2 h3 h4 => lv_icmp_ne C.1 C.2.1 hd ht (fun q => k1 (by simpa only [ne_eq, Classical.not_not, oI_lt, oI_le, oI_eq, ha, hb, rg, and_self, ge_iff_le, gt_iff_lt] using q) C H locs L h1 h2 h3 h4) (fun q => k2 (by simpa only [ne_eq, Classical.not_not, oI_lt, oI_le, oI_eq, ha, hb, rg, and_self, ge_iff_le, gt_iff_lt] using q) C H locs L h1 h2 h3 h4)
theorem g_if_ne (hd : DJ Y.2.1 pc (.ifCond .ne) tgt) (hp : pc + 3 = pc') (ha : rg a) (k1 : a ≠ 0 → Go γ Ω Y Z cs ss S M tgt ls st) (k2 : ¬ (a ≠ 0) → Go γ Ω Y Z cs ss S M pc' ls st) : Go γ Ω Y Z cs ss S M pc ls (vi a :: st) := by
  obtain ⟨off, hd, ht⟩ := hd
  subst hp
  exact fun C H locs L h1 h2 h3 h4 => lv_if_ne C.1 C.2.1 hd ht (fun q => k1 (by simpa only [ne_eq, Classical.not_not, zI, oI_lt, oI_le, oI_eq, ha, rg0, rg, and_self, ge_iff_le, gt_iff_lt] using q) C H locs L h1 h2 h3 h4) (fun q => k2 (by simpa only [ne_eq, Classical.not_not, zI, oI_lt, oI_le, oI_eq, ha, rg0, rg, and_self, ge_iff_le, gt_iff_lt] using q) C H locs L h1 h2 h3 h4)
theorem g_icmp_lt (hd : DJ Y.2.1 pc (.if_icmp .lt) tgt) (hp : pc + 3 = pc') (ha : rg a) (hb : rg b) (k1 : a < b → Go γ Ω Y Z cs ss S M tgt ls st) (k2 : ¬ (a < b) → Go γ Ω Y Z cs ss S M pc' ls st) : Go γ Ω Y Z cs ss S M pc ls (vi b :: vi a :: st) := by
  obtain ⟨off, hd, ht⟩ := hd
  subst hp
  exact fun C H locs L h1 h2 h3 h4 => lv_icmp_lt C.1 C.2.1 hd ht (fun q => k1 (by simpa only [ne_eq, oI_lt, oI_le, oI_eq, ha, hb, rg, and_self, ge_iff_le, gt_iff_lt] using q) C H locs L h1 h2 h3 h4) (fun q => k2 (by simpa only [ne_eq, oI_lt, oI_le, oI_eq, ha, hb, rg, and_self, ge_iff_le, gt_iff_lt] using q) C H locs L h1 h2 h3 h4)
theorem g_if_lt (hd : DJ Y.2.1 pc (.ifCond .lt) tgt) (hp : pc + 3 = pc') (ha : rg a) (k1 : a < 0 → Go γ Ω Y Z cs ss S M tgt ls st) (k2 : ¬ (a < 0) → Go γ Ω Y Z cs ss S M pc' ls st) : Go γ Ω Y Z cs ss S M pc ls (vi a :: st) := by
  obtain ⟨off, hd, ht⟩ := hd
  subst hp
  exact fun C H locs L h1 h2 h3 h4 => lv_if_lt C.1 C.2.1 hd ht (fun q => k1 (by simpa only [ne_eq, zI, oI_lt, oI_le, oI_eq, ha, rg0, rg, and_self, ge_iff_le, gt_iff_lt] using q) C H locs L h1 h2 h3 h4) (fun q => k2 (by simpa only [ne_eq, zI, oI_lt, oI_le, oI_eq, ha, rg0, rg, and_self, ge_iff_le, gt_iff_lt] using q) C H locs L h1 h2 h3 h4)
theorem g_icmp_ge (hd : DJ Y.2.1 pc (.if_icmp .ge) tgt) (hp : pc + 3 = pc') (ha : rg a) (hb : rg b) (k1 : b ≤ a → Go γ Ω Y Z cs ss S M tgt ls st) (k2 : ¬ (b ≤ a) → Go γ Ω Y Z cs ss S M pc' ls st) : Go γ Ω Y Z cs ss S M pc ls (vi b :: vi a :: st) := by
  obtain ⟨off, hd, ht⟩ := hd
  subst hp
  exact fun C H locs L h1 h2 h3 h4 => lv_icmp_ge C.1 C.2.1 hd ht (fun q => k1 (by simpa only [ne_eq, oI_lt, oI_le, oI_eq, ha, hb, rg, and_self, ge_iff_le, gt_iff_lt] using q) C H locs L h1 h2 h3 h4) (fun q => k2 (by simpa only [ne_eq, oI_lt, oI_le, oI_eq, ha, hb, rg, and_self, ge_iff_le, gt_iff_lt] using q) C H locs L h1 h2 h3 h4)
theorem g_if_ge (hd : DJ Y.2.1 pc (.ifCond .ge) tgt) (hp : pc + 3 = pc') (ha : rg a) (k1 : 0 ≤ a → Go γ Ω Y Z cs ss S M tgt ls st) (k2 : ¬ (0 ≤ a) → Go γ Ω Y Z cs ss S M pc' ls st) : Go γ Ω Y Z cs ss S M pc ls (vi a :: st) := by
  obtain ⟨off, hd, ht⟩ := hd
  subst hp
  exact fun C H locs L h1 h2 h3 h4 => lv_if_ge C.1 C.2.1 hd ht (fun q => k1 (by simpa only [ne_eq, zI, oI_lt, oI_le, oI_eq, ha, rg0, rg, and_self, ge_iff_le, gt_iff_lt] using q) C H locs L h1 h2 h3 h4) (fun q => k2 (by simpa only [ne_eq, zI, oI_lt, oI_le, oI_eq, ha, rg0, rg, and_self, ge_iff_le, gt_iff_lt] using q) C H locs L h1 h2 h3 h4)
theorem g_icmp_gt (hd : DJ Y.2.1 pc (.if_icmp .gt) tgt) (hp : pc + 3 = pc') (ha : rg a) (hb : rg b) (k1 : b < a → Go γ Ω Y Z cs ss S M tgt ls st) (k2 : ¬ (b < a) → Go γ Ω Y Z cs ss S M pc' ls st) : Go γ Ω Y Z cs ss S M pc ls (vi b :: vi a :: st) := by
  obtain ⟨off, hd, ht⟩ := hd
  subst hp
  exact fun C H locs L h1 h2 h3 h4 => lv_icmp_gt C.1 C.2.1 hd ht (fun q => k1 (by simpa only [ne_eq, oI_lt, oI_le, oI_eq, ha, hb, rg, and_self, ge_iff_le, gt_iff_lt] using q) C H locs L h1 h2 h3 h4) (fun q => k2 (by simpa only [ne_eq, oI_lt, oI_le, oI_eq, ha, hb, rg, and_self, ge_iff_le, gt_iff_lt] using q) C H locs L h1 h2 h3 h4)
theorem g_if_gt (hd : DJ Y.2.1 pc (.ifCond .gt) tgt) (hp : pc + 3 = pc') (ha : rg a) (k1 : 0 < a → Go γ Ω Y Z cs ss S M tgt ls st) (k2 : ¬ (0 < a) → Go γ Ω Y Z cs ss S M pc' ls st) : Go γ Ω Y Z cs ss S M pc ls (vi a :: st) := by
  obtain ⟨off, hd, ht⟩ := hd
  subst hp
  exact fun C H locs L h1 h2 h3 h4 => lv_if_gt C.1 C.2.1 hd ht (fun q => k1 (by simpa only [ne_eq, zI, oI_lt, oI_le, oI_eq, ha, rg0, rg, and_self, ge_iff_le, gt_iff_lt] using q) C H locs L h1 h2 h3 h4) (fun q => k2 (by simpa only [ne_eq, zI, oI_lt, oI_le, oI_eq, ha, rg0, rg, and_self, ge_iff_le, gt_iff_lt] using q) C H locs L h1 h2 h3 h4)
theorem g_icmp_le (hd : DJ Y.2.1 pc (.if_icmp .le) tgt) (hp : pc + 3 = pc') (ha : rg a) (hb : rg b) (k1 : a ≤ b → Go γ Ω Y Z cs ss S M tgt ls st) (k2 : ¬ (a ≤ b) → Go γ Ω Y Z cs ss S M pc' ls st) : Go γ Ω Y Z cs ss S M pc ls (vi b :: vi a :: st) := by
  obtain ⟨off, hd, ht⟩ := hd
  subst hp
  exact fun C H locs L h1 h2 h3 h4 => lv_icmp_le C.1 C.2.1 hd ht (fun q => k1 (by simpa only [ne_eq, oI_lt, oI_le, oI_eq, ha, hb, rg, and_self, ge_iff_le, gt_iff_lt] using q) C H locs L h1 h2 h3 h4) (fun q => k2 (by simpa only [ne_eq, oI_lt, oI_le, oI_eq, ha, hb, rg, and_self, ge_iff_le, gt_iff_lt] using q) C H locs L h1 h2 h3 h4)
theorem g_if_le (hd : DJ Y.2.1 pc (.ifCond .le) tgt) (hp : pc + 3 = pc') (ha : rg a) (k1 : a ≤ 0 → Go γ Ω Y Z cs ss S M tgt ls st) (k2 : ¬ (a ≤ 0) → Go γ Ω Y Z cs ss S M pc' ls st) : Go γ Ω Y Z cs ss S M pc ls (vi a :: st) := by
  obtain ⟨off, hd, ht⟩ := hd
  subst hp
  exact fun C H locs L h1 h2 h3 h4 => lv_if_le C.1 C.2.1 hd ht (fun q => k1 (by simpa only [ne_eq, zI, oI_lt, oI_le, oI_eq, ha, rg0, rg, and_self, ge_iff_le, gt_iff_lt] using q) C H locs L h1 h2 h3 h4) (fun q => k2 (by simpa only [ne_eq, zI, oI_lt, oI_le, oI_eq, ha, rg0, rg, and_self, ge_iff_le, gt_iff_lt] using q) C H locs L h1 h2 h3 h4)
end GR
