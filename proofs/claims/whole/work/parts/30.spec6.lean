/-! the street of WHAT IF -/
def triF (S S' : Sg) (M M' : Mm) : Prop := S'.1 = S.1 ∧ (∀ k j, ¬ (k = 61 ∧ j = 4) → S'.2 k j = S.2 k j) ∧ Gr S' ∧ blk 61 M M' ∧ ∀ p, p < 6 → M' (pe 61 p) 0 = (p : Int)
theorem isB61 : isB 61 := Or.inr (Or.inr rfl)
theorem triF.rf {S : Sg} {M : Mm} (hG : Gr S) (hN : ∀ p, p < 6 → M (pe 61 p) 0 = (p : Int)) : triF S S M M := ⟨rfl, fun _ _ _ => rfl, hG, blk.rf, hN⟩
/-- a change of the trial's cells alone -/
theorem triF.mv {S S' : Sg} {M M1 M2 : Mm} (h : triF S S' M M1) (hb : blk 61 M1 M2) (hN : ∀ p, p < 6 → M2 (pe 61 p) 0 = (p : Int)) : triF S S' M M2 := ⟨h.1, h.2.1, h.2.2.1, h.2.2.2.1.tr hb, hN⟩
theorem triF.mx {S S' : Sg} {M M1 M2 : Mm} {z : Ab} (h : triF S S' M M1) (hb : blk 61 M1 M2) (hX : RepX S' M2 61 z) : triF S S' M M2 := h.mv hb hX.2.2.2.2.1
/-- it becomes like street B -/
theorem triF.cp {S S1 : Sg} {M M1 M2 : Mm} {B : Nat} (hB : isB B) (hne : B ≠ 61) (h : triF S S1 M M1) (hb : blk 61 M1 M2) {z : Ab} (hX : RepX (S1.1, up S1.2 61 4 (S1.2 B 4)) M2 61 z) : triF S (S1.1, up S1.2 61 4 (S1.2 B 4)) M M2 := by
  obtain ⟨h1, h2, h3, h4, h5⟩ := h
  refine ⟨h1, fun k j hkj => ?_, Gr.upLaw h3 isB61 _, h4.tr hb, hX.2.2.2.2.1⟩
  show up S1.2 61 4 (S1.2 B 4) k j = _
  rw [up_n hkj]; exact h2 k j hkj
theorem triF.xx {S S' : Sg} {M M' : Mm} {B : Nat} {z : Ab} (h : triF S S' M M') (hB : isB B) (hne : B ≠ 61) (hX : RepX S M B z) (hc : zc z ≤ 6) : RepX S' M' B z := RepX.blk hX isB61 hB (Ne.symm hne) h.2.2.2.1 (by rw [h.1]; exact Nat.le_refl _) (h.2.1 B 4 (by omega)) hc
theorem triF.tt {S S' : Sg} {M M' : Mm} {c m : Nat} {T : Tb} (h : triF S S' M M') (hT : isT c m) (hR : RepT M c m T) : RepT M' c m T := by
  have hc : c + 1 < 61 := by rcases hT with ⟨h | h, -⟩ | ⟨h | h, -⟩ | ⟨h | h, -⟩ <;> omega
  obtain ⟨s0, s1, -, -⟩ := sh_T hT
  exact hR.far (h.2.2.2.1.at s0 (by decide) (by omega)) (h.2.2.2.1.at s1 (by rcases hT with ⟨-, rfl⟩ | ⟨-, rfl⟩ | ⟨-, rfl⟩ <;> decide) (by omega))
theorem sightN_lt (z : Ab) (p : Nat) : sightN z p < 4096 := bitsP_lt _ 12
theorem bit1 {a k : Nat} (ha : a < 2 ^ 31) (hk : k < 32) : band (bshr (a : Int) (k : Int)) 1 = ((a.testBit k).toNat : Int) := by
  rw [bshr_n hk ha, show (1 : Int) = ((1 : Nat) : Int) from rfl, band_n (Nat.lt_of_le_of_lt (Nat.div_le_self _ _) ha), Nat.and_one_is_mod]
  congr 1
  rw [Nat.testBit_eq_decide_div_mod_eq]
  rcases Nat.mod_two_eq_zero_or_one (a / 2 ^ k) with h | h <;> rw [h] <;> rfl
theorem setP_id (z : Ab) (p a : Nat) : setP z p a (zP z p a) = z := by
  unfold setP
  have : (fun q b => if q = p ∧ b = a then zP z p a else zP z q b) = zP z := by
    funext q b
    split
    · rename_i h; rw [h.1, h.2]
    · rfl
  rw [this]
theorem setP_two (z : Ab) (p a v w : Nat) : setP (setP z p a v) p a w = setP z p a w := by
  unfold setP
  refine congrArg _ (congrArg _ (congrArg _ (congrArg (fun f => (f, zL z)) ?_)))
  funext q b
  by_cases h : q = p ∧ b = a
  · rw [if_pos h, if_pos h]
  · rw [if_neg h, if_neg h]; exact if_neg h
theorem okZ_planS {z : Ab} {a n : Int} (hO : okZ z) (hd : zd z ≤ 19999) (ha : 0 ≤ a ∧ a ≤ 3) (h2 : a = 2 → 0 ≤ n ∧ n ≤ 11) : okZ (planS z a n) ∧ zc (planS z a n) = zc z ∧ zd (planS z a n) ≤ zd z + 1 := by
  unfold planS
  by_cases h0 : a = 0
  · rw [if_pos h0]; exact ⟨okZ_walk hO (by omega), rfl, Nat.le_refl _⟩
  · rw [if_neg h0]
    by_cases h1 : a = 1
    · rw [if_pos h1]; exact ⟨okZ_paid hO, rfl, Nat.le_succ _⟩
    · rw [if_neg h1]
      by_cases h2' : a = 2
      · rw [if_pos h2']
        have := h2 h2'
        have e : 2 ^ n.toNat < 2 ^ 12 := Nat.pow_lt_pow_right (by decide) (by omega)
        exact ⟨⟨hO.1, Nat.xor_lt_two_pow (n := 12) hO.2.1 e, hO.2.2⟩, rfl, Nat.le_succ _⟩
      · rw [if_neg h2']
        exact ⟨okZ_setP hO (Or.inr (Or.inr (Or.inr (Or.inr (Or.inl ⟨rfl, by decide⟩))))), rfl, Nat.le_succ _⟩
theorem okZ_planZ {z : Ab} {T : Tb} (hO : okZ z) (hd : zd z ≤ 9999) (hP : okPlan (zc z) T) : ∀ n, n ≤ T.length → n ≤ 10 → okZ (planZ z T n) ∧ zc (planZ z T n) = zc z ∧ zd (planZ z T n) ≤ zd z + n
  | 0, _, _ => ⟨hO, rfl, Nat.le_refl _⟩
  | n + 1, h1, h2 => by
    obtain ⟨a1, a2, a3⟩ := okZ_planZ hO hd hP n (by omega) (by omega)
    obtain ⟨b1, b2, b3, -⟩ := hP n (by omega)
    obtain ⟨c1, c2, c3⟩ := okZ_planS (z := planZ z T n) (a := tg T n 0) (n := tg T n 1) a1 (by omega) b1 (fun h => b3 (Or.inr h))
    exact ⟨c1, c2.trans a2, by show zd (planS _ _ _) ≤ _; omega⟩
theorem RepX_walls {S : Sg} {M : Mm} {B : Nat} {z : Ab} (h : RepX S M B z) (hB : isB B) (hc : zc z ≤ 6) (w : Nat) : RepX S (up M B 2 (w : Int)) B (zc z, w, zd z, zP z, zL z) := RepX_scal h hB hc w (zd z) (up_n (by omega)) (up_s _ _ _ _) (by rw [up_n (by omega)]; exact h.2.2.1) (fun k a => up_row a)
