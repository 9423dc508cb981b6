/-! what changes the model's street -/
def stf (M M' : Mm) : Prop := (∀ k, (k < 87 ∨ 94 ≤ k) → k ≠ 101 → k ≠ 112 → M' k = M k) ∧ ∀ j, j ≠ 0 → j ≠ 7 → j ≠ 8 → M' 87 j = M 87 j
theorem stf.rf {M : Mm} : stf M M := ⟨fun _ _ _ _ => rfl, fun _ _ _ _ => rfl⟩
theorem stf.tr {M M1 M2 : Mm} (h1 : stf M M1) (h2 : stf M1 M2) : stf M M2 := ⟨fun k a b c => (h2.1 k a b c).trans (h1.1 k a b c), fun j a b c => (h2.2 j a b c).trans (h1.2 j a b c)⟩
theorem ask.stf {M M' : Mm} (h : ask M M') : stf M M' := ⟨fun k _ b c => h k b c, fun j _ _ _ => by rw [h 87 (by decide) (by decide)]⟩
theorem stf.upR {M M1 : Mm} (h : stf M M1) {k j : Nat} {v : Int} (hk : 88 ≤ k ∧ k < 94) : stf M (up M1 k j v) := ⟨fun k2 a b c => by rw [up_row (by omega)]; exact h.1 k2 a b c, fun j2 a b c => by rw [up_row (by omega)]; exact h.2 j2 a b c⟩
theorem stf.up0 {M M1 : Mm} (h : stf M M1) {j : Nat} {v : Int} (hj : j = 0 ∨ j = 7 ∨ j = 8) : stf M (up M1 87 j v) := ⟨fun k2 a b c => by rw [up_row (by omega)]; exact h.1 k2 a b c, fun j2 a b c => by rw [up_n (by omega)]; exact h.2 j2 a b c⟩
theorem MLw.keep {M M' : Mm} {L : LawC} (H : MLw M L) (h : stf M M') : MLw M' L := H.cong (h.2 16 (by decide) (by decide) (by decide)) (fun k a b => h.1 k (by omega) (by omega) (by omega))
theorem MX_set {M : Mm} {z : Ab} (h : MX M z) {n a v : Nat} (ha : a ≤ 4) : MX (up M (88 + a) n (v : Int)) (setP z n a v) := by
  obtain ⟨h1, h2, h3, h4, h5⟩ := h
  have n87 : (87 : Nat) ≠ 88 + a := by omega
  refine ⟨by rw [up_row n87]; exact h1, by rw [up_row n87]; exact h2, by rw [up_row n87]; exact h3, fun p hp => ?_, h5.cong (by rw [up_row n87]) (fun k hk _ => up_row (by omega))⟩
  obtain ⟨r1, r2, r3, r4, r5, r6⟩ := h4 p hp
  have key : ∀ b, b ≤ 4 → M (88 + b) p = (zP z p b : Int) → up M (88 + a) n (v : Int) (88 + b) p = ((if p = n ∧ b = a then v else zP z p b : Nat) : Int) := by
    intro b hb hm
    by_cases hh : p = n ∧ b = a
    · obtain ⟨rfl, rfl⟩ := hh
      rw [up_s, if_pos ⟨rfl, rfl⟩]
    · rw [if_neg hh, up_n (by omega)]
      exact hm
  refine ⟨key 0 (by decide) r1, key 1 (by decide) r2, key 2 (by decide) r3, key 3 (by decide) r4, key 4 (by decide) r5, fun j hj => ?_⟩
  rw [up_row (by omega), r6 j hj]
  show _ = ((if p = n ∧ 5 + j = a then v else zP z p (5 + j) : Nat) : Int)
  rw [if_neg (by omega)]
theorem MX_setR {M : Mm} {z : Ab} (h : MX M z) {n q v : Nat} (hq : q < 4) : MX (up M 93 (4 * n + q) (v : Int)) (setP z n (5 + q) v) := by
  obtain ⟨h1, h2, h3, h4, h5⟩ := h
  refine ⟨by rw [up_row (by decide)]; exact h1, by rw [up_row (by decide)]; exact h2, by rw [up_row (by decide)]; exact h3, fun p hp => ?_, h5.cong (by rw [up_row (by decide)]) (fun k hk _ => up_row (by omega))⟩
  obtain ⟨r1, r2, r3, r4, r5, r6⟩ := h4 p hp
  have key : ∀ b, b ≤ 4 → (if p = n ∧ b = 5 + q then v else zP z p b) = zP z p b := fun b hb => by rw [if_neg (by omega)]
  refine ⟨by rw [up_row (by decide), r1]; exact congrArg _ (key 0 (by omega)).symm, by rw [up_row (by decide), r2]; exact congrArg _ (key 1 (by omega)).symm, by rw [up_row (by decide), r3]; exact congrArg _ (key 2 (by omega)).symm, by rw [up_row (by decide), r4]; exact congrArg _ (key 3 (by omega)).symm, by rw [up_row (by decide), r5]; exact congrArg _ (key 4 (by omega)).symm, fun j hj => ?_⟩
  show _ = ((if p = n ∧ 5 + j = 5 + q then v else zP z p (5 + j) : Nat) : Int)
  by_cases hh : p = n ∧ j = q
  · obtain ⟨rfl, rfl⟩ := hh
    rw [up_s, if_pos ⟨rfl, rfl⟩]
  · rw [if_neg (by omega), up_n (by omega)]
    exact r6 j hj
theorem MX.cut {M : Mm} {z z' : Ab} (h : MX M z) (e0 : zc z' = zc z) (e1 : zw z' = zw z) (e2 : zd z' = zd z) (e3 : zL z' = zL z) (e : ∀ p, p < zc z → ∀ a, zP z' p a = zP z p a) : MX M z' := by
  obtain ⟨h1, h2, h3, h4, h5⟩ := h
  refine ⟨by rw [e0]; exact h1, by rw [e1]; exact h2, by rw [e2]; exact h3, fun p hp => ?_, by rw [e3]; exact h5⟩
  rw [e0] at hp
  have := h4 p hp
  unfold MP at this ⊢
  simp only [e p hp]
  exact this
theorem MX.walls {M : Mm} {z : Ab} (h : MX M z) (w : Nat) : MX (up M 87 7 (w : Int)) (zc z, w, zd z, zP z, zL z) := by
  obtain ⟨h1, h2, h3, h4, h5⟩ := h
  refine ⟨by rw [up_n (by omega)]; exact h1, up_s _ _ _ _, by rw [up_n (by omega)]; exact h3, fun p hp => ?_, h5.cong (up_n (by omega)) (fun k hk _ => up_row (by omega))⟩
  have := h4 p hp
  unfold MP at this ⊢
  rw [up_row (by decide), up_row (by decide), up_row (by decide), up_row (by decide), up_row (by decide), up_row (by decide)]
  exact this
theorem MX.day {M : Mm} {z : Ab} (h : MX M z) (d : Nat) : MX (up M 87 8 (d : Int)) (zc z, zw z, d, zP z, zL z) := by
  obtain ⟨h1, h2, h3, h4, h5⟩ := h
  refine ⟨by rw [up_n (by omega)]; exact h1, by rw [up_n (by omega)]; exact h2, up_s _ _ _ _, fun p hp => ?_, h5.cong (up_n (by omega)) (fun k hk _ => up_row (by omega))⟩
  have := h4 p hp
  unfold MP at this ⊢
  rw [up_row (by decide), up_row (by decide), up_row (by decide), up_row (by decide), up_row (by decide), up_row (by decide)]
  exact this
theorem bc_pos {who p : Nat} (hp : p < 12) (h : who.testBit p = true) : 0 < bcN who := by
  have : ∀ n, p < n → 0 < cntF n who.testBit := by
    intro n
    induction n with
    | zero => intro h; omega
    | succ n ih =>
      intro hn
      rw [cntF]
      by_cases e : p = n
      · subst e; rw [if_pos h]; omega
      · have := ih (by omega); omega
  exact this 12 hp
theorem low_skip {who p : Nat} (h : who.testBit p = false) : who % 2 ^ (p + 1) = who % 2 ^ p := by
  rw [Nat.testBit_eq_decide_div_mod_eq, decide_eq_false_iff_not] at h
  rw [Nat.pow_succ, Nat.mod_mul]
  rcases Nat.mod_two_eq_zero_or_one (who / 2 ^ p) with e | e
  · rw [e, Nat.mul_zero, Nat.add_zero]
  · exact absurd e h
theorem low_set {who p : Nat} (h : who.testBit p = true) : who % 2 ^ (p + 1) ≠ 0 := by
  rw [Nat.testBit_eq_decide_div_mod_eq, decide_eq_true_eq] at h
  rw [Nat.pow_succ, Nat.mod_mul, h, Nat.mul_one]
  have : 0 < 2 ^ p := Nat.two_pow_pos p
  omega
theorem sight_gone {z : Ab} {p : Nat} (h : zP z p 4 = 1) : sightN z p = 0 := by unfold sightN seeW; rw [eye_gone h, sight_0]
theorem minF_0 : ∀ k, minF (k + 1) (fun _ => 0) = (0, 0)
  | 0 => by rw [minF]; rfl
  | k + 1 => by rw [minF, minF_0 k]; rfl
theorem shun_gone {z : Ab} {p : Nat} (h : zP z p 4 = 1) : shunN z p = 0 := by
  have e : (fun t => bcN (sightN (setP z p 2 t) p)) = fun _ => 0 := by
    funext t
    rw [sight_gone (z := setP z p 2 t) (p := p) (by show (if p = p ∧ 4 = 2 then t else zP z p 4) = 1; rw [if_neg (by omega)]; exact h)]
    decide +kernel
  unfold shunN
  rw [e, minF_0]
theorem minF_le2 (f : Nat → Nat) : ∀ n, (minF n f).2 ≤ 13 ∧ (minF n f).1 ≤ n
  | 0 => ⟨Nat.le_refl _, Nat.le_refl _⟩
  | n + 1 => by
    have h := minF_le2 f n
    rw [minF]
    split
    · exact ⟨by show f n ≤ 13; omega, by show n ≤ n + 1; omega⟩
    · exact ⟨h.1, by omega⟩
