/-! contracts: Integer.bitCount; Street: asks -/
def bcI (x : Int) : Int := band ((fun x5 => x5) ((fun x4 : Int => x4 + bushr x4 16) ((fun x3 : Int => x3 + bushr x3 8) (band ((fun x2 : Int => x2 + bushr x2 4) ((fun x1 : Int => band x1 858993459 + band (bushr x1 2) 858993459) (x - band (bushr x 1) 1431655765))) 252645135)))) 63
theorem bc_64 : ∀ h : Nat, h < 64 → ∀ l : Nat, l < 64 → bcI ((64 * h + l : Nat) : Int) = (bcN (64 * h + l) : Int) := by decide +kernel
theorem bc_all (a : Nat) (ha : a < 4096) : bcI (a : Int) = (bcN a : Int) := by
  have h := bc_64 (a / 64) (by omega) (a % 64) (by omega)
  rw [show 64 * (a / 64) + a % 64 = a by omega] at h
  exact h
set_option maxHeartbeats 4000000 in
set_option maxRecDepth 100000 in
theorem c_bitCount {Ω : Ow} {S : Sg} {M : Mm} {a : Nat} (ha : a < 4096) : Ct Ω mJ6_bitCount_0f7a4 1 0 0 1 [vi (a : Int)] S M (fun x S' M' => x = (bcN a : Int) ∧ S' = S ∧ M' = M) := by
  refine Ct.mk (by decide) (Nat.le_of_ble_eq_true rfl) [some (vi (a : Int))] (by intro q hq; exact hq) (fun γ hγ hz => ?_)
  refine g_ild f_J6_bitCount_0f7a4_0 rfl ?_
  refine g_ild f_J6_bitCount_0f7a4_1 rfl ?_
  refine g_const f_J6_bitCount_0f7a4_2 ?_
  refine g_iushr f_J6_bitCount_0f7a4_3 ?_
  refine g_const f_J6_bitCount_0f7a4_4 ?_
  refine g_iand f_J6_bitCount_0f7a4_7 ?_
  refine g_isub f_J6_bitCount_0f7a4_8 ?_
  refine g_ist_0 f_J6_bitCount_0f7a4_9 (by decide) ?_
  refine g_ild f_J6_bitCount_0f7a4_10 rfl ?_
  refine g_const f_J6_bitCount_0f7a4_11 ?_
  refine g_iand f_J6_bitCount_0f7a4_14 ?_
  refine g_ild f_J6_bitCount_0f7a4_15 rfl ?_
  refine g_const f_J6_bitCount_0f7a4_16 ?_
  refine g_iushr f_J6_bitCount_0f7a4_17 ?_
  refine g_const f_J6_bitCount_0f7a4_18 ?_
  refine g_iand f_J6_bitCount_0f7a4_21 ?_
  refine g_iadd f_J6_bitCount_0f7a4_22 ?_
  refine g_ist_0 f_J6_bitCount_0f7a4_23 (by decide) ?_
  refine g_ild f_J6_bitCount_0f7a4_24 rfl ?_
  refine g_ild f_J6_bitCount_0f7a4_25 rfl ?_
  refine g_const f_J6_bitCount_0f7a4_26 ?_
  refine g_iushr f_J6_bitCount_0f7a4_27 ?_
  refine g_iadd f_J6_bitCount_0f7a4_28 ?_
  refine g_const f_J6_bitCount_0f7a4_29 ?_
  refine g_iand f_J6_bitCount_0f7a4_32 ?_
  refine g_ist_0 f_J6_bitCount_0f7a4_33 (by decide) ?_
  refine g_ild f_J6_bitCount_0f7a4_34 rfl ?_
  refine g_ild f_J6_bitCount_0f7a4_35 rfl ?_
  refine g_const f_J6_bitCount_0f7a4_36 ?_
  refine g_iushr f_J6_bitCount_0f7a4_38 ?_
  refine g_iadd f_J6_bitCount_0f7a4_39 ?_
  refine g_ist_0 f_J6_bitCount_0f7a4_40 (by decide) ?_
  refine g_ild f_J6_bitCount_0f7a4_41 rfl ?_
  refine g_ild f_J6_bitCount_0f7a4_42 rfl ?_
  refine g_const f_J6_bitCount_0f7a4_43 ?_
  refine g_iushr f_J6_bitCount_0f7a4_45 ?_
  refine g_iadd f_J6_bitCount_0f7a4_46 ?_
  refine g_ist_0 f_J6_bitCount_0f7a4_47 (by decide) ?_
  refine g_ild f_J6_bitCount_0f7a4_48 rfl ?_
  refine g_const f_J6_bitCount_0f7a4_49 ?_
  refine g_iand f_J6_bitCount_0f7a4_51 ?_
  refine g_reti f_J6_bitCount_0f7a4_52 rfl ?_ (Nat.zero_le _) (Nat.zero_le _)
  exact ⟨bc_all a ha, rfl, rfl⟩

theorem tb_of {w p : Nat} (h : w &&& 2 ^ p = 0) : w.testBit p = false := by
  have h1 : (w &&& 2 ^ p).testBit p = false := by rw [h]; exact Nat.zero_testBit _
  rw [Nat.testBit_and, Nat.testBit_two_pow_self, Bool.and_true] at h1
  exact h1
theorem tb_to {w p : Nat} (h : w.testBit p = false) : w &&& 2 ^ p = 0 := by
  apply Nat.eq_of_testBit_eq
  intro i
  rw [Nat.testBit_and, Nat.zero_testBit, Nat.testBit_two_pow]
  by_cases hi : p = i
  · subst hi; rw [h]; rfl
  · simp [hi]
set_option maxHeartbeats 4000000 in
set_option maxRecDepth 100000 in
theorem c_paidByOne {Ω : Ow} {S : Sg} {M : Mm} {B : Nat} {z : Ab} (hG : Gr S) (hB : isB B) (hX : RepX S M B z) (hO : okZ z) {p : Nat} (hp : p < zc z) {who : Nat} (hw : who < 64) : Ct Ω mX5_paidByOne 2 0 0 1 [vr Ω B, vr Ω (pe B p), vi (who : Int)] S M (fun x S' M' => x = (payN (zP z p) (fineL (zL z)) who p : Int) ∧ S' = S ∧ M' = M) := by
  refine Ct.mk (by decide) (Nat.le_of_ble_eq_true rfl) [some (vr Ω B), some (vr Ω (pe B p)), some (vi (who : Int)), none, none, none] (by intro q hq; exact hq) (fun γ hγ hz => ?_)
  obtain ⟨x1, x2, x3, x4, x5, Λ, x6, x7, x8, x9⟩ := id hX
  obtain ⟨z1, z2, z3, z4, z5⟩ := id hO
  have oB := obB hG hB
  have aB := arB hG hB
  have g0 := (hG.2.2.1 B hB).1
  have hp6 : p < 6 := by have := hO.1; omega
  have oP := obP hG hB hp6
  obtain ⟨oL, -⟩ := obLaw (S := S) x7 x8
  obtain ⟨r1, r2, r3, r4, r5, r6⟩ := hX.2.2.2.1 p hp
  obtain ⟨o1, o2, o3, o4, o5, o6⟩ := hO.2.2.2.1 p hp
  have hwx : ∀ x, who &&& x < 64 := fun x => Nat.lt_of_le_of_lt Nat.and_le_left hw
  refine g_const f_X5_paidByOne_0 ?_
  refine g_alv f_X5_paidByOne_1 rfl ?_
  refine g_getI f_X5_paidByOne_2 (by assumption) ?_
  rw [x5 p hp6]
  refine g_ishl f_X5_paidByOne_5 ?_
  rw [show (1 : Int) = ((1 : Nat) : Int) from rfl, bshl_n (by omega) (by have := p2le (show p < 12 by omega); omega), Nat.one_mul]
  refine g_ist_3 f_X5_paidByOne_6 (by decide) c1i ?_
  refine g_ild f_X5_paidByOne_7 rfl ?_
  refine g_cs1 hγ (c_bitCount (a := who) (by omega)) f_X5_paidByOne_8 mo_J6_bitCount_0f7a4 mt_J6_bitCount_0f7a4 rfl (Nat.le_of_ble_eq_true rfl) ⟨by decide, by decide⟩ ⟨Nat.le_refl _, Nat.le_refl _⟩ (fun x S' M' hq2 => ?_)
  obtain ⟨rfl, q1, q2⟩ := hq2
  obtain rfl := q1.symm
  obtain rfl := q2.symm
  refine g_ist_4 f_X5_paidByOne_11 (by decide) c1i ?_
  refine g_ild f_X5_paidByOne_13 rfl ?_
  refine g_ild f_X5_paidByOne_14 rfl ?_
  refine g_iand f_X5_paidByOne_15 ?_
  rw [band_n (by omega)]
  refine g_if_eq f_X5_paidByOne_16 rfl (by have := hwx (2 ^ p); omega) (fun t1 => ?_) (fun t1 => ?_)
  · refine g_const f_X5_paidByOne_24 ?_
    refine g_reti f_X5_paidByOne_25 rfl ?_ (Nat.zero_le _) (Nat.zero_le _)
    exact ⟨by unfold payN; rw [if_pos (by first | exact Or.inl (tb_of (by omega)) | exact Or.inr (by omega))]; rfl, rfl, rfl⟩
  · refine g_ild f_X5_paidByOne_19 rfl ?_
    refine g_if_ne f_X5_paidByOne_21 rfl (by have := bcN_le who; omega) (fun t2 => ?_) (fun t2 => ?_)
    · have t0 : ¬ (who.testBit p = false ∨ bcN who = 0) := by
        rintro (q | q)
        · exact t1 (by have := tb_to q; omega)
        · omega
      have hb := bcN_le who
      have hb0 : 0 < bcN who := by omega
      have hf := fineL_le (zL z) 20 (by decide) z5.2.1
      have hfd : fineL (zL z) / bcN who ≤ fineL (zL z) := Nat.div_le_self _ _
      have hfm : fineL (zL z) % bcN who ≤ fineL (zL z) := Nat.mod_le _ _
      have hff : fineL (zL z) ≤ 99 := hf
      have J75 : ∀ (sh : Nat), sh ≤ 200 → sh = (if zP z p 0 = 5 then (fineL (zL z) / bcN who + (if who % 2 ^ p = 0 then fineL (zL z) % bcN who else 0)) / 2 else (fineL (zL z) / bcN who + (if who % 2 ^ p = 0 then fineL (zL z) % bcN who else 0))) → Go γ Ω mX5_paidByOne (Zm γ Ω 1 0 0 (fun x S' M' => x = (payN (zP z p) (fineL (zL z)) who p : Int) ∧ S' = S ∧ M' = M)) 0 0 S M 75 [some (vr Ω B), some (vr Ω (pe B p)), some (vi (who : Int)), some (vi ((2 ^ p : Nat) : Int)), some (vi (bcN who : Int)), some (vi (sh : Int))] [] := by
        intro sh hs1 hs2
        refine g_ild f_X5_paidByOne_75 rfl ?_
        refine g_alv f_X5_paidByOne_77 rfl ?_
        refine g_getI f_X5_paidByOne_78 (by assumption) ?_
        rw [r4]
        refine g_mn hγ (by decide) ⟨Nat.le_refl _, Nat.le_refl _⟩ f_X5_paidByOne_81 (by omega) (by omega) (Nat.le_of_ble_eq_true rfl) ?_
        refine g_reti f_X5_paidByOne_84 rfl ?_ (Nat.zero_le _) (Nat.zero_le _)
        exact ⟨by unfold payN; rw [if_neg t0, ← hs2]; omega, rfl, rfl⟩
      have J61 : ∀ (sh : Nat), sh ≤ 200 → sh = (fineL (zL z) / bcN who + (if who % 2 ^ p = 0 then fineL (zL z) % bcN who else 0)) → Go γ Ω mX5_paidByOne (Zm γ Ω 1 0 0 (fun x S' M' => x = (payN (zP z p) (fineL (zL z)) who p : Int) ∧ S' = S ∧ M' = M)) 0 0 S M 61 [some (vr Ω B), some (vr Ω (pe B p)), some (vi (who : Int)), some (vi ((2 ^ p : Nat) : Int)), some (vi (bcN who : Int)), some (vi (sh : Int))] [] := by
        intro sh hs1 hs2
        refine g_alv f_X5_paidByOne_61 rfl ?_
        refine g_getI f_X5_paidByOne_62 (by assumption) ?_
        rw [r1]
        refine g_const f_X5_paidByOne_65 ?_
        refine g_icmp_ne f_X5_paidByOne_66 rfl (by omega) (by omega) (fun t4 => ?_) (fun t4 => ?_)
        · exact J75 sh hs1 (by rw [if_neg (by omega)]; exact hs2)
        · refine g_ild f_X5_paidByOne_69 rfl ?_
          refine g_const f_X5_paidByOne_71 ?_
          refine g_idiv f_X5_paidByOne_72 (by omega) (by omega) ?_
          refine g_ist_5 f_X5_paidByOne_73 (by decide) c1i ?_
          exact J75 (sh / 2) (by omega) (by rw [if_pos (by omega), ← hs2])
      refine g_alv f_X5_paidByOne_26 rfl ?_
      refine g_getR f_X5_paidByOne_27 (by assumption) (by assumption) ?_
      refine g_getI f_X5_paidByOne_30 (by assumption) ?_
      rw [x9.1]
      refine g_ild f_X5_paidByOne_33 rfl ?_
      refine g_idiv f_X5_paidByOne_35 (by omega) (by omega) ?_
      rw [show ((fineL (zL z) : Int) / (bcN who : Int)) = ((fineL (zL z) / bcN who : Nat) : Int) from rfl]
      refine g_ist_5 f_X5_paidByOne_36 (by decide) c1i ?_
      refine g_ild f_X5_paidByOne_38 rfl ?_
      refine g_ild f_X5_paidByOne_39 rfl ?_
      refine g_const f_X5_paidByOne_40 ?_
      refine g_isub f_X5_paidByOne_41 ?_
      rw [show (((2 ^ p : Nat) : Int) - 1) = ((2 ^ p - 1 : Nat) : Int) by have := Nat.two_pow_pos p; omega]
      refine g_iand f_X5_paidByOne_42 ?_
      rw [band_n (by omega), Nat.and_two_pow_sub_one_eq_mod]
      refine g_if_ne f_X5_paidByOne_43 rfl (by have := Nat.mod_le who (2 ^ p); omega) (fun t3 => ?_) (fun t3 => ?_)
      · exact J61 _ (by omega) (by rw [if_neg (by omega)]; rfl)
      · refine g_ild f_X5_paidByOne_46 rfl ?_
        refine g_alv f_X5_paidByOne_48 rfl ?_
        refine g_getR f_X5_paidByOne_49 (by assumption) (by assumption) ?_
        refine g_getI f_X5_paidByOne_52 (by assumption) ?_
        rw [x9.1]
        refine g_ild f_X5_paidByOne_55 rfl ?_
        refine g_irem f_X5_paidByOne_57 (by omega) (by omega) ?_
        rw [show ((fineL (zL z) : Int) % (bcN who : Int)) = ((fineL (zL z) % bcN who : Nat) : Int) from rfl]
        refine g_iadd f_X5_paidByOne_58 ?_
        refine g_ist_5 f_X5_paidByOne_59 (by decide) c1i ?_
        exact J61 (fineL (zL z) / bcN who + fineL (zL z) % bcN who) (by omega) (by rw [if_pos (by omega)])
    · refine g_const f_X5_paidByOne_24 ?_
      refine g_reti f_X5_paidByOne_25 rfl ?_ (Nat.zero_le _) (Nat.zero_le _)
      exact ⟨by unfold payN; rw [if_pos (by first | exact Or.inl (tb_of (by omega)) | exact Or.inr (by omega))]; rfl, rfl, rfl⟩

set_option maxHeartbeats 4000000 in
set_option maxRecDepth 100000 in
theorem c_purses {Ω : Ow} {S : Sg} {M : Mm} {B : Nat} {z : Ab} (hG : Gr S) (hB : isB B) (hX : RepX S M B z) (hO : okZ z) : Ct Ω mX5_purses 1 0 0 1 [vr Ω B] S M (fun x S' M' => x = (pursesN z : Int) ∧ S' = S ∧ M' = M) := by
  refine Ct.mk (by decide) (Nat.le_of_ble_eq_true rfl) [some (vr Ω B), none, none] (by intro q hq; exact hq) (fun γ hγ hz => ?_)
  obtain ⟨x1, x2, x3, x4, x5, Λ, x6, x7, x8, x9⟩ := id hX
  obtain ⟨z1, z2, z3, z4, z5⟩ := id hO
  have oB := obB hG hB
  have aB := arB hG hB
  have g0 := (hG.2.2.1 B hB).1
  have hsum : ∀ n, n ≤ 6 → n ≤ zc z → sumF n (fun p => zP z p 3) ≤ 6 * 9999 := fun n h1 h2 => Nat.le_trans (sumF_le (c := 9999) n (fun i hi => (z4 i (by omega)).2.2.2.1)) (Nat.mul_le_mul_right _ h1)
  have loop : ∀ (k n : Nat), n + k = zc z → Go γ Ω mX5_purses (Zm γ Ω 1 0 0 (fun x S' M' => x = (pursesN z : Int) ∧ S' = S ∧ M' = M)) 0 0 S M 4 [some (vr Ω B), some (vi (sumF n (fun p => zP z p 3) : Int)), some (vi (n : Int))] [] := by
    intro k
    induction k with
    | zero =>
      intro n hk
      have hn : n = zc z := by omega
      subst hn
      refine g_ild f_X5_purses_4 rfl ?_
      refine g_alv f_X5_purses_5 rfl ?_
      refine g_getI f_X5_purses_6 (by assumption) ?_
      rw [x1]
      refine g_icmp_ge f_X5_purses_9 rfl (by omega) (by omega) (fun hc => ?_) (fun hc => ?_)
      · refine g_ild f_X5_purses_30 rfl ?_
        refine g_reti f_X5_purses_31 rfl ?_ (Nat.zero_le _) (Nat.zero_le _)
        exact ⟨rfl, rfl, rfl⟩
      · exact absurd (by omega) hc
    | succ k ih =>
      intro n hk
      have hn : n < zc z := by omega
      have hn6 : n < 6 := by omega
      have gn := ((hG.2.2.1 B hB).2 n hn6).1
      have oN := obP (p := n) hG hB hn6
      have hr := x4 n hn
      have ho := z4 n hn
      have hsm := hsum n (by omega) (by omega)
      refine g_ild f_X5_purses_4 rfl ?_
      refine g_alv f_X5_purses_5 rfl ?_
      refine g_getI f_X5_purses_6 (by assumption) ?_
      rw [x1]
      refine g_icmp_ge f_X5_purses_9 rfl (by omega) (by omega) (fun hc => ?_) (fun hc => ?_)
      · exact absurd hc (by omega)
      refine g_ild f_X5_purses_12 rfl ?_
      refine g_alv f_X5_purses_13 rfl ?_
      refine g_getR f_X5_purses_14 (by assumption) (by assumption) ?_
      refine g_ild f_X5_purses_17 rfl ?_
      refine g_aal f_X5_purses_18 (by assumption) (Or.inl rfl) _ rfl (by omega) (by assumption) ?_
      refine g_getI f_X5_purses_19 (by assumption) ?_
      rw [hr.2.2.2.1]
      refine g_iadd f_X5_purses_22 ?_
      refine g_ist_1 f_X5_purses_23 (by decide) c1v ?_
      refine g_inc_2 f_X5_purses_24 (by decide) c1i ?_
      refine g_goto f_X5_purses_27 ?_
      exact ih (n + 1) (by omega)
  refine g_const f_X5_purses_0 ?_
  refine g_ist_1 f_X5_purses_1 (by decide) c1v ?_
  refine g_const f_X5_purses_2 ?_
  refine g_ist_2 f_X5_purses_3 (by decide) c1i ?_
  exact loop (zc z) 0 (by omega)

set_option maxHeartbeats 4000000 in
set_option maxRecDepth 100000 in
theorem c_paidBy {Ω : Ow} {S : Sg} {M : Mm} {B : Nat} {z : Ab} (hG : Gr S) (hB : isB B) (hX : RepX S M B z) (hO : okZ z) {who : Nat} (hw : who < 64) : Ct Ω mX5_paidBy 3 0 0 1 [vr Ω B, vi (who : Int)] S M (fun x S' M' => x = (paidN z who : Int) ∧ S' = S ∧ M' = M) := by
  refine Ct.mk (by decide) (Nat.le_of_ble_eq_true rfl) [some (vr Ω B), some (vi (who : Int)), none, none] (by intro q hq; exact hq) (fun γ hγ hz => ?_)
  obtain ⟨x1, x2, x3, x4, x5, Λ, x6, x7, x8, x9⟩ := id hX
  obtain ⟨z1, z2, z3, z4, z5⟩ := id hO
  have oB := obB hG hB
  have aB := arB hG hB
  have g0 := (hG.2.2.1 B hB).1
  have hsum : ∀ n : Nat, n ≤ 6 → True := fun _ _ => trivial
  have loop : ∀ (k n : Nat), n + k = zc z → Go γ Ω mX5_paidBy (Zm γ Ω 1 0 0 (fun x S' M' => x = (paidN z who : Int) ∧ S' = S ∧ M' = M)) 0 0 S M 4 [some (vr Ω B), some (vi (who : Int)), some (vi (sumF n (fun p => payN (zP z p) (fineL (zL z)) who p) : Int)), some (vi (n : Int))] [] := by
    intro k
    induction k with
    | zero =>
      intro n hk
      have hn : n = zc z := by omega
      subst hn
      refine g_ild f_X5_paidBy_4 rfl ?_
      refine g_alv f_X5_paidBy_5 rfl ?_
      refine g_getI f_X5_paidBy_6 (by assumption) ?_
      rw [x1]
      refine g_icmp_ge f_X5_paidBy_9 rfl (by omega) (by omega) (fun hc => ?_) (fun hc => ?_)
      · refine g_ild f_X5_paidBy_32 rfl ?_
        refine g_reti f_X5_paidBy_33 rfl ?_ (Nat.zero_le _) (Nat.zero_le _)
        exact ⟨rfl, rfl, rfl⟩
      · exact absurd (by omega) hc
    | succ k ih =>
      intro n hk
      have hn : n < zc z := by omega
      have hn6 : n < 6 := by omega
      have gn := ((hG.2.2.1 B hB).2 n hn6).1
      have oN := obP (p := n) hG hB hn6
      have hr := x4 n hn
      have ho := z4 n hn
      have hsm := hsum n (by omega)
      refine g_ild f_X5_paidBy_4 rfl ?_
      refine g_alv f_X5_paidBy_5 rfl ?_
      refine g_getI f_X5_paidBy_6 (by assumption) ?_
      rw [x1]
      refine g_icmp_ge f_X5_paidBy_9 rfl (by omega) (by omega) (fun hc => ?_) (fun hc => ?_)
      · exact absurd hc (by omega)
      refine g_ild f_X5_paidBy_12 rfl ?_
      refine g_alv f_X5_paidBy_13 rfl ?_
      refine g_alv f_X5_paidBy_14 rfl ?_
      refine g_getR f_X5_paidBy_15 (by assumption) (by assumption) ?_
      refine g_ild f_X5_paidBy_18 rfl ?_
      refine g_aal f_X5_paidBy_19 (by assumption) (Or.inl rfl) _ rfl (by omega) (by assumption) ?_
      refine g_ild f_X5_paidBy_20 rfl ?_
      refine g_cv1 hγ (c_paidByOne hG hB hX hO hn hw) f_X5_paidBy_21 mo_X5_paidByOne mv_X5_paidByOne (by assumption) rfl rfl (Nat.le_of_ble_eq_true rfl) ⟨by decide, by decide⟩ ⟨Nat.le_refl _, Nat.le_refl _⟩ (fun x S' M' hq2 => ?_)
      obtain ⟨rfl, q1, q2⟩ := hq2
      obtain rfl := q1.symm
      obtain rfl := q2.symm
      refine g_iadd f_X5_paidBy_24 ?_
      refine g_ist_2 f_X5_paidBy_25 (by decide) c1i ?_
      refine g_inc_3 f_X5_paidBy_26 (by decide) c1i ?_
      refine g_goto f_X5_paidBy_29 ?_
      exact ih (n + 1) (by omega)
  refine g_const f_X5_paidBy_0 ?_
  refine g_ist_2 f_X5_paidBy_1 (by decide) c1i ?_
  refine g_const f_X5_paidBy_2 ?_
  refine g_ist_3 f_X5_paidBy_3 (by decide) c1i ?_
  exact loop (zc z) 0 (by omega)

theorem seersW_lt {w : Nat} {z : Ab} {t : Nat} (hO : okZ z) : seersW w z t < 64 := Nat.lt_of_lt_of_le (bitsP_lt _ _) (Nat.pow_le_pow_right (n := 2) (by decide) hO.1)
theorem seersN_lt {z : Ab} {t : Nat} (hO : okZ z) : seersN z t < 64 := seersW_lt hO
set_option maxHeartbeats 4000000 in
set_option maxRecDepth 100000 in
theorem c_paidFor {Ω : Ow} {S : Sg} {M : Mm} {B : Nat} {z : Ab} (hG : Gr S) (hB : isB B) (hX : RepX S M B z) (hO : okZ z) {t : Nat} (ht : t < 12) : Ct Ω mX5_paidFor 8 0 0 1 [vr Ω B, vi (t : Int)] S M (fun x S' M' => x = (paidN z (seersN z t) : Int) ∧ S' = S ∧ eyc B M M' ∧ eyeOK M' B z ∧ RepX S M' B z) := by
  refine Ct.mk (by decide) (Nat.le_of_ble_eq_true rfl) [some (vr Ω B), some (vi (t : Int))] (by intro q hq; exact hq) (fun γ hγ hz => ?_)
  obtain ⟨x1, x2, x3, x4, x5, Λ, x6, x7, x8, x9⟩ := id hX
  obtain ⟨z1, z2, z3, z4, z5⟩ := id hO
  have oB := obB hG hB
  have aB := arB hG hB
  have g0 := (hG.2.2.1 B hB).1
  refine g_alv f_X5_paidFor_0 rfl ?_
  refine g_alv f_X5_paidFor_1 rfl ?_
  refine g_ild f_X5_paidFor_2 rfl ?_
  refine g_cv1 hγ (c_seers hG hB hX hO ht) f_X5_paidFor_3 mo_X5_seers mv_X5_seers (by assumption) rfl rfl (Nat.le_of_ble_eq_true rfl) ⟨by decide, by decide⟩ ⟨Nat.le_refl _, Nat.le_refl _⟩ (fun x S' M1 hq2 => ?_)
  obtain ⟨rfl, rfl, l1, l2, l3⟩ := hq2
  refine g_cv1 hγ (c_paidBy hG hB l3 hO (seersN_lt hO)) f_X5_paidFor_6 mo_X5_paidBy mv_X5_paidBy (by assumption) rfl rfl (Nat.le_of_ble_eq_true rfl) ⟨by decide, by decide⟩ ⟨Nat.le_refl _, Nat.le_refl _⟩ (fun x S' M' hq2 => ?_)
  obtain ⟨rfl, q1, q2⟩ := hq2
  obtain rfl := q1.symm
  obtain rfl := q2.symm
  refine g_reti f_X5_paidFor_9 rfl ?_ (Nat.zero_le _) (Nat.zero_le _)
  exact ⟨rfl, rfl, l1, l2, l3⟩
