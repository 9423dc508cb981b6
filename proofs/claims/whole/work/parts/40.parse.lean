/-! contracts: how the TEXT is read -/
set_option maxHeartbeats 4000000 in
set_option maxRecDepth 100000 in
theorem c_code {Ω : Ow} {S : Sg} {M : Mm} {tx : List Nat} {Λ : Nat} {L : LawC} {cs : List Int} {a : Nat} (hP : PG S M tx Λ L cs a) (hc : cs.length < a) (v : Int) : Ct Ω mX1_addStep 1 0 0 0 [vr Ω Λ, vi v] S M (fun _ S' M' => S' = S ∧ PG S M' tx Λ L (cs ++ [v]) a ∧ lfr Λ M M') := by
  refine Ct.mk (by decide) (Nat.le_of_ble_eq_true rfl) [some (vr Ω Λ), some (vi v)] (by intro q hq; exact hq) (fun γ hγ hz => ?_)
  obtain ⟨hG, hΛ, hΛ6, gD, hT, ⟨t1, t2⟩, ⟨d1, d2, d3, d4, d5⟩, ha, hal, hcl, hLl⟩ := id hP
  have hT1 := hT.1
  have o1 := obn hG (r := 1) (c := 2) (by decide +kernel)
  have a2 := arn hG (r := 2) (c := 11) (n := 100) (by decide +kernel)
  have g2 : _ = ((2 : Nat) : Int) := grn hG (k := 1) (j := 0) (by decide)
  obtain ⟨oL, aL1, aL2, aL3, aL4, aL5⟩ := obLaw hΛ hΛ6
  obtain ⟨gL1, gL2, gL3, gL4, gL5⟩ := hG.2.2.2 Λ hΛ hΛ6
  refine g_alv f_X1_addStep_0 rfl ?_
  refine g_getI f_X1_addStep_1 (by assumption) ?_
  rw [d3]
  refine g_const f_X1_addStep_4 ?_
  refine g_icmp_ge f_X1_addStep_6 rfl (by omega) (by omega) (fun h0 => ?_) (fun h0 => ?_)
  · exact absurd h0 (by omega)
  refine g_alv f_X1_addStep_9 rfl ?_
  refine g_getR f_X1_addStep_10 (by assumption) (by assumption) ?_
  refine g_alv f_X1_addStep_13 rfl ?_
  refine g_getI f_X1_addStep_14 (by assumption) ?_
  rw [d3]
  refine g_ild f_X1_addStep_17 rfl ?_
  refine g_ias f_X1_addStep_18 (by assumption) _ rfl (by omega) ?_
  refine g_alv f_X1_addStep_19 rfl ?_
  refine g_dup f_X1_addStep_20 rfl ?_
  refine g_getI f_X1_addStep_21 (by assumption) ?_
  rw [up_row (by omega), d3]
  refine g_const f_X1_addStep_24 ?_
  refine g_iadd f_X1_addStep_25 ?_
  refine g_putI f_X1_addStep_26 rfl (by assumption) ?_
  refine g_ret0 (κ := 0) f_X1_addStep_29 rfl 0 ?_ (Nat.zero_le _) (Nat.zero_le _)
  exact ⟨rfl, hP.code hc v, (lfr.rf.uL (by omega) _ _).uL (by omega) _ _⟩

set_option maxHeartbeats 4000000 in
set_option maxRecDepth 100000 in
theorem c_take {Ω : Ow} {S : Sg} {M : Mm} {tx : List Nat} {Λ : Nat} {L : LawC} {cs : List Int} {a : Nat} (hP : PG S M tx Λ L cs a) {c : Nat} (hc : c < 128) : Ct Ω mX2_take 1 0 0 1 [vr Ω 1, vi (c : Int)] S M (fun x S' M' => x = ((isC tx a c).toNat : Int) ∧ S' = S ∧ PG S M' tx Λ L cs (if isC tx a c = true then a + 1 else a) ∧ lfr Λ M M') := by
  refine Ct.mk (by decide) (Nat.le_of_ble_eq_true rfl) [some (vr Ω 1), some (vi (c : Int))] (by intro q hq; exact hq) (fun γ hγ hz => ?_)
  obtain ⟨hG, hΛ, hΛ6, gD, hT, ⟨t1, t2⟩, ⟨d1, d2, d3, d4, d5⟩, ha, hal, hcl, hLl⟩ := id hP
  have hT1 := hT.1
  have o1 := obn hG (r := 1) (c := 2) (by decide +kernel)
  have a2 := arn hG (r := 2) (c := 11) (n := 100) (by decide +kernel)
  have g2 : _ = ((2 : Nat) : Int) := grn hG (k := 1) (j := 0) (by decide)
  obtain ⟨oL, aL1, aL2, aL3, aL4, aL5⟩ := obLaw hΛ hΛ6
  obtain ⟨gL1, gL2, gL3, gL4, gL5⟩ := hG.2.2.2 Λ hΛ hΛ6
  refine g_alv f_X2_take_0 rfl ?_
  refine g_getI f_X2_take_1 (by assumption) ?_
  rw [ha]
  refine g_alv f_X2_take_4 rfl ?_
  refine g_getI f_X2_take_5 (by assumption) ?_
  rw [t1]
  refine g_icmp_ge f_X2_take_8 rfl (by omega) (by omega) (fun h0 => ?_) (fun h0 => ?_)
  · refine g_const f_X2_take_24 ?_
    refine g_retz f_X2_take_25 rfl (Or.inl rfl) ?_ (Nat.zero_le _) (Nat.zero_le _)
    have e : isC tx a c = false := decide_eq_false (by omega)
    rw [e]
    exact ⟨rfl, rfl, hP, lfr.rf⟩
  · refine g_alv f_X2_take_11 rfl ?_
    refine g_getR f_X2_take_12 (by assumption) (by assumption) ?_
    refine g_alv f_X2_take_15 rfl ?_
    refine g_getI f_X2_take_16 (by assumption) ?_
    rw [ha]
    refine g_bal f_X2_take_19 (by assumption) _ rfl (by omega) ?_
    rw [t2 a (by omega)]
    have hb := okTx_get hT (j := a) (by omega)
    refine g_ild f_X2_take_20 rfl ?_
    refine g_icmp_eq f_X2_take_21 rfl (by omega) (by omega) (fun h1 => ?_) (fun h1 => ?_)
    · refine g_alv f_X2_take_26 rfl ?_
      refine g_dup f_X2_take_27 rfl ?_
      refine g_getI f_X2_take_28 (by assumption) ?_
      rw [ha]
      refine g_const f_X2_take_31 ?_
      refine g_iadd f_X2_take_32 ?_
      refine g_putI f_X2_take_33 rfl (by assumption) ?_
      refine g_const f_X2_take_36 ?_
      refine g_retz f_X2_take_37 rfl (Or.inr rfl) ?_ (Nat.zero_le _) (Nat.zero_le _)
      have e : isC tx a c = true := decide_eq_true ⟨by omega, by omega⟩
      rw [e]
      exact ⟨rfl, rfl, hP.go (by omega), lfr.rf.u1 _ _⟩
    · refine g_const f_X2_take_24 ?_
      refine g_retz f_X2_take_25 rfl (Or.inl rfl) ?_ (Nat.zero_le _) (Nat.zero_le _)
      have e : isC tx a c = false := decide_eq_false (by omega)
      rw [e]
      exact ⟨rfl, rfl, hP, lfr.rf⟩

set_option maxHeartbeats 4000000 in
set_option maxRecDepth 100000 in
theorem c_any {Ω : Ow} {S : Sg} {M : Mm} {tx : List Nat} {Λ : Nat} {L : LawC} {cs : List Int} {a : Nat} (hP : PG S M tx Λ L cs a) {i : Nat} (hi : i < 9) : Ct Ω mX2_takeAnyOf 5 0 0 1 [vr Ω 1, .ref (ka Ω (1 + i))] S M (fun x S' M' => x = pOf tx i a ∧ S' = S ∧ PG S M' tx Λ L cs (if pOf tx i a = -1 then a else a + 1) ∧ lfr Λ M M') := by
  refine Ct.mk (by decide) (Nat.le_of_ble_eq_true rfl) [some (vr Ω 1), some (.ref (ka Ω (1 + i))), none] (by intro q hq; exact hq) (fun γ hγ hz => ?_)
  obtain ⟨hG, hΛ, hΛ6, gD, hT, ⟨t1, t2⟩, ⟨d1, d2, d3, d4, d5⟩, ha, hal, hcl, hLl⟩ := id hP
  have hT1 := hT.1
  have o1 := obn hG (r := 1) (c := 2) (by decide +kernel)
  have a2 := arn hG (r := 2) (c := 11) (n := 100) (by decide +kernel)
  have g2 : _ = ((2 : Nat) : Int) := grn hG (k := 1) (j := 0) (by decide)
  obtain ⟨oL, aL1, aL2, aL3, aL4, aL5⟩ := obLaw hΛ hΛ6
  obtain ⟨gL1, gL2, gL3, gL4, gL5⟩ := hG.2.2.2 Λ hΛ hΛ6
  refine g_alv f_X2_takeAnyOf_0 rfl ?_
  refine g_getI f_X2_takeAnyOf_1 (by assumption) ?_
  rw [ha]
  refine g_alv f_X2_takeAnyOf_4 rfl ?_
  refine g_getI f_X2_takeAnyOf_5 (by assumption) ?_
  rw [t1]
  refine g_icmp_lt f_X2_takeAnyOf_8 rfl (by omega) (by omega) (fun h0 => ?_) (fun h0 => ?_)
  · have hb := okTx_get hT (j := a) (by omega)
    refine g_ald f_X2_takeAnyOf_13 rfl ?_
    refine g_alv f_X2_takeAnyOf_14 rfl ?_
    refine g_getR f_X2_takeAnyOf_15 (by assumption) (by assumption) ?_
    refine g_alv f_X2_takeAnyOf_18 rfl ?_
    refine g_getI f_X2_takeAnyOf_19 (by assumption) ?_
    rw [ha]
    refine g_bal f_X2_takeAnyOf_22 (by assumption) _ rfl (by omega) ?_
    rw [t2 a (by omega)]
    refine g_i2c f_X2_takeAnyOf_23 ?_
    rw [i2c_n (by omega)]
    refine g_ct1 hγ hi (c_idx hi (c := tx.getD a 0) (by omega)) f_X2_takeAnyOf_24 mo_J0_indexOf_0f7a4 mv_J0_indexOf_0f7a4 rfl rfl (Nat.le_of_ble_eq_true rfl) ⟨by decide, by decide⟩ ⟨Nat.le_refl _, Nat.le_refl _⟩ (fun x S' M' hq2 => ?_)
    obtain ⟨rfl, q1, q2⟩ := hq2
    obtain rfl := q1.symm
    obtain rfl := q2.symm
    have hpr := posN_rg i (tx.getD a 0) hi
    have hpo : pOf tx i a = posN i (tx.getD a 0) := if_pos (by omega)
    rw [← hpo]
    rw [← hpo] at hpr
    refine g_ist_2 f_X2_takeAnyOf_27 (by decide) c1r ?_
    refine g_ild f_X2_takeAnyOf_28 rfl ?_
    refine g_if_ge f_X2_takeAnyOf_29 rfl (by omega) (fun h1 => ?_) (fun h1 => ?_)
    · refine g_alv f_X2_takeAnyOf_34 rfl ?_
      refine g_dup f_X2_takeAnyOf_35 rfl ?_
      refine g_getI f_X2_takeAnyOf_36 (by assumption) ?_
      rw [ha]
      refine g_const f_X2_takeAnyOf_39 ?_
      refine g_iadd f_X2_takeAnyOf_40 ?_
      refine g_putI f_X2_takeAnyOf_41 rfl (by assumption) ?_
      refine g_ild f_X2_takeAnyOf_44 rfl ?_
      refine g_reti f_X2_takeAnyOf_45 rfl ?_ (Nat.zero_le _) (Nat.zero_le _)
      exact ⟨rfl, rfl, by rw [if_neg (by omega)]; exact hP.go (by omega), lfr.rf.u1 _ _⟩
    · refine g_const f_X2_takeAnyOf_32 ?_
      refine g_reti f_X2_takeAnyOf_33 rfl ?_ (Nat.zero_le _) (Nat.zero_le _)
      have e : pOf tx i a = -1 := by omega
      rw [e]
      exact ⟨rfl, rfl, hP, lfr.rf⟩
  · refine g_const f_X2_takeAnyOf_11 ?_
    refine g_reti f_X2_takeAnyOf_12 rfl ?_ (Nat.zero_le _) (Nat.zero_le _)
    have e : pOf tx i a = -1 := if_neg (by omega)
    rw [e]
    exact ⟨rfl, rfl, hP, lfr.rf⟩

set_option maxHeartbeats 4000000 in
set_option maxRecDepth 100000 in
theorem c_num {Ω : Ow} {S : Sg} {M : Mm} {tx : List Nat} {Λ : Nat} {L : LawC} {cs : List Int} {a : Nat} (hP : PG S M tx Λ L cs a) : Ct Ω mX2_readNumber 6 0 0 1 [vr Ω 1] S M (fun x S' M' => x = (pNum tx a).1 ∧ S' = S ∧ PG S M' tx Λ L cs (pNum tx a).2 ∧ lfr Λ M M') := by
  refine Ct.mk (by decide) (Nat.le_of_ble_eq_true rfl) [some (vr Ω 1), none, none] (by intro q hq; exact hq) (fun γ hγ hz => ?_)
  obtain ⟨hG, hΛ, hΛ6, gD, hT, ⟨t1, t2⟩, ⟨d1, d2, d3, d4, d5⟩, ha, hal, hcl, hLl⟩ := id hP
  have hT1 := hT.1
  have o1 := obn hG (r := 1) (c := 2) (by decide +kernel)
  have a2 := arn hG (r := 2) (c := 11) (n := 100) (by decide +kernel)
  have g2 : _ = ((2 : Nat) : Int) := grn hG (k := 1) (j := 0) (by decide)
  obtain ⟨oL, aL1, aL2, aL3, aL4, aL5⟩ := obLaw hΛ hΛ6
  obtain ⟨gL1, gL2, gL3, gL4, gL5⟩ := hG.2.2.2 Λ hΛ hΛ6
  refine g_alv f_X2_readNumber_0 rfl ?_
  refine g_ldcS (i := 1) (by decide) f_X2_readNumber_1 rfl ?_
  refine g_cv1 hγ (c_any (a := a) hP (i := 1) (by decide)) f_X2_readNumber_3 mo_X2_takeAnyOf mv_X2_takeAnyOf (by assumption) rfl rfl (Nat.le_of_ble_eq_true rfl) ⟨by decide, by decide⟩ ⟨Nat.le_refl _, Nat.le_refl _⟩ (fun x S' M1 hq2 => ?_)
  obtain ⟨rfl, q1, k1, f1⟩ := hq2
  obtain rfl := q1.symm
  have hr1 := pOf_rg tx 1 (a) (by decide)
  refine g_ist_1 f_X2_readNumber_6 (by decide) c1v ?_
  refine g_ild f_X2_readNumber_7 rfl ?_
  refine g_const f_X2_readNumber_8 ?_
  refine g_icmp_ne f_X2_readNumber_9 rfl (by omega) (by omega) (fun h1 => ?_) (fun h1 => ?_)
  · rw [if_neg (by omega)] at k1
    refine g_alv f_X2_readNumber_14 rfl ?_
    refine g_ldcS (i := 1) (by decide) f_X2_readNumber_15 rfl ?_
    refine g_cv1 hγ (c_any (a := a + 1) k1 (i := 1) (by decide)) f_X2_readNumber_17 mo_X2_takeAnyOf mv_X2_takeAnyOf (by assumption) rfl rfl (Nat.le_of_ble_eq_true rfl) ⟨by decide, by decide⟩ ⟨Nat.le_refl _, Nat.le_refl _⟩ (fun x S' M2 hq2 => ?_)
    obtain ⟨rfl, q1, k2, f2⟩ := hq2
    obtain rfl := q1.symm
    have hr2 := pOf_rg tx 1 (a + 1) (by decide)
    refine g_ist_2 f_X2_readNumber_20 (by decide) c1i ?_
    refine g_ild f_X2_readNumber_21 rfl ?_
    refine g_const f_X2_readNumber_22 ?_
    refine g_icmp_ne f_X2_readNumber_23 rfl (by omega) (by omega) (fun h2 => ?_) (fun h2 => ?_)
    · rw [if_neg (by omega)] at k2
      have e : pNum tx a = (10 * pOf tx 1 a + pOf tx 1 (a + 1), a + 2) := (if_neg (by omega)).trans (if_neg (by omega))
      refine g_const f_X2_readNumber_30 ?_
      refine g_ild f_X2_readNumber_32 rfl ?_
      refine g_imul f_X2_readNumber_33 ?_
      refine g_ild f_X2_readNumber_34 rfl ?_
      refine g_iadd f_X2_readNumber_35 ?_
      refine g_reti f_X2_readNumber_36 rfl ?_ (Nat.zero_le _) (Nat.zero_le _)
      rw [e]
      exact ⟨rfl, rfl, k2, f1.tr f2⟩
    · rw [if_pos (by omega)] at k2
      have e : pNum tx a = (pOf tx 1 a, a + 1) := (if_neg (by omega)).trans (if_pos (by omega))
      refine g_ild f_X2_readNumber_26 rfl ?_
      refine g_goto f_X2_readNumber_27 ?_
      refine g_reti f_X2_readNumber_36 rfl ?_ (Nat.zero_le _) (Nat.zero_le _)
      rw [e]
      exact ⟨rfl, rfl, k2, f1.tr f2⟩
  · refine g_const f_X2_readNumber_12 ?_
    refine g_reti f_X2_readNumber_13 rfl ?_ (Nat.zero_le _) (Nat.zero_le _)
    rw [if_pos (by omega)] at k1
    have e : pNum tx a = (-1, a) := if_pos (by omega)
    rw [e]
    exact ⟨rfl, rfl, k1, f1⟩

set_option maxHeartbeats 4000000 in
set_option maxRecDepth 100000 in
theorem c_word {Ω : Ow} {S : Sg} {M : Mm} {tx : List Nat} {Λ : Nat} {L : LawC} {cs : List Int} {a : Nat} (hP : PG S M tx Λ L cs a) : Ct Ω mX2_readWord 2 0 0 1 [vr Ω 1] S M (fun x S' M' => x = (if (pW tx a).1 = 3 then -1 else ((pW tx a).1 : Int)) ∧ S' = S ∧ PG S M' tx Λ L cs (pW tx a).2 ∧ lfr Λ M M') := by
  refine Ct.mk (by decide) (Nat.le_of_ble_eq_true rfl) [some (vr Ω 1)] (by intro q hq; exact hq) (fun γ hγ hz => ?_)
  obtain ⟨hG, hΛ, hΛ6, gD, hT, ⟨t1, t2⟩, ⟨d1, d2, d3, d4, d5⟩, ha, hal, hcl, hLl⟩ := id hP
  have hT1 := hT.1
  have o1 := obn hG (r := 1) (c := 2) (by decide +kernel)
  have a2 := arn hG (r := 2) (c := 11) (n := 100) (by decide +kernel)
  have g2 : _ = ((2 : Nat) : Int) := grn hG (k := 1) (j := 0) (by decide)
  obtain ⟨oL, aL1, aL2, aL3, aL4, aL5⟩ := obLaw hΛ hΛ6
  obtain ⟨gL1, gL2, gL3, gL4, gL5⟩ := hG.2.2.2 Λ hΛ hΛ6
  have k := hP
  have f : lfr Λ M M := lfr.rf
  refine g_alv f_X2_readWord_0 rfl ?_
  refine g_const f_X2_readWord_1 ?_
  refine g_as (show (110 : Int) = ((110 : Nat) : Int) from rfl) ?_
  refine g_cv1 hγ (c_take (a := a) k (c := 110) (by decide)) f_X2_readWord_3 mo_X2_take mv_X2_take (by assumption) rfl rfl (Nat.le_of_ble_eq_true rfl) ⟨by decide, by decide⟩ ⟨Nat.le_refl _, Nat.le_refl _⟩ (fun x S' M3 hq2 => ?_)
  obtain ⟨rfl, q1, k2, fn⟩ := hq2
  obtain rfl := q1.symm
  replace f := f.tr fn
  clear k fn
  rcases Bool.eq_false_or_eq_true (isC tx (a) 110) with hb3 | hb3
  · have k : PG S M3 tx Λ L cs (a + 1) := by rw [hb3] at k2; exact k2
    clear k2
    rw [hb3]
    refine g_as (show ((true.toNat : Nat) : Int) = 1 from rfl) ?_
    refine g_if_eq f_X2_readWord_6 rfl (by omega) (fun hx => ?_) (fun hx => ?_)
    · exact absurd hx (by omega)
    refine g_alv f_X2_readWord_9 rfl ?_
    refine g_const f_X2_readWord_10 ?_
    refine g_as (show (101 : Int) = ((101 : Nat) : Int) from rfl) ?_
    refine g_cv1 hγ (c_take (a := a + 1) k (c := 101) (by decide)) f_X2_readWord_12 mo_X2_take mv_X2_take (by assumption) rfl rfl (Nat.le_of_ble_eq_true rfl) ⟨by decide, by decide⟩ ⟨Nat.le_refl _, Nat.le_refl _⟩ (fun x S' M12 hq2 => ?_)
    obtain ⟨rfl, q1, k2, fn⟩ := hq2
    obtain rfl := q1.symm
    replace f := f.tr fn
    clear k fn
    rcases Bool.eq_false_or_eq_true (isC tx (a + 1) 101) with hb12 | hb12
    · have k : PG S M12 tx Λ L cs (a + 2) := by rw [hb12] at k2; exact k2
      clear k2
      rw [hb12]
      refine g_as (show ((true.toNat : Nat) : Int) = 1 from rfl) ?_
      refine g_if_eq f_X2_readWord_15 rfl (by omega) (fun hx => ?_) (fun hx => ?_)
      · exact absurd hx (by omega)
      refine g_alv f_X2_readWord_18 rfl ?_
      refine g_const f_X2_readWord_19 ?_
      refine g_as (show (97 : Int) = ((97 : Nat) : Int) from rfl) ?_
      refine g_cv1 hγ (c_take (a := a + 2) k (c := 97) (by decide)) f_X2_readWord_21 mo_X2_take mv_X2_take (by assumption) rfl rfl (Nat.le_of_ble_eq_true rfl) ⟨by decide, by decide⟩ ⟨Nat.le_refl _, Nat.le_refl _⟩ (fun x S' M21 hq2 => ?_)
      obtain ⟨rfl, q1, k2, fn⟩ := hq2
      obtain rfl := q1.symm
      replace f := f.tr fn
      clear k fn
      rcases Bool.eq_false_or_eq_true (isC tx (a + 2) 97) with hb21 | hb21
      · have k : PG S M21 tx Λ L cs (a + 3) := by rw [hb21] at k2; exact k2
        clear k2
        rw [hb21]
        refine g_as (show ((true.toNat : Nat) : Int) = 1 from rfl) ?_
        refine g_if_eq f_X2_readWord_24 rfl (by omega) (fun hx => ?_) (fun hx => ?_)
        · exact absurd hx (by omega)
        refine g_alv f_X2_readWord_27 rfl ?_
        refine g_const f_X2_readWord_28 ?_
        refine g_as (show (114 : Int) = ((114 : Nat) : Int) from rfl) ?_
        refine g_cv1 hγ (c_take (a := a + 3) k (c := 114) (by decide)) f_X2_readWord_30 mo_X2_take mv_X2_take (by assumption) rfl rfl (Nat.le_of_ble_eq_true rfl) ⟨by decide, by decide⟩ ⟨Nat.le_refl _, Nat.le_refl _⟩ (fun x S' M30 hq2 => ?_)
        obtain ⟨rfl, q1, k2, fn⟩ := hq2
        obtain rfl := q1.symm
        replace f := f.tr fn
        clear k fn
        rcases Bool.eq_false_or_eq_true (isC tx (a + 3) 114) with hb30 | hb30
        · have k : PG S M30 tx Λ L cs (a + 4) := by rw [hb30] at k2; exact k2
          clear k2
          rw [hb30]
          refine g_as (show ((true.toNat : Nat) : Int) = 1 from rfl) ?_
          refine g_if_eq f_X2_readWord_33 rfl (by omega) (fun hx => ?_) (fun hx => ?_)
          · exact absurd hx (by omega)
          refine g_const f_X2_readWord_36 ?_
          refine g_goto f_X2_readWord_37 ?_
          refine g_reti f_X2_readWord_41 rfl ?_ (Nat.zero_le _) (Nat.zero_le _)
          exact ⟨by simp [pW, *], rfl, by simpa [pW, *] using k, f⟩
        · have k : PG S M30 tx Λ L cs (a + 3) := by rw [hb30] at k2; exact k2
          clear k2
          rw [hb30]
          refine g_as (show ((false.toNat : Nat) : Int) = 0 from rfl) ?_
          refine g_if_eq f_X2_readWord_33 rfl (by omega) (fun hx => ?_) (fun hx => ?_)
          · refine g_const f_X2_readWord_40 ?_
            refine g_reti f_X2_readWord_41 rfl ?_ (Nat.zero_le _) (Nat.zero_le _)
            exact ⟨by simp [pW, *], rfl, by simpa [pW, *] using k, f⟩
          · exact absurd (by omega) hx
      · have k : PG S M21 tx Λ L cs (a + 2) := by rw [hb21] at k2; exact k2
        clear k2
        rw [hb21]
        refine g_as (show ((false.toNat : Nat) : Int) = 0 from rfl) ?_
        refine g_if_eq f_X2_readWord_24 rfl (by omega) (fun hx => ?_) (fun hx => ?_)
        · refine g_const f_X2_readWord_40 ?_
          refine g_reti f_X2_readWord_41 rfl ?_ (Nat.zero_le _) (Nat.zero_le _)
          exact ⟨by simp [pW, *], rfl, by simpa [pW, *] using k, f⟩
        · exact absurd (by omega) hx
    · have k : PG S M12 tx Λ L cs (a + 1) := by rw [hb12] at k2; exact k2
      clear k2
      rw [hb12]
      refine g_as (show ((false.toNat : Nat) : Int) = 0 from rfl) ?_
      refine g_if_eq f_X2_readWord_15 rfl (by omega) (fun hx => ?_) (fun hx => ?_)
      · refine g_const f_X2_readWord_40 ?_
        refine g_reti f_X2_readWord_41 rfl ?_ (Nat.zero_le _) (Nat.zero_le _)
        exact ⟨by simp [pW, *], rfl, by simpa [pW, *] using k, f⟩
      · exact absurd (by omega) hx
  · have k : PG S M3 tx Λ L cs (a) := by rw [hb3] at k2; exact k2
    clear k2
    rw [hb3]
    refine g_as (show ((false.toNat : Nat) : Int) = 0 from rfl) ?_
    refine g_if_eq f_X2_readWord_6 rfl (by omega) (fun hx => ?_) (fun hx => ?_)
    · refine g_alv f_X2_readWord_42 rfl ?_
      refine g_const f_X2_readWord_43 ?_
      refine g_as (show (102 : Int) = ((102 : Nat) : Int) from rfl) ?_
      refine g_cv1 hγ (c_take (a := a) k (c := 102) (by decide)) f_X2_readWord_45 mo_X2_take mv_X2_take (by assumption) rfl rfl (Nat.le_of_ble_eq_true rfl) ⟨by decide, by decide⟩ ⟨Nat.le_refl _, Nat.le_refl _⟩ (fun x S' M45 hq2 => ?_)
      obtain ⟨rfl, q1, k2, fn⟩ := hq2
      obtain rfl := q1.symm
      replace f := f.tr fn
      clear k fn
      rcases Bool.eq_false_or_eq_true (isC tx (a) 102) with hb45 | hb45
      · have k : PG S M45 tx Λ L cs (a + 1) := by rw [hb45] at k2; exact k2
        clear k2
        rw [hb45]
        refine g_as (show ((true.toNat : Nat) : Int) = 1 from rfl) ?_
        refine g_if_ne f_X2_readWord_48 rfl (by omega) (fun hx => ?_) (fun hx => ?_)
        · refine g_alv f_X2_readWord_53 rfl ?_
          refine g_const f_X2_readWord_54 ?_
          refine g_as (show (105 : Int) = ((105 : Nat) : Int) from rfl) ?_
          refine g_cv1 hγ (c_take (a := a + 1) k (c := 105) (by decide)) f_X2_readWord_56 mo_X2_take mv_X2_take (by assumption) rfl rfl (Nat.le_of_ble_eq_true rfl) ⟨by decide, by decide⟩ ⟨Nat.le_refl _, Nat.le_refl _⟩ (fun x S' M56 hq2 => ?_)
          obtain ⟨rfl, q1, k2, fn⟩ := hq2
          obtain rfl := q1.symm
          replace f := f.tr fn
          clear k fn
          rcases Bool.eq_false_or_eq_true (isC tx (a + 1) 105) with hb56 | hb56
          · have k : PG S M56 tx Λ L cs (a + 2) := by rw [hb56] at k2; exact k2
            clear k2
            rw [hb56]
            refine g_as (show ((true.toNat : Nat) : Int) = 1 from rfl) ?_
            refine g_if_eq f_X2_readWord_59 rfl (by omega) (fun hx => ?_) (fun hx => ?_)
            · exact absurd hx (by omega)
            refine g_alv f_X2_readWord_62 rfl ?_
            refine g_const f_X2_readWord_63 ?_
            refine g_as (show (110 : Int) = ((110 : Nat) : Int) from rfl) ?_
            refine g_cv1 hγ (c_take (a := a + 2) k (c := 110) (by decide)) f_X2_readWord_65 mo_X2_take mv_X2_take (by assumption) rfl rfl (Nat.le_of_ble_eq_true rfl) ⟨by decide, by decide⟩ ⟨Nat.le_refl _, Nat.le_refl _⟩ (fun x S' M65 hq2 => ?_)
            obtain ⟨rfl, q1, k2, fn⟩ := hq2
            obtain rfl := q1.symm
            replace f := f.tr fn
            clear k fn
            rcases Bool.eq_false_or_eq_true (isC tx (a + 2) 110) with hb65 | hb65
            · have k : PG S M65 tx Λ L cs (a + 3) := by rw [hb65] at k2; exact k2
              clear k2
              rw [hb65]
              refine g_as (show ((true.toNat : Nat) : Int) = 1 from rfl) ?_
              refine g_if_eq f_X2_readWord_68 rfl (by omega) (fun hx => ?_) (fun hx => ?_)
              · exact absurd hx (by omega)
              refine g_alv f_X2_readWord_71 rfl ?_
              refine g_const f_X2_readWord_72 ?_
              refine g_as (show (101 : Int) = ((101 : Nat) : Int) from rfl) ?_
              refine g_cv1 hγ (c_take (a := a + 3) k (c := 101) (by decide)) f_X2_readWord_74 mo_X2_take mv_X2_take (by assumption) rfl rfl (Nat.le_of_ble_eq_true rfl) ⟨by decide, by decide⟩ ⟨Nat.le_refl _, Nat.le_refl _⟩ (fun x S' M74 hq2 => ?_)
              obtain ⟨rfl, q1, k2, fn⟩ := hq2
              obtain rfl := q1.symm
              replace f := f.tr fn
              clear k fn
              rcases Bool.eq_false_or_eq_true (isC tx (a + 3) 101) with hb74 | hb74
              · have k : PG S M74 tx Λ L cs (a + 4) := by rw [hb74] at k2; exact k2
                clear k2
                rw [hb74]
                refine g_as (show ((true.toNat : Nat) : Int) = 1 from rfl) ?_
                refine g_if_eq f_X2_readWord_77 rfl (by omega) (fun hx => ?_) (fun hx => ?_)
                · exact absurd hx (by omega)
                refine g_const f_X2_readWord_80 ?_
                refine g_goto f_X2_readWord_81 ?_
                refine g_reti f_X2_readWord_85 rfl ?_ (Nat.zero_le _) (Nat.zero_le _)
                exact ⟨by simp [pW, *], rfl, by simpa [pW, *] using k, f⟩
              · have k : PG S M74 tx Λ L cs (a + 3) := by rw [hb74] at k2; exact k2
                clear k2
                rw [hb74]
                refine g_as (show ((false.toNat : Nat) : Int) = 0 from rfl) ?_
                refine g_if_eq f_X2_readWord_77 rfl (by omega) (fun hx => ?_) (fun hx => ?_)
                · refine g_const f_X2_readWord_84 ?_
                  refine g_reti f_X2_readWord_85 rfl ?_ (Nat.zero_le _) (Nat.zero_le _)
                  exact ⟨by simp [pW, *], rfl, by simpa [pW, *] using k, f⟩
                · exact absurd (by omega) hx
            · have k : PG S M65 tx Λ L cs (a + 2) := by rw [hb65] at k2; exact k2
              clear k2
              rw [hb65]
              refine g_as (show ((false.toNat : Nat) : Int) = 0 from rfl) ?_
              refine g_if_eq f_X2_readWord_68 rfl (by omega) (fun hx => ?_) (fun hx => ?_)
              · refine g_const f_X2_readWord_84 ?_
                refine g_reti f_X2_readWord_85 rfl ?_ (Nat.zero_le _) (Nat.zero_le _)
                exact ⟨by simp [pW, *], rfl, by simpa [pW, *] using k, f⟩
              · exact absurd (by omega) hx
          · have k : PG S M56 tx Λ L cs (a + 1) := by rw [hb56] at k2; exact k2
            clear k2
            rw [hb56]
            refine g_as (show ((false.toNat : Nat) : Int) = 0 from rfl) ?_
            refine g_if_eq f_X2_readWord_59 rfl (by omega) (fun hx => ?_) (fun hx => ?_)
            · refine g_alv f_X2_readWord_86 rfl ?_
              refine g_const f_X2_readWord_87 ?_
              refine g_as (show (97 : Int) = ((97 : Nat) : Int) from rfl) ?_
              refine g_cv1 hγ (c_take (a := a + 1) k (c := 97) (by decide)) f_X2_readWord_89 mo_X2_take mv_X2_take (by assumption) rfl rfl (Nat.le_of_ble_eq_true rfl) ⟨by decide, by decide⟩ ⟨Nat.le_refl _, Nat.le_refl _⟩ (fun x S' M89 hq2 => ?_)
              obtain ⟨rfl, q1, k2, fn⟩ := hq2
              obtain rfl := q1.symm
              replace f := f.tr fn
              clear k fn
              rcases Bool.eq_false_or_eq_true (isC tx (a + 1) 97) with hb89 | hb89
              · have k : PG S M89 tx Λ L cs (a + 2) := by rw [hb89] at k2; exact k2
                clear k2
                rw [hb89]
                refine g_as (show ((true.toNat : Nat) : Int) = 1 from rfl) ?_
                refine g_if_eq f_X2_readWord_92 rfl (by omega) (fun hx => ?_) (fun hx => ?_)
                · exact absurd hx (by omega)
                refine g_alv f_X2_readWord_95 rfl ?_
                refine g_const f_X2_readWord_96 ?_
                refine g_as (show (114 : Int) = ((114 : Nat) : Int) from rfl) ?_
                refine g_cv1 hγ (c_take (a := a + 2) k (c := 114) (by decide)) f_X2_readWord_98 mo_X2_take mv_X2_take (by assumption) rfl rfl (Nat.le_of_ble_eq_true rfl) ⟨by decide, by decide⟩ ⟨Nat.le_refl _, Nat.le_refl _⟩ (fun x S' M98 hq2 => ?_)
                obtain ⟨rfl, q1, k2, fn⟩ := hq2
                obtain rfl := q1.symm
                replace f := f.tr fn
                clear k fn
                rcases Bool.eq_false_or_eq_true (isC tx (a + 2) 114) with hb98 | hb98
                · have k : PG S M98 tx Λ L cs (a + 3) := by rw [hb98] at k2; exact k2
                  clear k2
                  rw [hb98]
                  refine g_as (show ((true.toNat : Nat) : Int) = 1 from rfl) ?_
                  refine g_if_eq f_X2_readWord_101 rfl (by omega) (fun hx => ?_) (fun hx => ?_)
                  · exact absurd hx (by omega)
                  refine g_const f_X2_readWord_104 ?_
                  refine g_goto f_X2_readWord_105 ?_
                  refine g_reti f_X2_readWord_109 rfl ?_ (Nat.zero_le _) (Nat.zero_le _)
                  exact ⟨by simp [pW, *], rfl, by simpa [pW, *] using k, f⟩
                · have k : PG S M98 tx Λ L cs (a + 2) := by rw [hb98] at k2; exact k2
                  clear k2
                  rw [hb98]
                  refine g_as (show ((false.toNat : Nat) : Int) = 0 from rfl) ?_
                  refine g_if_eq f_X2_readWord_101 rfl (by omega) (fun hx => ?_) (fun hx => ?_)
                  · refine g_const f_X2_readWord_108 ?_
                    refine g_reti f_X2_readWord_109 rfl ?_ (Nat.zero_le _) (Nat.zero_le _)
                    exact ⟨by simp [pW, *], rfl, by simpa [pW, *] using k, f⟩
                  · exact absurd (by omega) hx
              · have k : PG S M89 tx Λ L cs (a + 1) := by rw [hb89] at k2; exact k2
                clear k2
                rw [hb89]
                refine g_as (show ((false.toNat : Nat) : Int) = 0 from rfl) ?_
                refine g_if_eq f_X2_readWord_92 rfl (by omega) (fun hx => ?_) (fun hx => ?_)
                · refine g_const f_X2_readWord_108 ?_
                  refine g_reti f_X2_readWord_109 rfl ?_ (Nat.zero_le _) (Nat.zero_le _)
                  exact ⟨by simp [pW, *], rfl, by simpa [pW, *] using k, f⟩
                · exact absurd (by omega) hx
            · exact absurd (by omega) hx
        · exact absurd (by omega) hx
      · have k : PG S M45 tx Λ L cs (a) := by rw [hb45] at k2; exact k2
        clear k2
        rw [hb45]
        refine g_as (show ((false.toNat : Nat) : Int) = 0 from rfl) ?_
        refine g_if_ne f_X2_readWord_48 rfl (by omega) (fun hx => ?_) (fun hx => ?_)
        · exact absurd hx (by omega)
        refine g_const f_X2_readWord_51 ?_
        refine g_reti f_X2_readWord_52 rfl ?_ (Nat.zero_le _) (Nat.zero_le _)
        exact ⟨by simp [pW, *], rfl, by simpa [pW, *] using k, f⟩
    · exact absurd (by omega) hx
