/-! contracts: the model's calls: see .. looked, image, undo, feed, trace, taken, count -/
set_option maxHeartbeats 4000000 in
set_option maxRecDepth 100000 in
theorem m_see {Ω : Ow} {S : Sg} {M : Mm} {s : Wt} (hG : Gr S) (hW : RepM M s) (hO0 : okW s) (c n y : Int) (hc0 : rg c) (hn0 : rg n) (hy0 : rg y) : Ct Ω mX10_see 3 0 0 1 [vr Ω 87, vi c, vi n, vi y] S M (fun x S' M' => x = (a_see s c n y).1 ∧ S' = S ∧ RepM M' (a_see s c n y).2 ∧ mdl M M') := by
  refine Ct.mk (by decide) (Nat.le_of_ble_eq_true rfl) [some (vr Ω 87), some (vi c), some (vi n), some (vi y)] (by intro q hq; exact hq) (fun γ hγ hz => ?_)
  have hX := hW.mx hO0
  have hO : okZ (wz s) := hO0.1.1
  have hD : zd (wz s) ≤ 9999 := hO0.1.2.1
  obtain ⟨x1, x2, x3, x4, x5⟩ := id hX
  obtain ⟨z1, z2, z3, z4, z5⟩ := id hO
  obtain ⟨lw, d1, d2, d3, d4, d5, d6, d7, d8⟩ := hW.dr hO0
  obtain ⟨lz, l5, l10, l8⟩ := hO0.1.len
  have sS : okSeen (wn s).2.1 := hO0.1.2.2.1
  have sP : okPlan (zc (wz s)) (wn s).2.2.1 := hO0.1.2.2.2.1
  have sB : okBook (wn s).2.2.2 := hO0.1.2.2.2.2.1
  have o87 := om87 hG
  have gM26 : _ = ((102 : Nat) : Int) := grn hG (k := 87) (j := 26) (by decide)
  have aM102 := arn hG (r := 102) (c := 12) (n := 5) (by decide +kernel)
  have gM27 : _ = ((103 : Nat) : Int) := grn hG (k := 87) (j := 27) (by decide)
  have aM103 := arn hG (r := 103) (c := 12) (n := 5) (by decide +kernel)
  have gM28 : _ = ((104 : Nat) : Int) := grn hG (k := 87) (j := 28) (by decide)
  have aM104 := arn hG (r := 104) (c := 12) (n := 5) (by decide +kernel)
  refine g_ild f_X10_see_0 rfl ?_
  refine g_const f_X10_see_1 ?_
  refine g_icmp_ne f_X10_see_2 rfl (by omega) (by omega) (fun hm1 => ?_) (fun hm1 => ?_)
  · refine g_ild f_X10_see_12 rfl ?_
    refine g_cs1 hγ (c_misPlace c (by omega)) f_X10_see_13 mo_X10_isPlace mt_X10_isPlace rfl (Nat.le_of_ble_eq_true rfl) ⟨by decide, by decide⟩ ⟨Nat.le_refl _, Nat.le_refl _⟩ (fun x S' M' hq9 => ?_)
    obtain ⟨hx, q1, q2⟩ := hq9
    obtain rfl := q1.symm
    obtain rfl := q2.symm
    by_cases hc : 0 ≤ c ∧ c ≤ 11
    · rw [if_pos hc] at hx
      subst hx
      refine g_if_ne f_X10_see_16 rfl (by omega) (fun hx => ?_) (fun hx => ?_)
      · refine g_ild f_X10_see_21 rfl ?_
        refine g_const f_X10_see_22 ?_
        refine g_const f_X10_see_23 ?_
        refine g_cs1 hγ (c_mwithin n 0 20 (by omega) (by omega) (by omega)) f_X10_see_25 mo_X10_within mt_X10_within rfl (Nat.le_of_ble_eq_true rfl) ⟨by decide, by decide⟩ ⟨Nat.le_refl _, Nat.le_refl _⟩ (fun x S' M' hq9 => ?_)
        obtain ⟨hx, q1, q2⟩ := hq9
        obtain rfl := q1.symm
        obtain rfl := q2.symm
        by_cases hn : 0 ≤ n ∧ n ≤ 20
        · rw [if_pos hn] at hx
          subst hx
          refine g_if_eq f_X10_see_28 rfl (by omega) (fun hx => ?_) (fun hx => ?_)
          · exact absurd hx (by omega)
          refine g_ild f_X10_see_31 rfl ?_
          refine g_const f_X10_see_32 ?_
          refine g_const f_X10_see_33 ?_
          refine g_cs1 hγ (c_mwithin y 0 63 (by omega) (by omega) (by omega)) f_X10_see_35 mo_X10_within mt_X10_within rfl (Nat.le_of_ble_eq_true rfl) ⟨by decide, by decide⟩ ⟨Nat.le_refl _, Nat.le_refl _⟩ (fun x S' M' hq9 => ?_)
          obtain ⟨hx, q1, q2⟩ := hq9
          obtain rfl := q1.symm
          obtain rfl := q2.symm
          by_cases hy : 0 ≤ y ∧ y ≤ 63
          · rw [if_pos hy] at hx
            subst hx
            refine g_if_ne f_X10_see_38 rfl (by omega) (fun hx => ?_) (fun hx => ?_)
            · refine g_alv f_X10_see_44 rfl ?_
              refine g_getI f_X10_see_45 (by assumption) ?_
              rw [d5.1]
              refine g_const f_X10_see_48 ?_
              refine g_icmp_ne f_X10_see_49 rfl (by omega) (by omega) (fun h5 => ?_) (fun h5 => ?_)
              · refine g_alv f_X10_see_55 rfl ?_
                refine g_getR f_X10_see_56 (by assumption) (by assumption) ?_
                refine g_alv f_X10_see_59 rfl ?_
                refine g_getI f_X10_see_60 (by assumption) ?_
                rw [d5.1]
                refine g_ild f_X10_see_63 rfl ?_
                refine g_ias f_X10_see_64 (by assumption) (wn s).2.1.length (by omega) (by omega) ?_
                refine g_alv f_X10_see_65 rfl ?_
                refine g_getR f_X10_see_66 (by assumption) (by assumption) ?_
                refine g_alv f_X10_see_69 rfl ?_
                refine g_getI f_X10_see_70 (by assumption) ?_
                rw [up_row (by decide), d5.1]
                refine g_ild f_X10_see_73 rfl ?_
                refine g_ias f_X10_see_74 (by assumption) (wn s).2.1.length (by omega) (by omega) ?_
                refine g_alv f_X10_see_75 rfl ?_
                refine g_getR f_X10_see_76 (by assumption) (by assumption) ?_
                refine g_alv f_X10_see_79 rfl ?_
                refine g_dup f_X10_see_80 rfl ?_
                refine g_getI f_X10_see_81 (by assumption) ?_
                rw [up_row (by decide), up_row (by decide), d5.1]
                refine g_dup_x1 f_X10_see_84 rfl rfl ?_
                refine g_const f_X10_see_85 ?_
                refine g_iadd f_X10_see_86 ?_
                refine g_putI f_X10_see_87 rfl (by assumption) ?_
                refine g_ild f_X10_see_90 rfl ?_
                refine g_ias f_X10_see_91 (by assumption) (wn s).2.1.length (by omega) (by omega) ?_
                refine g_alv f_X10_see_92 rfl ?_
                refine g_getI f_X10_see_93 (by assumption) ?_
                rw [up_row (by decide), up_s]
                refine g_reti f_X10_see_96 rfl ?_ (Nat.zero_le _) (Nat.zero_le _)
                have e : a_see s c n y = (((wn s).2.1.length : Int) + 1, putSeen s ((wn s).2.1 ++ [(c, n, y)])) := (if_neg (by omega)).trans ((if_neg (fun h => h hc)).trans ((if_neg (fun h => h ⟨hn, hy⟩)).trans (if_neg (by omega))))
                rw [e]
                obtain ⟨h9, h8⟩ := hW.seen hO0 (fun k a b c d => by rw [up_row d, up_row a, up_row c, up_row b]) (fun j hj => by rw [up_row (by decide), up_n (by omega), up_row (by decide), up_row (by decide)]) (seen_add d5 c n y) (by rw [List.length_append]; show _ + 1 ≤ 5; omega)
                exact ⟨rfl, rfl, h9, h8⟩
              · refine g_const f_X10_see_52 ?_
                refine g_reti f_X10_see_54 rfl ?_ (Nat.zero_le _) (Nat.zero_le _)
                have e : a_see s c n y = (-4, s) := (if_neg (by omega)).trans ((if_neg (fun h => h hc)).trans ((if_neg (fun h => h ⟨hn, hy⟩)).trans (if_pos (by omega))))
                rw [e]
                exact ⟨rfl, rfl, hW, mdl.rf⟩
            · exact absurd (by omega) hx
          · rw [if_neg hy] at hx
            subst hx
            refine g_if_ne f_X10_see_38 rfl (by omega) (fun hx => ?_) (fun hx => ?_)
            · exact absurd hx (by omega)
            refine g_const f_X10_see_41 ?_
            refine g_reti f_X10_see_43 rfl ?_ (Nat.zero_le _) (Nat.zero_le _)
            have e : a_see s c n y = (-2, s) := (if_neg (by omega)).trans ((if_neg (fun h => h hc)).trans (if_pos (by intro h; first | exact hn h.1 | exact hy h.2)))
            rw [e]
            exact ⟨rfl, rfl, hW, mdl.rf⟩
        · rw [if_neg hn] at hx
          subst hx
          refine g_if_eq f_X10_see_28 rfl (by omega) (fun hx => ?_) (fun hx => ?_)
          · refine g_const f_X10_see_41 ?_
            refine g_reti f_X10_see_43 rfl ?_ (Nat.zero_le _) (Nat.zero_le _)
            have e : a_see s c n y = (-2, s) := (if_neg (by omega)).trans ((if_neg (fun h => h hc)).trans (if_pos (by intro h; first | exact hn h.1 | exact hy h.2)))
            rw [e]
            exact ⟨rfl, rfl, hW, mdl.rf⟩
          · exact absurd (by omega) hx
      · exact absurd (by omega) hx
    · rw [if_neg hc] at hx
      subst hx
      refine g_if_ne f_X10_see_16 rfl (by omega) (fun hx => ?_) (fun hx => ?_)
      · exact absurd hx (by omega)
      refine g_const f_X10_see_19 ?_
      refine g_reti f_X10_see_20 rfl ?_ (Nat.zero_le _) (Nat.zero_le _)
      have e : a_see s c n y = (-1, s) := (if_neg (by omega)).trans (if_pos hc)
      rw [e]
      exact ⟨rfl, rfl, hW, mdl.rf⟩
  · refine g_alv f_X10_see_5 rfl ?_
    refine g_const f_X10_see_6 ?_
    refine g_putI f_X10_see_7 rfl (by assumption) ?_
    refine g_const f_X10_see_10 ?_
    refine g_reti f_X10_see_11 rfl ?_ (Nat.zero_le _) (Nat.zero_le _)
    have e : a_see s c n y = (0, putSeen s []) := if_pos (by omega)
    rw [e]
    obtain ⟨h9, h8⟩ := hW.seen (M' := up M 87 25 0) (T := []) hO0 (fun k a _ _ _ => up_row a) (fun j hj => up_n (by omega)) ⟨up_s _ _ _ _, fun i hi => absurd hi (Nat.not_lt_zero _)⟩ (Nat.zero_le _)
    exact ⟨rfl, rfl, h9, h8⟩

set_option maxHeartbeats 4000000 in
set_option maxRecDepth 100000 in
theorem m_plan {Ω : Ow} {S : Sg} {M : Mm} {s : Wt} (hG : Gr S) (hW : RepM M s) (hO0 : okW s) (y n : Int) (hy0 : rg y) (hn0 : rg n) : Ct Ω mX10_plan 3 0 0 1 [vr Ω 87, vi y, vi n] S M (fun x S' M' => x = (a_plan s y n).1 ∧ S' = S ∧ RepM M' (a_plan s y n).2 ∧ mdl M M') := by
  refine Ct.mk (by decide) (Nat.le_of_ble_eq_true rfl) [some (vr Ω 87), some (vi y), some (vi n)] (by intro q hq; exact hq) (fun γ hγ hz => ?_)
  have hX := hW.mx hO0
  have hO : okZ (wz s) := hO0.1.1
  have hD : zd (wz s) ≤ 9999 := hO0.1.2.1
  obtain ⟨x1, x2, x3, x4, x5⟩ := id hX
  obtain ⟨z1, z2, z3, z4, z5⟩ := id hO
  obtain ⟨lw, d1, d2, d3, d4, d5, d6, d7, d8⟩ := hW.dr hO0
  obtain ⟨lz, l5, l10, l8⟩ := hO0.1.len
  have sS : okSeen (wn s).2.1 := hO0.1.2.2.1
  have sP : okPlan (zc (wz s)) (wn s).2.2.1 := hO0.1.2.2.2.1
  have sB : okBook (wn s).2.2.2 := hO0.1.2.2.2.2.1
  have o87 := om87 hG
  have gM30 : _ = ((105 : Nat) : Int) := grn hG (k := 87) (j := 30) (by decide)
  have aM105 := arn hG (r := 105) (c := 12) (n := 10) (by decide +kernel)
  have gM31 : _ = ((106 : Nat) : Int) := grn hG (k := 87) (j := 31) (by decide)
  have aM106 := arn hG (r := 106) (c := 12) (n := 10) (by decide +kernel)
  refine g_ild f_X10_plan_0 rfl ?_
  refine g_const f_X10_plan_1 ?_
  refine g_icmp_ne f_X10_plan_2 rfl (by omega) (by omega) (fun hm1 => ?_) (fun hm1 => ?_)
  · have hy1 : ¬ y = -1 := by omega
    have aft : planOK s y n → Go γ Ω mX10_plan (Zm γ Ω 1 0 0 (fun x S' M' => x = (a_plan s y n).1 ∧ S' = S ∧ RepM M' (a_plan s y n).2 ∧ mdl M M')) 0 0 S M 52 [some (vr Ω 87), some (vi y), some (vi n)] [] := by
      intro hok
      refine g_alv f_X10_plan_52 rfl ?_
      refine g_getI f_X10_plan_53 (by assumption) ?_
      rw [d6.1]
      refine g_const f_X10_plan_56 ?_
      refine g_icmp_ne f_X10_plan_58 rfl (by omega) (by omega) (fun h5 => ?_) (fun h5 => ?_)
      · refine g_alv f_X10_plan_64 rfl ?_
        refine g_getR f_X10_plan_65 (by assumption) (by assumption) ?_
        refine g_alv f_X10_plan_68 rfl ?_
        refine g_getI f_X10_plan_69 (by assumption) ?_
        rw [d6.1]
        refine g_ild f_X10_plan_72 rfl ?_
        refine g_ias f_X10_plan_73 (by assumption) (wn s).2.2.1.length (by omega) (by omega) ?_
        refine g_alv f_X10_plan_74 rfl ?_
        refine g_getR f_X10_plan_75 (by assumption) (by assumption) ?_
        refine g_alv f_X10_plan_78 rfl ?_
        refine g_dup f_X10_plan_79 rfl ?_
        refine g_getI f_X10_plan_80 (by assumption) ?_
        rw [up_row (by decide), d6.1]
        refine g_dup_x1 f_X10_plan_83 rfl rfl ?_
        refine g_const f_X10_plan_84 ?_
        refine g_iadd f_X10_plan_85 ?_
        refine g_putI f_X10_plan_86 rfl (by assumption) ?_
        refine g_ild f_X10_plan_89 rfl ?_
        refine g_if_ne f_X10_plan_90 rfl (by omega) (fun h0 => ?_) (fun h0 => ?_)
        · refine g_ild f_X10_plan_97 rfl ?_
          refine g_ias f_X10_plan_98 (by assumption) (wn s).2.2.1.length (by omega) (by omega) ?_
          refine g_alv f_X10_plan_99 rfl ?_
          refine g_getI f_X10_plan_100 (by assumption) ?_
          rw [up_row (by decide), up_s]
          refine g_reti f_X10_plan_103 rfl ?_ (Nat.zero_le _) (Nat.zero_le _)
          have e : a_plan s y n = (((wn s).2.2.1.length : Int) + 1, putPlan s ((wn s).2.2.1 ++ [(y, n, 0)])) := (if_neg hy1).trans ((if_neg (fun h => h hok)).trans (if_neg (by omega)))
          rw [e]
          obtain ⟨h9, h8⟩ := hW.plan hO0 (fun k a b c => by rw [up_row c, up_row a, up_row b]) (fun j hj => by rw [up_row (by decide), up_n (by omega), up_row (by decide)]) (plan_add d6 y n n (fun _ => rfl)) (by rw [List.length_append]; show _ + 1 ≤ 10; omega)
          exact ⟨rfl, rfl, h9, h8⟩
        · refine g_const f_X10_plan_93 ?_
          refine g_goto f_X10_plan_94 ?_
          refine g_ias f_X10_plan_98 (by assumption) (wn s).2.2.1.length (by omega) (by omega) ?_
          refine g_alv f_X10_plan_99 rfl ?_
          refine g_getI f_X10_plan_100 (by assumption) ?_
          rw [up_row (by decide), up_s]
          refine g_reti f_X10_plan_103 rfl ?_ (Nat.zero_le _) (Nat.zero_le _)
          have e : a_plan s y n = (((wn s).2.2.1.length : Int) + 1, putPlan s ((wn s).2.2.1 ++ [(y, n, 0)])) := (if_neg hy1).trans ((if_neg (fun h => h hok)).trans (if_neg (by omega)))
          rw [e]
          obtain ⟨h9, h8⟩ := hW.plan hO0 (fun k a b c => by rw [up_row c, up_row a, up_row b]) (fun j hj => by rw [up_row (by decide), up_n (by omega), up_row (by decide)]) (plan_add d6 y n 0 (fun h => absurd h h0)) (by rw [List.length_append]; show _ + 1 ≤ 10; omega)
          exact ⟨rfl, rfl, h9, h8⟩
      · refine g_const f_X10_plan_61 ?_
        refine g_reti f_X10_plan_63 rfl ?_ (Nat.zero_le _) (Nat.zero_le _)
        have e : a_plan s y n = (-4, s) := (if_neg hy1).trans ((if_neg (fun h => h hok)).trans (if_pos (by omega)))
        rw [e]
        exact ⟨rfl, rfl, hW, mdl.rf⟩
    have bad : ¬ planOK s y n → Go γ Ω mX10_plan (Zm γ Ω 1 0 0 (fun x S' M' => x = (a_plan s y n).1 ∧ S' = S ∧ RepM M' (a_plan s y n).2 ∧ mdl M M')) 0 0 S M 50 [some (vr Ω 87), some (vi y), some (vi n)] [] := by
      intro hok
      refine g_const f_X10_plan_50 ?_
      refine g_reti f_X10_plan_51 rfl ?_ (Nat.zero_le _) (Nat.zero_le _)
      have e : a_plan s y n = (-1, s) := (if_neg hy1).trans (if_pos hok)
      rw [e]
      exact ⟨rfl, rfl, hW, mdl.rf⟩
    refine g_ild f_X10_plan_12 rfl ?_
    refine g_const f_X10_plan_13 ?_
    refine g_const f_X10_plan_14 ?_
    refine g_cs1 hγ (c_mwithin y 0 3 (by omega) (by omega) (by omega)) f_X10_plan_15 mo_X10_within mt_X10_within rfl (Nat.le_of_ble_eq_true rfl) ⟨by decide, by decide⟩ ⟨Nat.le_refl _, Nat.le_refl _⟩ (fun x S' M' hq9 => ?_)
    obtain ⟨hx, q1, q2⟩ := hq9
    obtain rfl := q1.symm
    obtain rfl := q2.symm
    by_cases h03 : 0 ≤ y ∧ y ≤ 3
    · rw [if_pos h03] at hx
      subst hx
      refine g_if_eq f_X10_plan_18 rfl (by omega) (fun hx => ?_) (fun hx => ?_)
      · exact absurd hx (by omega)
      refine g_ild f_X10_plan_21 rfl ?_
      refine g_const f_X10_plan_22 ?_
      refine g_const f_X10_plan_23 ?_
      refine g_cs1 hγ (c_mwithin y 1 2 (by omega) (by omega) (by omega)) f_X10_plan_24 mo_X10_within mt_X10_within rfl (Nat.le_of_ble_eq_true rfl) ⟨by decide, by decide⟩ ⟨Nat.le_refl _, Nat.le_refl _⟩ (fun x S' M' hq9 => ?_)
      obtain ⟨hx, q1, q2⟩ := hq9
      obtain rfl := q1.symm
      obtain rfl := q2.symm
      by_cases h12 : 1 ≤ y ∧ y ≤ 2
      · rw [if_pos h12] at hx
        subst hx
        refine g_if_eq f_X10_plan_27 rfl (by omega) (fun hx => ?_) (fun hx => ?_)
        · exact absurd hx (by omega)
        refine g_ild f_X10_plan_30 rfl ?_
        refine g_cs1 hγ (c_misPlace n (by omega)) f_X10_plan_31 mo_X10_isPlace mt_X10_isPlace rfl (Nat.le_of_ble_eq_true rfl) ⟨by decide, by decide⟩ ⟨Nat.le_refl _, Nat.le_refl _⟩ (fun x S' M' hq9 => ?_)
        obtain ⟨hx, q1, q2⟩ := hq9
        obtain rfl := q1.symm
        obtain rfl := q2.symm
        by_cases hc : 0 ≤ n ∧ n ≤ 11
        · rw [if_pos hc] at hx
          subst hx
          refine g_if_eq f_X10_plan_34 rfl (by omega) (fun hx => ?_) (fun hx => ?_)
          · exact absurd hx (by omega)
          refine g_ild f_X10_plan_37 rfl ?_
          refine g_const f_X10_plan_38 ?_
          refine g_icmp_ne f_X10_plan_39 rfl (by omega) (by omega) (fun h3 => ?_) (fun h3 => ?_)
          · refine aft ?_
            first
            | exact Or.inr (Or.inr ⟨by omega, hip⟩)
            | exact Or.inr (Or.inl ⟨by omega, hc⟩)
            | exact Or.inl (by omega)
          · refine g_alv f_X10_plan_42 rfl ?_
            refine g_ild f_X10_plan_43 rfl ?_
            refine g_cv1 hγ (c_misOne hG hX hO n (by omega)) f_X10_plan_44 mo_X10_isOne mv_X10_isOne (by assumption) rfl rfl (Nat.le_of_ble_eq_true rfl) ⟨by decide, by decide⟩ ⟨Nat.le_refl _, Nat.le_refl _⟩ (fun x S' M' hq9 => ?_)
            obtain ⟨hx, q1, q2⟩ := hq9
            obtain rfl := q1.symm
            obtain rfl := q2.symm
            by_cases hip : 0 ≤ n ∧ n < (zc (wz s) : Int)
            · rw [if_pos hip] at hx
              subst hx
              refine g_if_ne f_X10_plan_47 rfl (by omega) (fun hx => ?_) (fun hx => ?_)
              · refine aft ?_
                first
                | exact Or.inr (Or.inr ⟨by omega, hip⟩)
                | exact Or.inr (Or.inl ⟨by omega, hc⟩)
                | exact Or.inl (by omega)
              · exact absurd (by omega) hx
            · rw [if_neg hip] at hx
              subst hx
              refine g_if_ne f_X10_plan_47 rfl (by omega) (fun hx => ?_) (fun hx => ?_)
              · exact absurd hx (by omega)
              refine bad ?_
              rintro (h | ⟨h, h2⟩ | ⟨h, h2⟩) <;> (first | omega | exact hc h2 | exact hip h2)
        · rw [if_neg hc] at hx
          subst hx
          refine g_if_eq f_X10_plan_34 rfl (by omega) (fun hx => ?_) (fun hx => ?_)
          · refine bad ?_
            rintro (h | ⟨h, h2⟩ | ⟨h, h2⟩) <;> (first | omega | exact hc h2 | exact hip h2)
          · exact absurd (by omega) hx
      · rw [if_neg h12] at hx
        subst hx
        refine g_if_eq f_X10_plan_27 rfl (by omega) (fun hx => ?_) (fun hx => ?_)
        · refine g_ild f_X10_plan_37 rfl ?_
          refine g_const f_X10_plan_38 ?_
          refine g_icmp_ne f_X10_plan_39 rfl (by omega) (by omega) (fun h3 => ?_) (fun h3 => ?_)
          · refine aft ?_
            first
            | exact Or.inr (Or.inr ⟨by omega, hip⟩)
            | exact Or.inr (Or.inl ⟨by omega, hc⟩)
            | exact Or.inl (by omega)
          · refine g_alv f_X10_plan_42 rfl ?_
            refine g_ild f_X10_plan_43 rfl ?_
            refine g_cv1 hγ (c_misOne hG hX hO n (by omega)) f_X10_plan_44 mo_X10_isOne mv_X10_isOne (by assumption) rfl rfl (Nat.le_of_ble_eq_true rfl) ⟨by decide, by decide⟩ ⟨Nat.le_refl _, Nat.le_refl _⟩ (fun x S' M' hq9 => ?_)
            obtain ⟨hx, q1, q2⟩ := hq9
            obtain rfl := q1.symm
            obtain rfl := q2.symm
            by_cases hip : 0 ≤ n ∧ n < (zc (wz s) : Int)
            · rw [if_pos hip] at hx
              subst hx
              refine g_if_ne f_X10_plan_47 rfl (by omega) (fun hx => ?_) (fun hx => ?_)
              · refine aft ?_
                first
                | exact Or.inr (Or.inr ⟨by omega, hip⟩)
                | exact Or.inr (Or.inl ⟨by omega, hc⟩)
                | exact Or.inl (by omega)
              · exact absurd (by omega) hx
            · rw [if_neg hip] at hx
              subst hx
              refine g_if_ne f_X10_plan_47 rfl (by omega) (fun hx => ?_) (fun hx => ?_)
              · exact absurd hx (by omega)
              refine bad ?_
              rintro (h | ⟨h, h2⟩ | ⟨h, h2⟩) <;> (first | omega | exact hc h2 | exact hip h2)
        · exact absurd (by omega) hx
    · rw [if_neg h03] at hx
      subst hx
      refine g_if_eq f_X10_plan_18 rfl (by omega) (fun hx => ?_) (fun hx => ?_)
      · refine bad ?_
        rintro (h | ⟨h, h2⟩ | ⟨h, h2⟩) <;> (first | omega | exact hc h2 | exact hip h2)
      · exact absurd (by omega) hx
  · refine g_alv f_X10_plan_5 rfl ?_
    refine g_const f_X10_plan_6 ?_
    refine g_putI f_X10_plan_7 rfl (by assumption) ?_
    refine g_const f_X10_plan_10 ?_
    refine g_reti f_X10_plan_11 rfl ?_ (Nat.zero_le _) (Nat.zero_le _)
    have e : a_plan s y n = (0, putPlan s []) := if_pos (by omega)
    rw [e]
    obtain ⟨h9, h8⟩ := hW.plan (M' := up M 87 29 0) (T := []) hO0 (fun k a _ _ => up_row a) (fun j hj => up_n (by omega)) ⟨up_s _ _ _ _, fun i hi => absurd hi (Nat.not_lt_zero _)⟩ (Nat.zero_le _)
    exact ⟨rfl, rfl, h9, h8⟩

set_option maxHeartbeats 4000000 in
set_option maxRecDepth 100000 in
theorem m_book {Ω : Ow} {S : Sg} {M : Mm} {s : Wt} (hG : Gr S) (hW : RepM M s) (hO0 : okW s) (p n : Int) (hp : rg p) (hn0 : rg n) : Ct Ω mX10_book 3 0 0 1 [vr Ω 87, vi p, vi n] S M (fun x S' M' => x = (a_book s p n).1 ∧ S' = S ∧ RepM M' (a_book s p n).2 ∧ mdl M M') := by
  refine Ct.mk (by decide) (Nat.le_of_ble_eq_true rfl) [some (vr Ω 87), some (vi p), some (vi n)] (by intro q hq; exact hq) (fun γ hγ hz => ?_)
  have hX := hW.mx hO0
  have hO : okZ (wz s) := hO0.1.1
  have hD : zd (wz s) ≤ 9999 := hO0.1.2.1
  obtain ⟨x1, x2, x3, x4, x5⟩ := id hX
  obtain ⟨z1, z2, z3, z4, z5⟩ := id hO
  obtain ⟨lw, d1, d2, d3, d4, d5, d6, d7, d8⟩ := hW.dr hO0
  obtain ⟨lz, l5, l10, l8⟩ := hO0.1.len
  have sS : okSeen (wn s).2.1 := hO0.1.2.2.1
  have sP : okPlan (zc (wz s)) (wn s).2.2.1 := hO0.1.2.2.2.1
  have sB : okBook (wn s).2.2.2 := hO0.1.2.2.2.2.1
  have o87 := om87 hG
  have gM33 : _ = ((107 : Nat) : Int) := grn hG (k := 87) (j := 33) (by decide)
  have aM107 := arn hG (r := 107) (c := 12) (n := 8) (by decide +kernel)
  have gM34 : _ = ((108 : Nat) : Int) := grn hG (k := 87) (j := 34) (by decide)
  have aM108 := arn hG (r := 108) (c := 12) (n := 8) (by decide +kernel)
  refine g_ild f_X10_book_0 rfl ?_
  refine g_const f_X10_book_1 ?_
  refine g_icmp_ne f_X10_book_2 rfl (by omega) (by omega) (fun hm1 => ?_) (fun hm1 => ?_)
  · refine g_alv f_X10_book_12 rfl ?_
    refine g_ild f_X10_book_13 rfl ?_
    refine g_cv1 hγ (c_misOne hG hX hO p (by omega)) f_X10_book_14 mo_X10_isOne mv_X10_isOne (by assumption) rfl rfl (Nat.le_of_ble_eq_true rfl) ⟨by decide, by decide⟩ ⟨Nat.le_refl _, Nat.le_refl _⟩ (fun x S' M' hq9 => ?_)
    obtain ⟨hx, q1, q2⟩ := hq9
    obtain rfl := q1.symm
    obtain rfl := q2.symm
    by_cases hip : 0 ≤ p ∧ p < (zc (wz s) : Int)
    · rw [if_pos hip] at hx
      subst hx
      obtain ⟨p2, rfl⟩ := Int.eq_ofNat_of_zero_le hip.1
      have hp2 : p2 < zc (wz s) := by omega
      have hp6 : p2 < 6 := by omega
      obtain ⟨r0, r1, r2, r3, r4, r5⟩ := id (x4 p2 hp2)
      obtain ⟨b1, b2, b3, b4, b5, b6⟩ := id (z4 p2 hp2)
      refine g_if_ne f_X10_book_17 rfl (by omega) (fun hx => ?_) (fun hx => ?_)
      · refine g_ild f_X10_book_22 rfl ?_
        refine g_const f_X10_book_23 ?_
        refine g_const f_X10_book_24 ?_
        refine g_cs1 hγ (c_mwithin n 0 9999 (by omega) (by omega) (by omega)) f_X10_book_27 mo_X10_within mt_X10_within rfl (Nat.le_of_ble_eq_true rfl) ⟨by decide, by decide⟩ ⟨Nat.le_refl _, Nat.le_refl _⟩ (fun x S' M' hq9 => ?_)
        obtain ⟨hx, q1, q2⟩ := hq9
        obtain rfl := q1.symm
        obtain rfl := q2.symm
        by_cases hn : 0 ≤ n ∧ n ≤ 9999
        · rw [if_pos hn] at hx
          subst hx
          refine g_if_ne f_X10_book_30 rfl (by omega) (fun hx => ?_) (fun hx => ?_)
          · refine g_alv f_X10_book_36 rfl ?_
            refine g_getI f_X10_book_37 (by assumption) ?_
            rw [d7.1]
            refine g_const f_X10_book_40 ?_
            refine g_icmp_ne f_X10_book_42 rfl (by omega) (by omega) (fun h5 => ?_) (fun h5 => ?_)
            · refine g_alv f_X10_book_48 rfl ?_
              refine g_getR f_X10_book_49 (by assumption) (by assumption) ?_
              refine g_alv f_X10_book_52 rfl ?_
              refine g_getI f_X10_book_53 (by assumption) ?_
              rw [d7.1]
              refine g_ild f_X10_book_56 rfl ?_
              refine g_ias f_X10_book_57 (by assumption) (wn s).2.2.2.length (by omega) (by omega) ?_
              refine g_alv f_X10_book_58 rfl ?_
              refine g_getR f_X10_book_59 (by assumption) (by assumption) ?_
              refine g_alv f_X10_book_62 rfl ?_
              refine g_dup f_X10_book_63 rfl ?_
              refine g_getI f_X10_book_64 (by assumption) ?_
              rw [up_row (by decide), d7.1]
              refine g_dup_x1 f_X10_book_67 rfl rfl ?_
              refine g_const f_X10_book_68 ?_
              refine g_iadd f_X10_book_69 ?_
              refine g_putI f_X10_book_70 rfl (by assumption) ?_
              refine g_ild f_X10_book_73 rfl ?_
              refine g_ias f_X10_book_74 (by assumption) (wn s).2.2.2.length (by omega) (by omega) ?_
              refine g_alv f_X10_book_75 rfl ?_
              refine g_getI f_X10_book_76 (by assumption) ?_
              rw [up_row (by decide), up_s]
              refine g_reti f_X10_book_79 rfl ?_ (Nat.zero_le _) (Nat.zero_le _)
              have e : a_book s (p2 : Int) n = (((wn s).2.2.2.length : Int) + 1, putBook s ((wn s).2.2.2 ++ [((p2 : Int), n, 0)])) := (if_neg (by omega)).trans ((if_neg (fun h => h hip)).trans ((if_neg (fun h => h hn)).trans (if_neg (by omega))))
              rw [e]
              obtain ⟨h9, h8⟩ := hW.book hO0 (fun k a b c => by rw [up_row c, up_row a, up_row b]) (fun j hj => by rw [up_row (by decide), up_n (by omega), up_row (by decide)]) (book_add d7 (p2 : Int) n) (by rw [List.length_append]; show _ + 1 ≤ 8; omega)
              exact ⟨rfl, rfl, h9, h8⟩
            · refine g_const f_X10_book_45 ?_
              refine g_reti f_X10_book_47 rfl ?_ (Nat.zero_le _) (Nat.zero_le _)
              have e : a_book s (p2 : Int) n = (-4, s) := (if_neg (by omega)).trans ((if_neg (fun h => h hip)).trans ((if_neg (fun h => h hn)).trans (if_pos (by omega))))
              rw [e]
              exact ⟨rfl, rfl, hW, mdl.rf⟩
          · exact absurd (by omega) hx
        · rw [if_neg hn] at hx
          subst hx
          refine g_if_ne f_X10_book_30 rfl (by omega) (fun hx => ?_) (fun hx => ?_)
          · exact absurd hx (by omega)
          refine g_const f_X10_book_33 ?_
          refine g_reti f_X10_book_35 rfl ?_ (Nat.zero_le _) (Nat.zero_le _)
          have e : a_book s (p2 : Int) n = (-2, s) := (if_neg (by omega)).trans ((if_neg (fun h => h hip)).trans (if_pos hn))
          rw [e]
          exact ⟨rfl, rfl, hW, mdl.rf⟩
      · exact absurd (by omega) hx
    · rw [if_neg hip] at hx
      subst hx
      refine g_if_ne f_X10_book_17 rfl (by omega) (fun hx => ?_) (fun hx => ?_)
      · exact absurd hx (by omega)
      refine g_const f_X10_book_20 ?_
      refine g_reti f_X10_book_21 rfl ?_ (Nat.zero_le _) (Nat.zero_le _)
      have e : a_book s p n = (-1, s) := (if_neg (by omega)).trans (if_pos hip)
      rw [e]
      exact ⟨rfl, rfl, hW, mdl.rf⟩
  · refine g_alv f_X10_book_5 rfl ?_
    refine g_const f_X10_book_6 ?_
    refine g_putI f_X10_book_7 rfl (by assumption) ?_
    refine g_const f_X10_book_10 ?_
    refine g_reti f_X10_book_11 rfl ?_ (Nat.zero_le _) (Nat.zero_le _)
    have e : a_book s p n = (0, putBook s []) := if_pos (by omega)
    rw [e]
    obtain ⟨h9, h8⟩ := hW.book (M' := up M 87 32 0) (T := []) hO0 (fun k a _ _ => up_row a) (fun j hj => up_n (by omega)) ⟨up_s _ _ _ _, fun i hi => absurd hi (Nat.not_lt_zero _)⟩ (Nat.zero_le _)
    exact ⟨rfl, rfl, h9, h8⟩

set_option maxHeartbeats 4000000 in
set_option maxRecDepth 100000 in
theorem m_wrong {Ω : Ow} {S : Sg} {M : Mm} {s : Wt} (hG : Gr S) (hW : RepM M s) (hO0 : okW s) : Ct Ω mX10_wrong 8 0 0 1 [vr Ω 87] S M (fun x S' M' => x = a_wrong s ∧ S' = S ∧ RepM M' s ∧ mdl M M') := by
  refine Ct.mk (by decide) (Nat.le_of_ble_eq_true rfl) [some (vr Ω 87)] (by intro q hq; exact hq) (fun γ hγ hz => ?_)
  have hX := hW.mx hO0
  have hO : okZ (wz s) := hO0.1.1
  have hD : zd (wz s) ≤ 9999 := hO0.1.2.1
  obtain ⟨x1, x2, x3, x4, x5⟩ := id hX
  obtain ⟨z1, z2, z3, z4, z5⟩ := id hO
  obtain ⟨lw, d1, d2, d3, d4, d5, d6, d7, d8⟩ := hW.dr hO0
  obtain ⟨lz, l5, l10, l8⟩ := hO0.1.len
  have sS : okSeen (wn s).2.1 := hO0.1.2.2.1
  have sP : okPlan (zc (wz s)) (wn s).2.2.1 := hO0.1.2.2.2.1
  have sB : okBook (wn s).2.2.2 := hO0.1.2.2.2.2.1
  have o87 := om87 hG
  refine g_alv f_X10_wrong_0 rfl ?_
  refine g_const f_X10_wrong_1 ?_
  refine g_as (show (63 : Int) = ((63 : Nat) : Int) from rfl) ?_
  refine g_cv1 hγ (c_mwrongBy hG hX hO hD d5 sS l5 (bits := 63) (by decide)) f_X10_wrong_3 mo_X10_wrongBy mv_X10_wrongBy (by assumption) rfl rfl (Nat.le_of_ble_eq_true rfl) ⟨by decide, by decide⟩ ⟨Nat.le_refl _, Nat.le_refl _⟩ (fun x S' M2 hq2 => ?_)
  obtain ⟨hx, q1, ha⟩ := hq2
  obtain rfl := q1.symm
  rw [wrong_eq hO hD sS] at hx
  subst hx
  refine g_reti f_X10_wrong_6 rfl ?_ (Nat.zero_le _) (Nat.zero_le _)
  exact ⟨rfl, rfl, hW.askA hO0 ha, ha.mdl⟩

/-- all but number i of the image, and what askA leaves -/
def askB (M M' : Mm) (i : Nat) : Prop := (∀ j, j < 112 → j ≠ i → snp M' j = snp M j) ∧ (∀ k, (k < 87 ∨ (94 ≤ k ∧ k ≤ 100) ∨ k = 109 ∨ k = 110 ∨ 113 ≤ k) → M' k = M k) ∧ ∀ j, j ≠ 0 → j ≠ 7 → j ≠ 8 → M' 87 j = M 87 j
theorem askB.rf {M : Mm} {i : Nat} : askB M M i := ⟨fun _ _ _ => rfl, fun _ _ => rfl, fun _ _ _ _ => rfl⟩
theorem askB.set {M M1 M2 : Mm} {i k j : Nat} {v : Int} (h : askB M M1 i) (hi : i < 112) (hc : cel i = (k, j)) (hk : 88 ≤ k ∧ k < 94) (h2 : askA (up M1 k j v) M2) : askB M M2 i := by
  refine ⟨fun l hl hli => ?_, fun r hr => ?_, fun r a b c => ?_⟩
  · rw [h2.1 l hl, ← h.1 l hl hli]
    unfold snp
    rw [up_n]
    rintro ⟨a, b⟩
    exact hli (cel_inj l hl i hi (by rw [hc, ← a, ← b]))
  · rw [h2.2.1 r hr, up_row (by omega)]; exact h.2.1 r hr
  · rw [h2.2.2 r a b c, up_row (by omega)]; exact h.2.2 r a b c
theorem askB.back {M M1 : Mm} {i k j : Nat} {v : Int} (h : askB M M1 i) (hi : i < 112) (hc : cel i = (k, j)) (hk : 88 ≤ k ∧ k < 94) (hv : v = M k j) : askA M (up M1 k j v) := by
  refine ⟨fun l hl => ?_, fun r hr => ?_, fun r a b c => ?_⟩
  · by_cases e : l = i
    · subst e; unfold snp; rw [hc]; show up M1 k j v k j = _; rw [up_s]; exact hv
    · rw [← h.1 l hl e]
      unfold snp
      rw [up_n]
      rintro ⟨a, b⟩
      exact e (cel_inj l hl i hi (by rw [hc, ← a, ← b]))
  · rw [up_row (by omega)]; exact h.2.1 r hr
  · rw [up_row (by omega)]; exact h.2.2 r a b c
/-- the street of a trial -/
theorem MX_askB {M M1 : Mm} {z : Ab} (h : MX M z) (hc : zc z ≤ 6) {p a : Nat} (hp : p < zc z) (ha : a ≤ 4) (v : Nat) (e : askB M M1 (6 * a + p)) : MX (up M1 (88 + a) p (v : Int)) (setP z p a v) := by
  have hcel : cel (6 * a + p) = (88 + a, p) := by
    have : ∀ a, a < 5 → ∀ p, p < 6 → cel (6 * a + p) = (88 + a, p) := by decide +kernel
    exact this a (by omega) p (by omega)
  have e2 : askA (up M (88 + a) p (v : Int)) (up M1 (88 + a) p (v : Int)) := by
    refine ⟨fun l hl => ?_, fun r hr => ?_, fun r x b c => ?_⟩
    · by_cases q : l = 6 * a + p
      · subst q
        unfold snp
        rw [hcel]
        show up M1 (88 + a) p _ (88 + a) p = up M (88 + a) p _ (88 + a) p
        rw [up_s, up_s]
      · have hne : ¬ ((cel l).1 = 88 + a ∧ (cel l).2 = p) := by
          rintro ⟨x, b⟩
          exact q (cel_inj l hl _ (by omega) (by rw [hcel, ← x, ← b]))
        have := e.1 l hl q
        unfold snp at this ⊢
        rw [up_n hne, up_n hne]; exact this
    · rw [up_row (by omega), up_row (by omega)]; exact e.2.1 r hr
    · rw [up_row (by omega), up_row (by omega)]; exact e.2.2 r x b c
  exact (MX_set (z := z) h ha).askA hc e2
theorem seenR.askB {M M1 : Mm} {T : Tb} (h : seenR M T) (hl : T.length ≤ 5) {i k j : Nat} {v : Int} (hi : i < 54) (hk : 88 ≤ k ∧ k < 94) (e : askB M M1 i) : seenR (up M1 k j v) T := by
  obtain ⟨h1, h2⟩ := h
  refine ⟨by rw [up_row (by omega), e.2.2 25 (by decide) (by decide) (by decide)]; exact h1, fun l hl2 => ?_⟩
  have h5 : l < 5 := by omega
  rw [up_row (by omega), up_row (by omega), up_row (by omega), ← snp_54 (M := M1) h5, ← snp_59 (M := M1) h5, ← snp_64 (M := M1) h5, e.1 _ (by omega) (by omega), e.1 _ (by omega) (by omega), e.1 _ (by omega) (by omega), snp_54 h5, snp_59 h5, snp_64 h5]
  exact h2 l hl2
set_option maxHeartbeats 4000000 in
set_option maxRecDepth 100000 in
theorem m_from {Ω : Ow} {S : Sg} {M : Mm} {s : Wt} (hG : Gr S) (hW : RepM M s) (hO0 : okW s) (p : Int) (hp : rg p) : Ct Ω mX10_from 8 0 0 1 [vr Ω 87, vi p] S M (fun x S' M' => x = a_from s p ∧ S' = S ∧ RepM M' s ∧ mdl M M') := by
  refine Ct.mk (by decide) (Nat.le_of_ble_eq_true rfl) [some (vr Ω 87), some (vi p), none, none, none] (by intro q hq; exact hq) (fun γ hγ hz => ?_)
  have hX := hW.mx hO0
  have hO : okZ (wz s) := hO0.1.1
  have hD : zd (wz s) ≤ 9999 := hO0.1.2.1
  obtain ⟨x1, x2, x3, x4, x5⟩ := id hX
  obtain ⟨z1, z2, z3, z4, z5⟩ := id hO
  obtain ⟨lw, d1, d2, d3, d4, d5, d6, d7, d8⟩ := hW.dr hO0
  obtain ⟨lz, l5, l10, l8⟩ := hO0.1.len
  have sS : okSeen (wn s).2.1 := hO0.1.2.2.1
  have sP : okPlan (zc (wz s)) (wn s).2.2.1 := hO0.1.2.2.2.1
  have sB : okBook (wn s).2.2.2 := hO0.1.2.2.2.2.1
  have o87 := om87 hG
  have gM3 : _ = ((90 : Nat) : Int) := grn hG (k := 87) (j := 3) (by decide)
  have aM90 := arn hG (r := 90) (c := 12) (n := 6) (by decide +kernel)
  refine g_alv f_X10_from_0 rfl ?_
  refine g_ild f_X10_from_1 rfl ?_
  refine g_cv1 hγ (c_misOne hG hX hO p (by omega)) f_X10_from_2 mo_X10_isOne mv_X10_isOne (by assumption) rfl rfl (Nat.le_of_ble_eq_true rfl) ⟨by decide, by decide⟩ ⟨Nat.le_refl _, Nat.le_refl _⟩ (fun x S' M' hq9 => ?_)
  obtain ⟨hx, q1, q2⟩ := hq9
  obtain rfl := q1.symm
  obtain rfl := q2.symm
  by_cases hip : 0 ≤ p ∧ p < (zc (wz s) : Int)
  · rw [if_pos hip] at hx
    subst hx
    obtain ⟨p2, rfl⟩ := Int.eq_ofNat_of_zero_le hip.1
    have hp2 : p2 < zc (wz s) := by omega
    have hp6 : p2 < 6 := by omega
    obtain ⟨r0, r1, r2, r3, r4, r5⟩ := id (x4 p2 hp2)
    obtain ⟨b1, b2, b3, b4, b5, b6⟩ := id (z4 p2 hp2)
    refine g_if_ne f_X10_from_5 rfl (by omega) (fun hx => ?_) (fun hx => ?_)
    · have hcel : cel (12 + p2) = (90, p2) := cel_12 p2 hp6
      obtain ⟨P2, hP2⟩ : ∃ q : Nat, q = 2 ^ p2 := ⟨_, rfl⟩
      have hp64 : P2 < 64 := by rw [hP2]; exact Nat.pow_lt_pow_right (a := 2) (m := p2) (n := 6) (by decide) hp6
      have loop : ∀ (k n : Nat) (M1 : Mm), n + k = 12 → askB M M1 (12 + p2) → Go γ Ω mX10_from (Zm γ Ω 1 0 0 (fun x S' M' => x = a_from s (p2 : Int) ∧ S' = S ∧ RepM M' s ∧ mdl M M')) 0 0 S M1 22 [some (vr Ω 87), some (vi (p2 : Int)), some (vi (zP (wz s) p2 2 : Int)), some (vi (bitsP n (fun t => agreeN (wz s) p2 t (zP (wz s) p2 1) (wn s).2.1) : Int)), some (vi (n : Int))] [] := by
        intro k
        induction k with
        | zero =>
          intro n M1 hk ha
          have hn : n = 12 := by omega
          subst hn
          refine g_ild f_X10_from_22 rfl ?_
          refine g_const f_X10_from_24 ?_
          refine g_icmp_ge f_X10_from_26 rfl (by omega) (by omega) (fun hc => ?_) (fun hc => ?_)
          · refine g_alv f_X10_from_62 rfl ?_
            refine g_getR f_X10_from_63 (by assumption) (by assumption) ?_
            refine g_ild f_X10_from_66 rfl ?_
            refine g_ild f_X10_from_67 rfl ?_
            refine g_ias f_X10_from_68 (by assumption) p2 (by omega) (by omega) ?_
            refine g_ild f_X10_from_69 rfl ?_
            refine g_reti f_X10_from_70 rfl ?_ (Nat.zero_le _) (Nat.zero_le _)
            have e : a_from s (p2 : Int) = (bitsP 12 (fun t => agreeN (wz s) p2 t (zP (wz s) p2 1) (wn s).2.1) : Int) := if_pos hip
            rw [e]
            have h9 := ha.back (by omega) hcel ⟨by decide, by decide⟩ r2.symm
            exact ⟨rfl, rfl, hW.askA hO0 h9, h9.mdl⟩
          · exact absurd (by omega) hc
        | succ k ih =>
          intro n M1 hk ha
          have hX1 := MX_askB hX z1 (a := 2) hp2 (by decide) n (show askB M M1 (6 * 2 + p2) from ha)
          have hO1 : okZ (setP (wz s) p2 2 n) := okZ_setP hO (by omega)
          have es : setP (setP (wz s) p2 2 n) p2 1 (zP (wz s) p2 1) = setP (wz s) p2 2 n := by
            have e9 : zP (wz s) p2 1 = zP (setP (wz s) p2 2 n) p2 1 := by show _ = (if p2 = p2 ∧ 1 = 2 then n else zP (wz s) p2 1); rw [if_neg (by omega)]
            rw [e9]; exact setP_id _ _ _
          have hag := agree_wr (z := wz s) (T := (wn s).2.1) (p := p2) (t := n) (v := zP (wz s) p2 1) (by rw [es]; exact hO1) hD hp2 sS
          rw [es, ← hP2] at hag
          have hbl := bitsP_lt (fun t => agreeN (wz s) p2 t (zP (wz s) p2 1) (wn s).2.1) n
          have hp2l : 2 ^ n ≤ 2048 := p2le (by omega)
          have hwr : -5 ≤ wrB (setP (wz s) p2 2 n) (wn s).2.1 P2 ∧ wrB (setP (wz s) p2 2 n) (wn s).2.1 P2 ≤ 5 := by
            unfold wrB
            rcases fstF_cases (wn s).2.1.length 0 (badB (setP (wz s) p2 2 n) (wn s).2.1 P2) with ⟨a, -⟩ | ⟨j, -, b, a, -⟩
            · rw [a]; omega
            · rw [a]; omega
          refine g_ild f_X10_from_22 rfl ?_
          refine g_const f_X10_from_24 ?_
          refine g_icmp_ge f_X10_from_26 rfl (by omega) (by omega) (fun hc => ?_) (fun hc => ?_)
          · exact absurd hc (by omega)
          refine g_alv f_X10_from_29 rfl ?_
          refine g_getR f_X10_from_30 (by assumption) (by assumption) ?_
          refine g_ild f_X10_from_33 rfl ?_
          refine g_ild f_X10_from_34 rfl ?_
          refine g_ias f_X10_from_36 (by assumption) p2 (by omega) (by omega) ?_
          refine g_alv f_X10_from_37 rfl ?_
          refine g_const f_X10_from_38 ?_
          refine g_ild f_X10_from_39 rfl ?_
          refine g_ishl f_X10_from_40 ?_
          refine g_as (show bshl (1 : Int) (p2 : Int) = (P2 : Int) by rw [show (1 : Int) = ((1 : Nat) : Int) from rfl, bshl_n (by omega) (by rw [← hP2]; omega), Nat.one_mul, ← hP2]) ?_
          refine g_cv1 hγ (c_mwrongBy hG hX1 hO1 hD (d5.askB l5 (by omega) ⟨by decide, by decide⟩ ha) sS l5 (bits := P2) hp64) f_X10_from_41 mo_X10_wrongBy mv_X10_wrongBy (by assumption) rfl rfl (Nat.le_of_ble_eq_true rfl) ⟨by decide, by decide⟩ ⟨Nat.le_refl _, Nat.le_refl _⟩ (fun x S' M2 hq2 => ?_)
          obtain ⟨rfl, q1, h2⟩ := hq2
          obtain rfl := q1.symm
          have ha2 := ha.set (by omega) hcel ⟨by decide, by decide⟩ h2
          refine g_const f_X10_from_44 ?_
          refine g_icmp_ne f_X10_from_46 rfl (by omega) (by omega) (fun hb => ?_) (fun hb => ?_)
          · refine g_inc_4 f_X10_from_56 (by decide) c1i ?_
            refine g_goto f_X10_from_59 ?_
            rw [bitsP_skip (fun t => agreeN (wz s) p2 t (zP (wz s) p2 1) (wn s).2.1) n (fun h => hb (hag.mpr h))]
            exact ih (n + 1) M2 (by omega) ha2
          · refine g_ild f_X10_from_49 rfl ?_
            refine g_const f_X10_from_50 ?_
            refine g_ild f_X10_from_51 rfl ?_
            refine g_ishl f_X10_from_53 ?_
            rw [show (1 : Int) = ((1 : Nat) : Int) from rfl, bshl_n (by omega) (by omega), Nat.one_mul]
            refine g_ior f_X10_from_54 ?_
            rw [bor_n (by omega) (by omega), bitsP_or (fun t => agreeN (wz s) p2 t (zP (wz s) p2 1) (wn s).2.1) n (hag.mp (by omega))]
            refine g_ist_3 f_X10_from_55 (by decide) c1i ?_
            refine g_inc_4 f_X10_from_56 (by decide) c1i ?_
            refine g_goto f_X10_from_59 ?_
            exact ih (n + 1) M2 (by omega) ha2
      refine g_alv f_X10_from_10 rfl ?_
      refine g_getR f_X10_from_11 (by assumption) (by assumption) ?_
      refine g_ild f_X10_from_14 rfl ?_
      refine g_ial f_X10_from_15 (by assumption) _ rfl (by omega) ?_
      rw [r2]
      refine g_ist_2 f_X10_from_16 (by decide) c1i ?_
      refine g_const f_X10_from_17 ?_
      refine g_ist_3 f_X10_from_18 (by decide) c1i ?_
      refine g_const f_X10_from_19 ?_
      refine g_ist_4 f_X10_from_20 (by decide) c1i ?_
      exact loop 12 0 M rfl askB.rf
    · exact absurd (by omega) hx
  · rw [if_neg hip] at hx
    subst hx
    refine g_if_ne f_X10_from_5 rfl (by omega) (fun hx => ?_) (fun hx => ?_)
    · exact absurd hx (by omega)
    refine g_const f_X10_from_8 ?_
    refine g_reti f_X10_from_9 rfl ?_ (Nat.zero_le _) (Nat.zero_le _)
    have e : a_from s p = -1 := if_neg hip
    rw [e]
    exact ⟨rfl, rfl, hW, mdl.rf⟩

set_option maxHeartbeats 4000000 in
set_option maxRecDepth 100000 in
theorem m_can {Ω : Ow} {S : Sg} {M : Mm} {s : Wt} (hG : Gr S) (hW : RepM M s) (hO0 : okW s) (p y : Int) (hp : rg p) (hy0 : rg y) : Ct Ω mX10_can 8 0 0 1 [vr Ω 87, vi p, vi y] S M (fun x S' M' => x = a_can s p y ∧ S' = S ∧ RepM M' s ∧ mdl M M') := by
  refine Ct.mk (by decide) (Nat.le_of_ble_eq_true rfl) [some (vr Ω 87), some (vi p), some (vi y), none, none, none, none] (by intro q hq; exact hq) (fun γ hγ hz => ?_)
  have hX := hW.mx hO0
  have hO : okZ (wz s) := hO0.1.1
  have hD : zd (wz s) ≤ 9999 := hO0.1.2.1
  obtain ⟨x1, x2, x3, x4, x5⟩ := id hX
  obtain ⟨z1, z2, z3, z4, z5⟩ := id hO
  obtain ⟨lw, d1, d2, d3, d4, d5, d6, d7, d8⟩ := hW.dr hO0
  obtain ⟨lz, l5, l10, l8⟩ := hO0.1.len
  have sS : okSeen (wn s).2.1 := hO0.1.2.2.1
  have sP : okPlan (zc (wz s)) (wn s).2.2.1 := hO0.1.2.2.2.1
  have sB : okBook (wn s).2.2.2 := hO0.1.2.2.2.2.1
  have o87 := om87 hG
  have gM2 : _ = ((89 : Nat) : Int) := grn hG (k := 87) (j := 2) (by decide)
  have aM89 := arn hG (r := 89) (c := 12) (n := 6) (by decide +kernel)
  refine g_alv f_X10_can_0 rfl ?_
  refine g_ild f_X10_can_1 rfl ?_
  refine g_cv1 hγ (c_misOne hG hX hO p (by omega)) f_X10_can_2 mo_X10_isOne mv_X10_isOne (by assumption) rfl rfl (Nat.le_of_ble_eq_true rfl) ⟨by decide, by decide⟩ ⟨Nat.le_refl _, Nat.le_refl _⟩ (fun x S' M' hq9 => ?_)
  obtain ⟨hx, q1, q2⟩ := hq9
  obtain rfl := q1.symm
  obtain rfl := q2.symm
  by_cases hip : 0 ≤ p ∧ p < (zc (wz s) : Int)
  · rw [if_pos hip] at hx
    subst hx
    obtain ⟨p2, rfl⟩ := Int.eq_ofNat_of_zero_le hip.1
    have hp2 : p2 < zc (wz s) := by omega
    have hp6 : p2 < 6 := by omega
    obtain ⟨r0, r1, r2, r3, r4, r5⟩ := id (x4 p2 hp2)
    obtain ⟨b1, b2, b3, b4, b5, b6⟩ := id (z4 p2 hp2)
    refine g_if_eq f_X10_can_5 rfl (by omega) (fun hx => ?_) (fun hx => ?_)
    · exact absurd hx (by omega)
    refine g_ild f_X10_can_8 rfl ?_
    refine g_const f_X10_can_9 ?_
    refine g_const f_X10_can_10 ?_
    refine g_cs1 hγ (c_mwithin y 0 1 (by omega) (by omega) (by omega)) f_X10_can_11 mo_X10_within mt_X10_within rfl (Nat.le_of_ble_eq_true rfl) ⟨by decide, by decide⟩ ⟨Nat.le_refl _, Nat.le_refl _⟩ (fun x S' M' hq9 => ?_)
    obtain ⟨hx, q1, q2⟩ := hq9
    obtain rfl := q1.symm
    obtain rfl := q2.symm
    by_cases hy1 : 0 ≤ y ∧ y ≤ 1
    · rw [if_pos hy1] at hx
      subst hx
      refine g_if_ne f_X10_can_14 rfl (by omega) (fun hx => ?_) (fun hx => ?_)
      · have hcel : cel (6 + p2) = (89, p2) := cel_6 p2 hp6
        obtain ⟨P2, hP2⟩ : ∃ q : Nat, q = 2 ^ p2 := ⟨_, rfl⟩
        have hp64 : P2 < 64 := by rw [hP2]; exact Nat.pow_lt_pow_right (a := 2) (m := p2) (n := 6) (by decide) hp6
        have loop : ∀ (k n : Nat) (M1 : Mm), n + k = 10 → askB M M1 (6 + p2) → Go γ Ω mX10_can (Zm γ Ω 1 0 0 (fun x S' M' => x = a_can s (p2 : Int) y ∧ S' = S ∧ RepM M' s ∧ mdl M M')) 0 0 S M1 37 [some (vr Ω 87), some (vi (p2 : Int)), some (vi y), some (vi (zP (wz s) p2 1 : Int)), some (vi ((canN (fun v => agreeN (wz s) p2 (zP (wz s) p2 2) v (wn s).2.1) n).2 : Int)), some (vi (canN (fun v => agreeN (wz s) p2 (zP (wz s) p2 2) v (wn s).2.1) n).1), some (vi (9 - (n : Int)))] [] := by
          intro k
          induction k with
          | zero =>
            intro n M1 hk ha
            have hn : n = 10 := by omega
            subst hn
            have hr1 := canN_rg (fun v => agreeN (wz s) p2 (zP (wz s) p2 2) v (wn s).2.1) 10
            have hr2 := canN_le (fun v => agreeN (wz s) p2 (zP (wz s) p2 2) v (wn s).2.1) 10
            refine g_ild f_X10_can_37 rfl ?_
            refine g_if_lt f_X10_can_39 rfl (by omega) (fun hc => ?_) (fun hc => ?_)
            · refine g_alv f_X10_can_78 rfl ?_
              refine g_getR f_X10_can_79 (by assumption) (by assumption) ?_
              refine g_ild f_X10_can_82 rfl ?_
              refine g_ild f_X10_can_83 rfl ?_
              refine g_ias f_X10_can_84 (by assumption) p2 (by omega) (by omega) ?_
              refine g_ild f_X10_can_85 rfl ?_
              refine g_if_ne f_X10_can_86 rfl (by omega) (fun h0 => ?_) (fun h0 => ?_)
              · refine g_ild f_X10_can_94 rfl ?_
                refine g_reti f_X10_can_96 rfl ?_ (Nat.zero_le _) (Nat.zero_le _)
                have h9 := ha.back (by omega) hcel ⟨by decide, by decide⟩ r1.symm
                have e : a_can s (p2 : Int) y = (canN (fun v => agreeN (wz s) p2 (zP (wz s) p2 2) v (wn s).2.1) 10).1 := (if_neg (fun h => h ⟨hip, hy1⟩)).trans (if_neg (by omega))
                rw [e]
                exact ⟨rfl, rfl, hW.askA hO0 h9, h9.mdl⟩
              · refine g_ild f_X10_can_89 rfl ?_
                refine g_goto f_X10_can_91 ?_
                refine g_reti f_X10_can_96 rfl ?_ (Nat.zero_le _) (Nat.zero_le _)
                have h9 := ha.back (by omega) hcel ⟨by decide, by decide⟩ r1.symm
                have e : a_can s (p2 : Int) y = ((canN (fun v => agreeN (wz s) p2 (zP (wz s) p2 2) v (wn s).2.1) 10).2 : Int) := (if_neg (fun h => h ⟨hip, hy1⟩)).trans (if_pos (by omega))
                rw [e]
                exact ⟨rfl, rfl, hW.askA hO0 h9, h9.mdl⟩
            · exact absurd (by omega) hc
          | succ k ih =>
            intro n M1 hk ha
            have hn : n < 10 := by omega
            have hX1 := MX_askB hX z1 (a := 1) hp2 (by decide) (9 - n) (show askB M M1 (6 * 1 + p2) from ha)
            have hO1 : okZ (setP (wz s) p2 1 (9 - n)) := okZ_setP hO (by omega)
            have es : setP (setP (wz s) p2 2 (zP (wz s) p2 2)) p2 1 (9 - n) = setP (wz s) p2 1 (9 - n) := by rw [setP_id]
            have hag := agree_wr (z := wz s) (T := (wn s).2.1) (p := p2) (t := zP (wz s) p2 2) (v := 9 - n) (by rw [es]; exact hO1) hD hp2 sS
            rw [es, ← hP2] at hag
            have hr1 := canN_rg (fun v => agreeN (wz s) p2 (zP (wz s) p2 2) v (wn s).2.1) n
            have hr2 := canN_le (fun v => agreeN (wz s) p2 (zP (wz s) p2 2) v (wn s).2.1) n
            have hcs : canN (fun v => agreeN (wz s) p2 (zP (wz s) p2 2) v (wn s).2.1) (n + 1) = if agreeN (wz s) p2 (zP (wz s) p2 2) (9 - n) (wn s).2.1 = true then (((9 - n : Nat) : Int), (canN (fun v => agreeN (wz s) p2 (zP (wz s) p2 2) v (wn s).2.1) n).2 + 1) else canN (fun v => agreeN (wz s) p2 (zP (wz s) p2 2) v (wn s).2.1) n := rfl
            have hwr : -5 ≤ wrB (setP (wz s) p2 1 (9 - n)) (wn s).2.1 P2 ∧ wrB (setP (wz s) p2 1 (9 - n)) (wn s).2.1 P2 ≤ 5 := by
              unfold wrB
              rcases fstF_cases (wn s).2.1.length 0 (badB (setP (wz s) p2 1 (9 - n)) (wn s).2.1 P2) with ⟨a, -⟩ | ⟨j, -, b, a, -⟩
              · rw [a]; omega
              · rw [a]; omega
            refine g_ild f_X10_can_37 rfl ?_
            refine g_if_lt f_X10_can_39 rfl (by omega) (fun hc => ?_) (fun hc => ?_)
            · exact absurd hc (by omega)
            refine g_alv f_X10_can_42 rfl ?_
            refine g_getR f_X10_can_43 (by assumption) (by assumption) ?_
            refine g_ild f_X10_can_46 rfl ?_
            refine g_ild f_X10_can_47 rfl ?_
            refine g_as (show (9 - (n : Int)) = ((9 - n : Nat) : Int) by omega) ?_
            refine g_ias f_X10_can_49 (by assumption) p2 (by omega) (by omega) ?_
            refine g_alv f_X10_can_50 rfl ?_
            refine g_const f_X10_can_51 ?_
            refine g_ild f_X10_can_52 rfl ?_
            refine g_ishl f_X10_can_53 ?_
            refine g_as (show bshl (1 : Int) (p2 : Int) = (P2 : Int) by rw [show (1 : Int) = ((1 : Nat) : Int) from rfl, bshl_n (by omega) (by rw [← hP2]; omega), Nat.one_mul, ← hP2]) ?_
            refine g_cv1 hγ (c_mwrongBy hG hX1 hO1 hD (d5.askB l5 (by omega) ⟨by decide, by decide⟩ ha) sS l5 (bits := P2) hp64) f_X10_can_54 mo_X10_wrongBy mv_X10_wrongBy (by assumption) rfl rfl (Nat.le_of_ble_eq_true rfl) ⟨by decide, by decide⟩ ⟨Nat.le_refl _, Nat.le_refl _⟩ (fun x S' M2 hq2 => ?_)
            obtain ⟨rfl, q1, h2⟩ := hq2
            obtain rfl := q1.symm
            have ha2 := ha.set (by omega) hcel ⟨by decide, by decide⟩ h2
            refine g_const f_X10_can_57 ?_
            refine g_icmp_eq f_X10_can_59 rfl (by omega) (by omega) (fun hb => ?_) (fun hb => ?_)
            · refine g_inc_4 f_X10_can_65 (by decide) c1i ?_
              refine g_ild f_X10_can_68 rfl ?_
              refine g_as (show (9 - (n : Int)) = ((9 - n : Nat) : Int) by omega) ?_
              refine g_ist_5 f_X10_can_70 (by decide) c1i ?_
              refine g_inc_6 f_X10_can_72 (by decide) c1i ?_
              refine g_goto f_X10_can_75 ?_
              have h9 := ih (n + 1) M2 (by omega) ha2
              rw [show (9 - ((n + 1 : Nat) : Int)) = 9 - (n : Int) + -1 by omega] at h9
              rw [hcs, if_pos (hag.mp (by omega))] at h9
              exact h9
            · refine g_goto f_X10_can_62 ?_
              refine g_inc_6 f_X10_can_72 (by decide) c1i ?_
              refine g_goto f_X10_can_75 ?_
              have h9 := ih (n + 1) M2 (by omega) ha2
              rw [show (9 - ((n + 1 : Nat) : Int)) = 9 - (n : Int) + -1 by omega] at h9
              rw [hcs, if_neg (fun h => hb (hag.mpr h))] at h9
              exact h9
        refine g_alv f_X10_can_19 rfl ?_
        refine g_getR f_X10_can_20 (by assumption) (by assumption) ?_
        refine g_ild f_X10_can_23 rfl ?_
        refine g_ial f_X10_can_24 (by assumption) _ rfl (by omega) ?_
        rw [r1]
        refine g_ist_3 f_X10_can_25 (by decide) c1i ?_
        refine g_const f_X10_can_26 ?_
        refine g_ist_4 f_X10_can_27 (by decide) c1i ?_
        refine g_const f_X10_can_29 ?_
        refine g_ist_5 f_X10_can_31 (by decide) c1i ?_
        refine g_const f_X10_can_33 ?_
        refine g_ist_6 f_X10_can_35 (by decide) c1i ?_
        exact loop 10 0 M rfl askB.rf
      · exact absurd (by omega) hx
    · rw [if_neg hy1] at hx
      subst hx
      refine g_if_ne f_X10_can_14 rfl (by omega) (fun hx => ?_) (fun hx => ?_)
      · exact absurd hx (by omega)
      refine g_const f_X10_can_17 ?_
      refine g_reti f_X10_can_18 rfl ?_ (Nat.zero_le _) (Nat.zero_le _)
      first
      | (have e : a_can s p y = -1 := if_pos (by intro h; exact hip h.1); rw [e]; exact ⟨rfl, rfl, hW, mdl.rf⟩)
      | (have e : a_can s (p2 : Int) y = -1 := if_pos (by intro h; exact hy1 h.2); rw [e]; exact ⟨rfl, rfl, hW, mdl.rf⟩)
  · rw [if_neg hip] at hx
    subst hx
    refine g_if_eq f_X10_can_5 rfl (by omega) (fun hx => ?_) (fun hx => ?_)
    · refine g_const f_X10_can_17 ?_
      refine g_reti f_X10_can_18 rfl ?_ (Nat.zero_le _) (Nat.zero_le _)
      first
      | (have e : a_can s p y = -1 := if_pos (by intro h; exact hip h.1); rw [e]; exact ⟨rfl, rfl, hW, mdl.rf⟩)
      | (have e : a_can s (p2 : Int) y = -1 := if_pos (by intro h; exact hy1 h.2); rw [e]; exact ⟨rfl, rfl, hW, mdl.rf⟩)
    · exact absurd (by omega) hx
