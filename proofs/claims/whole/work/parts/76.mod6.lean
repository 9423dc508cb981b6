/-! contracts: the model's calls: one .. share -/
set_option maxHeartbeats 4000000 in
set_option maxRecDepth 100000 in
theorem m_one {Ω : Ow} {S : Sg} {M : Mm} {s : Wt} (hG : Gr S) (hW : RepM M s) (hO0 : okW s) (k v c : Int) (hk0 : rg k) (hv0 : rg v) (hc0 : rg c) : Ct Ω mX10_one 3 0 0 1 [vr Ω 87, vi k, vi v, vi c] S M (fun x S' M' => x = (a_one s k v c).1 ∧ S' = S ∧ RepM M' (a_one s k v c).2 ∧ mdl M M') := by
  refine Ct.mk (by decide) (Nat.le_of_ble_eq_true rfl) [some (vr Ω 87), some (vi k), some (vi v), some (vi c), none] (by intro q hq; exact hq) (fun γ hγ hz => ?_)
  have hX := hW.mx hO0
  have hO : okZ (wz s) := hO0.1.1
  have hD : zd (wz s) ≤ 9999 := hO0.1.2.1
  obtain ⟨x1, x2, x3, x4, x5⟩ := id hX
  obtain ⟨z1, z2, z3, z4, z5⟩ := id hO
  obtain ⟨lw, d1, d2, d3, d4, d5, d6, d7, d8⟩ := hW.dr hO0
  obtain ⟨lz, l5, l10, l8⟩ := hO0.1.len
  have sS : okSeen (wn s).2.1 := hO0.1.2.2.1
  have sP : okPlan (zc (wz s)) (wn s).2.2.1 := hO0.1.2.2.2.1
  have sB : okBook (wn s).2.2.2 := hO0.1.2.2.2.2.1
  have o87 := om87 hG
  have gM1 : _ = ((88 : Nat) : Int) := grn hG (k := 87) (j := 1) (by decide)
  have aM88 := arn hG (r := 88) (c := 12) (n := 6) (by decide +kernel)
  have gM2 : _ = ((89 : Nat) : Int) := grn hG (k := 87) (j := 2) (by decide)
  have aM89 := arn hG (r := 89) (c := 12) (n := 6) (by decide +kernel)
  have gM3 : _ = ((90 : Nat) : Int) := grn hG (k := 87) (j := 3) (by decide)
  have aM90 := arn hG (r := 90) (c := 12) (n := 6) (by decide +kernel)
  have gM4 : _ = ((91 : Nat) : Int) := grn hG (k := 87) (j := 4) (by decide)
  have aM91 := arn hG (r := 91) (c := 12) (n := 6) (by decide +kernel)
  have gM5 : _ = ((92 : Nat) : Int) := grn hG (k := 87) (j := 5) (by decide)
  have aM92 := arn hG (r := 92) (c := 12) (n := 6) (by decide +kernel)
  have gM6 : _ = ((93 : Nat) : Int) := grn hG (k := 87) (j := 6) (by decide)
  have aM93 := arn hG (r := 93) (c := 12) (n := 24) (by decide +kernel)
  refine g_ild f_X10_one_0 rfl ?_
  refine g_const f_X10_one_1 ?_
  refine g_const f_X10_one_2 ?_
  refine g_cs1 hγ (c_mwithin k 0 6 (by omega) (by omega) (by omega)) f_X10_one_4 mo_X10_within mt_X10_within rfl (Nat.le_of_ble_eq_true rfl) ⟨by decide, by decide⟩ ⟨Nat.le_refl _, Nat.le_refl _⟩ (fun x S' M' hq9 => ?_)
  obtain ⟨hx, q1, q2⟩ := hq9
  obtain rfl := q1.symm
  obtain rfl := q2.symm
  by_cases hk : 0 ≤ k ∧ k ≤ 6
  · rw [if_pos hk] at hx
    subst hx
    refine g_if_eq f_X10_one_7 rfl (by omega) (fun hx => ?_) (fun hx => ?_)
    · exact absurd hx (by omega)
    refine g_ild f_X10_one_10 rfl ?_
    refine g_cs1 hγ (c_misPlace c (by omega)) f_X10_one_11 mo_X10_isPlace mt_X10_isPlace rfl (Nat.le_of_ble_eq_true rfl) ⟨by decide, by decide⟩ ⟨Nat.le_refl _, Nat.le_refl _⟩ (fun x S' M' hq9 => ?_)
    obtain ⟨hx, q1, q2⟩ := hq9
    obtain rfl := q1.symm
    obtain rfl := q2.symm
    by_cases hc : 0 ≤ c ∧ c ≤ 11
    · rw [if_pos hc] at hx
      subst hx
      refine g_if_ne f_X10_one_14 rfl (by omega) (fun hx => ?_) (fun hx => ?_)
      · refine g_ild f_X10_one_19 rfl ?_
        refine g_const f_X10_one_20 ?_
        refine g_const f_X10_one_21 ?_
        refine g_cs1 hγ (c_mwithin v 0 9 (by omega) (by omega) (by omega)) f_X10_one_23 mo_X10_within mt_X10_within rfl (Nat.le_of_ble_eq_true rfl) ⟨by decide, by decide⟩ ⟨Nat.le_refl _, Nat.le_refl _⟩ (fun x S' M' hq9 => ?_)
        obtain ⟨hx, q1, q2⟩ := hq9
        obtain rfl := q1.symm
        obtain rfl := q2.symm
        by_cases hv : 0 ≤ v ∧ v ≤ 9
        · rw [if_pos hv] at hx
          subst hx
          refine g_if_ne f_X10_one_26 rfl (by omega) (fun hx => ?_) (fun hx => ?_)
          · refine g_alv f_X10_one_32 rfl ?_
            refine g_getI f_X10_one_33 (by assumption) ?_
            rw [x1]
            refine g_const f_X10_one_36 ?_
            refine g_icmp_ne f_X10_one_38 rfl (by omega) (by omega) (fun h6 => ?_) (fun h6 => ?_)
            · obtain ⟨k, rfl⟩ := Int.eq_ofNat_of_zero_le hk.1
              obtain ⟨v, rfl⟩ := Int.eq_ofNat_of_zero_le hv.1
              obtain ⟨c, rfl⟩ := Int.eq_ofNat_of_zero_le hc.1
              have loop : ∀ (m n : Nat) (M1 : Mm), n + m = 4 → joinM M M1 (wz s) (k : Int) v c n → Go γ Ω mX10_one (Zm γ Ω 1 0 0 (fun x S' M' => x = (a_one s (k : Int) v c).1 ∧ S' = S ∧ RepM M' (a_one s (k : Int) v c).2 ∧ mdl M M')) 0 0 S M1 98 [some (vr Ω 87), some (vi (k : Int)), some (vi (v : Int)), some (vi (c : Int)), some (vi (n : Int))] [] := by
                intro m
                induction m with
                | zero =>
                  intro n M1 hm hj
                  have hn : n = 4 := by omega
                  subst hn
                  have y1 : M1 87 0 = (zc (wz s) : Int) := by rw [hj.1 87 (by omega)]; exact x1
                  refine g_ild f_X10_one_98 rfl ?_
                  refine g_const f_X10_one_100 ?_
                  refine g_icmp_ge f_X10_one_101 rfl (by omega) (by omega) (fun hc9 => ?_) (fun hc9 => ?_)
                  · refine g_alv f_X10_one_125 rfl ?_
                    refine g_dup f_X10_one_126 rfl ?_
                    refine g_getI f_X10_one_127 (by assumption) ?_
                    rw [y1]
                    refine g_dup_x1 f_X10_one_130 rfl rfl ?_
                    refine g_const f_X10_one_131 ?_
                    refine g_iadd f_X10_one_132 ?_
                    refine g_putI f_X10_one_133 rfl (by assumption) ?_
                    refine g_reti f_X10_one_136 rfl ?_ (Nat.zero_le _) (Nat.zero_le _)
                    have e : a_one s (k : Int) v c = ((zc (wz s) : Int), putZ s (joinZ (wz s) k v c)) := (if_neg (fun h => h ⟨hk, hc⟩)).trans ((if_neg (fun h => h hv)).trans (if_neg (by omega)))
                    rw [e]
                    obtain ⟨j1, j2⟩ := hj.fin hX
                    exact ⟨rfl, rfl, hW.st hO0 j1 j2 rfl (by show zc (wz s) + 1 ≤ 6; omega), j1.mdl⟩
                  · exact absurd (by omega) hc9
                | succ m ih =>
                  intro n M1 hm hj
                  have y1 : M1 87 0 = (zc (wz s) : Int) := by rw [hj.1 87 (by omega)]; exact x1
                  refine g_ild f_X10_one_98 rfl ?_
                  refine g_const f_X10_one_100 ?_
                  refine g_icmp_ge f_X10_one_101 rfl (by omega) (by omega) (fun hc9 => ?_) (fun hc9 => ?_)
                  · exact absurd hc9 (by omega)
                  refine g_alv f_X10_one_104 rfl ?_
                  refine g_getR f_X10_one_105 (by assumption) (by assumption) ?_
                  refine g_const f_X10_one_108 ?_
                  refine g_alv f_X10_one_109 rfl ?_
                  refine g_getI f_X10_one_110 (by assumption) ?_
                  rw [y1]
                  refine g_imul f_X10_one_113 ?_
                  refine g_ild f_X10_one_114 rfl ?_
                  refine g_iadd f_X10_one_116 ?_
                  refine g_const f_X10_one_117 ?_
                  refine g_ias f_X10_one_118 (by assumption) (4 * zc (wz s) + n) (by omega) (by omega) ?_
                  refine g_inc_4 f_X10_one_119 (by decide) c1i ?_
                  refine g_goto f_X10_one_122 ?_
                  exact ih (n + 1) _ (by omega) hj.nx
              refine g_alv f_X10_one_44 rfl ?_
              refine g_getR f_X10_one_45 (by assumption) (by assumption) ?_
              refine g_alv f_X10_one_48 rfl ?_
              refine g_getI f_X10_one_49 (by assumption) ?_
              rw [x1]
              refine g_ild f_X10_one_52 rfl ?_
              refine g_ias f_X10_one_53 (by assumption) (zc (wz s)) (by omega) (by omega) ?_
              refine g_alv f_X10_one_54 rfl ?_
              refine g_getR f_X10_one_55 (by assumption) (by assumption) ?_
              refine g_alv f_X10_one_58 rfl ?_
              refine g_getI f_X10_one_59 (by assumption) ?_
              rw [up_row (by decide), x1]
              refine g_ild f_X10_one_62 rfl ?_
              refine g_ias f_X10_one_63 (by assumption) (zc (wz s)) (by omega) (by omega) ?_
              refine g_alv f_X10_one_64 rfl ?_
              refine g_getR f_X10_one_65 (by assumption) (by assumption) ?_
              refine g_alv f_X10_one_68 rfl ?_
              refine g_getI f_X10_one_69 (by assumption) ?_
              rw [up_row (by decide), up_row (by decide), x1]
              refine g_ild f_X10_one_72 rfl ?_
              refine g_ias f_X10_one_73 (by assumption) (zc (wz s)) (by omega) (by omega) ?_
              refine g_alv f_X10_one_74 rfl ?_
              refine g_getR f_X10_one_75 (by assumption) (by assumption) ?_
              refine g_alv f_X10_one_78 rfl ?_
              refine g_getI f_X10_one_79 (by assumption) ?_
              rw [up_row (by decide), up_row (by decide), up_row (by decide), x1]
              refine g_const f_X10_one_82 ?_
              refine g_ias f_X10_one_84 (by assumption) (zc (wz s)) (by omega) (by omega) ?_
              refine g_alv f_X10_one_85 rfl ?_
              refine g_getR f_X10_one_86 (by assumption) (by assumption) ?_
              refine g_alv f_X10_one_89 rfl ?_
              refine g_getI f_X10_one_90 (by assumption) ?_
              rw [up_row (by decide), up_row (by decide), up_row (by decide), up_row (by decide), x1]
              refine g_const f_X10_one_93 ?_
              refine g_ias f_X10_one_94 (by assumption) (zc (wz s)) (by omega) (by omega) ?_
              refine g_const f_X10_one_95 ?_
              refine g_ist_4 f_X10_one_96 (by decide) c1i ?_
              exact loop 4 0 _ rfl (join_0 (k : Int) v c)
            · refine g_const f_X10_one_41 ?_
              refine g_reti f_X10_one_43 rfl ?_ (Nat.zero_le _) (Nat.zero_le _)
              have e : a_one s k v c = (-4, s) := (if_neg (fun h => h ⟨hk, hc⟩)).trans ((if_neg (fun h => h hv)).trans (if_pos (by omega)))
              rw [e]
              exact ⟨rfl, rfl, hW, mdl.rf⟩
          · exact absurd (by omega) hx
        · rw [if_neg hv] at hx
          subst hx
          refine g_if_ne f_X10_one_26 rfl (by omega) (fun hx => ?_) (fun hx => ?_)
          · exact absurd hx (by omega)
          refine g_const f_X10_one_29 ?_
          refine g_reti f_X10_one_31 rfl ?_ (Nat.zero_le _) (Nat.zero_le _)
          have e : a_one s k v c = (-2, s) := (if_neg (fun h => h ⟨hk, hc⟩)).trans (if_pos hv)
          rw [e]
          exact ⟨rfl, rfl, hW, mdl.rf⟩
      · exact absurd (by omega) hx
    · rw [if_neg hc] at hx
      subst hx
      refine g_if_ne f_X10_one_14 rfl (by omega) (fun hx => ?_) (fun hx => ?_)
      · exact absurd hx (by omega)
      refine g_const f_X10_one_17 ?_
      refine g_reti f_X10_one_18 rfl ?_ (Nat.zero_le _) (Nat.zero_le _)
      have e : a_one s k v c = (-1, s) := if_pos (by intro h; first | exact hk h.1 | exact hc h.2)
      rw [e]
      exact ⟨rfl, rfl, hW, mdl.rf⟩
  · rw [if_neg hk] at hx
    subst hx
    refine g_if_eq f_X10_one_7 rfl (by omega) (fun hx => ?_) (fun hx => ?_)
    · refine g_const f_X10_one_17 ?_
      refine g_reti f_X10_one_18 rfl ?_ (Nat.zero_le _) (Nat.zero_le _)
      have e : a_one s k v c = (-1, s) := if_pos (by intro h; first | exact hk h.1 | exact hc h.2)
      rw [e]
      exact ⟨rfl, rfl, hW, mdl.rf⟩
    · exact absurd (by omega) hx

set_option maxHeartbeats 4000000 in
set_option maxRecDepth 100000 in
theorem m_of {Ω : Ow} {S : Sg} {M : Mm} {s : Wt} (hG : Gr S) (hW : RepM M s) (hO0 : okW s) (p y : Int) (hp : rg p) (hy : rg y) : Ct Ω mX10_of 8 0 0 1 [vr Ω 87, vi p, vi y] S M (fun x S' M' => x = a_of s p y ∧ S' = S ∧ RepM M' s ∧ mdl M M') := by
  refine Ct.mk (by decide) (Nat.le_of_ble_eq_true rfl) [some (vr Ω 87), some (vi p), some (vi y)] (by intro q hq; exact hq) (fun γ hγ hz => ?_)
  have hX := hW.mx hO0
  have hO : okZ (wz s) := hO0.1.1
  have hD : zd (wz s) ≤ 9999 := hO0.1.2.1
  obtain ⟨x1, x2, x3, x4, x5⟩ := id hX
  obtain ⟨z1, z2, z3, z4, z5⟩ := id hO
  obtain ⟨lw, d1, d2, d3, d4, d5, d6, d7, d8⟩ := hW.dr hO0
  obtain ⟨lz, l5, l10, l8⟩ := hO0.1.len
  have sS : okSeen (wn s).2.1 := hO0.1.2.2.1
  have sP : okPlan (zc (wz s)) (wn s).2.2.1 := hO0.1.2.2.2.1
  have sB : okBook (wn s).2.2.2 := hO0.1.2.2.2.2.1
  have o87 := om87 hG
  have gM1 : _ = ((88 : Nat) : Int) := grn hG (k := 87) (j := 1) (by decide)
  have aM88 := arn hG (r := 88) (c := 12) (n := 6) (by decide +kernel)
  have gM2 : _ = ((89 : Nat) : Int) := grn hG (k := 87) (j := 2) (by decide)
  have aM89 := arn hG (r := 89) (c := 12) (n := 6) (by decide +kernel)
  have gM3 : _ = ((90 : Nat) : Int) := grn hG (k := 87) (j := 3) (by decide)
  have aM90 := arn hG (r := 90) (c := 12) (n := 6) (by decide +kernel)
  have gM4 : _ = ((91 : Nat) : Int) := grn hG (k := 87) (j := 4) (by decide)
  have aM91 := arn hG (r := 91) (c := 12) (n := 6) (by decide +kernel)
  have gM5 : _ = ((92 : Nat) : Int) := grn hG (k := 87) (j := 5) (by decide)
  have aM92 := arn hG (r := 92) (c := 12) (n := 6) (by decide +kernel)
  refine g_alv f_X10_of_0 rfl ?_
  refine g_ild f_X10_of_1 rfl ?_
  refine g_cv1 hγ (c_misOne hG hX hO p (by omega)) f_X10_of_2 mo_X10_isOne mv_X10_isOne (by assumption) rfl rfl (Nat.le_of_ble_eq_true rfl) ⟨by decide, by decide⟩ ⟨Nat.le_refl _, Nat.le_refl _⟩ (fun x S' M' hq9 => ?_)
  obtain ⟨hx, q1, q2⟩ := hq9
  obtain rfl := q1.symm
  obtain rfl := q2.symm
  by_cases hip : 0 ≤ p ∧ p < (zc (wz s) : Int)
  · rw [if_pos hip] at hx
    subst hx
    obtain ⟨p2, rfl⟩ := Int.eq_ofNat_of_zero_le hip.1
    have hp2 : p2 < zc (wz s) := by omega
    have hp6 : p2 < 6 := by omega
    obtain ⟨r0, r1, r2, r3, r4, r5⟩ := id (x4 p2 hp2)
    obtain ⟨b1, b2, b3, b4, b5, b6⟩ := id (z4 p2 hp2)
    refine g_if_ne f_X10_of_5 rfl (by omega) (fun hx => ?_) (fun hx => ?_)
    · refine g_ild f_X10_of_10 rfl ?_
      refine g_tab f_X10_of_11 (by omega) (fun cy => ?_) (casC (fun cy => ?_) (casC (fun cy => ?_) (casC (fun cy => ?_) (casC (fun cy => ?_) (casC (fun cy => ?_) (casC (fun cy => ?_) (casC (fun cy => ?_) (casC (fun cy => ?_) (casC (fun cy => ?_) casN)))))))))
      · refine g_const f_X10_of_119 ?_
        refine g_reti f_X10_of_120 rfl ?_ (Nat.zero_le _) (Nat.zero_le _)
        have q0 : y ≠ 0 := cy (0, 60) (by simp)
        have q1 : y ≠ 1 := cy (1, 67) (by simp)
        have q2 : y ≠ 2 := cy (2, 74) (by simp)
        have q3 : y ≠ 3 := cy (3, 81) (by simp)
        have q4 : y ≠ 4 := cy (4, 88) (by simp)
        have q5 : y ≠ 5 := cy (5, 95) (by simp)
        have q6 : y ≠ 6 := cy (6, 101) (by simp)
        have q7 : y ≠ 7 := cy (7, 107) (by simp)
        have q8 : y ≠ 8 := cy (8, 113) (by simp)
        have e : a_of s (p2 : Int) y = -1 := (if_pos hip).trans (by show ofN (wz s) p2 y = -1; unfold ofN; rw [if_neg q0]; rw [if_neg q1]; rw [if_neg q2]; rw [if_neg q3]; rw [if_neg q4]; rw [if_neg q5]; rw [if_neg q6]; rw [if_neg q7]; rw [if_neg q8])
        rw [e]
        exact ⟨rfl, rfl, hW, mdl.rf⟩
      · refine g_alv f_X10_of_60 rfl ?_
        refine g_getR f_X10_of_61 (by assumption) (by assumption) ?_
        refine g_ild f_X10_of_64 rfl ?_
        refine g_ial f_X10_of_65 (by assumption) _ rfl (by omega) ?_
        rw [r0]
        refine g_reti f_X10_of_66 rfl ?_ (Nat.zero_le _) (Nat.zero_le _)
        have e : a_of s (p2 : Int) 0 = ofN (wz s) p2 0 := if_pos hip
        subst cy
        rw [e]
        exact ⟨rfl, rfl, hW, mdl.rf⟩
      · refine g_alv f_X10_of_67 rfl ?_
        refine g_getR f_X10_of_68 (by assumption) (by assumption) ?_
        refine g_ild f_X10_of_71 rfl ?_
        refine g_ial f_X10_of_72 (by assumption) _ rfl (by omega) ?_
        rw [r1]
        refine g_reti f_X10_of_73 rfl ?_ (Nat.zero_le _) (Nat.zero_le _)
        have e : a_of s (p2 : Int) 1 = ofN (wz s) p2 1 := if_pos hip
        subst cy
        rw [e]
        exact ⟨rfl, rfl, hW, mdl.rf⟩
      · refine g_alv f_X10_of_74 rfl ?_
        refine g_getR f_X10_of_75 (by assumption) (by assumption) ?_
        refine g_ild f_X10_of_78 rfl ?_
        refine g_ial f_X10_of_79 (by assumption) _ rfl (by omega) ?_
        rw [r2]
        refine g_reti f_X10_of_80 rfl ?_ (Nat.zero_le _) (Nat.zero_le _)
        have e : a_of s (p2 : Int) 2 = ofN (wz s) p2 2 := if_pos hip
        subst cy
        rw [e]
        exact ⟨rfl, rfl, hW, mdl.rf⟩
      · refine g_alv f_X10_of_81 rfl ?_
        refine g_getR f_X10_of_82 (by assumption) (by assumption) ?_
        refine g_ild f_X10_of_85 rfl ?_
        refine g_ial f_X10_of_86 (by assumption) _ rfl (by omega) ?_
        rw [r3]
        refine g_reti f_X10_of_87 rfl ?_ (Nat.zero_le _) (Nat.zero_le _)
        have e : a_of s (p2 : Int) 3 = ofN (wz s) p2 3 := if_pos hip
        subst cy
        rw [e]
        exact ⟨rfl, rfl, hW, mdl.rf⟩
      · refine g_alv f_X10_of_88 rfl ?_
        refine g_getR f_X10_of_89 (by assumption) (by assumption) ?_
        refine g_ild f_X10_of_92 rfl ?_
        refine g_ial f_X10_of_93 (by assumption) _ rfl (by omega) ?_
        rw [r4]
        refine g_reti f_X10_of_94 rfl ?_ (Nat.zero_le _) (Nat.zero_le _)
        have e : a_of s (p2 : Int) 4 = ofN (wz s) p2 4 := if_pos hip
        subst cy
        rw [e]
        exact ⟨rfl, rfl, hW, mdl.rf⟩
      · refine g_alv f_X10_of_95 rfl ?_
        refine g_ild f_X10_of_96 rfl ?_
        refine g_cv1 hγ (c_mreach hG hX hO hp2) f_X10_of_97 mo_X10_reach mv_X10_reach (by assumption) rfl rfl (Nat.le_of_ble_eq_true rfl) ⟨by decide, by decide⟩ ⟨Nat.le_refl _, Nat.le_refl _⟩ (fun x S' M2 hq2 => ?_)
        obtain ⟨rfl, q1, hm⟩ := hq2
        obtain rfl := q1.symm
        have ha : ask M M2 := fun k a _ => hm k a
        refine g_reti f_X10_of_100 rfl ?_ (Nat.zero_le _) (Nat.zero_le _)
        have e : a_of s (p2 : Int) 5 = ofN (wz s) p2 5 := if_pos hip
        subst cy
        rw [e]
        exact ⟨rfl, rfl, hW.askA hO0 ha.askA, ha.askA.mdl⟩
      · refine g_alv f_X10_of_101 rfl ?_
        refine g_ild f_X10_of_102 rfl ?_
        refine g_cv1 hγ (c_msight hG hX hO hp2) f_X10_of_103 mo_X10_sight mv_X10_sight (by assumption) rfl rfl (Nat.le_of_ble_eq_true rfl) ⟨by decide, by decide⟩ ⟨Nat.le_refl _, Nat.le_refl _⟩ (fun x S' M2 hq2 => ?_)
        obtain ⟨rfl, q1, ha⟩ := hq2
        obtain rfl := q1.symm
        refine g_reti f_X10_of_106 rfl ?_ (Nat.zero_le _) (Nat.zero_le _)
        have e : a_of s (p2 : Int) 6 = ofN (wz s) p2 6 := if_pos hip
        subst cy
        rw [e]
        exact ⟨rfl, rfl, hW.askA hO0 ha.askA, ha.askA.mdl⟩
      · refine g_alv f_X10_of_107 rfl ?_
        refine g_ild f_X10_of_108 rfl ?_
        refine g_cv1 hγ (c_mshun hG hX hO hp2) f_X10_of_109 mo_X10_shun mv_X10_shun (by assumption) rfl rfl (Nat.le_of_ble_eq_true rfl) ⟨by decide, by decide⟩ ⟨Nat.le_refl _, Nat.le_refl _⟩ (fun x S' M2 hq2 => ?_)
        obtain ⟨rfl, q1, ha⟩ := hq2
        obtain rfl := q1.symm
        refine g_reti f_X10_of_112 rfl ?_ (Nat.zero_le _) (Nat.zero_le _)
        have e : a_of s (p2 : Int) 7 = ofN (wz s) p2 7 := if_pos hip
        subst cy
        rw [e]
        exact ⟨rfl, rfl, hW.askA hO0 ha.askA, ha.askA.mdl⟩
      · refine g_alv f_X10_of_113 rfl ?_
        refine g_ild f_X10_of_114 rfl ?_
        refine g_cv1 hγ (c_malone hG hX hO hp2) f_X10_of_115 mo_X10_alone mv_X10_alone (by assumption) rfl rfl (Nat.le_of_ble_eq_true rfl) ⟨by decide, by decide⟩ ⟨Nat.le_refl _, Nat.le_refl _⟩ (fun x S' M2 hq2 => ?_)
        obtain ⟨rfl, q1, ha⟩ := hq2
        obtain rfl := q1.symm
        refine g_reti f_X10_of_118 rfl ?_ (Nat.zero_le _) (Nat.zero_le _)
        have e : a_of s (p2 : Int) 8 = ofN (wz s) p2 8 := if_pos hip
        subst cy
        rw [e]
        exact ⟨rfl, rfl, hW.askA hO0 ha.askA, ha.askA.mdl⟩
    · exact absurd (by omega) hx
  · rw [if_neg hip] at hx
    subst hx
    refine g_if_ne f_X10_of_5 rfl (by omega) (fun hx => ?_) (fun hx => ?_)
    · exact absurd hx (by omega)
    refine g_const f_X10_of_8 ?_
    refine g_reti f_X10_of_9 rfl ?_ (Nat.zero_le _) (Nat.zero_le _)
    have e : a_of s p y = -1 := if_neg hip
    rw [e]
    exact ⟨rfl, rfl, hW, mdl.rf⟩

set_option maxHeartbeats 4000000 in
set_option maxRecDepth 100000 in
theorem m_set {Ω : Ow} {S : Sg} {M : Mm} {s : Wt} (hG : Gr S) (hW : RepM M s) (hO0 : okW s) (p y n : Int) (hp : rg p) (hy0 : rg y) (hn0 : rg n) : Ct Ω mX10_set 3 0 0 1 [vr Ω 87, vi p, vi y, vi n] S M (fun x S' M' => x = (a_set s p y n).1 ∧ S' = S ∧ RepM M' (a_set s p y n).2 ∧ mdl M M') := by
  refine Ct.mk (by decide) (Nat.le_of_ble_eq_true rfl) [some (vr Ω 87), some (vi p), some (vi y), some (vi n), none] (by intro q hq; exact hq) (fun γ hγ hz => ?_)
  have hX := hW.mx hO0
  have hO : okZ (wz s) := hO0.1.1
  have hD : zd (wz s) ≤ 9999 := hO0.1.2.1
  obtain ⟨x1, x2, x3, x4, x5⟩ := id hX
  obtain ⟨z1, z2, z3, z4, z5⟩ := id hO
  obtain ⟨lw, d1, d2, d3, d4, d5, d6, d7, d8⟩ := hW.dr hO0
  obtain ⟨lz, l5, l10, l8⟩ := hO0.1.len
  have sS : okSeen (wn s).2.1 := hO0.1.2.2.1
  have sP : okPlan (zc (wz s)) (wn s).2.2.1 := hO0.1.2.2.2.1
  have sB : okBook (wn s).2.2.2 := hO0.1.2.2.2.2.1
  have o87 := om87 hG
  have gM3 : _ = ((90 : Nat) : Int) := grn hG (k := 87) (j := 3) (by decide)
  have aM90 := arn hG (r := 90) (c := 12) (n := 6) (by decide +kernel)
  have gM4 : _ = ((91 : Nat) : Int) := grn hG (k := 87) (j := 4) (by decide)
  have aM91 := arn hG (r := 91) (c := 12) (n := 6) (by decide +kernel)
  refine g_alv f_X10_set_0 rfl ?_
  refine g_ild f_X10_set_1 rfl ?_
  refine g_cv1 hγ (c_misOne hG hX hO p (by omega)) f_X10_set_2 mo_X10_isOne mv_X10_isOne (by assumption) rfl rfl (Nat.le_of_ble_eq_true rfl) ⟨by decide, by decide⟩ ⟨Nat.le_refl _, Nat.le_refl _⟩ (fun x S' M' hq9 => ?_)
  obtain ⟨hx, q1, q2⟩ := hq9
  obtain rfl := q1.symm
  obtain rfl := q2.symm
  by_cases hip : 0 ≤ p ∧ p < (zc (wz s) : Int)
  · rw [if_pos hip] at hx
    subst hx
    obtain ⟨p2, rfl⟩ := Int.eq_ofNat_of_zero_le hip.1
    have hp2 : p2 < zc (wz s) := by omega
    have hp6 : p2 < 6 := by omega
    obtain ⟨r0, r1, r2, r3, r4, r5⟩ := id (x4 p2 hp2)
    obtain ⟨b1, b2, b3, b4, b5, b6⟩ := id (z4 p2 hp2)
    refine g_if_eq f_X10_set_5 rfl (by omega) (fun hx => ?_) (fun hx => ?_)
    · exact absurd hx (by omega)
    refine g_ild f_X10_set_8 rfl ?_
    refine g_const f_X10_set_9 ?_
    refine g_const f_X10_set_10 ?_
    refine g_cs1 hγ (c_mwithin y 0 1 (by omega) (by omega) (by omega)) f_X10_set_11 mo_X10_within mt_X10_within rfl (Nat.le_of_ble_eq_true rfl) ⟨by decide, by decide⟩ ⟨Nat.le_refl _, Nat.le_refl _⟩ (fun x S' M' hq9 => ?_)
    obtain ⟨hx, q1, q2⟩ := hq9
    obtain rfl := q1.symm
    obtain rfl := q2.symm
    by_cases hy1 : 0 ≤ y ∧ y ≤ 1
    · rw [if_pos hy1] at hx
      subst hx
      refine g_if_ne f_X10_set_14 rfl (by omega) (fun hx => ?_) (fun hx => ?_)
      · refine g_ild f_X10_set_19 rfl ?_
        refine g_const f_X10_set_20 ?_
        refine g_ild f_X10_set_21 rfl ?_
        refine g_if_ne f_X10_set_22 rfl (by omega) (fun h0 => ?_) (fun h0 => ?_)
        · refine g_const f_X10_set_30 ?_
          refine g_cs1 hγ (c_mwithin n 0 9999 (by omega) (by omega) (by omega)) f_X10_set_33 mo_X10_within mt_X10_within rfl (Nat.le_of_ble_eq_true rfl) ⟨by decide, by decide⟩ ⟨Nat.le_refl _, Nat.le_refl _⟩ (fun x S' M' hq9 => ?_)
          obtain ⟨hx, q1, q2⟩ := hq9
          obtain rfl := q1.symm
          obtain rfl := q2.symm
          by_cases hn : 0 ≤ n ∧ n ≤ 9999
          · rw [if_pos hn] at hx
            subst hx
            obtain ⟨m, rfl⟩ := Int.eq_ofNat_of_zero_le hn.1
            refine g_if_ne f_X10_set_36 rfl (by omega) (fun hx => ?_) (fun hx => ?_)
            · refine g_ild f_X10_set_42 rfl ?_
              refine g_if_ne f_X10_set_43 rfl (by omega) (fun h02 => ?_) (fun h02 => ?_)
              · refine g_alv f_X10_set_55 rfl ?_
                refine g_getR f_X10_set_56 (by assumption) (by assumption) ?_
                refine g_ild f_X10_set_59 rfl ?_
                refine g_ial f_X10_set_60 (by assumption) _ rfl (by omega) ?_
                rw [r3]
                refine g_ist_4 f_X10_set_61 (by decide) c1i ?_
                refine g_ild f_X10_set_63 rfl ?_
                refine g_if_ne f_X10_set_64 rfl (by omega) (fun h03 => ?_) (fun h03 => ?_)
                · refine g_alv f_X10_set_77 rfl ?_
                  refine g_getR f_X10_set_78 (by assumption) (by assumption) ?_
                  refine g_ild f_X10_set_81 rfl ?_
                  refine g_ild f_X10_set_82 rfl ?_
                  refine g_ias f_X10_set_83 (by assumption) p2 (by omega) (by omega) ?_
                  refine g_ild f_X10_set_84 rfl ?_
                  refine g_reti f_X10_set_86 rfl ?_ (Nat.zero_le _) (Nat.zero_le _)
                  have e : a_set s (p2 : Int) y (m : Int) = ((zP (wz s) p2 3 : Int), putZ s (setP (wz s) p2 3 m)) := (if_neg (fun h => h ⟨hip, hy1⟩)).trans ((if_neg (fun h => h (by rw [if_neg (by omega)]; exact hn))).trans (if_neg (by omega)))
                  rw [e]
                  have st := stf.upR (M := M) (k := 91) (j := p2) (v := (m : Int)) stf.rf ⟨by decide, by decide⟩
                  exact ⟨rfl, rfl, hW.st hO0 st (MX_set (a := 3) hX (by decide)) rfl z1, st.mdl⟩
                · exact absurd (by omega) h03
              · exact absurd (by omega) h02
            · exact absurd (by omega) hx
          · rw [if_neg hn] at hx
            subst hx
            have e2 : a_set s (p2 : Int) y n = (-2, s) := (if_neg (fun h => h ⟨hip, hy1⟩)).trans (if_pos (by intro h; apply hn; first | (rw [if_pos (by omega)] at h; exact h) | (rw [if_neg (by omega)] at h; exact h)))
            refine g_if_ne f_X10_set_36 rfl (by omega) (fun hx => ?_) (fun hx => ?_)
            · exact absurd hx (by omega)
            refine g_const f_X10_set_39 ?_
            refine g_reti f_X10_set_41 rfl ?_ (Nat.zero_le _) (Nat.zero_le _)
            rw [e2]
            exact ⟨rfl, rfl, hW, mdl.rf⟩
        · refine g_const f_X10_set_25 ?_
          refine g_goto f_X10_set_27 ?_
          refine g_cs1 hγ (c_mwithin n 0 11 (by omega) (by omega) (by omega)) f_X10_set_33 mo_X10_within mt_X10_within rfl (Nat.le_of_ble_eq_true rfl) ⟨by decide, by decide⟩ ⟨Nat.le_refl _, Nat.le_refl _⟩ (fun x S' M' hq9 => ?_)
          obtain ⟨hx, q1, q2⟩ := hq9
          obtain rfl := q1.symm
          obtain rfl := q2.symm
          by_cases hn : 0 ≤ n ∧ n ≤ 11
          · rw [if_pos hn] at hx
            subst hx
            obtain ⟨m, rfl⟩ := Int.eq_ofNat_of_zero_le hn.1
            refine g_if_ne f_X10_set_36 rfl (by omega) (fun hx => ?_) (fun hx => ?_)
            · refine g_ild f_X10_set_42 rfl ?_
              refine g_if_ne f_X10_set_43 rfl (by omega) (fun h02 => ?_) (fun h02 => ?_)
              · exact absurd h02 (by omega)
              refine g_alv f_X10_set_46 rfl ?_
              refine g_getR f_X10_set_47 (by assumption) (by assumption) ?_
              refine g_ild f_X10_set_50 rfl ?_
              refine g_ial f_X10_set_51 (by assumption) _ rfl (by omega) ?_
              rw [r2]
              refine g_goto f_X10_set_52 ?_
              refine g_ist_4 f_X10_set_61 (by decide) c1i ?_
              refine g_ild f_X10_set_63 rfl ?_
              refine g_if_ne f_X10_set_64 rfl (by omega) (fun h03 => ?_) (fun h03 => ?_)
              · exact absurd h03 (by omega)
              refine g_alv f_X10_set_67 rfl ?_
              refine g_getR f_X10_set_68 (by assumption) (by assumption) ?_
              refine g_ild f_X10_set_71 rfl ?_
              refine g_ild f_X10_set_72 rfl ?_
              refine g_ias f_X10_set_73 (by assumption) p2 (by omega) (by omega) ?_
              refine g_goto f_X10_set_74 ?_
              refine g_ild f_X10_set_84 rfl ?_
              refine g_reti f_X10_set_86 rfl ?_ (Nat.zero_le _) (Nat.zero_le _)
              have e : a_set s (p2 : Int) y (m : Int) = ((zP (wz s) p2 2 : Int), putZ s (setP (wz s) p2 2 m)) := (if_neg (fun h => h ⟨hip, hy1⟩)).trans ((if_neg (fun h => h (by rw [if_pos (by omega)]; exact hn))).trans (if_pos (by omega)))
              rw [e]
              have st := stf.upR (M := M) (k := 90) (j := p2) (v := (m : Int)) stf.rf ⟨by decide, by decide⟩
              exact ⟨rfl, rfl, hW.st hO0 st (MX_set (a := 2) hX (by decide)) rfl z1, st.mdl⟩
            · exact absurd (by omega) hx
          · rw [if_neg hn] at hx
            subst hx
            have e2 : a_set s (p2 : Int) y n = (-2, s) := (if_neg (fun h => h ⟨hip, hy1⟩)).trans (if_pos (by intro h; apply hn; first | (rw [if_pos (by omega)] at h; exact h) | (rw [if_neg (by omega)] at h; exact h)))
            refine g_if_ne f_X10_set_36 rfl (by omega) (fun hx => ?_) (fun hx => ?_)
            · exact absurd hx (by omega)
            refine g_const f_X10_set_39 ?_
            refine g_reti f_X10_set_41 rfl ?_ (Nat.zero_le _) (Nat.zero_le _)
            rw [e2]
            exact ⟨rfl, rfl, hW, mdl.rf⟩
      · exact absurd (by omega) hx
    · rw [if_neg hy1] at hx
      subst hx
      refine g_if_ne f_X10_set_14 rfl (by omega) (fun hx => ?_) (fun hx => ?_)
      · exact absurd hx (by omega)
      refine g_const f_X10_set_17 ?_
      refine g_reti f_X10_set_18 rfl ?_ (Nat.zero_le _) (Nat.zero_le _)
      first
      | (have e : a_set s p y n = (-1, s) := if_pos (by intro h; exact hip h.1); rw [e]; exact ⟨rfl, rfl, hW, mdl.rf⟩)
      | (have e : a_set s (p2 : Int) y n = (-1, s) := if_pos (by intro h; exact hy1 h.2); rw [e]; exact ⟨rfl, rfl, hW, mdl.rf⟩)
  · rw [if_neg hip] at hx
    subst hx
    refine g_if_eq f_X10_set_5 rfl (by omega) (fun hx => ?_) (fun hx => ?_)
    · refine g_const f_X10_set_17 ?_
      refine g_reti f_X10_set_18 rfl ?_ (Nat.zero_le _) (Nat.zero_le _)
      first
      | (have e : a_set s p y n = (-1, s) := if_pos (by intro h; exact hip h.1); rw [e]; exact ⟨rfl, rfl, hW, mdl.rf⟩)
      | (have e : a_set s (p2 : Int) y n = (-1, s) := if_pos (by intro h; exact hy1 h.2); rw [e]; exact ⟨rfl, rfl, hW, mdl.rf⟩)
    · exact absurd (by omega) hx

set_option maxHeartbeats 4000000 in
set_option maxRecDepth 100000 in
theorem m_leave {Ω : Ow} {S : Sg} {M : Mm} {s : Wt} (hG : Gr S) (hW : RepM M s) (hO0 : okW s) (p b : Int) (hp : rg p) (hb : b = 0 ∨ b = 1) : Ct Ω mX10_leave 3 0 0 1 [vr Ω 87, vi p, vi b] S M (fun x S' M' => x = (a_leave s p b).1 ∧ S' = S ∧ RepM M' (a_leave s p b).2 ∧ mdl M M') := by
  refine Ct.mk (by decide) (Nat.le_of_ble_eq_true rfl) [some (vr Ω 87), some (vi p), some (vi b), none] (by intro q hq; exact hq) (fun γ hγ hz => ?_)
  have hX := hW.mx hO0
  have hO : okZ (wz s) := hO0.1.1
  have hD : zd (wz s) ≤ 9999 := hO0.1.2.1
  obtain ⟨x1, x2, x3, x4, x5⟩ := id hX
  obtain ⟨z1, z2, z3, z4, z5⟩ := id hO
  obtain ⟨lw, d1, d2, d3, d4, d5, d6, d7, d8⟩ := hW.dr hO0
  obtain ⟨lz, l5, l10, l8⟩ := hO0.1.len
  have sS : okSeen (wn s).2.1 := hO0.1.2.2.1
  have sP : okPlan (zc (wz s)) (wn s).2.2.1 := hO0.1.2.2.2.1
  have sB : okBook (wn s).2.2.2 := hO0.1.2.2.2.2.1
  have o87 := om87 hG
  have gM5 : _ = ((92 : Nat) : Int) := grn hG (k := 87) (j := 5) (by decide)
  have aM92 := arn hG (r := 92) (c := 12) (n := 6) (by decide +kernel)
  refine g_alv f_X10_leave_0 rfl ?_
  refine g_ild f_X10_leave_1 rfl ?_
  refine g_cv1 hγ (c_misOne hG hX hO p (by omega)) f_X10_leave_2 mo_X10_isOne mv_X10_isOne (by assumption) rfl rfl (Nat.le_of_ble_eq_true rfl) ⟨by decide, by decide⟩ ⟨Nat.le_refl _, Nat.le_refl _⟩ (fun x S' M' hq9 => ?_)
  obtain ⟨hx, q1, q2⟩ := hq9
  obtain rfl := q1.symm
  obtain rfl := q2.symm
  by_cases hip : 0 ≤ p ∧ p < (zc (wz s) : Int)
  · rw [if_pos hip] at hx
    subst hx
    obtain ⟨p2, rfl⟩ := Int.eq_ofNat_of_zero_le hip.1
    have hp2 : p2 < zc (wz s) := by omega
    have hp6 : p2 < 6 := by omega
    obtain ⟨r0, r1, r2, r3, r4, r5⟩ := id (x4 p2 hp2)
    obtain ⟨b1, b2, b3, b4, b5, b6⟩ := id (z4 p2 hp2)
    refine g_if_ne f_X10_leave_5 rfl (by omega) (fun hx => ?_) (fun hx => ?_)
    · refine g_alv f_X10_leave_10 rfl ?_
      refine g_getR f_X10_leave_11 (by assumption) (by assumption) ?_
      refine g_ild f_X10_leave_14 rfl ?_
      refine g_ial f_X10_leave_15 (by assumption) _ rfl (by omega) ?_
      rw [r4]
      refine g_ist_3 f_X10_leave_16 (by decide) c1i ?_
      refine g_alv f_X10_leave_17 rfl ?_
      refine g_getR f_X10_leave_18 (by assumption) (by assumption) ?_
      refine g_ild f_X10_leave_21 rfl ?_
      refine g_ild f_X10_leave_22 rfl ?_
      refine g_if_eq f_X10_leave_23 rfl (by omega) (fun h0 => ?_) (fun h0 => ?_)
      · refine g_const f_X10_leave_30 ?_
        refine g_as (show (0 : Int) = ((b.toNat : Nat) : Int) by omega) ?_
        refine g_ias f_X10_leave_31 (by assumption) p2 (by omega) (by omega) ?_
        refine g_ild f_X10_leave_32 rfl ?_
        refine g_reti f_X10_leave_33 rfl ?_ (Nat.zero_le _) (Nat.zero_le _)
        have e : a_leave s (p2 : Int) b = ((zP (wz s) p2 4 : Int), putZ s (setP (wz s) p2 4 b.toNat)) := if_pos hip
        rw [e]
        have st := stf.upR (M := M) (k := 92) (j := p2) (v := ((b.toNat : Nat) : Int)) stf.rf ⟨by decide, by decide⟩
        exact ⟨rfl, rfl, hW.st hO0 st (MX_set (a := 4) hX (by decide)) rfl z1, st.mdl⟩
      · refine g_const f_X10_leave_26 ?_
        refine g_as (show (1 : Int) = ((b.toNat : Nat) : Int) by omega) ?_
        refine g_goto f_X10_leave_27 ?_
        refine g_ias f_X10_leave_31 (by assumption) p2 (by omega) (by omega) ?_
        refine g_ild f_X10_leave_32 rfl ?_
        refine g_reti f_X10_leave_33 rfl ?_ (Nat.zero_le _) (Nat.zero_le _)
        have e : a_leave s (p2 : Int) b = ((zP (wz s) p2 4 : Int), putZ s (setP (wz s) p2 4 b.toNat)) := if_pos hip
        rw [e]
        have st := stf.upR (M := M) (k := 92) (j := p2) (v := ((b.toNat : Nat) : Int)) stf.rf ⟨by decide, by decide⟩
        exact ⟨rfl, rfl, hW.st hO0 st (MX_set (a := 4) hX (by decide)) rfl z1, st.mdl⟩
    · exact absurd (by omega) hx
  · rw [if_neg hip] at hx
    subst hx
    refine g_if_ne f_X10_leave_5 rfl (by omega) (fun hx => ?_) (fun hx => ?_)
    · exact absurd hx (by omega)
    refine g_const f_X10_leave_8 ?_
    refine g_reti f_X10_leave_9 rfl ?_ (Nat.zero_le _) (Nat.zero_le _)
    have e : a_leave s p b = (-1, s) := if_neg hip
    rw [e]
    exact ⟨rfl, rfl, hW, mdl.rf⟩

set_option maxHeartbeats 4000000 in
set_option maxRecDepth 100000 in
theorem m_walls {Ω : Ow} {S : Sg} {M : Mm} {s : Wt} (hG : Gr S) (hW : RepM M s) (hO0 : okW s) (n : Int) (hn0 : rg n) : Ct Ω mX10_walls 2 0 0 1 [vr Ω 87, vi n] S M (fun x S' M' => x = (a_walls s n).1 ∧ S' = S ∧ RepM M' (a_walls s n).2 ∧ mdl M M') := by
  refine Ct.mk (by decide) (Nat.le_of_ble_eq_true rfl) [some (vr Ω 87), some (vi n), none] (by intro q hq; exact hq) (fun γ hγ hz => ?_)
  have hX := hW.mx hO0
  have hO : okZ (wz s) := hO0.1.1
  have hD : zd (wz s) ≤ 9999 := hO0.1.2.1
  obtain ⟨x1, x2, x3, x4, x5⟩ := id hX
  obtain ⟨z1, z2, z3, z4, z5⟩ := id hO
  obtain ⟨lw, d1, d2, d3, d4, d5, d6, d7, d8⟩ := hW.dr hO0
  obtain ⟨lz, l5, l10, l8⟩ := hO0.1.len
  have sS : okSeen (wn s).2.1 := hO0.1.2.2.1
  have sP : okPlan (zc (wz s)) (wn s).2.2.1 := hO0.1.2.2.2.1
  have sB : okBook (wn s).2.2.2 := hO0.1.2.2.2.2.1
  have o87 := om87 hG
  refine g_ild f_X10_walls_0 rfl ?_
  refine g_const f_X10_walls_1 ?_
  refine g_const f_X10_walls_2 ?_
  refine g_cs1 hγ (c_mwithin n 0 4095 (by omega) (by omega) (by omega)) f_X10_walls_5 mo_X10_within mt_X10_within rfl (Nat.le_of_ble_eq_true rfl) ⟨by decide, by decide⟩ ⟨Nat.le_refl _, Nat.le_refl _⟩ (fun x S' M' hq9 => ?_)
  obtain ⟨hx, q1, q2⟩ := hq9
  obtain rfl := q1.symm
  obtain rfl := q2.symm
  by_cases hn : 0 ≤ n ∧ n ≤ 4095
  · rw [if_pos hn] at hx
    subst hx
    refine g_if_ne f_X10_walls_8 rfl (by omega) (fun hx => ?_) (fun hx => ?_)
    · obtain ⟨m, rfl⟩ := Int.eq_ofNat_of_zero_le hn.1
      refine g_alv f_X10_walls_14 rfl ?_
      refine g_getI f_X10_walls_15 (by assumption) ?_
      rw [x2]
      refine g_ist_2 f_X10_walls_18 (by decide) c1i ?_
      refine g_alv f_X10_walls_19 rfl ?_
      refine g_ild f_X10_walls_20 rfl ?_
      refine g_putI f_X10_walls_21 rfl (by assumption) ?_
      refine g_ild f_X10_walls_24 rfl ?_
      refine g_reti f_X10_walls_25 rfl ?_ (Nat.zero_le _) (Nat.zero_le _)
      have e : a_walls s (m : Int) = ((zw (wz s) : Int), putZ s (zc (wz s), m, zd (wz s), zP (wz s), zL (wz s))) := if_pos hn
      rw [e]
      have st := stf.up0 (M := M) (j := 7) (v := (m : Int)) stf.rf (by omega)
      exact ⟨rfl, rfl, hW.st hO0 st (hX.walls m) rfl z1, st.mdl⟩
    · exact absurd (by omega) hx
  · rw [if_neg hn] at hx
    subst hx
    refine g_if_ne f_X10_walls_8 rfl (by omega) (fun hx => ?_) (fun hx => ?_)
    · exact absurd hx (by omega)
    refine g_const f_X10_walls_11 ?_
    refine g_reti f_X10_walls_13 rfl ?_ (Nat.zero_le _) (Nat.zero_le _)
    have e : a_walls s n = (-2, s) := if_neg hn
    rw [e]
    exact ⟨rfl, rfl, hW, mdl.rf⟩

set_option maxHeartbeats 4000000 in
set_option maxRecDepth 100000 in
theorem m_row {Ω : Ow} {S : Sg} {M : Mm} {s : Wt} (hG : Gr S) (hW : RepM M s) (hO0 : okW s) (p q n : Int) (hp : rg p) (hq0 : rg q) (hn0 : rg n) : Ct Ω mX10_row 3 0 0 1 [vr Ω 87, vi p, vi q, vi n] S M (fun x S' M' => x = (a_row s p q n).1 ∧ S' = S ∧ RepM M' (a_row s p q n).2 ∧ mdl M M') := by
  refine Ct.mk (by decide) (Nat.le_of_ble_eq_true rfl) [some (vr Ω 87), some (vi p), some (vi q), some (vi n), none] (by intro q hq; exact hq) (fun γ hγ hz => ?_)
  have hX := hW.mx hO0
  have hO : okZ (wz s) := hO0.1.1
  have hD : zd (wz s) ≤ 9999 := hO0.1.2.1
  obtain ⟨x1, x2, x3, x4, x5⟩ := id hX
  obtain ⟨z1, z2, z3, z4, z5⟩ := id hO
  obtain ⟨lw, d1, d2, d3, d4, d5, d6, d7, d8⟩ := hW.dr hO0
  obtain ⟨lz, l5, l10, l8⟩ := hO0.1.len
  have sS : okSeen (wn s).2.1 := hO0.1.2.2.1
  have sP : okPlan (zc (wz s)) (wn s).2.2.1 := hO0.1.2.2.2.1
  have sB : okBook (wn s).2.2.2 := hO0.1.2.2.2.2.1
  have o87 := om87 hG
  have gM1 : _ = ((88 : Nat) : Int) := grn hG (k := 87) (j := 1) (by decide)
  have aM88 := arn hG (r := 88) (c := 12) (n := 6) (by decide +kernel)
  have gM6 : _ = ((93 : Nat) : Int) := grn hG (k := 87) (j := 6) (by decide)
  have aM93 := arn hG (r := 93) (c := 12) (n := 24) (by decide +kernel)
  refine g_alv f_X10_row_0 rfl ?_
  refine g_ild f_X10_row_1 rfl ?_
  refine g_cv1 hγ (c_misOne hG hX hO p (by omega)) f_X10_row_2 mo_X10_isOne mv_X10_isOne (by assumption) rfl rfl (Nat.le_of_ble_eq_true rfl) ⟨by decide, by decide⟩ ⟨Nat.le_refl _, Nat.le_refl _⟩ (fun x S' M' hq9 => ?_)
  obtain ⟨hx, q1, q2⟩ := hq9
  obtain rfl := q1.symm
  obtain rfl := q2.symm
  by_cases hip : 0 ≤ p ∧ p < (zc (wz s) : Int)
  · rw [if_pos hip] at hx
    subst hx
    obtain ⟨p2, rfl⟩ := Int.eq_ofNat_of_zero_le hip.1
    have hp2 : p2 < zc (wz s) := by omega
    have hp6 : p2 < 6 := by omega
    obtain ⟨r0, r1, r2, r3, r4, r5⟩ := id (x4 p2 hp2)
    obtain ⟨b1, b2, b3, b4, b5, b6⟩ := id (z4 p2 hp2)
    refine g_if_eq f_X10_row_5 rfl (by omega) (fun hx => ?_) (fun hx => ?_)
    · exact absurd hx (by omega)
    refine g_ild f_X10_row_8 rfl ?_
    refine g_const f_X10_row_9 ?_
    refine g_const f_X10_row_10 ?_
    refine g_cs1 hγ (c_mwithin q 0 3 (by omega) (by omega) (by omega)) f_X10_row_11 mo_X10_within mt_X10_within rfl (Nat.le_of_ble_eq_true rfl) ⟨by decide, by decide⟩ ⟨Nat.le_refl _, Nat.le_refl _⟩ (fun x S' M' hq9 => ?_)
    obtain ⟨hx, q1, q2⟩ := hq9
    obtain rfl := q1.symm
    obtain rfl := q2.symm
    by_cases hq3 : 0 ≤ q ∧ q ≤ 3
    · rw [if_pos hq3] at hx
      subst hx
      refine g_if_ne f_X10_row_14 rfl (by omega) (fun hx => ?_) (fun hx => ?_)
      · refine g_ild f_X10_row_19 rfl ?_
        refine g_const f_X10_row_20 ?_
        refine g_const f_X10_row_21 ?_
        refine g_cs1 hγ (c_mwithin n 0 9 (by omega) (by omega) (by omega)) f_X10_row_23 mo_X10_within mt_X10_within rfl (Nat.le_of_ble_eq_true rfl) ⟨by decide, by decide⟩ ⟨Nat.le_refl _, Nat.le_refl _⟩ (fun x S' M' hq9 => ?_)
        obtain ⟨hx, q1, q2⟩ := hq9
        obtain rfl := q1.symm
        obtain rfl := q2.symm
        by_cases hn9 : 0 ≤ n ∧ n ≤ 9
        · rw [if_pos hn9] at hx
          subst hx
          refine g_if_ne f_X10_row_26 rfl (by omega) (fun hx => ?_) (fun hx => ?_)
          · refine g_alv f_X10_row_32 rfl ?_
            refine g_getR f_X10_row_33 (by assumption) (by assumption) ?_
            refine g_ild f_X10_row_36 rfl ?_
            refine g_ial f_X10_row_37 (by assumption) _ rfl (by omega) ?_
            rw [r0]
            refine g_const f_X10_row_38 ?_
            refine g_icmp_eq f_X10_row_40 rfl (by omega) (by omega) (fun h6 => ?_) (fun h6 => ?_)
            · obtain ⟨j, rfl⟩ := Int.eq_ofNat_of_zero_le hq3.1
              obtain ⟨m, rfl⟩ := Int.eq_ofNat_of_zero_le hn9.1
              refine g_alv f_X10_row_46 rfl ?_
              refine g_getR f_X10_row_47 (by assumption) (by assumption) ?_
              refine g_const f_X10_row_50 ?_
              refine g_ild f_X10_row_51 rfl ?_
              refine g_imul f_X10_row_52 ?_
              refine g_ild f_X10_row_53 rfl ?_
              refine g_iadd f_X10_row_54 ?_
              refine g_as (show (4 : Int) * (p2 : Int) + (j : Int) = ((4 * p2 + j : Nat) : Int) by omega) ?_
              refine g_ial f_X10_row_55 (by assumption) (4 * p2 + j) (by omega) (by omega) ?_
              rw [r5 j (by omega)]
              refine g_ist_4 f_X10_row_56 (by decide) c1i ?_
              refine g_alv f_X10_row_58 rfl ?_
              refine g_getR f_X10_row_59 (by assumption) (by assumption) ?_
              refine g_const f_X10_row_62 ?_
              refine g_ild f_X10_row_63 rfl ?_
              refine g_imul f_X10_row_64 ?_
              refine g_ild f_X10_row_65 rfl ?_
              refine g_iadd f_X10_row_66 ?_
              refine g_ild f_X10_row_67 rfl ?_
              refine g_ias f_X10_row_68 (by assumption) (4 * p2 + j) (by omega) (by omega) ?_
              refine g_ild f_X10_row_69 rfl ?_
              refine g_reti f_X10_row_71 rfl ?_ (Nat.zero_le _) (Nat.zero_le _)
              have e : a_row s (p2 : Int) (j : Int) (m : Int) = ((zP (wz s) p2 (5 + j) : Int), putZ s (setP (wz s) p2 (5 + j) m)) := (if_neg (fun h => h ⟨hip, hq3⟩)).trans ((if_neg (fun h => h hn9)).trans (if_neg (by show ¬ zP (wz s) p2 0 ≠ 6; omega)))
              rw [e]
              have st := stf.upR (M := M) (k := 93) (j := 4 * p2 + j) (v := (m : Int)) stf.rf ⟨by decide, by decide⟩
              exact ⟨rfl, rfl, hW.st hO0 st (MX_setR hX (by omega)) rfl z1, st.mdl⟩
            · refine g_const f_X10_row_43 ?_
              refine g_reti f_X10_row_45 rfl ?_ (Nat.zero_le _) (Nat.zero_le _)
              have e : a_row s (p2 : Int) q n = (-3, s) := (if_neg (fun h => h ⟨hip, hq3⟩)).trans ((if_neg (fun h => h hn9)).trans (if_pos (by show zP (wz s) p2 0 ≠ 6; omega)))
              rw [e]
              exact ⟨rfl, rfl, hW, mdl.rf⟩
          · exact absurd (by omega) hx
        · rw [if_neg hn9] at hx
          subst hx
          refine g_if_ne f_X10_row_26 rfl (by omega) (fun hx => ?_) (fun hx => ?_)
          · exact absurd hx (by omega)
          refine g_const f_X10_row_29 ?_
          refine g_reti f_X10_row_31 rfl ?_ (Nat.zero_le _) (Nat.zero_le _)
          have e : a_row s (p2 : Int) q n = (-2, s) := (if_neg (fun h => h ⟨hip, hq3⟩)).trans (if_pos hn9)
          rw [e]
          exact ⟨rfl, rfl, hW, mdl.rf⟩
      · exact absurd (by omega) hx
    · rw [if_neg hq3] at hx
      subst hx
      refine g_if_ne f_X10_row_14 rfl (by omega) (fun hx => ?_) (fun hx => ?_)
      · exact absurd hx (by omega)
      refine g_const f_X10_row_17 ?_
      refine g_reti f_X10_row_18 rfl ?_ (Nat.zero_le _) (Nat.zero_le _)
      first
      | (have e : a_row s p q n = (-1, s) := if_pos (by intro h; exact hip h.1); rw [e]; exact ⟨rfl, rfl, hW, mdl.rf⟩)
      | (have e : a_row s (p2 : Int) q n = (-1, s) := if_pos (by intro h; exact hq3 h.2); rw [e]; exact ⟨rfl, rfl, hW, mdl.rf⟩)
  · rw [if_neg hip] at hx
    subst hx
    refine g_if_eq f_X10_row_5 rfl (by omega) (fun hx => ?_) (fun hx => ?_)
    · refine g_const f_X10_row_17 ?_
      refine g_reti f_X10_row_18 rfl ?_ (Nat.zero_le _) (Nat.zero_le _)
      first
      | (have e : a_row s p q n = (-1, s) := if_pos (by intro h; exact hip h.1); rw [e]; exact ⟨rfl, rfl, hW, mdl.rf⟩)
      | (have e : a_row s (p2 : Int) q n = (-1, s) := if_pos (by intro h; exact hq3 h.2); rw [e]; exact ⟨rfl, rfl, hW, mdl.rf⟩)
    · exact absurd (by omega) hx

set_option maxHeartbeats 4000000 in
set_option maxRecDepth 100000 in
theorem m_told {Ω : Ow} {S : Sg} {M : Mm} {s : Wt} (hG : Gr S) (hW : RepM M s) (hO0 : okW s) (y : Int) (hy : rg y) : Ct Ω mX10_told 9 0 0 1 [vr Ω 87, vi y] S M (fun x S' M' => x = a_told s y ∧ S' = S ∧ RepM M' s ∧ mdl M M') := by
  refine Ct.mk (by decide) (Nat.le_of_ble_eq_true rfl) [some (vr Ω 87), some (vi y)] (by intro q hq; exact hq) (fun γ hγ hz => ?_)
  have hX := hW.mx hO0
  have hO : okZ (wz s) := hO0.1.1
  have hD : zd (wz s) ≤ 9999 := hO0.1.2.1
  obtain ⟨x1, x2, x3, x4, x5⟩ := id hX
  obtain ⟨z1, z2, z3, z4, z5⟩ := id hO
  obtain ⟨lw, d1, d2, d3, d4, d5, d6, d7, d8⟩ := hW.dr hO0
  obtain ⟨lz, l5, l10, l8⟩ := hO0.1.len
  have sS : okSeen (wn s).2.1 := hO0.1.2.2.1
  have sP : okPlan (zc (wz s)) (wn s).2.2.1 := hO0.1.2.2.2.1
  have sB : okBook (wn s).2.2.2 := hO0.1.2.2.2.2.1
  have o87 := om87 hG
  refine g_ild f_X10_told_0 rfl ?_
  refine g_tab f_X10_told_1 (by omega) (fun cy => ?_) (casC (fun cy => ?_) (casC (fun cy => ?_) (casC (fun cy => ?_) (casC (fun cy => ?_) (casC (fun cy => ?_) (casC (fun cy => ?_) (casC (fun cy => ?_) (casC (fun cy => ?_) casN))))))))
  · refine g_const f_X10_told_92 ?_
    refine g_reti f_X10_told_93 rfl ?_ (Nat.zero_le _) (Nat.zero_le _)
    have q0 : y ≠ 0 := cy (0, 48) (by simp)
    have q1 : y ≠ 1 := cy (1, 53) (by simp)
    have q2 : y ≠ 2 := cy (2, 58) (by simp)
    have q3 : y ≠ 3 := cy (3, 63) (by simp)
    have q4 : y ≠ 4 := cy (4, 68) (by simp)
    have q5 : y ≠ 5 := cy (5, 74) (by simp)
    have q6 : y ≠ 6 := cy (6, 80) (by simp)
    have q7 : y ≠ 7 := cy (7, 86) (by simp)
    have e : a_told s y = -1 := by unfold a_told; rw [if_neg q0]; rw [if_neg q1]; rw [if_neg q2]; rw [if_neg q3]; rw [if_neg q4]; rw [if_neg q5]; rw [if_neg q6]; rw [if_neg q7]
    rw [e]
    exact ⟨rfl, rfl, hW, mdl.rf⟩
  · refine g_alv f_X10_told_48 rfl ?_
    refine g_getI f_X10_told_49 (by assumption) ?_
    rw [x3]
    refine g_reti f_X10_told_52 rfl ?_ (Nat.zero_le _) (Nat.zero_le _)
    subst cy
    exact ⟨rfl, rfl, hW, mdl.rf⟩
  · refine g_alv f_X10_told_53 rfl ?_
    refine g_cv1 hγ (c_mfine hG hX hO) f_X10_told_54 mo_X10_fine mv_X10_fine (by assumption) rfl rfl (Nat.le_of_ble_eq_true rfl) ⟨by decide, by decide⟩ ⟨Nat.le_refl _, Nat.le_refl _⟩ (fun x S' M2 hq2 => ?_)
    obtain ⟨rfl, q1, q2⟩ := hq2
    obtain rfl := q1.symm
    obtain rfl := q2.symm
    refine g_reti f_X10_told_57 rfl ?_ (Nat.zero_le _) (Nat.zero_le _)
    subst cy
    exact ⟨rfl, rfl, hW, mdl.rf⟩
  · refine g_alv f_X10_told_58 rfl ?_
    refine g_getI f_X10_told_59 (by assumption) ?_
    rw [x2]
    refine g_reti f_X10_told_62 rfl ?_ (Nat.zero_le _) (Nat.zero_le _)
    subst cy
    exact ⟨rfl, rfl, hW, mdl.rf⟩
  · refine g_alv f_X10_told_63 rfl ?_
    refine g_cv1 hγ (c_mpurses hG hX hO) f_X10_told_64 mo_X10_allPurses mv_X10_allPurses (by assumption) rfl rfl (Nat.le_of_ble_eq_true rfl) ⟨by decide, by decide⟩ ⟨Nat.le_refl _, Nat.le_refl _⟩ (fun x S' M2 hq2 => ?_)
    obtain ⟨rfl, q1, q2⟩ := hq2
    obtain rfl := q1.symm
    obtain rfl := q2.symm
    refine g_reti f_X10_told_67 rfl ?_ (Nat.zero_le _) (Nat.zero_le _)
    subst cy
    exact ⟨rfl, rfl, hW, mdl.rf⟩
  · refine g_alv f_X10_told_68 rfl ?_
    refine g_const f_X10_told_69 ?_
    refine g_cv1 hγ (c_mhidden hG hX hO (w := 0) (Or.inl rfl)) f_X10_told_70 mo_X10_hidden mv_X10_hidden (by assumption) rfl rfl (Nat.le_of_ble_eq_true rfl) ⟨by decide, by decide⟩ ⟨Nat.le_refl _, Nat.le_refl _⟩ (fun x S' M2 hq2 => ?_)
    obtain ⟨rfl, q1, ha⟩ := hq2
    obtain rfl := q1.symm
    refine g_reti f_X10_told_73 rfl ?_ (Nat.zero_le _) (Nat.zero_le _)
    subst cy
    exact ⟨rfl, rfl, hW.askA hO0 ha.askA, ha.askA.mdl⟩
  · refine g_alv f_X10_told_74 rfl ?_
    refine g_const f_X10_told_75 ?_
    refine g_cv1 hγ (c_mhidden hG hX hO (w := 1) (Or.inr rfl)) f_X10_told_76 mo_X10_hidden mv_X10_hidden (by assumption) rfl rfl (Nat.le_of_ble_eq_true rfl) ⟨by decide, by decide⟩ ⟨Nat.le_refl _, Nat.le_refl _⟩ (fun x S' M2 hq2 => ?_)
    obtain ⟨rfl, q1, ha⟩ := hq2
    obtain rfl := q1.symm
    refine g_reti f_X10_told_79 rfl ?_ (Nat.zero_le _) (Nat.zero_le _)
    subst cy
    exact ⟨rfl, rfl, hW.askA hO0 ha.askA, ha.askA.mdl⟩
  · refine g_alv f_X10_told_80 rfl ?_
    refine g_const f_X10_told_81 ?_
    refine g_cv1 hγ (c_mmost hG hX hO (w := 0) (Or.inl rfl)) f_X10_told_82 mo_X10_mostly mv_X10_mostly (by assumption) rfl rfl (Nat.le_of_ble_eq_true rfl) ⟨by decide, by decide⟩ ⟨Nat.le_refl _, Nat.le_refl _⟩ (fun x S' M2 hq2 => ?_)
    obtain ⟨rfl, q1, ha⟩ := hq2
    obtain rfl := q1.symm
    refine g_reti f_X10_told_85 rfl ?_ (Nat.zero_le _) (Nat.zero_le _)
    subst cy
    exact ⟨rfl, rfl, hW.askA hO0 ha.askA, ha.askA.mdl⟩
  · refine g_alv f_X10_told_86 rfl ?_
    refine g_const f_X10_told_87 ?_
    refine g_cv1 hγ (c_mmost hG hX hO (w := 1) (Or.inr rfl)) f_X10_told_88 mo_X10_mostly mv_X10_mostly (by assumption) rfl rfl (Nat.le_of_ble_eq_true rfl) ⟨by decide, by decide⟩ ⟨Nat.le_refl _, Nat.le_refl _⟩ (fun x S' M2 hq2 => ?_)
    obtain ⟨rfl, q1, ha⟩ := hq2
    obtain rfl := q1.symm
    refine g_reti f_X10_told_91 rfl ?_ (Nat.zero_le _) (Nat.zero_le _)
    subst cy
    exact ⟨rfl, rfl, hW.askA hO0 ha.askA, ha.askA.mdl⟩

set_option maxHeartbeats 4000000 in
set_option maxRecDepth 100000 in
theorem m_deed {Ω : Ow} {S : Sg} {M : Mm} {s : Wt} (hG : Gr S) (hW : RepM M s) (hO0 : okW s) (c : Int) (hc0 : rg c) : Ct Ω mX10_deed 9 0 0 1 [vr Ω 87, vi c] S M (fun x S' M' => x = (a_deed s c).1 ∧ S' = S ∧ RepM M' (a_deed s c).2 ∧ mdl M M') := by
  refine Ct.mk (by decide) (Nat.le_of_ble_eq_true rfl) [some (vr Ω 87), some (vi c), none] (by intro q hq; exact hq) (fun γ hγ hz => ?_)
  have hX := hW.mx hO0
  have hO : okZ (wz s) := hO0.1.1
  have hD : zd (wz s) ≤ 9999 := hO0.1.2.1
  obtain ⟨x1, x2, x3, x4, x5⟩ := id hX
  obtain ⟨z1, z2, z3, z4, z5⟩ := id hO
  obtain ⟨lw, d1, d2, d3, d4, d5, d6, d7, d8⟩ := hW.dr hO0
  obtain ⟨lz, l5, l10, l8⟩ := hO0.1.len
  have sS : okSeen (wn s).2.1 := hO0.1.2.2.1
  have sP : okPlan (zc (wz s)) (wn s).2.2.1 := hO0.1.2.2.2.1
  have sB : okBook (wn s).2.2.2 := hO0.1.2.2.2.2.1
  have o87 := om87 hG
  refine g_ild f_X10_deed_0 rfl ?_
  refine g_cs1 hγ (c_misPlace c (by omega)) f_X10_deed_1 mo_X10_isPlace mt_X10_isPlace rfl (Nat.le_of_ble_eq_true rfl) ⟨by decide, by decide⟩ ⟨Nat.le_refl _, Nat.le_refl _⟩ (fun x S' M' hq9 => ?_)
  obtain ⟨hx, q1, q2⟩ := hq9
  obtain rfl := q1.symm
  obtain rfl := q2.symm
  by_cases hc : 0 ≤ c ∧ c ≤ 11
  · rw [if_pos hc] at hx
    subst hx
    refine g_if_ne f_X10_deed_4 rfl (by omega) (fun hx => ?_) (fun hx => ?_)
    · obtain ⟨t, rfl⟩ := Int.eq_ofNat_of_zero_le hc.1
      refine g_alv f_X10_deed_9 rfl ?_
      refine g_ild f_X10_deed_10 rfl ?_
      refine g_cv1 hγ (c_mpays hG hX hO (t := t) (by omega)) f_X10_deed_11 mo_X10_pays mv_X10_pays (by assumption) rfl rfl (Nat.le_of_ble_eq_true rfl) ⟨by decide, by decide⟩ ⟨Nat.le_refl _, Nat.le_refl _⟩ (fun x S' M2 hq2 => ?_)
      obtain ⟨rfl, q1, ha, -⟩ := hq2
      obtain rfl := q1.symm
      refine g_ist_2 f_X10_deed_14 (by decide) c1i ?_
      refine g_alv f_X10_deed_15 rfl ?_
      refine g_ild f_X10_deed_16 rfl ?_
      refine g_cv0 hγ (c_mdone hG (hX.ask ha) hO (t := t) (by omega)) f_X10_deed_17 mo_X10_done mv_X10_done (by assumption) rfl rfl (Nat.le_of_ble_eq_true rfl) ⟨by decide, by decide⟩ ⟨Nat.le_refl _, Nat.le_refl _⟩ (fun x S' M3 hq3 => ?_)
      obtain ⟨q1, hs, hX3⟩ := hq3
      obtain rfl := q1.symm
      refine g_ild f_X10_deed_20 rfl ?_
      refine g_reti f_X10_deed_21 rfl ?_ (Nat.zero_le _) (Nat.zero_le _)
      have e : a_deed s (t : Int) = ((paidN (wz s) (seersN (wz s) t) : Int), putZ s (paidZ (wz s) (seersN (wz s) t))) := if_pos hc
      rw [e]
      have st := ha.stf.tr hs
      exact ⟨rfl, rfl, hW.st hO0 st hX3 rfl z1, st.mdl⟩
    · exact absurd (by omega) hx
  · rw [if_neg hc] at hx
    subst hx
    refine g_if_ne f_X10_deed_4 rfl (by omega) (fun hx => ?_) (fun hx => ?_)
    · exact absurd hx (by omega)
    refine g_const f_X10_deed_7 ?_
    refine g_reti f_X10_deed_8 rfl ?_ (Nat.zero_le _) (Nat.zero_le _)
    have e : a_deed s c = (-1, s) := if_neg hc
    rw [e]
    exact ⟨rfl, rfl, hW, mdl.rf⟩

set_option maxHeartbeats 4000000 in
set_option maxRecDepth 100000 in
theorem m_pass {Ω : Ow} {S : Sg} {M : Mm} {s : Wt} (hG : Gr S) (hW : RepM M s) (hO0 : okW s) (n : Int) (hn0 : rg n) : Ct Ω mX10_pass 3 0 0 1 [vr Ω 87, vi n] S M (fun x S' M' => x = (a_pass s n).1 ∧ S' = S ∧ RepM M' (a_pass s n).2 ∧ mdl M M') := by
  refine Ct.mk (by decide) (Nat.le_of_ble_eq_true rfl) [some (vr Ω 87), some (vi n), none] (by intro q hq; exact hq) (fun γ hγ hz => ?_)
  have hX := hW.mx hO0
  have hO : okZ (wz s) := hO0.1.1
  have hD : zd (wz s) ≤ 9999 := hO0.1.2.1
  obtain ⟨x1, x2, x3, x4, x5⟩ := id hX
  obtain ⟨z1, z2, z3, z4, z5⟩ := id hO
  obtain ⟨lw, d1, d2, d3, d4, d5, d6, d7, d8⟩ := hW.dr hO0
  obtain ⟨lz, l5, l10, l8⟩ := hO0.1.len
  have sS : okSeen (wn s).2.1 := hO0.1.2.2.1
  have sP : okPlan (zc (wz s)) (wn s).2.2.1 := hO0.1.2.2.2.1
  have sB : okBook (wn s).2.2.2 := hO0.1.2.2.2.2.1
  have o87 := om87 hG
  refine g_ild f_X10_pass_0 rfl ?_
  refine g_const f_X10_pass_1 ?_
  refine g_const f_X10_pass_2 ?_
  refine g_cs1 hγ (c_mwithin n 0 60 (by omega) (by omega) (by omega)) f_X10_pass_4 mo_X10_within mt_X10_within rfl (Nat.le_of_ble_eq_true rfl) ⟨by decide, by decide⟩ ⟨Nat.le_refl _, Nat.le_refl _⟩ (fun x S' M' hq9 => ?_)
  obtain ⟨hx, q1, q2⟩ := hq9
  obtain rfl := q1.symm
  obtain rfl := q2.symm
  by_cases hn : 0 ≤ n ∧ n ≤ 60
  · rw [if_pos hn] at hx
    subst hx
    refine g_if_ne f_X10_pass_7 rfl (by omega) (fun hx => ?_) (fun hx => ?_)
    · obtain ⟨m, rfl⟩ := Int.eq_ofNat_of_zero_le hn.1
      refine g_alv f_X10_pass_13 rfl ?_
      refine g_getI f_X10_pass_14 (by assumption) ?_
      rw [x3]
      refine g_ild f_X10_pass_17 rfl ?_
      refine g_iadd f_X10_pass_18 ?_
      refine g_const f_X10_pass_19 ?_
      refine g_icmp_le f_X10_pass_22 rfl (by omega) (by omega) (fun hd => ?_) (fun hd => ?_)
      · have loop : ∀ (k i : Nat) (M1 : Mm), i + k = m → stf M M1 → MX M1 (walkZ (wz s) i) → Go γ Ω mX10_pass (Zm γ Ω 1 0 0 (fun x S' M' => x = (a_pass s (m : Int)).1 ∧ S' = S ∧ RepM M' (a_pass s (m : Int)).2 ∧ mdl M M')) 0 0 S M1 30 [some (vr Ω 87), some (vi (m : Int)), some (vi (i : Int))] [] := by
          intro k
          induction k with
          | zero =>
            intro i M1 hk hs hX1
            have hi : i = m := by omega
            subst hi
            have y3 : M1 87 8 = ((zd (wz s) + i : Nat) : Int) := hX1.2.2.1
            refine g_ild f_X10_pass_30 rfl ?_
            refine g_ild f_X10_pass_31 rfl ?_
            refine g_icmp_ge f_X10_pass_32 rfl (by omega) (by omega) (fun hc => ?_) (fun hc => ?_)
            · refine g_alv f_X10_pass_45 rfl ?_
              refine g_getI f_X10_pass_46 (by assumption) ?_
              rw [y3]
              refine g_reti f_X10_pass_49 rfl ?_ (Nat.zero_le _) (Nat.zero_le _)
              have e : a_pass s (i : Int) = ((zd (wz s) : Int) + i, putZ s (walkZ (wz s) i)) := (if_neg (fun h => h hn)).trans (if_neg (by show ¬ ((zd (wz s) : Int) + i > 9999); omega))
              rw [e]
              exact ⟨by show ((zd (wz s) + i : Nat) : Int) = (zd (wz s) : Int) + i; omega, rfl, hW.st hO0 hs hX1 rfl z1, hs.mdl⟩
            · exact absurd (by omega) hc
          | succ k ih =>
            intro i M1 hk hs hX1
            refine g_ild f_X10_pass_30 rfl ?_
            refine g_ild f_X10_pass_31 rfl ?_
            refine g_icmp_ge f_X10_pass_32 rfl (by omega) (by omega) (fun hc => ?_) (fun hc => ?_)
            · exact absurd hc (by omega)
            refine g_alv f_X10_pass_35 rfl ?_
            refine g_cv0 hγ (c_mday hG hX1 (okZ_walk hO (by omega))) f_X10_pass_36 mo_X10_goesDay mv_X10_goesDay (by assumption) rfl rfl (Nat.le_of_ble_eq_true rfl) ⟨by decide, by decide⟩ ⟨Nat.le_refl _, Nat.le_refl _⟩ (fun x S' M4 hq4 => ?_)
            obtain ⟨q1, ha4, hX4⟩ := hq4
            obtain rfl := q1.symm
            rw [walkZ_add] at hX4
            refine g_inc_2 f_X10_pass_39 (by decide) c1i ?_
            refine g_goto f_X10_pass_42 ?_
            exact ih (i + 1) M4 (by omega) (hs.tr ha4) hX4
        refine g_const f_X10_pass_28 ?_
        refine g_ist_2 f_X10_pass_29 (by decide) c1i ?_
        exact loop m 0 M (by omega) stf.rf (walk_0 hX hO)
      · refine g_const f_X10_pass_25 ?_
        refine g_reti f_X10_pass_27 rfl ?_ (Nat.zero_le _) (Nat.zero_le _)
        have e : a_pass s (m : Int) = (-3, s) := (if_neg (fun h => h hn)).trans (if_pos (by show (zd (wz s) : Int) + m > 9999; omega))
        rw [e]
        exact ⟨rfl, rfl, hW, mdl.rf⟩
    · exact absurd (by omega) hx
  · rw [if_neg hn] at hx
    subst hx
    refine g_if_ne f_X10_pass_7 rfl (by omega) (fun hx => ?_) (fun hx => ?_)
    · exact absurd hx (by omega)
    refine g_const f_X10_pass_10 ?_
    refine g_reti f_X10_pass_12 rfl ?_ (Nat.zero_le _) (Nat.zero_le _)
    have e : a_pass s n = (-2, s) := if_pos hn
    rw [e]
    exact ⟨rfl, rfl, hW, mdl.rf⟩

set_option maxHeartbeats 4000000 in
set_option maxRecDepth 100000 in
theorem m_at {Ω : Ow} {S : Sg} {M : Mm} {s : Wt} (hG : Gr S) (hW : RepM M s) (hO0 : okW s) (c y : Int) (hc0 : rg c) (hy : rg y) : Ct Ω mX10_at 8 0 0 1 [vr Ω 87, vi c, vi y] S M (fun x S' M' => x = a_at s c y ∧ S' = S ∧ RepM M' s ∧ mdl M M') := by
  refine Ct.mk (by decide) (Nat.le_of_ble_eq_true rfl) [some (vr Ω 87), some (vi c), some (vi y)] (by intro q hq; exact hq) (fun γ hγ hz => ?_)
  have hX := hW.mx hO0
  have hO : okZ (wz s) := hO0.1.1
  have hD : zd (wz s) ≤ 9999 := hO0.1.2.1
  obtain ⟨x1, x2, x3, x4, x5⟩ := id hX
  obtain ⟨z1, z2, z3, z4, z5⟩ := id hO
  obtain ⟨lw, d1, d2, d3, d4, d5, d6, d7, d8⟩ := hW.dr hO0
  obtain ⟨lz, l5, l10, l8⟩ := hO0.1.len
  have sS : okSeen (wn s).2.1 := hO0.1.2.2.1
  have sP : okPlan (zc (wz s)) (wn s).2.2.1 := hO0.1.2.2.2.1
  have sB : okBook (wn s).2.2.2 := hO0.1.2.2.2.2.1
  have o87 := om87 hG
  refine g_ild f_X10_at_0 rfl ?_
  refine g_cs1 hγ (c_misPlace c (by omega)) f_X10_at_1 mo_X10_isPlace mt_X10_isPlace rfl (Nat.le_of_ble_eq_true rfl) ⟨by decide, by decide⟩ ⟨Nat.le_refl _, Nat.le_refl _⟩ (fun x S' M' hq9 => ?_)
  obtain ⟨hx, q1, q2⟩ := hq9
  obtain rfl := q1.symm
  obtain rfl := q2.symm
  by_cases hc : 0 ≤ c ∧ c ≤ 11
  · rw [if_pos hc] at hx
    subst hx
    refine g_if_ne f_X10_at_4 rfl (by omega) (fun hx => ?_) (fun hx => ?_)
    · obtain ⟨t, rfl⟩ := Int.eq_ofNat_of_zero_le hc.1
      refine g_ild f_X10_at_9 rfl ?_
      refine g_tab f_X10_at_10 (by omega) (fun cy => ?_) (casC (fun cy => ?_) (casC (fun cy => ?_) (casC (fun cy => ?_) (casC (fun cy => ?_) casN))))
      · refine g_const f_X10_at_64 ?_
        refine g_reti f_X10_at_65 rfl ?_ (Nat.zero_le _) (Nat.zero_le _)
        have q0 : y ≠ 0 := cy (0, 40) (by simp)
        have q1 : y ≠ 1 := cy (1, 46) (by simp)
        have q2 : y ≠ 2 := cy (2, 52) (by simp)
        have q3 : y ≠ 3 := cy (3, 58) (by simp)
        have e : a_at s (t : Int) y = -1 := (if_neg (fun h => h hc)).trans (by rw [if_neg q0]; rw [if_neg q1]; rw [if_neg q2]; rw [if_neg q3])
        rw [e]
        exact ⟨rfl, rfl, hW, mdl.rf⟩
      · refine g_alv f_X10_at_40 rfl ?_
        refine g_ild f_X10_at_41 rfl ?_
        refine g_cv1 hγ (c_mseers hG hX hO (t := t) (by omega)) f_X10_at_42 mo_X10_seers mv_X10_seers (by assumption) rfl rfl (Nat.le_of_ble_eq_true rfl) ⟨by decide, by decide⟩ ⟨Nat.le_refl _, Nat.le_refl _⟩ (fun x S' M2 hq2 => ?_)
        obtain ⟨rfl, q1, ha⟩ := hq2
        obtain rfl := q1.symm
        refine g_reti f_X10_at_45 rfl ?_ (Nat.zero_le _) (Nat.zero_le _)
        subst cy
        have e : a_at s (t : Int) 0 = (seersN (wz s) t : Int) := (if_neg (fun h => h hc)).trans rfl
        rw [e]
        exact ⟨rfl, rfl, hW.askA hO0 ha.askA, ha.askA.mdl⟩
      · refine g_alv f_X10_at_46 rfl ?_
        refine g_ild f_X10_at_47 rfl ?_
        refine g_cv1 hγ (c_mpays hG hX hO (t := t) (by omega)) f_X10_at_48 mo_X10_pays mv_X10_pays (by assumption) rfl rfl (Nat.le_of_ble_eq_true rfl) ⟨by decide, by decide⟩ ⟨Nat.le_refl _, Nat.le_refl _⟩ (fun x S' M2 hq2 => ?_)
        obtain ⟨rfl, q1, ha, -⟩ := hq2
        obtain rfl := q1.symm
        refine g_reti f_X10_at_51 rfl ?_ (Nat.zero_le _) (Nat.zero_le _)
        subst cy
        have e : a_at s (t : Int) 1 = (paidN (wz s) (seersN (wz s) t) : Int) := (if_neg (fun h => h hc)).trans rfl
        rw [e]
        exact ⟨rfl, rfl, hW.askA hO0 ha.askA, ha.askA.mdl⟩
      · refine g_alv f_X10_at_52 rfl ?_
        refine g_ild f_X10_at_53 rfl ?_
        refine g_cv1 hγ (c_mwhen hG hX hO hD (t := t) (by omega)) f_X10_at_54 mo_X10_when mv_X10_when (by assumption) rfl rfl (Nat.le_of_ble_eq_true rfl) ⟨by decide, by decide⟩ ⟨Nat.le_refl _, Nat.le_refl _⟩ (fun x S' M2 hq2 => ?_)
        obtain ⟨rfl, q1, ha⟩ := hq2
        obtain rfl := q1.symm
        refine g_reti f_X10_at_57 rfl ?_ (Nat.zero_le _) (Nat.zero_le _)
        subst cy
        have e : a_at s (t : Int) 2 = untilN (wz s) t := (if_neg (fun h => h hc)).trans rfl
        rw [e]
        exact ⟨rfl, rfl, hW.askA hO0 ha, ha.mdl⟩
      · refine g_alv f_X10_at_58 rfl ?_
        refine g_ild f_X10_at_59 rfl ?_
        refine g_cv1 hγ (c_mbricks hG hX hO (t := t) (by omega)) f_X10_at_60 mo_X10_bricks mv_X10_bricks (by assumption) rfl rfl (Nat.le_of_ble_eq_true rfl) ⟨by decide, by decide⟩ ⟨Nat.le_refl _, Nat.le_refl _⟩ (fun x S' M2 hq2 => ?_)
        obtain ⟨rfl, q1, ha⟩ := hq2
        obtain rfl := q1.symm
        refine g_reti f_X10_at_63 rfl ?_ (Nat.zero_le _) (Nat.zero_le _)
        subst cy
        have e : a_at s (t : Int) 3 = brickC (wz s) t := (if_neg (fun h => h hc)).trans rfl
        rw [e]
        exact ⟨rfl, rfl, hW.askA hO0 ha.askA, ha.askA.mdl⟩
    · exact absurd (by omega) hx
  · rw [if_neg hc] at hx
    subst hx
    refine g_if_ne f_X10_at_4 rfl (by omega) (fun hx => ?_) (fun hx => ?_)
    · exact absurd hx (by omega)
    refine g_const f_X10_at_7 ?_
    refine g_reti f_X10_at_8 rfl ?_ (Nat.zero_le _) (Nat.zero_le _)
    have e : a_at s c y = -1 := if_pos hc
    rw [e]
    exact ⟨rfl, rfl, hW, mdl.rf⟩

set_option maxHeartbeats 4000000 in
set_option maxRecDepth 100000 in
theorem m_share {Ω : Ow} {S : Sg} {M : Mm} {s : Wt} (hG : Gr S) (hW : RepM M s) (hO0 : okW s) (p c : Int) (hp : rg p) (hc0 : rg c) : Ct Ω mX10_share 8 0 0 1 [vr Ω 87, vi p, vi c] S M (fun x S' M' => x = a_share s p c ∧ S' = S ∧ RepM M' s ∧ mdl M M') := by
  refine Ct.mk (by decide) (Nat.le_of_ble_eq_true rfl) [some (vr Ω 87), some (vi p), some (vi c)] (by intro q hq; exact hq) (fun γ hγ hz => ?_)
  have hX := hW.mx hO0
  have hO : okZ (wz s) := hO0.1.1
  have hD : zd (wz s) ≤ 9999 := hO0.1.2.1
  obtain ⟨x1, x2, x3, x4, x5⟩ := id hX
  obtain ⟨z1, z2, z3, z4, z5⟩ := id hO
  obtain ⟨lw, d1, d2, d3, d4, d5, d6, d7, d8⟩ := hW.dr hO0
  obtain ⟨lz, l5, l10, l8⟩ := hO0.1.len
  have sS : okSeen (wn s).2.1 := hO0.1.2.2.1
  have sP : okPlan (zc (wz s)) (wn s).2.2.1 := hO0.1.2.2.2.1
  have sB : okBook (wn s).2.2.2 := hO0.1.2.2.2.2.1
  have o87 := om87 hG
  have gM40 : _ = ((112 : Nat) : Int) := grn hG (k := 87) (j := 40) (by decide)
  have aM112 := arn hG (r := 112) (c := 12) (n := 6) (by decide +kernel)
  refine g_alv f_X10_share_0 rfl ?_
  refine g_ild f_X10_share_1 rfl ?_
  refine g_cv1 hγ (c_misOne hG hX hO p (by omega)) f_X10_share_2 mo_X10_isOne mv_X10_isOne (by assumption) rfl rfl (Nat.le_of_ble_eq_true rfl) ⟨by decide, by decide⟩ ⟨Nat.le_refl _, Nat.le_refl _⟩ (fun x S' M' hq9 => ?_)
  obtain ⟨hx, q1, q2⟩ := hq9
  obtain rfl := q1.symm
  obtain rfl := q2.symm
  by_cases hip : 0 ≤ p ∧ p < (zc (wz s) : Int)
  · rw [if_pos hip] at hx
    subst hx
    obtain ⟨p2, rfl⟩ := Int.eq_ofNat_of_zero_le hip.1
    have hp2 : p2 < zc (wz s) := by omega
    have hp6 : p2 < 6 := by omega
    obtain ⟨r0, r1, r2, r3, r4, r5⟩ := id (x4 p2 hp2)
    obtain ⟨b1, b2, b3, b4, b5, b6⟩ := id (z4 p2 hp2)
    refine g_if_eq f_X10_share_5 rfl (by omega) (fun hx => ?_) (fun hx => ?_)
    · exact absurd hx (by omega)
    refine g_ild f_X10_share_8 rfl ?_
    refine g_cs1 hγ (c_misPlace c (by omega)) f_X10_share_9 mo_X10_isPlace mt_X10_isPlace rfl (Nat.le_of_ble_eq_true rfl) ⟨by decide, by decide⟩ ⟨Nat.le_refl _, Nat.le_refl _⟩ (fun x S' M' hq9 => ?_)
    obtain ⟨hx, q1, q2⟩ := hq9
    obtain rfl := q1.symm
    obtain rfl := q2.symm
    by_cases hc : 0 ≤ c ∧ c ≤ 11
    · rw [if_pos hc] at hx
      subst hx
      refine g_if_ne f_X10_share_12 rfl (by omega) (fun hx => ?_) (fun hx => ?_)
      · obtain ⟨t, rfl⟩ := Int.eq_ofNat_of_zero_le hc.1
        refine g_alv f_X10_share_17 rfl ?_
        refine g_ild f_X10_share_18 rfl ?_
        refine g_cv1 hγ (c_mpays hG hX hO (t := t) (by omega)) f_X10_share_19 mo_X10_pays mv_X10_pays (by assumption) rfl rfl (Nat.le_of_ble_eq_true rfl) ⟨by decide, by decide⟩ ⟨Nat.le_refl _, Nat.le_refl _⟩ (fun x S' M2 hq2 => ?_)
        obtain ⟨rfl, q1, ha, hsh⟩ := hq2
        obtain rfl := q1.symm
        refine g_pop f_X10_share_22 rfl ?_
        refine g_alv f_X10_share_23 rfl ?_
        refine g_getR f_X10_share_24 (by assumption) (by assumption) ?_
        refine g_ild f_X10_share_27 rfl ?_
        refine g_ial f_X10_share_28 (by assumption) _ rfl (by omega) ?_
        rw [hsh p2 hp2]
        refine g_reti f_X10_share_29 rfl ?_ (Nat.zero_le _) (Nat.zero_le _)
        have e : a_share s (p2 : Int) (t : Int) = (payN (zP (wz s) p2) (fineL (zL (wz s))) (seersN (wz s) t) p2 : Int) := if_pos ⟨hip, hc⟩
        rw [e]
        exact ⟨rfl, rfl, hW.askA hO0 ha.askA, ha.askA.mdl⟩
      · exact absurd (by omega) hx
    · rw [if_neg hc] at hx
      subst hx
      refine g_if_ne f_X10_share_12 rfl (by omega) (fun hx => ?_) (fun hx => ?_)
      · exact absurd hx (by omega)
      refine g_const f_X10_share_15 ?_
      refine g_reti f_X10_share_16 rfl ?_ (Nat.zero_le _) (Nat.zero_le _)
      first
      | (have e : a_share s p c = -1 := if_neg (by intro h; exact hip h.1); rw [e]; exact ⟨rfl, rfl, hW, mdl.rf⟩)
      | (have e : a_share s (p2 : Int) c = -1 := if_neg (by intro h; exact hc h.2); rw [e]; exact ⟨rfl, rfl, hW, mdl.rf⟩)
  · rw [if_neg hip] at hx
    subst hx
    refine g_if_eq f_X10_share_5 rfl (by omega) (fun hx => ?_) (fun hx => ?_)
    · refine g_const f_X10_share_15 ?_
      refine g_reti f_X10_share_16 rfl ?_ (Nat.zero_le _) (Nat.zero_le _)
      first
      | (have e : a_share s p c = -1 := if_neg (by intro h; exact hip h.1); rw [e]; exact ⟨rfl, rfl, hW, mdl.rf⟩)
      | (have e : a_share s (p2 : Int) c = -1 := if_neg (by intro h; exact hc h.2); rw [e]; exact ⟨rfl, rfl, hW, mdl.rf⟩)
    · exact absurd (by omega) hx
