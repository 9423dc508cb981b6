/-! contracts: the model's calls: odds, mean, ends, looked, image, undo, feed, trace, taken, count, tapes -/
set_option maxHeartbeats 4000000 in
set_option maxRecDepth 100000 in
theorem c_mpart {Ω : Ow} {S : Sg} {M : Mm} {a b : Nat} {part : Int} (ha : a ≤ 1000000) (hb : b ≤ 12) (hb0 : 0 < b) (hp0 : rg part) : Ct Ω mX10_part 1 0 0 2 [vi (a : Int), vi (b : Int), vi part] S M (fun x S' M' => x = fracN a b part ∧ S' = S ∧ M' = M) := by
  refine Ct.mk (by decide) (Nat.le_of_ble_eq_true rfl) [some (vi (a : Int)), some (vi (b : Int)), some (vi part), none, none, none] (by intro q hq; exact hq) (fun γ hγ hz => ?_)
  have tail : ∀ (x0 : Nat) (v5 : Option Value), x0 = Nat.gcd b a → Go γ Ω mX10_part (Zm γ Ω 2 0 0 (fun x S' M' => x = fracN a b part ∧ S' = S ∧ M' = M)) 0 0 S M 26 [some (vi (a : Int)), some (vi (b : Int)), some (vi part), some (vi (x0 : Int)), some (vi ((0 : Nat) : Int)), v5] [] := by
    intro x0 v5 hd
    have hd0 : 0 < x0 := by rw [hd]; exact Nat.gcd_pos_of_pos_left _ hb0
    have hda : x0 ≤ b := by rw [hd]; exact Nat.gcd_le_left _ hb0
    refine g_ild f_X10_part_26 rfl ?_
    refine g_if_ne f_X10_part_27 rfl (by omega) (fun hp => ?_) (fun hp => ?_)
    · refine g_ild f_X10_part_37 rfl ?_
      refine g_ild f_X10_part_38 rfl ?_
      refine g_idiv f_X10_part_39 (by omega) (by omega) ?_
      refine g_i2l f_X10_part_40 (by constructor <;> (have h1 := Int.ediv_nonneg (show (0:Int) ≤ (b:Int) by omega) (show (0:Int) ≤ (x0:Int) by omega); have h2 := Int.ediv_le_self (x0:Int) (show (0:Int) ≤ (b:Int) by omega); omega)) ?_
      refine g_retl f_X10_part_41 rfl ?_ (Nat.zero_le _) (Nat.zero_le _)
      refine ⟨?_, rfl, rfl⟩
      unfold fracN
      rw [← hd]
      first
      | (rw [if_pos (by omega)]; exact (Int.natCast_ediv _ _).symm)
      | (rw [if_neg (by omega)]; exact (Int.natCast_ediv _ _).symm)
    · refine g_ild f_X10_part_30 rfl ?_
      refine g_ild f_X10_part_31 rfl ?_
      refine g_idiv f_X10_part_32 (by omega) (by omega) ?_
      refine g_i2l f_X10_part_33 (by constructor <;> (have h1 := Int.ediv_nonneg (show (0:Int) ≤ (a:Int) by omega) (show (0:Int) ≤ (x0:Int) by omega); have h2 := Int.ediv_le_self (x0:Int) (show (0:Int) ≤ (a:Int) by omega); omega)) ?_
      refine g_goto f_X10_part_34 ?_
      refine g_retl f_X10_part_41 rfl ?_ (Nat.zero_le _) (Nat.zero_le _)
      refine ⟨?_, rfl, rfl⟩
      unfold fracN
      rw [← hd]
      first
      | (rw [if_pos (by omega)]; exact (Int.natCast_ediv _ _).symm)
      | (rw [if_neg (by omega)]; exact (Int.natCast_ediv _ _).symm)
  have loop : ∀ (k x0 y : Nat) (v5 : Option Value), y ≤ k → x0 ≤ 1000000 → y ≤ 12 → Nat.gcd x0 y = Nat.gcd b a → Go γ Ω mX10_part (Zm γ Ω 2 0 0 (fun x S' M' => x = fracN a b part ∧ S' = S ∧ M' = M)) 0 0 S M 5 [some (vi (a : Int)), some (vi (b : Int)), some (vi part), some (vi (x0 : Int)), some (vi (y : Int)), v5] [] := by
    intro k
    induction k with
    | zero =>
      intro x0 y v5 hk hx0 hy hg
      obtain rfl : y = 0 := by omega
      refine g_ild f_X10_part_5 rfl ?_
      refine g_if_eq f_X10_part_7 rfl (by omega) (fun hc => ?_) (fun hc => ?_)
      · exact tail x0 v5 (by rw [← hg, Nat.gcd_zero_right])
      · exact absurd (by omega) hc
    | succ k ih =>
      intro x0 y v5 hk hx0 hy hg
      refine g_ild f_X10_part_5 rfl ?_
      refine g_if_eq f_X10_part_7 rfl (by omega) (fun hc => ?_) (fun hc => ?_)
      · obtain rfl : y = 0 := by omega
        exact tail x0 v5 (by rw [← hg, Nat.gcd_zero_right])
      · refine g_ild f_X10_part_10 rfl ?_
        refine g_ild f_X10_part_11 rfl ?_
        refine g_irem f_X10_part_13 (by omega) (by omega) ?_
        rw [← Int.natCast_emod]
        refine g_ist_5 f_X10_part_14 (by decide) c1i ?_
        refine g_ild f_X10_part_16 rfl ?_
        refine g_ist_3 f_X10_part_18 (by decide) c1i ?_
        refine g_ild f_X10_part_19 rfl ?_
        refine g_ist_4 f_X10_part_21 (by decide) c1i ?_
        refine g_goto f_X10_part_23 ?_
        have hlt : x0 % y < y := Nat.mod_lt _ (by omega)
        exact ih y (x0 % y) _ (by omega) (by omega) (by omega) (by rw [← hg, Nat.gcd_comm x0 y, Nat.gcd_rec y x0, Nat.gcd_comm])
  refine g_ild f_X10_part_0 rfl ?_
  refine g_ist_3 f_X10_part_1 (by decide) c1i ?_
  refine g_ild f_X10_part_2 rfl ?_
  refine g_ist_4 f_X10_part_3 (by decide) c1i ?_
  exact loop 12 a b none (by omega) ha hb (Nat.gcd_comm _ _)

set_option maxHeartbeats 4000000 in
set_option maxRecDepth 100000 in
theorem m_odds {Ω : Ow} {S : Sg} {M : Mm} {s : Wt} (hG : Gr S) (hW : RepM M s) (hO0 : okW s) (c part : Int) (hc0 : rg c) (hp0 : rg part) : Ct Ω mX10_odds 7 0 0 2 [vr Ω 87, vi c, vi part] S M (fun x S' M' => x = a_odds s c part ∧ S' = S ∧ RepM M' s ∧ mdl M M') := by
  refine Ct.mk (by decide) (Nat.le_of_ble_eq_true rfl) [some (vr Ω 87), some (vi c), some (vi part), none, none, none] (by intro q hq; exact hq) (fun γ hγ hz => ?_)
  have hX := hW.mx hO0
  have hO : okZ (wz s) := hO0.1.1
  have hD : zd (wz s) ≤ 9999 := hO0.1.2.1
  obtain ⟨x1, x2, x3, x4, x5⟩ := id hX
  obtain ⟨z1, z2, z3, z4, z5⟩ := id hO
  obtain ⟨lw, d1, d2, d3, d4, d5, d6, d7, d8⟩ := hW.dr hO0
  obtain ⟨lz, l5, l10, l8⟩ := hO0.1.len
  have sS : okSeen (wn s).2.1 := hO0.1.2.2.1
  have sP : okPlan (zc (wz s)) (wn s).2.2.1 := hO0.1.2.2.2.1
  have sB : okBook (wn s).2.2.2 := hO0.1.2.2.2.2.1
  have o87 := om87 hG
  refine g_ild f_X10_odds_0 rfl ?_
  refine g_cs1 hγ (c_misPlace c (by omega)) f_X10_odds_1 mo_X10_isPlace mt_X10_isPlace rfl (Nat.le_of_ble_eq_true rfl) ⟨by decide, by decide⟩ ⟨Nat.le_refl _, Nat.le_refl _⟩ (fun x S' M' hq9 => ?_)
  obtain ⟨hx, q1, q2⟩ := hq9
  obtain rfl := q1.symm
  obtain rfl := q2.symm
  by_cases hc : 0 ≤ c ∧ c ≤ 11
  · rw [if_pos hc] at hx
    subst hx
    refine g_if_eq f_X10_odds_4 rfl (by omega) (fun hx => ?_) (fun hx => ?_)
    · exact absurd hx (by omega)
    refine g_ild f_X10_odds_7 rfl ?_
    refine g_const f_X10_odds_8 ?_
    refine g_const f_X10_odds_9 ?_
    refine g_cs1 hγ (c_mwithin part 0 1 (by omega) (by omega) (by omega)) f_X10_odds_10 mo_X10_within mt_X10_within rfl (Nat.le_of_ble_eq_true rfl) ⟨by decide, by decide⟩ ⟨Nat.le_refl _, Nat.le_refl _⟩ (fun x S' M' hq9 => ?_)
    obtain ⟨hx, q1, q2⟩ := hq9
    obtain rfl := q1.symm
    obtain rfl := q2.symm
    by_cases hp : 0 ≤ part ∧ part ≤ 1
    · rw [if_pos hp] at hx
      subst hx
      refine g_if_eq f_X10_odds_13 rfl (by omega) (fun hx => ?_) (fun hx => ?_)
      · exact absurd hx (by omega)
      refine g_alv f_X10_odds_16 rfl ?_
      refine g_getI f_X10_odds_17 (by assumption) ?_
      rw [x1]
      refine g_if_ne f_X10_odds_20 rfl (by omega) (fun h0 => ?_) (fun h0 => ?_)
      · obtain ⟨t, rfl⟩ := Int.eq_ofNat_of_zero_le hc.1
        refine g_alv f_X10_odds_27 rfl ?_
        refine g_ild f_X10_odds_28 rfl ?_
        refine g_cv1 hγ (c_mseers hG hX hO (t := t) (by omega)) f_X10_odds_29 mo_X10_seers mv_X10_seers (by assumption) rfl rfl (Nat.le_of_ble_eq_true rfl) ⟨by decide, by decide⟩ ⟨Nat.le_refl _, Nat.le_refl _⟩ (fun x S' M2 hq2 => ?_)
        obtain ⟨rfl, q1, ha⟩ := hq2
        obtain rfl := q1.symm
        have hsl := seersN_lt (t := t) hO
        have hX2 := hX.ask ha
        have loop : ∀ (k n : Nat), n + k = zc (wz s) → Go γ Ω mX10_odds (Zm γ Ω 2 0 0 (fun x S' M' => x = a_odds s (t : Int) part ∧ S' = S ∧ RepM M' s ∧ mdl M M')) 0 0 S M2 39 [some (vr Ω 87), some (vi (t : Int)), some (vi part), some (vi (seersN (wz s) t : Int)), some (vi (oddN (seersN (wz s) t) n : Int)), some (vi (n : Int))] [] := by
          have y1 : M2 87 0 = (zc (wz s) : Int) := hX2.1
          intro k
          induction k with
          | zero =>
            intro n hk
            have hn : n = zc (wz s) := by omega
            subst hn
            have hm9 := cntF_le (fun i => decide (band (seersN (wz s) t : Int) (bxor (bshl 1 (i : Int)) (-1)) = 0)) (zc (wz s))
            change oddN (seersN (wz s) t) (zc (wz s)) ≤ _ at hm9
            refine g_ild f_X10_odds_39 rfl ?_
            refine g_alv f_X10_odds_41 rfl ?_
            refine g_getI f_X10_odds_42 (by assumption) ?_
            rw [y1]
            refine g_icmp_ge f_X10_odds_45 rfl (by omega) (by omega) (fun hcc => ?_) (fun hcc => ?_)
            · refine g_ild f_X10_odds_68 rfl ?_
              refine g_alv f_X10_odds_70 rfl ?_
              refine g_getI f_X10_odds_71 (by assumption) ?_
              rw [y1]
              refine g_ild f_X10_odds_74 rfl ?_
              refine g_cs2 hγ (c_mpart (a := oddN (seersN (wz s) t) (zc (wz s))) (b := zc (wz s)) (part := part) (by omega) (by omega) (by omega) (by omega)) f_X10_odds_75 mo_X10_part mt_X10_part rfl (Nat.le_of_ble_eq_true rfl) ⟨by decide, by decide⟩ ⟨Nat.le_refl _, Nat.le_refl _⟩ (fun x S' M4 hq3 => ?_)
              obtain ⟨rfl, q1, q2⟩ := hq3
              obtain rfl := q1.symm
              obtain rfl := q2.symm
              refine g_retl f_X10_odds_78 rfl ?_ (Nat.zero_le _) (Nat.zero_le _)
              have e : a_odds s (t : Int) part = fracN (oddN (seersN (wz s) t) (zc (wz s))) (zc (wz s)) part := if_neg (fun h => h ⟨hc, hp, by omega⟩)
              rw [e]
              exact ⟨rfl, rfl, hW.askA hO0 ha.askA, ha.askA.mdl⟩
            · exact absurd (by omega) hcc
          | succ k ih =>
            intro n hk
            have hn : n < zc (wz s) := by omega
            have hih := ih (n + 1) (by omega)
            have eo : oddN (seersN (wz s) t) (n + 1) = oddN (seersN (wz s) t) n + (if decide (band (seersN (wz s) t : Int) (bxor (bshl 1 (n : Int)) (-1)) = 0) = true then 1 else 0) := rfl
            refine g_ild f_X10_odds_39 rfl ?_
            refine g_alv f_X10_odds_41 rfl ?_
            refine g_getI f_X10_odds_42 (by assumption) ?_
            rw [y1]
            refine g_icmp_ge f_X10_odds_45 rfl (by omega) (by omega) (fun hcc => ?_) (fun hcc => ?_)
            · exact absurd hcc (by omega)
            refine g_ild f_X10_odds_48 rfl ?_
            refine g_const f_X10_odds_49 ?_
            refine g_ild f_X10_odds_50 rfl ?_
            refine g_ishl f_X10_odds_52 ?_
            refine g_const f_X10_odds_53 ?_
            refine g_ixor f_X10_odds_54 ?_
            refine g_iand f_X10_odds_55 ?_
            refine g_if_ne f_X10_odds_56 rfl (by exact rg_of _) (fun hb => ?_) (fun hb => ?_)
            · refine g_inc_5 f_X10_odds_62 (by decide) c1i ?_
              refine g_goto f_X10_odds_65 ?_
              rw [eo, if_neg (by rw [decide_eq_true_eq]; omega)] at hih
              exact hih
            · have eo2 : (oddN (seersN (wz s) t) n : Int) + 1 = ((oddN (seersN (wz s) t) (n + 1) : Nat) : Int) := by rw [eo, if_pos (decide_eq_true (by omega))]; push_cast; rfl
              refine g_inc_4 f_X10_odds_59 (by decide) c1i ?_
              refine g_inc_5 f_X10_odds_62 (by decide) c1i ?_
              refine g_goto f_X10_odds_65 ?_
              rw [eo2]
              exact hih
        refine g_ist_3 f_X10_odds_32 (by decide) c1i ?_
        refine g_const f_X10_odds_33 ?_
        refine g_ist_4 f_X10_odds_34 (by decide) c1i ?_
        refine g_const f_X10_odds_36 ?_
        refine g_ist_5 f_X10_odds_37 (by decide) c1i ?_
        exact loop (zc (wz s)) 0 (by omega)
      · refine g_ldc2 (z := -9223372036854775808) f_X10_odds_23 (ldcL (by decide) w_1261) ?_
        refine g_retl f_X10_odds_26 rfl ?_ (Nat.zero_le _) (Nat.zero_le _)
        have e : a_odds s c part = -9223372036854775808 := if_pos (by intro h; first | exact hc h.1 | exact hp h.2.1 | exact h.2.2 (by omega))
        rw [e]
        exact ⟨rfl, rfl, hW, mdl.rf⟩
    · rw [if_neg hp] at hx
      subst hx
      refine g_if_eq f_X10_odds_13 rfl (by omega) (fun hx => ?_) (fun hx => ?_)
      · refine g_ldc2 (z := -9223372036854775808) f_X10_odds_23 (ldcL (by decide) w_1261) ?_
        refine g_retl f_X10_odds_26 rfl ?_ (Nat.zero_le _) (Nat.zero_le _)
        have e : a_odds s c part = -9223372036854775808 := if_pos (by intro h; first | exact hc h.1 | exact hp h.2.1 | exact h.2.2 (by omega))
        rw [e]
        exact ⟨rfl, rfl, hW, mdl.rf⟩
      · exact absurd (by omega) hx
  · rw [if_neg hc] at hx
    subst hx
    refine g_if_eq f_X10_odds_4 rfl (by omega) (fun hx => ?_) (fun hx => ?_)
    · refine g_ldc2 (z := -9223372036854775808) f_X10_odds_23 (ldcL (by decide) w_1261) ?_
      refine g_retl f_X10_odds_26 rfl ?_ (Nat.zero_le _) (Nat.zero_le _)
      have e : a_odds s c part = -9223372036854775808 := if_pos (by intro h; first | exact hc h.1 | exact hp h.2.1 | exact h.2.2 (by omega))
      rw [e]
      exact ⟨rfl, rfl, hW, mdl.rf⟩
    · exact absurd (by omega) hx

set_option maxHeartbeats 4000000 in
set_option maxRecDepth 100000 in
theorem m_mean {Ω : Ow} {S : Sg} {M : Mm} {s : Wt} (hG : Gr S) (hW : RepM M s) (hO0 : okW s) (part : Int) (hp0 : rg part) : Ct Ω mX10_mean 8 0 0 2 [vr Ω 87, vi part] S M (fun x S' M' => x = a_mean s part ∧ S' = S ∧ RepM M' s ∧ mdl M M') := by
  refine Ct.mk (by decide) (Nat.le_of_ble_eq_true rfl) [some (vr Ω 87), some (vi part), none, none] (by intro q hq; exact hq) (fun γ hγ hz => ?_)
  have hX := hW.mx hO0
  have hO : okZ (wz s) := hO0.1.1
  have hD : zd (wz s) ≤ 9999 := hO0.1.2.1
  obtain ⟨x1, x2, x3, x4, x5⟩ := id hX
  obtain ⟨z1, z2, z3, z4, z5⟩ := id hO
  obtain ⟨lw, d1, d2, d3, d4, d5, d6, d7, d8⟩ := hW.dr hO0
  obtain ⟨lz, l5, l10, l8⟩ := hO0.1.len
  have sS : okSeen (wn s).2.1 := hO0.1.2.2.1
  have sP : okPlan (zc (wz s)) (wn s).2.2.1 := hO0.1.2.2.2.1
  have sB : okBook (wn s).2.2.2 := hO0.1.2.2.2.2.1
  have o87 := om87 hG
  refine g_ild f_X10_mean_0 rfl ?_
  refine g_const f_X10_mean_1 ?_
  refine g_const f_X10_mean_2 ?_
  refine g_cs1 hγ (c_mwithin part 0 1 (by omega) (by omega) (by omega)) f_X10_mean_3 mo_X10_within mt_X10_within rfl (Nat.le_of_ble_eq_true rfl) ⟨by decide, by decide⟩ ⟨Nat.le_refl _, Nat.le_refl _⟩ (fun x S' M' hq9 => ?_)
  obtain ⟨hx, q1, q2⟩ := hq9
  obtain rfl := q1.symm
  obtain rfl := q2.symm
  by_cases hp : 0 ≤ part ∧ part ≤ 1
  · rw [if_pos hp] at hx
    subst hx
    refine g_if_ne f_X10_mean_6 rfl (by omega) (fun hx => ?_) (fun hx => ?_)
    · have loop : ∀ (k n : Nat) (M1 : Mm), n + k = 12 → ask M M1 → Go γ Ω mX10_mean (Zm γ Ω 2 0 0 (fun x S' M' => x = a_mean s part ∧ S' = S ∧ RepM M' s ∧ mdl M M')) 0 0 S M1 17 [some (vr Ω 87), some (vi part), some (vi (meanN (wz s) n : Int)), some (vi (n : Int))] [] := by
        intro k
        induction k with
        | zero =>
          intro n M1 hk ha
          have hn : n = 12 := by omega
          subst hn
          have hm9 := meanN_le hO 12
          refine g_ild f_X10_mean_17 rfl ?_
          refine g_const f_X10_mean_18 ?_
          refine g_icmp_ge f_X10_mean_20 rfl (by omega) (by omega) (fun hc => ?_) (fun hc => ?_)
          · refine g_ild f_X10_mean_37 rfl ?_
            refine g_const f_X10_mean_38 ?_
            refine g_ild f_X10_mean_40 rfl ?_
            refine g_cs2 hγ (c_mpart (a := meanN (wz s) 12) (b := 12) (part := part) (by omega) (by decide) (by decide) (by omega)) f_X10_mean_41 mo_X10_part mt_X10_part rfl (Nat.le_of_ble_eq_true rfl) ⟨by decide, by decide⟩ ⟨Nat.le_refl _, Nat.le_refl _⟩ (fun x S' M3 hq3 => ?_)
            obtain ⟨rfl, q1, q2⟩ := hq3
            obtain rfl := q1.symm
            obtain rfl := q2.symm
            refine g_retl f_X10_mean_44 rfl ?_ (Nat.zero_le _) (Nat.zero_le _)
            have e : a_mean s part = fracN (meanN (wz s) 12) 12 part := if_neg (fun h => h hp)
            rw [e]
            exact ⟨rfl, rfl, hW.askA hO0 ha.askA, ha.askA.mdl⟩
          · exact absurd (by omega) hc
        | succ k ih =>
          intro n M1 hk ha
          have hn : n < 12 := by omega
          have hm9 := meanN_le hO n
          have hm8 := paidN_le (who := seersN (wz s) n) hO
          refine g_ild f_X10_mean_17 rfl ?_
          refine g_const f_X10_mean_18 ?_
          refine g_icmp_ge f_X10_mean_20 rfl (by omega) (by omega) (fun hc => ?_) (fun hc => ?_)
          · exact absurd hc (by omega)
          refine g_ild f_X10_mean_23 rfl ?_
          refine g_alv f_X10_mean_24 rfl ?_
          refine g_ild f_X10_mean_25 rfl ?_
          refine g_cv1 hγ (c_mpays hG (hX.ask ha) hO (t := n) hn) f_X10_mean_26 mo_X10_pays mv_X10_pays (by assumption) rfl rfl (Nat.le_of_ble_eq_true rfl) ⟨by decide, by decide⟩ ⟨Nat.le_refl _, Nat.le_refl _⟩ (fun x S' M2 hq2 => ?_)
          obtain ⟨rfl, q1, ha2, -⟩ := hq2
          obtain rfl := q1.symm
          refine g_iadd f_X10_mean_29 ?_
          refine g_as (show (meanN (wz s) n : Int) + (paidN (wz s) (seersN (wz s) n) : Int) = ((meanN (wz s) (n + 1) : Nat) : Int) by unfold meanN; rw [sumF]; push_cast; rfl) ?_
          refine g_ist_2 f_X10_mean_30 (by decide) c1i ?_
          refine g_inc_3 f_X10_mean_31 (by decide) c1i ?_
          refine g_goto f_X10_mean_34 ?_
          exact ih (n + 1) M2 (by omega) (ha.tr ha2)
      refine g_const f_X10_mean_13 ?_
      refine g_ist_2 f_X10_mean_14 (by decide) c1i ?_
      refine g_const f_X10_mean_15 ?_
      refine g_ist_3 f_X10_mean_16 (by decide) c1i ?_
      exact loop 12 0 M rfl ask.rf
    · exact absurd (by omega) hx
  · rw [if_neg hp] at hx
    subst hx
    refine g_if_ne f_X10_mean_6 rfl (by omega) (fun hx => ?_) (fun hx => ?_)
    · exact absurd hx (by omega)
    refine g_ldc2 (z := -9223372036854775808) f_X10_mean_9 (ldcL (by decide) w_1261) ?_
    refine g_retl f_X10_mean_12 rfl ?_ (Nat.zero_le _) (Nat.zero_le _)
    have e : a_mean s part = -9223372036854775808 := if_pos hp
    rw [e]
    exact ⟨rfl, rfl, hW, mdl.rf⟩

set_option maxHeartbeats 4000000 in
set_option maxRecDepth 100000 in
theorem m_ends0 {Ω : Ow} {S : Sg} {M : Mm} {s : Wt} (hG : Gr S) (hW : RepM M s) (hO0 : okW s) (y : Int) (hy0 : rg y) (hy : ¬ inN y 1) : Ct Ω mX10_ends 9 0 0 1 [vr Ω 87, vi y] S M (fun x S' M' => x = a_ends s y ∧ S' = S ∧ RepM M' s ∧ mdl M M') := by
  refine Ct.mk (by decide) (Nat.le_of_ble_eq_true rfl) [some (vr Ω 87), some (vi y), none, none] (by intro q hq; exact hq) (fun γ hγ hz => ?_)
  have hX := hW.mx hO0
  have hO : okZ (wz s) := hO0.1.1
  have hD : zd (wz s) ≤ 9999 := hO0.1.2.1
  obtain ⟨x1, x2, x3, x4, x5⟩ := id hX
  obtain ⟨z1, z2, z3, z4, z5⟩ := id hO
  obtain ⟨lw, d1, d2, d3, d4, d5, d6, d7, d8⟩ := hW.dr hO0
  obtain ⟨lz, l5, l10, l8⟩ := hO0.1.len
  have sS : okSeen (wn s).2.1 := hO0.1.2.2.1
  have sP : okPlan (zc (wz s)) (wn s).2.2.1 := hO0.1.2.2.2.1
  have sB : okBook (wn s).2.2.2 := hO0.1.2.2.2.2.1
  have o87 := om87 hG
  have gM5 : _ = ((92 : Nat) : Int) := grn hG (k := 87) (j := 5) (by decide)
  have aM92 := arn hG (r := 92) (c := 12) (n := 6) (by decide +kernel)
  have gM30 : _ = ((105 : Nat) : Int) := grn hG (k := 87) (j := 30) (by decide)
  have aM105 := arn hG (r := 105) (c := 12) (n := 10) (by decide +kernel)
  have gM31 : _ = ((106 : Nat) : Int) := grn hG (k := 87) (j := 31) (by decide)
  have aM106 := arn hG (r := 106) (c := 12) (n := 10) (by decide +kernel)
  have gM39 : _ = ((111 : Nat) : Int) := grn hG (k := 87) (j := 39) (by decide)
  have aM111 := arn hG (r := 111) (c := 12) (n := 112) (by decide +kernel)
  refine g_ild f_X10_ends_0 rfl ?_
  refine g_const f_X10_ends_1 ?_
  refine g_const f_X10_ends_2 ?_
  refine g_cs1 hγ (c_mwithin y 0 1 (by omega) (by omega) (by omega)) f_X10_ends_3 mo_X10_within mt_X10_within rfl (Nat.le_of_ble_eq_true rfl) ⟨by decide, by decide⟩ ⟨Nat.le_refl _, Nat.le_refl _⟩ (fun x S' M' hq9 => ?_)
  obtain ⟨hx, q1, q2⟩ := hq9
  obtain rfl := q1.symm
  obtain rfl := q2.symm
  by_cases hy1 : 0 ≤ y ∧ y ≤ 1
  · rw [if_pos hy1] at hx
    subst hx
    refine g_if_ne f_X10_ends_6 rfl (by omega) (fun hx => ?_) (fun hx => ?_)
    · exact absurd hy1 hy
    · exact absurd (by omega) hx
  · rw [if_neg hy1] at hx
    subst hx
    refine g_if_ne f_X10_ends_6 rfl (by omega) (fun hx => ?_) (fun hx => ?_)
    · exact absurd hx (by omega)
    refine g_const f_X10_ends_9 ?_
    refine g_reti f_X10_ends_10 rfl ?_ (Nat.zero_le _) (Nat.zero_le _)
    have e : a_ends s y = -1 := if_pos hy
    rw [e]
    exact ⟨rfl, rfl, hW, mdl.rf⟩

theorem m_ends {Ω : Ow} {S : Sg} {M : Mm} {s : Wt} (hG : Gr S) (hW : RepM M s) (hO0 : okW s) (y : Int) (hy0 : rg y) : Ct Ω mX10_ends 9 0 0 1 [vr Ω 87, vi y] S M (fun x S' M' => x = a_ends s y ∧ S' = S ∧ RepM M' s ∧ mdl M M') := by
  by_cases hy : inN y 1
  · have hX := hW.mx hO0
    obtain ⟨lw, d1, d2, d3, d4, d5, d6, d7, d8⟩ := hW.dr hO0
    refine (c_mends hG hX hO0.1.1 hO0.1.2.1 d6 hO0.1.2.2.2.1 hO0.1.len.2.2.1 (w := y) (by omega)).weaken (fun x S1 M1 h => ?_)
    obtain ⟨rfl, rfl, ha⟩ := h
    refine ⟨?_, rfl, hW.askA hO0 ha, ha.mdl⟩
    exact (if_neg (fun h => h hy)).symm
  · exact m_ends0 hG hW hO0 y hy0 hy
set_option maxHeartbeats 4000000 in
set_option maxRecDepth 100000 in
theorem m_looked {Ω : Ow} {S : Sg} {M : Mm} {s : Wt} (hG : Gr S) (hW : RepM M s) (hO0 : okW s) (hBk : bkZ (wn s)) : Ct Ω mX10_looked 1 0 0 1 [vr Ω 87] S M (fun x S' M' => x = a_looked s ∧ S' = S ∧ RepM M' s ∧ mdl M M') := by
  refine Ct.mk (by decide) (Nat.le_of_ble_eq_true rfl) [some (vr Ω 87), none] (by intro q hq; exact hq) (fun γ hγ hz => ?_)
  have hX := hW.mx hO0
  have hO : okZ (wz s) := hO0.1.1
  have hD : zd (wz s) ≤ 9999 := hO0.1.2.1
  obtain ⟨x1, x2, x3, x4, x5⟩ := id hX
  obtain ⟨z1, z2, z3, z4, z5⟩ := id hO
  obtain ⟨lw, d1, d2, d3, d4, d5, d6, d7, d8⟩ := hW.dr hO0
  obtain ⟨lz, l5, l10, l8⟩ := hO0.1.len
  have sS : okSeen (wn s).2.1 := hO0.1.2.2.1
  have sP : okPlan (zc (wz s)) (wn s).2.2.1 := hO0.1.2.2.2.1
  have sB : okBook (wn s).2.2.2 := hO0.1.2.2.2.2.1
  have o87 := om87 hG
  have gM4 : _ = ((91 : Nat) : Int) := grn hG (k := 87) (j := 4) (by decide)
  have aM91 := arn hG (r := 91) (c := 12) (n := 6) (by decide +kernel)
  have gM33 : _ = ((107 : Nat) : Int) := grn hG (k := 87) (j := 33) (by decide)
  have aM107 := arn hG (r := 107) (c := 12) (n := 8) (by decide +kernel)
  have gM34 : _ = ((108 : Nat) : Int) := grn hG (k := 87) (j := 34) (by decide)
  have aM108 := arn hG (r := 108) (c := 12) (n := 8) (by decide +kernel)
  have loop : ∀ (k n : Nat), n + k = (wn s).2.2.2.length → fstF k n (fun i => decide (¬ (inP s (tg (wn s).2.2.2 i 0) ∧ (zP (wz s) (tg (wn s).2.2.2 i 0).toNat 3 : Int) = tg (wn s).2.2.2 i 1))) = a_looked s → Go γ Ω mX10_looked (Zm γ Ω 1 0 0 (fun x S' M' => x = a_looked s ∧ S' = S ∧ RepM M' s ∧ mdl M M')) 0 0 S M 2 [some (vr Ω 87), some (vi (n : Int))] [] := by
    intro k
    induction k with
    | zero =>
      intro n hk hf
      have hf2 : a_looked s = -5 := hf.symm
      refine g_ild f_X10_looked_2 rfl ?_
      refine g_alv f_X10_looked_3 rfl ?_
      refine g_getI f_X10_looked_4 (by assumption) ?_
      rw [d7.1]
      refine g_icmp_ge f_X10_looked_7 rfl (by omega) (by omega) (fun hc => ?_) (fun hc => ?_)
      · refine g_const f_X10_looked_38 ?_
        refine g_reti f_X10_looked_40 rfl ?_ (Nat.zero_le _) (Nat.zero_le _)
        rw [hf2]
        exact ⟨rfl, rfl, hW, mdl.rf⟩
      · exact absurd (by omega) hc
    | succ k ih =>
      intro n hk hf
      have hn : n < (wn s).2.2.2.length := by omega
      obtain ⟨u0, u1⟩ := d7.2 n hn
      obtain ⟨⟨s0, s1⟩, s2, s3⟩ := sB n hn
      have s4 := hBk n hn
      obtain ⟨p, hp⟩ := Int.eq_ofNat_of_zero_le s0
      have hpz : p < zc (wz s) := by have : tg (wn s).2.2.2 n 0 < (zc (wz s) : Int) := s4; omega
      have r3 := (x4 p hpz).2.2.2.1
      have b4 := (z4 p hpz).2.2.2.1
      have hst : fstF (k + 1) n (fun i => decide (¬ (inP s (tg (wn s).2.2.2 i 0) ∧ (zP (wz s) (tg (wn s).2.2.2 i 0).toNat 3 : Int) = tg (wn s).2.2.2 i 1))) = if decide (¬ (inP s (tg (wn s).2.2.2 n 0) ∧ (zP (wz s) (tg (wn s).2.2.2 n 0).toNat 3 : Int) = tg (wn s).2.2.2 n 1)) = true then (n : Int) else fstF k (n + 1) (fun i => decide (¬ (inP s (tg (wn s).2.2.2 i 0) ∧ (zP (wz s) (tg (wn s).2.2.2 i 0).toNat 3 : Int) = tg (wn s).2.2.2 i 1))) := rfl
      rw [hf, hp] at hst
      have hpt : ((p : Int)).toNat = p := rfl
      rw [hpt] at hst
      have hin : inP s (p : Int) := ⟨by omega, by omega⟩
      refine g_ild f_X10_looked_2 rfl ?_
      refine g_alv f_X10_looked_3 rfl ?_
      refine g_getI f_X10_looked_4 (by assumption) ?_
      rw [d7.1]
      refine g_icmp_ge f_X10_looked_7 rfl (by omega) (by omega) (fun hc => ?_) (fun hc => ?_)
      · exact absurd hc (by omega)
      refine g_alv f_X10_looked_10 rfl ?_
      refine g_getR f_X10_looked_11 (by assumption) (by assumption) ?_
      refine g_alv f_X10_looked_14 rfl ?_
      refine g_getR f_X10_looked_15 (by assumption) (by assumption) ?_
      refine g_ild f_X10_looked_18 rfl ?_
      refine g_ial f_X10_looked_19 (by assumption) n (by omega) (by omega) ?_
      rw [u0, hp]
      refine g_ial f_X10_looked_20 (by assumption) p (by omega) (by omega) ?_
      rw [r3]
      refine g_alv f_X10_looked_21 rfl ?_
      refine g_getR f_X10_looked_22 (by assumption) (by assumption) ?_
      refine g_ild f_X10_looked_25 rfl ?_
      refine g_ial f_X10_looked_26 (by assumption) n (by omega) (by omega) ?_
      rw [u1]
      refine g_icmp_eq f_X10_looked_27 rfl (by omega) (by omega) (fun hb => ?_) (fun hb => ?_)
      · refine g_inc_1 f_X10_looked_32 (by decide) c1v ?_
        refine g_goto f_X10_looked_35 ?_
        rw [if_neg (by rw [decide_eq_true_eq]; exact fun h => h ⟨hin, by omega⟩)] at hst
        exact ih (n + 1) (by omega) hst.symm
      · refine g_ild f_X10_looked_30 rfl ?_
        refine g_reti f_X10_looked_31 rfl ?_ (Nat.zero_le _) (Nat.zero_le _)
        rw [if_pos (by rw [decide_eq_true_eq]; exact fun h => hb h.2)] at hst
        rw [hst]
        exact ⟨rfl, rfl, hW, mdl.rf⟩
  refine g_const f_X10_looked_0 ?_
  refine g_ist_1 f_X10_looked_1 (by decide) c1v ?_
  exact loop (wn s).2.2.2.length 0 (by omega) rfl

set_option maxHeartbeats 4000000 in
set_option maxRecDepth 100000 in
theorem m_image {Ω : Ow} {S : Sg} {M : Mm} {s : Wt} (hG : Gr S) (hW : RepM M s) (hO0 : okW s) : Ct Ω mX10_image 2 0 0 1 [vr Ω 87] S M (fun x S' M' => x = (a_image s).1 ∧ S' = S ∧ RepM M' (a_image s).2 ∧ mdl M M') := by
  refine Ct.mk (by decide) (Nat.le_of_ble_eq_true rfl) [some (vr Ω 87)] (by intro q hq; exact hq) (fun γ hγ hz => ?_)
  have hX := hW.mx hO0
  have hO : okZ (wz s) := hO0.1.1
  have hD : zd (wz s) ≤ 9999 := hO0.1.2.1
  obtain ⟨x1, x2, x3, x4, x5⟩ := id hX
  obtain ⟨z1, z2, z3, z4, z5⟩ := id hO
  obtain ⟨lw, d1, d2, d3, d4, d5, d6, d7, d8⟩ := hW.dr hO0
  obtain ⟨lz, l5, l10, l8⟩ := hO0.1.len
  have sS : okSeen (wn s).2.1 := hO0.1.2.2.1
  have sP : okPlan (zc (wz s)) (wn s).2.2.1 := hO0.1.2.2.2.1
  have sB : okBook (wn s).2.2.2 := hO0.1.2.2.2.2.1
  have o87 := om87 hG
  have gM38 : _ = ((110 : Nat) : Int) := grn hG (k := 87) (j := 38) (by decide)
  have aM110 := arn hG (r := 110) (c := 12) (n := 112) (by decide +kernel)
  refine g_alv f_X10_image_0 rfl ?_
  refine g_const f_X10_image_1 ?_
  refine g_putZ f_X10_image_2 rfl (Or.inr rfl) (by assumption) ?_
  refine g_alv f_X10_image_5 rfl ?_
  refine g_alv f_X10_image_6 rfl ?_
  refine g_getR f_X10_image_7 (by assumption) (by assumption) ?_
  refine g_cv0 hγ (c_mkeep hG (r := 110) (Or.inl rfl)) f_X10_image_10 mo_X10_keep mv_X10_keep (by assumption) rfl rfl (Nat.le_of_ble_eq_true rfl) ⟨by decide, by decide⟩ ⟨Nat.le_refl _, Nat.le_refl _⟩ (fun x S' M2 hq2 => ?_)
  obtain ⟨q1, hk1, hk2⟩ := hq2
  obtain rfl := q1.symm
  obtain ⟨h9, h8⟩ := hW.image hO0 hk1 hk2
  have y1 : M2 87 0 = (zc (wz s) : Int) := by rw [hk1 87 (by decide), up_n (by omega)]; exact x1
  refine g_alv f_X10_image_13 rfl ?_
  refine g_getI f_X10_image_14 (by assumption) ?_
  rw [y1]
  refine g_reti f_X10_image_17 rfl ?_ (Nat.zero_le _) (Nat.zero_le _)
  exact ⟨rfl, rfl, h9, h8⟩

set_option maxHeartbeats 4000000 in
set_option maxRecDepth 100000 in
theorem m_undo {Ω : Ow} {S : Sg} {M : Mm} {s : Wt} (hG : Gr S) (hW : RepM M s) (hO0 : okW s) : Ct Ω mX10_undo 2 0 0 1 [vr Ω 87] S M (fun x S' M' => x = (a_undo s).1 ∧ S' = S ∧ RepM M' (a_undo s).2 ∧ mdl M M') := by
  refine Ct.mk (by decide) (Nat.le_of_ble_eq_true rfl) [some (vr Ω 87)] (by intro q hq; exact hq) (fun γ hγ hz => ?_)
  have hX := hW.mx hO0
  have hO : okZ (wz s) := hO0.1.1
  have hD : zd (wz s) ≤ 9999 := hO0.1.2.1
  obtain ⟨x1, x2, x3, x4, x5⟩ := id hX
  obtain ⟨z1, z2, z3, z4, z5⟩ := id hO
  obtain ⟨lw, d1, d2, d3, d4, d5, d6, d7, d8⟩ := hW.dr hO0
  obtain ⟨lz, l5, l10, l8⟩ := hO0.1.len
  have sS : okSeen (wn s).2.1 := hO0.1.2.2.1
  have sP : okPlan (zc (wz s)) (wn s).2.2.1 := hO0.1.2.2.2.1
  have sB : okBook (wn s).2.2.2 := hO0.1.2.2.2.2.1
  have o87 := om87 hG
  have gM38 : _ = ((110 : Nat) : Int) := grn hG (k := 87) (j := 38) (by decide)
  have aM110 := arn hG (r := 110) (c := 12) (n := 112) (by decide +kernel)
  rcases hW.kept with ⟨hkn, hk0⟩ | ⟨k0, hkn, hk0⟩
  · refine g_alv f_X10_undo_0 rfl ?_
    refine g_getI f_X10_undo_1 (by assumption) ?_
    rw [hk0]
    refine g_if_ne f_X10_undo_4 rfl (by omega) (fun hc => ?_) (fun hc => ?_)
    · exact absurd hc (by omega)
    refine g_const f_X10_undo_7 ?_
    refine g_reti f_X10_undo_9 rfl ?_ (Nat.zero_le _) (Nat.zero_le _)
    have e : a_undo s = (-3, s) := by unfold a_undo; rw [hkn]
    rw [e]
    exact ⟨rfl, rfl, hW, mdl.rf⟩
  · refine g_alv f_X10_undo_0 rfl ?_
    refine g_getI f_X10_undo_1 (by assumption) ?_
    rw [hk0]
    refine g_if_ne f_X10_undo_4 rfl (by omega) (fun hc => ?_) (fun hc => ?_)
    · refine g_alv f_X10_undo_10 rfl ?_
      refine g_alv f_X10_undo_11 rfl ?_
      refine g_getR f_X10_undo_12 (by assumption) (by assumption) ?_
      refine g_cv0 hγ (c_magain hG (r := 110) (Or.inl rfl)) f_X10_undo_15 mo_X10_again mv_X10_again (by assumption) rfl rfl (Nat.le_of_ble_eq_true rfl) ⟨by decide, by decide⟩ ⟨Nat.le_refl _, Nat.le_refl _⟩ (fun x S' M2 hq2 => ?_)
      obtain ⟨q1, hag⟩ := hq2
      obtain rfl := q1.symm
      obtain ⟨h9, h8⟩ := hW.undo hO0 hkn hag
      have hO2 := hO0.2.1
      rw [hkn] at hO2
      obtain ⟨Lt, K, k1, k2, k3, k4, k5, -⟩ := id h9
      have y1 : M2 87 0 = (zc k0.1 : Int) := k5.1
      have hz6 : zc k0.1 ≤ 6 := (okS.len hO2).1
      refine g_alv f_X10_undo_18 rfl ?_
      refine g_getI f_X10_undo_19 (by assumption) ?_
      rw [y1]
      refine g_reti f_X10_undo_22 rfl ?_ (Nat.zero_le _) (Nat.zero_le _)
      have e : a_undo s = ((zc k0.1 : Int), putN s k0) := by unfold a_undo; rw [hkn]
      rw [e]
      exact ⟨rfl, rfl, h9, h8⟩
    · exact absurd (by omega) hc

set_option maxHeartbeats 4000000 in
set_option maxRecDepth 100000 in
theorem m_feed {Ω : Ow} {S : Sg} {M : Mm} {s : Wt} (hG : Gr S) (hW : RepM M s) (hO0 : okW s) (c : Int) (hc0 : rg c) : Ct Ω mX10_feed 2 0 0 1 [vr Ω 87, vi c] S M (fun x S' M' => x = (a_feed s c).1 ∧ S' = S ∧ RepM M' (a_feed s c).2 ∧ mdl M M') := by
  refine Ct.mk (by decide) (Nat.le_of_ble_eq_true rfl) [some (vr Ω 87), some (vi c)] (by intro q hq; exact hq) (fun γ hγ hz => ?_)
  have hX := hW.mx hO0
  have hO : okZ (wz s) := hO0.1.1
  have hD : zd (wz s) ≤ 9999 := hO0.1.2.1
  obtain ⟨x1, x2, x3, x4, x5⟩ := id hX
  obtain ⟨z1, z2, z3, z4, z5⟩ := id hO
  obtain ⟨lw, d1, d2, d3, d4, d5, d6, d7, d8⟩ := hW.dr hO0
  obtain ⟨lz, l5, l10, l8⟩ := hO0.1.len
  have sS : okSeen (wn s).2.1 := hO0.1.2.2.1
  have sP : okPlan (zc (wz s)) (wn s).2.2.1 := hO0.1.2.2.2.1
  have sB : okBook (wn s).2.2.2 := hO0.1.2.2.2.2.1
  have o87 := om87 hG
  have gM10 : _ = ((94 : Nat) : Int) := grn hG (k := 87) (j := 10) (by decide)
  have aM94 := arn hG (r := 94) (c := 12) (n := 100) (by decide +kernel)
  refine g_ild f_X10_feed_0 rfl ?_
  refine g_const f_X10_feed_1 ?_
  refine g_const f_X10_feed_2 ?_
  refine g_cs1 hγ (c_mwithin c 0 127 (by omega) (by omega) (by omega)) f_X10_feed_4 mo_X10_within mt_X10_within rfl (Nat.le_of_ble_eq_true rfl) ⟨by decide, by decide⟩ ⟨Nat.le_refl _, Nat.le_refl _⟩ (fun x S' M' hq9 => ?_)
  obtain ⟨hx, q1, q2⟩ := hq9
  obtain rfl := q1.symm
  obtain rfl := q2.symm
  by_cases hc : 0 ≤ c ∧ c ≤ 127
  · rw [if_pos hc] at hx
    subst hx
    refine g_if_ne f_X10_feed_7 rfl (by omega) (fun hx => ?_) (fun hx => ?_)
    · obtain ⟨t, rfl⟩ := Int.eq_ofNat_of_zero_le hc.1
      obtain ⟨t1, t2⟩ := id hW.tx
      have tl : (wx s).length ≤ 100 := hO0.2.2.2.1.1
      refine g_alv f_X10_feed_13 rfl ?_
      refine g_getI f_X10_feed_14 (by assumption) ?_
      rw [t1]
      refine g_const f_X10_feed_17 ?_
      refine g_icmp_ne f_X10_feed_19 rfl (by omega) (by omega) (fun h1 => ?_) (fun h1 => ?_)
      · refine g_alv f_X10_feed_25 rfl ?_
        refine g_getR f_X10_feed_26 (by assumption) (by assumption) ?_
        refine g_alv f_X10_feed_29 rfl ?_
        refine g_dup f_X10_feed_30 rfl ?_
        refine g_getI f_X10_feed_31 (by assumption) ?_
        rw [t1]
        refine g_dup_x1 f_X10_feed_34 rfl rfl ?_
        refine g_const f_X10_feed_35 ?_
        refine g_iadd f_X10_feed_36 ?_
        refine g_putI f_X10_feed_37 rfl (by assumption) ?_
        refine g_ild f_X10_feed_40 rfl ?_
        refine g_ias f_X10_feed_41 (by assumption) (wx s).length (by omega) (by omega) ?_
        refine g_alv f_X10_feed_42 rfl ?_
        refine g_getI f_X10_feed_43 (by assumption) ?_
        rw [up_row (by decide), up_s]
        refine g_reti f_X10_feed_46 rfl ?_ (Nat.zero_le _) (Nat.zero_le _)
        have e : a_feed s (t : Int) = (((wx s).length : Int) + 1, putX s (wx s ++ [t])) := (if_neg (fun h => h hc)).trans (if_neg (by omega))
        rw [e]
        obtain ⟨h9, h8⟩ := hW.feed hO0 (c := t)
        exact ⟨rfl, rfl, h9, h8⟩
      · refine g_const f_X10_feed_22 ?_
        refine g_reti f_X10_feed_24 rfl ?_ (Nat.zero_le _) (Nat.zero_le _)
        have e : a_feed s (t : Int) = (-4, s) := (if_neg (fun h => h hc)).trans (if_pos (by omega))
        rw [e]
        exact ⟨rfl, rfl, hW, mdl.rf⟩
    · exact absurd (by omega) hx
  · rw [if_neg hc] at hx
    subst hx
    refine g_if_ne f_X10_feed_7 rfl (by omega) (fun hx => ?_) (fun hx => ?_)
    · exact absurd hx (by omega)
    refine g_const f_X10_feed_10 ?_
    refine g_reti f_X10_feed_12 rfl ?_ (Nat.zero_le _) (Nat.zero_le _)
    have e : a_feed s c = (-2, s) := if_pos hc
    rw [e]
    exact ⟨rfl, rfl, hW, mdl.rf⟩

set_option maxHeartbeats 4000000 in
set_option maxRecDepth 100000 in
theorem m_trace {Ω : Ow} {S : Sg} {M : Mm} {s : Wt} (hG : Gr S) (hW : RepM M s) (hO0 : okW s) (i : Int) (hi : rg i) : Ct Ω mX10_trace 2 0 0 1 [vr Ω 87, vi i] S M (fun x S' M' => x = a_trace s i ∧ S' = S ∧ RepM M' s ∧ mdl M M') := by
  refine Ct.mk (by decide) (Nat.le_of_ble_eq_true rfl) [some (vr Ω 87), some (vi i)] (by intro q hq; exact hq) (fun γ hγ hz => ?_)
  have hX := hW.mx hO0
  have hO : okZ (wz s) := hO0.1.1
  have hD : zd (wz s) ≤ 9999 := hO0.1.2.1
  obtain ⟨x1, x2, x3, x4, x5⟩ := id hX
  obtain ⟨z1, z2, z3, z4, z5⟩ := id hO
  obtain ⟨lw, d1, d2, d3, d4, d5, d6, d7, d8⟩ := hW.dr hO0
  obtain ⟨lz, l5, l10, l8⟩ := hO0.1.len
  have sS : okSeen (wn s).2.1 := hO0.1.2.2.1
  have sP : okPlan (zc (wz s)) (wn s).2.2.1 := hO0.1.2.2.2.1
  have sB : okBook (wn s).2.2.2 := hO0.1.2.2.2.2.1
  have o87 := om87 hG
  have gM36 : _ = ((109 : Nat) : Int) := grn hG (k := 87) (j := 36) (by decide)
  have aM109 := arn hG (r := 109) (c := 12) (n := 20) (by decide +kernel)
  obtain ⟨t1, t2, t3⟩ := id hW.tr
  refine g_ild f_X10_trace_0 rfl ?_
  refine g_const f_X10_trace_1 ?_
  refine g_const f_X10_trace_2 ?_
  refine g_alv f_X10_trace_4 rfl ?_
  refine g_getI f_X10_trace_5 (by assumption) ?_
  rw [t1]
  refine g_mn hγ (by decide) ⟨Nat.le_refl _, Nat.le_refl _⟩ f_X10_trace_8 (by omega) (by omega) (Nat.le_of_ble_eq_true rfl) ?_
  refine g_as (show min (20 : Int) ((wr s).length : Int) = ((wr s).length : Int) by omega) ?_
  refine g_const f_X10_trace_11 ?_
  refine g_isub f_X10_trace_12 ?_
  refine g_cs1 hγ (c_mwithin i 0 (((wr s).length : Int) - 1) (by omega) (by omega) (by omega)) f_X10_trace_13 mo_X10_within mt_X10_within rfl (Nat.le_of_ble_eq_true rfl) ⟨by decide, by decide⟩ ⟨Nat.le_refl _, Nat.le_refl _⟩ (fun x S' M' hq9 => ?_)
  obtain ⟨hx, q1, q2⟩ := hq9
  obtain rfl := q1.symm
  obtain rfl := q2.symm
  by_cases hi1 : 0 ≤ i ∧ i ≤ (((wr s).length : Int) - 1)
  · rw [if_pos hi1] at hx
    subst hx
    refine g_if_eq f_X10_trace_16 rfl (by omega) (fun hx => ?_) (fun hx => ?_)
    · exact absurd hx (by omega)
    obtain ⟨m, rfl⟩ := Int.eq_ofNat_of_zero_le hi1.1
    refine g_alv f_X10_trace_19 rfl ?_
    refine g_getR f_X10_trace_20 (by assumption) (by assumption) ?_
    refine g_ild f_X10_trace_23 rfl ?_
    refine g_ial f_X10_trace_24 (by assumption) m (by omega) (by omega) ?_
    rw [t3 m (by omega)]
    refine g_goto f_X10_trace_25 ?_
    refine g_reti f_X10_trace_29 rfl ?_ (Nat.zero_le _) (Nat.zero_le _)
    have e : a_trace s (m : Int) = ((wr s).getD m 0 : Int) := if_pos (by omega)
    rw [e]
    exact ⟨rfl, rfl, hW, mdl.rf⟩
  · rw [if_neg hi1] at hx
    subst hx
    refine g_if_eq f_X10_trace_16 rfl (by omega) (fun hx => ?_) (fun hx => ?_)
    · refine g_const f_X10_trace_28 ?_
      refine g_reti f_X10_trace_29 rfl ?_ (Nat.zero_le _) (Nat.zero_le _)
      have e : a_trace s i = -1 := if_neg (by omega)
      rw [e]
      exact ⟨rfl, rfl, hW, mdl.rf⟩
    · exact absurd (by omega) hx

set_option maxHeartbeats 4000000 in
set_option maxRecDepth 100000 in
theorem c_mabove {Ω : Ow} {S : Sg} {M : Mm} {u : Nat} (hu : u < 7) : Ct Ω mX10_above 1 0 0 1 [vi (u : Int)] S M (fun x S' M' => x = (abN u : Int) ∧ S' = S ∧ M' = M) := by
  refine Ct.mk (by decide) (Nat.le_of_ble_eq_true rfl) [some (vi (u : Int))] (by intro q hq; exact hq) (fun γ hγ hz => ?_)
  refine g_ild f_X10_above_0 rfl ?_
  refine g_const f_X10_above_1 ?_
  refine g_icmp_ne f_X10_above_2 rfl (by omega) (by omega) (fun c1 => ?_) (fun c1 => ?_)
  · refine g_ild f_X10_above_9 rfl ?_
    refine g_const f_X10_above_10 ?_
    refine g_icmp_ne f_X10_above_11 rfl (by omega) (by omega) (fun c2 => ?_) (fun c2 => ?_)
    · refine g_ild f_X10_above_18 rfl ?_
      refine g_const f_X10_above_19 ?_
      refine g_icmp_ne f_X10_above_21 rfl (by omega) (by omega) (fun c3 => ?_) (fun c3 => ?_)
      · refine g_const f_X10_above_28 ?_
        refine g_reti f_X10_above_29 rfl ?_ (Nat.zero_le _) (Nat.zero_le _)
        refine ⟨?_, rfl, rfl⟩
        unfold abN
        first
        | (rw [if_pos (by omega)]; rfl)
        | (rw [if_neg (by omega), if_pos (by omega)]; rfl)
        | (rw [if_neg (by omega), if_neg (by omega), if_pos (by omega)]; rfl)
        | (rw [if_neg (by omega), if_neg (by omega), if_neg (by omega)]; rfl)
      · refine g_const f_X10_above_24 ?_
        refine g_goto f_X10_above_25 ?_
        refine g_reti f_X10_above_29 rfl ?_ (Nat.zero_le _) (Nat.zero_le _)
        refine ⟨?_, rfl, rfl⟩
        unfold abN
        first
        | (rw [if_pos (by omega)]; rfl)
        | (rw [if_neg (by omega), if_pos (by omega)]; rfl)
        | (rw [if_neg (by omega), if_neg (by omega), if_pos (by omega)]; rfl)
        | (rw [if_neg (by omega), if_neg (by omega), if_neg (by omega)]; rfl)
    · refine g_const f_X10_above_14 ?_
      refine g_goto f_X10_above_15 ?_
      refine g_reti f_X10_above_29 rfl ?_ (Nat.zero_le _) (Nat.zero_le _)
      refine ⟨?_, rfl, rfl⟩
      unfold abN
      first
      | (rw [if_pos (by omega)]; rfl)
      | (rw [if_neg (by omega), if_pos (by omega)]; rfl)
      | (rw [if_neg (by omega), if_neg (by omega), if_pos (by omega)]; rfl)
      | (rw [if_neg (by omega), if_neg (by omega), if_neg (by omega)]; rfl)
  · refine g_const f_X10_above_5 ?_
    refine g_goto f_X10_above_6 ?_
    refine g_reti f_X10_above_29 rfl ?_ (Nat.zero_le _) (Nat.zero_le _)
    refine ⟨?_, rfl, rfl⟩
    unfold abN
    first
    | (rw [if_pos (by omega)]; rfl)
    | (rw [if_neg (by omega), if_pos (by omega)]; rfl)
    | (rw [if_neg (by omega), if_neg (by omega), if_pos (by omega)]; rfl)
    | (rw [if_neg (by omega), if_neg (by omega), if_neg (by omega)]; rfl)

set_option maxHeartbeats 4000000 in
set_option maxRecDepth 100000 in
theorem m_taken {Ω : Ow} {S : Sg} {M : Mm} {s : Wt} (hG : Gr S) (hW : RepM M s) (hO0 : okW s) (p k : Int) (hp : rg p) (hk0 : rg k) : Ct Ω mX10_taken 3 0 0 1 [vr Ω 87, vi p, vi k] S M (fun x S' M' => x = a_taken s p k ∧ S' = S ∧ RepM M' s ∧ mdl M M') := by
  refine Ct.mk (by decide) (Nat.le_of_ble_eq_true rfl) [some (vr Ω 87), some (vi p), some (vi k), none] (by intro q hq; exact hq) (fun γ hγ hz => ?_)
  have hX := hW.mx hO0
  have hO : okZ (wz s) := hO0.1.1
  have hD : zd (wz s) ≤ 9999 := hO0.1.2.1
  obtain ⟨x1, x2, x3, x4, x5⟩ := id hX
  obtain ⟨z1, z2, z3, z4, z5⟩ := id hO
  obtain ⟨lw, d1, d2, d3, d4, d5, d6, d7, d8⟩ := hW.dr hO0
  obtain ⟨lz, l5, l10, l8⟩ := hO0.1.len
  have sS : okSeen (wn s).2.1 := hO0.1.2.2.1
  have sP : okPlan (zc (wz s)) (wn s).2.2.1 := hO0.1.2.2.2.1
  have sB : okBook (wn s).2.2.2 := hO0.1.2.2.2.2.1
  have o87 := om87 hG
  have gM1 : _ = ((88 : Nat) : Int) := grn hG (k := 87) (j := 1) (by decide)
  have aM88 := arn hG (r := 88) (c := 12) (n := 6) (by decide +kernel)
  refine g_ild f_X10_taken_0 rfl ?_
  refine g_const f_X10_taken_1 ?_
  refine g_const f_X10_taken_2 ?_
  refine g_cs1 hγ (c_mwithin k 0 6 (by omega) (by omega) (by omega)) f_X10_taken_4 mo_X10_within mt_X10_within rfl (Nat.le_of_ble_eq_true rfl) ⟨by decide, by decide⟩ ⟨Nat.le_refl _, Nat.le_refl _⟩ (fun x S' M' hq9 => ?_)
  obtain ⟨hx, q1, q2⟩ := hq9
  obtain rfl := q1.symm
  obtain rfl := q2.symm
  by_cases hk : 0 ≤ k ∧ k ≤ 6
  · rw [if_pos hk] at hx
    subst hx
    refine g_if_ne f_X10_taken_7 rfl (by omega) (fun hx => ?_) (fun hx => ?_)
    · refine g_alv f_X10_taken_13 rfl ?_
      refine g_ild f_X10_taken_14 rfl ?_
      refine g_cv1 hγ (c_misOne hG hX hO p (by omega)) f_X10_taken_15 mo_X10_isOne mv_X10_isOne (by assumption) rfl rfl (Nat.le_of_ble_eq_true rfl) ⟨by decide, by decide⟩ ⟨Nat.le_refl _, Nat.le_refl _⟩ (fun x S' M' hq9 => ?_)
      obtain ⟨hx, q1, q2⟩ := hq9
      obtain rfl := q1.symm
      obtain rfl := q2.symm
      by_cases hip : 0 ≤ p ∧ p < (zc (wz s) : Int)
      · rw [if_pos hip] at hx
        subst hx
        obtain ⟨p2, rfl⟩ := Int.eq_ofNat_of_zero_le hip.1
        have hp2 : p2 < zc (wz s) := by omega
        have hp6 : p2 < 6 := by omega
        obtain ⟨r0, r1, r2, r3, r4, r5⟩ := id (x4 p2 hp2)
        obtain ⟨b1, b2, b3, b4, b5, b6⟩ := id (z4 p2 hp2)
        refine g_if_ne f_X10_taken_18 rfl (by omega) (fun hx => ?_) (fun hx => ?_)
        · have loop : ∀ (m u : Nat), u ≤ m → u < 7 → (isK u k ↔ isK (zP (wz s) p2 0) k) → Go γ Ω mX10_taken (Zm γ Ω 1 0 0 (fun x S' M' => x = a_taken s (p2 : Int) k ∧ S' = S ∧ RepM M' s ∧ mdl M M')) 0 0 S M 31 [some (vr Ω 87), some (vi (p2 : Int)), some (vi k), some (vi (u : Int))] [] := by
            intro m
            induction m with
            | zero =>
              intro u hm hu hi
              obtain rfl : u = 0 := by omega
              refine g_ild f_X10_taken_31 rfl ?_
              refine g_ild f_X10_taken_32 rfl ?_
              refine g_icmp_eq f_X10_taken_33 rfl (by omega) (by omega) (fun hk1 => ?_) (fun hk1 => ?_)
              · refine g_ild f_X10_taken_48 rfl ?_
                refine g_ild f_X10_taken_49 rfl ?_
                refine g_icmp_ne f_X10_taken_50 rfl (by omega) (by omega) (fun hk3 => ?_) (fun hk3 => ?_)
                · refine g_const f_X10_taken_62 ?_
                  refine g_reti f_X10_taken_64 rfl ?_ (Nat.zero_le _) (Nat.zero_le _)
                  first
                  | (have e : a_taken s (p2 : Int) k = (zP (wz s) p2 0 : Int) := (if_neg (fun h => h hk)).trans ((if_neg (fun h => h hip)).trans (if_pos (hi.mp (Or.inl (by omega))))); rw [e]; exact ⟨rfl, rfl, hW, mdl.rf⟩)
                  | (have e : a_taken s (p2 : Int) k = -12 := (if_neg (fun h => h hk)).trans ((if_neg (fun h => h hip)).trans (if_neg (fun h => by have h9 := hi.mpr h; rcases h9 with h9 | h9 | h9 <;> (first | omega | (obtain rfl : u = 0 := (by omega); have e0 : kAb.getD 0 0 = -1 := rfl; omega) | (have e0 : kAb.getD 0 0 = -1 := rfl; omega))))); rw [e]; exact ⟨rfl, rfl, hW, mdl.rf⟩)
                · refine g_alv f_X10_taken_53 rfl ?_
                  refine g_getR f_X10_taken_54 (by assumption) (by assumption) ?_
                  refine g_ild f_X10_taken_57 rfl ?_
                  refine g_ial f_X10_taken_58 (by assumption) _ rfl (by omega) ?_
                  rw [r0]
                  refine g_goto f_X10_taken_59 ?_
                  refine g_reti f_X10_taken_64 rfl ?_ (Nat.zero_le _) (Nat.zero_le _)
                  first
                  | (have e : a_taken s (p2 : Int) k = (zP (wz s) p2 0 : Int) := (if_neg (fun h => h hk)).trans ((if_neg (fun h => h hip)).trans (if_pos (hi.mp (Or.inl (by omega))))); rw [e]; exact ⟨rfl, rfl, hW, mdl.rf⟩)
                  | (have e : a_taken s (p2 : Int) k = -12 := (if_neg (fun h => h hk)).trans ((if_neg (fun h => h hip)).trans (if_neg (fun h => by have h9 := hi.mpr h; rcases h9 with h9 | h9 | h9 <;> (first | omega | (obtain rfl : u = 0 := (by omega); have e0 : kAb.getD 0 0 = -1 := rfl; omega) | (have e0 : kAb.getD 0 0 = -1 := rfl; omega))))); rw [e]; exact ⟨rfl, rfl, hW, mdl.rf⟩)
              · refine g_ild f_X10_taken_36 rfl ?_
                refine g_if_le f_X10_taken_37 rfl (by omega) (fun hk2 => ?_) (fun hk2 => ?_)
                · refine g_ild f_X10_taken_48 rfl ?_
                  refine g_ild f_X10_taken_49 rfl ?_
                  refine g_icmp_ne f_X10_taken_50 rfl (by omega) (by omega) (fun hk3 => ?_) (fun hk3 => ?_)
                  · refine g_const f_X10_taken_62 ?_
                    refine g_reti f_X10_taken_64 rfl ?_ (Nat.zero_le _) (Nat.zero_le _)
                    first
                    | (have e : a_taken s (p2 : Int) k = (zP (wz s) p2 0 : Int) := (if_neg (fun h => h hk)).trans ((if_neg (fun h => h hip)).trans (if_pos (hi.mp (Or.inl (by omega))))); rw [e]; exact ⟨rfl, rfl, hW, mdl.rf⟩)
                    | (have e : a_taken s (p2 : Int) k = -12 := (if_neg (fun h => h hk)).trans ((if_neg (fun h => h hip)).trans (if_neg (fun h => by have h9 := hi.mpr h; rcases h9 with h9 | h9 | h9 <;> (first | omega | (obtain rfl : u = 0 := (by omega); have e0 : kAb.getD 0 0 = -1 := rfl; omega) | (have e0 : kAb.getD 0 0 = -1 := rfl; omega))))); rw [e]; exact ⟨rfl, rfl, hW, mdl.rf⟩)
                  · refine g_alv f_X10_taken_53 rfl ?_
                    refine g_getR f_X10_taken_54 (by assumption) (by assumption) ?_
                    refine g_ild f_X10_taken_57 rfl ?_
                    refine g_ial f_X10_taken_58 (by assumption) _ rfl (by omega) ?_
                    rw [r0]
                    refine g_goto f_X10_taken_59 ?_
                    refine g_reti f_X10_taken_64 rfl ?_ (Nat.zero_le _) (Nat.zero_le _)
                    first
                    | (have e : a_taken s (p2 : Int) k = (zP (wz s) p2 0 : Int) := (if_neg (fun h => h hk)).trans ((if_neg (fun h => h hip)).trans (if_pos (hi.mp (Or.inl (by omega))))); rw [e]; exact ⟨rfl, rfl, hW, mdl.rf⟩)
                    | (have e : a_taken s (p2 : Int) k = -12 := (if_neg (fun h => h hk)).trans ((if_neg (fun h => h hip)).trans (if_neg (fun h => by have h9 := hi.mpr h; rcases h9 with h9 | h9 | h9 <;> (first | omega | (obtain rfl : u = 0 := (by omega); have e0 : kAb.getD 0 0 = -1 := rfl; omega) | (have e0 : kAb.getD 0 0 = -1 := rfl; omega))))); rw [e]; exact ⟨rfl, rfl, hW, mdl.rf⟩)
                · exact absurd (by omega) hk2
            | succ m ih =>
              intro u hm hu hi
              refine g_ild f_X10_taken_31 rfl ?_
              refine g_ild f_X10_taken_32 rfl ?_
              refine g_icmp_eq f_X10_taken_33 rfl (by omega) (by omega) (fun hk1 => ?_) (fun hk1 => ?_)
              · refine g_ild f_X10_taken_48 rfl ?_
                refine g_ild f_X10_taken_49 rfl ?_
                refine g_icmp_ne f_X10_taken_50 rfl (by omega) (by omega) (fun hk3 => ?_) (fun hk3 => ?_)
                · refine g_const f_X10_taken_62 ?_
                  refine g_reti f_X10_taken_64 rfl ?_ (Nat.zero_le _) (Nat.zero_le _)
                  first
                  | (have e : a_taken s (p2 : Int) k = (zP (wz s) p2 0 : Int) := (if_neg (fun h => h hk)).trans ((if_neg (fun h => h hip)).trans (if_pos (hi.mp (Or.inl (by omega))))); rw [e]; exact ⟨rfl, rfl, hW, mdl.rf⟩)
                  | (have e : a_taken s (p2 : Int) k = -12 := (if_neg (fun h => h hk)).trans ((if_neg (fun h => h hip)).trans (if_neg (fun h => by have h9 := hi.mpr h; rcases h9 with h9 | h9 | h9 <;> (first | omega | (obtain rfl : u = 0 := (by omega); have e0 : kAb.getD 0 0 = -1 := rfl; omega) | (have e0 : kAb.getD 0 0 = -1 := rfl; omega))))); rw [e]; exact ⟨rfl, rfl, hW, mdl.rf⟩)
                · refine g_alv f_X10_taken_53 rfl ?_
                  refine g_getR f_X10_taken_54 (by assumption) (by assumption) ?_
                  refine g_ild f_X10_taken_57 rfl ?_
                  refine g_ial f_X10_taken_58 (by assumption) _ rfl (by omega) ?_
                  rw [r0]
                  refine g_goto f_X10_taken_59 ?_
                  refine g_reti f_X10_taken_64 rfl ?_ (Nat.zero_le _) (Nat.zero_le _)
                  first
                  | (have e : a_taken s (p2 : Int) k = (zP (wz s) p2 0 : Int) := (if_neg (fun h => h hk)).trans ((if_neg (fun h => h hip)).trans (if_pos (hi.mp (Or.inl (by omega))))); rw [e]; exact ⟨rfl, rfl, hW, mdl.rf⟩)
                  | (have e : a_taken s (p2 : Int) k = -12 := (if_neg (fun h => h hk)).trans ((if_neg (fun h => h hip)).trans (if_neg (fun h => by have h9 := hi.mpr h; rcases h9 with h9 | h9 | h9 <;> (first | omega | (obtain rfl : u = 0 := (by omega); have e0 : kAb.getD 0 0 = -1 := rfl; omega) | (have e0 : kAb.getD 0 0 = -1 := rfl; omega))))); rw [e]; exact ⟨rfl, rfl, hW, mdl.rf⟩)
              · refine g_ild f_X10_taken_36 rfl ?_
                refine g_if_le f_X10_taken_37 rfl (by omega) (fun hk2 => ?_) (fun hk2 => ?_)
                · refine g_ild f_X10_taken_48 rfl ?_
                  refine g_ild f_X10_taken_49 rfl ?_
                  refine g_icmp_ne f_X10_taken_50 rfl (by omega) (by omega) (fun hk3 => ?_) (fun hk3 => ?_)
                  · refine g_const f_X10_taken_62 ?_
                    refine g_reti f_X10_taken_64 rfl ?_ (Nat.zero_le _) (Nat.zero_le _)
                    first
                    | (have e : a_taken s (p2 : Int) k = (zP (wz s) p2 0 : Int) := (if_neg (fun h => h hk)).trans ((if_neg (fun h => h hip)).trans (if_pos (hi.mp (Or.inl (by omega))))); rw [e]; exact ⟨rfl, rfl, hW, mdl.rf⟩)
                    | (have e : a_taken s (p2 : Int) k = -12 := (if_neg (fun h => h hk)).trans ((if_neg (fun h => h hip)).trans (if_neg (fun h => by have h9 := hi.mpr h; rcases h9 with h9 | h9 | h9 <;> (first | omega | (obtain rfl : u = 0 := (by omega); have e0 : kAb.getD 0 0 = -1 := rfl; omega) | (have e0 : kAb.getD 0 0 = -1 := rfl; omega))))); rw [e]; exact ⟨rfl, rfl, hW, mdl.rf⟩)
                  · refine g_alv f_X10_taken_53 rfl ?_
                    refine g_getR f_X10_taken_54 (by assumption) (by assumption) ?_
                    refine g_ild f_X10_taken_57 rfl ?_
                    refine g_ial f_X10_taken_58 (by assumption) _ rfl (by omega) ?_
                    rw [r0]
                    refine g_goto f_X10_taken_59 ?_
                    refine g_reti f_X10_taken_64 rfl ?_ (Nat.zero_le _) (Nat.zero_le _)
                    first
                    | (have e : a_taken s (p2 : Int) k = (zP (wz s) p2 0 : Int) := (if_neg (fun h => h hk)).trans ((if_neg (fun h => h hip)).trans (if_pos (hi.mp (Or.inl (by omega))))); rw [e]; exact ⟨rfl, rfl, hW, mdl.rf⟩)
                    | (have e : a_taken s (p2 : Int) k = -12 := (if_neg (fun h => h hk)).trans ((if_neg (fun h => h hip)).trans (if_neg (fun h => by have h9 := hi.mpr h; rcases h9 with h9 | h9 | h9 <;> (first | omega | (obtain rfl : u = 0 := (by omega); have e0 : kAb.getD 0 0 = -1 := rfl; omega) | (have e0 : kAb.getD 0 0 = -1 := rfl; omega))))); rw [e]; exact ⟨rfl, rfl, hW, mdl.rf⟩)
                · refine g_ild f_X10_taken_40 rfl ?_
                  refine g_cs1 hγ (c_mabove hu) f_X10_taken_41 mo_X10_above mt_X10_above rfl (Nat.le_of_ble_eq_true rfl) ⟨by decide, by decide⟩ ⟨Nat.le_refl _, Nat.le_refl _⟩ (fun x S' M3 hq3 => ?_)
                  obtain ⟨rfl, q1, q2⟩ := hq3
                  obtain rfl := q1.symm
                  obtain rfl := q2.symm
                  refine g_ist_3 f_X10_taken_44 (by decide) c1i ?_
                  refine g_goto f_X10_taken_45 ?_
                  obtain ⟨a1, a2, a3⟩ := abN_ok u hu (by omega)
                  exact ih (abN u) (by omega) (by omega) ((isK_up hu (by omega) hk.1 (by omega)).symm.trans hi)
          refine g_alv f_X10_taken_24 rfl ?_
          refine g_getR f_X10_taken_25 (by assumption) (by assumption) ?_
          refine g_ild f_X10_taken_28 rfl ?_
          refine g_ial f_X10_taken_29 (by assumption) _ rfl (by omega) ?_
          rw [r0]
          refine g_ist_3 f_X10_taken_30 (by decide) c1i ?_
          exact loop 6 (zP (wz s) p2 0) (by omega) (by omega) Iff.rfl
        · exact absurd (by omega) hx
      · rw [if_neg hip] at hx
        subst hx
        refine g_if_ne f_X10_taken_18 rfl (by omega) (fun hx => ?_) (fun hx => ?_)
        · exact absurd hx (by omega)
        refine g_const f_X10_taken_21 ?_
        refine g_reti f_X10_taken_23 rfl ?_ (Nat.zero_le _) (Nat.zero_le _)
        have e : a_taken s p k = -11 := (if_neg (fun h => h hk)).trans (if_pos hip)
        rw [e]
        exact ⟨rfl, rfl, hW, mdl.rf⟩
    · exact absurd (by omega) hx
  · rw [if_neg hk] at hx
    subst hx
    refine g_if_ne f_X10_taken_7 rfl (by omega) (fun hx => ?_) (fun hx => ?_)
    · exact absurd hx (by omega)
    refine g_const f_X10_taken_10 ?_
    refine g_reti f_X10_taken_12 rfl ?_ (Nat.zero_le _) (Nat.zero_le _)
    have e : a_taken s p k = -2 := if_pos hk
    rw [e]
    exact ⟨rfl, rfl, hW, mdl.rf⟩

set_option maxHeartbeats 4000000 in
set_option maxRecDepth 100000 in
theorem m_count {Ω : Ow} {S : Sg} {M : Mm} {s : Wt} (hG : Gr S) (hW : RepM M s) (hO0 : okW s) (y : Int) (hy : rg y) : Ct Ω mX10_count 1 0 0 1 [vr Ω 87, vi y] S M (fun x S' M' => x = a_count s y ∧ S' = S ∧ RepM M' s ∧ mdl M M') := by
  refine Ct.mk (by decide) (Nat.le_of_ble_eq_true rfl) [some (vr Ω 87), some (vi y)] (by intro q hq; exact hq) (fun γ hγ hz => ?_)
  have hX := hW.mx hO0
  have hO : okZ (wz s) := hO0.1.1
  have hD : zd (wz s) ≤ 9999 := hO0.1.2.1
  obtain ⟨x1, x2, x3, x4, x5⟩ := id hX
  obtain ⟨z1, z2, z3, z4, z5⟩ := id hO
  obtain ⟨lw, d1, d2, d3, d4, d5, d6, d7, d8⟩ := hW.dr hO0
  obtain ⟨lz, l5, l10, l8⟩ := hO0.1.len
  have sS : okSeen (wn s).2.1 := hO0.1.2.2.1
  have sP : okPlan (zc (wz s)) (wn s).2.2.1 := hO0.1.2.2.2.1
  have sB : okBook (wn s).2.2.2 := hO0.1.2.2.2.2.1
  have o87 := om87 hG
  have tr1 := hW.tr.1
  have tx1 := hW.tx.1
  have lw1 := hW.lws
  have tr2 := hW.tr.2.1
  have lw2 : wl s ≤ 6 := hO0.2.2.1
  have tx2 : (wx s).length ≤ 100 := hO0.2.2.2.1.1
  refine g_ild f_X10_count_0 rfl ?_
  refine g_tab f_X10_count_1 (by omega) (fun cy => ?_) (casC (fun cy => ?_) (casC (fun cy => ?_) (casC (fun cy => ?_) (casC (fun cy => ?_) (casC (fun cy => ?_) (casC (fun cy => ?_) (casC (fun cy => ?_) casN)))))))
  · refine g_const f_X10_count_79 ?_
    refine g_reti f_X10_count_81 rfl ?_ (Nat.zero_le _) (Nat.zero_le _)
    have q0 : y ≠ 0 := cy (0, 44) (by simp)
    have q1 : y ≠ 1 := cy (1, 49) (by simp)
    have q2 : y ≠ 2 := cy (2, 54) (by simp)
    have q3 : y ≠ 3 := cy (3, 59) (by simp)
    have q4 : y ≠ 4 := cy (4, 64) (by simp)
    have q5 : y ≠ 5 := cy (5, 69) (by simp)
    have q6 : y ≠ 6 := cy (6, 74) (by simp)
    have e : a_count s y = -2 := by unfold a_count; rw [if_neg q0]; rw [if_neg q1]; rw [if_neg q2]; rw [if_neg q3]; rw [if_neg q4]; rw [if_neg q5]; rw [if_neg q6]
    rw [e]
    exact ⟨rfl, rfl, hW, mdl.rf⟩
  · refine g_alv f_X10_count_44 rfl ?_
    refine g_getI f_X10_count_45 (by assumption) ?_
    rw [x1]
    refine g_reti f_X10_count_48 rfl ?_ (Nat.zero_le _) (Nat.zero_le _)
    subst cy
    exact ⟨rfl, rfl, hW, mdl.rf⟩
  · refine g_alv f_X10_count_49 rfl ?_
    refine g_getI f_X10_count_50 (by assumption) ?_
    rw [lw1]
    refine g_reti f_X10_count_53 rfl ?_ (Nat.zero_le _) (Nat.zero_le _)
    subst cy
    exact ⟨rfl, rfl, hW, mdl.rf⟩
  · refine g_alv f_X10_count_54 rfl ?_
    refine g_getI f_X10_count_55 (by assumption) ?_
    rw [d5.1]
    refine g_reti f_X10_count_58 rfl ?_ (Nat.zero_le _) (Nat.zero_le _)
    subst cy
    exact ⟨rfl, rfl, hW, mdl.rf⟩
  · refine g_alv f_X10_count_59 rfl ?_
    refine g_getI f_X10_count_60 (by assumption) ?_
    rw [d6.1]
    refine g_reti f_X10_count_63 rfl ?_ (Nat.zero_le _) (Nat.zero_le _)
    subst cy
    exact ⟨rfl, rfl, hW, mdl.rf⟩
  · refine g_alv f_X10_count_64 rfl ?_
    refine g_getI f_X10_count_65 (by assumption) ?_
    rw [d7.1]
    refine g_reti f_X10_count_68 rfl ?_ (Nat.zero_le _) (Nat.zero_le _)
    subst cy
    exact ⟨rfl, rfl, hW, mdl.rf⟩
  · refine g_alv f_X10_count_69 rfl ?_
    refine g_getI f_X10_count_70 (by assumption) ?_
    rw [tx1]
    refine g_reti f_X10_count_73 rfl ?_ (Nat.zero_le _) (Nat.zero_le _)
    subst cy
    exact ⟨rfl, rfl, hW, mdl.rf⟩
  · refine g_alv f_X10_count_74 rfl ?_
    refine g_getI f_X10_count_75 (by assumption) ?_
    rw [tr1]
    refine g_reti f_X10_count_78 rfl ?_ (Nat.zero_le _) (Nat.zero_le _)
    subst cy
    exact ⟨rfl, rfl, hW, mdl.rf⟩

set_option maxHeartbeats 4000000 in
set_option maxRecDepth 100000 in
theorem c_misTape {Ω : Ow} {S : Sg} {M : Mm} (a : Int) (ha : rg a) : Ct Ω mX10_isTape 2 0 0 1 [vi a] S M (fun x S' M' => (x = if 0 ≤ a ∧ a ≤ 5 then 1 else 0) ∧ S' = S ∧ M' = M) := by
  refine Ct.mk (by decide) (Nat.le_of_ble_eq_true rfl) [some (vi a)] (by intro q hq; exact hq) (fun γ hγ hz => ?_)
  refine g_ild f_X10_isTape_0 rfl ?_
  refine g_const f_X10_isTape_1 ?_
  refine g_const f_X10_isTape_2 ?_
  refine g_cs1 hγ (c_mwithin a 0 5 (by omega) (by omega) (by omega)) f_X10_isTape_3 mo_X10_within mt_X10_within rfl (Nat.le_of_ble_eq_true rfl) ⟨by decide, by decide⟩ ⟨Nat.le_refl _, Nat.le_refl _⟩ (fun x S' M' hq2 => ?_)
  obtain ⟨rfl, q1, q2⟩ := hq2
  obtain rfl := q1.symm
  obtain rfl := q2.symm
  refine g_retz f_X10_isTape_6 rfl (by split <;> simp) ?_ (Nat.zero_le _) (Nat.zero_le _)
  exact ⟨rfl, rfl, rfl⟩
