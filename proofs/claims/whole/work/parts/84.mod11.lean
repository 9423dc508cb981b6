/-! contracts: the model's reader -/
set_option maxHeartbeats 4000000 in
set_option maxRecDepth 100000 in
theorem c_mis {Ω : Ow} {S : Sg} {M : Mm} {tx : List Nat} {b a : Nat} {o : Int} {cs : List Int} (hP : PM S M tx b cs a o) {c : Nat} (hc : c < 128) : Ct Ω mX10_is 1 0 0 1 [vr Ω 87, vi (c : Int)] S M (fun x S' M' => x = ((isC tx a c).toNat : Int) ∧ S' = S ∧ PM S M' tx b cs (if isC tx a c = true then a + 1 else a) o ∧ pfr b M M') := by
  refine Ct.mk (by decide) (Nat.le_of_ble_eq_true rfl) [some (vr Ω 87), some (vi (c : Int))] (by intro q hq; exact hq) (fun γ hγ hz => ?_)
  have k := hP
  have f : pfr b M M := pfr.rf
  obtain ⟨hG, hT, p9, p94, p11, pal, p14, p23, pca, pb, p100⟩ := id hP
  have htl := hT.1
  have o87 := om87 hG
  have gM10 : _ = ((94 : Nat) : Int) := grn hG (k := 87) (j := 10) (by decide)
  have aM94 := arn hG (r := 94) (c := 12) (n := 100) (by decide +kernel)
  refine g_alv f_X10_is_0 rfl ?_
  refine g_getI f_X10_is_1 (by assumption) ?_
  rw [p11]
  refine g_alv f_X10_is_4 rfl ?_
  refine g_getI f_X10_is_5 (by assumption) ?_
  rw [p9]
  refine g_icmp_eq f_X10_is_8 rfl (by omega) (by omega) (fun h0 => ?_) (fun h0 => ?_)
  · refine g_const f_X10_is_24 ?_
    refine g_retz f_X10_is_25 rfl (Or.inl rfl) ?_ (Nat.zero_le _) (Nat.zero_le _)
    have e : isC tx a c = false := by first | exact isC_end (by omega) | (rw [hiC]; exact decide_eq_false (by omega))
    rw [e]
    exact ⟨rfl, rfl, k, f⟩
  · refine g_alv f_X10_is_11 rfl ?_
    refine g_getR f_X10_is_12 (by assumption) (by assumption) ?_
    refine g_alv f_X10_is_15 rfl ?_
    refine g_getI f_X10_is_16 (by assumption) ?_
    rw [p11]
    have htx := tx_le hT a
    have hiC := isC_at (tx := tx) (a := a) (c := c) (by omega)
    refine g_ial f_X10_is_19 (by assumption) a (by omega) (by omega) ?_
    rw [p94 a (by omega)]
    refine g_ild f_X10_is_20 rfl ?_
    refine g_icmp_eq f_X10_is_21 rfl (by omega) (by omega) (fun h1 => ?_) (fun h1 => ?_)
    · refine g_alv f_X10_is_26 rfl ?_
      refine g_dup f_X10_is_27 rfl ?_
      refine g_getI f_X10_is_28 (by assumption) ?_
      rw [p11]
      refine g_const f_X10_is_31 ?_
      refine g_iadd f_X10_is_32 ?_
      refine g_putI f_X10_is_33 rfl (by assumption) ?_
      refine g_const f_X10_is_36 ?_
      refine g_retz f_X10_is_37 rfl (Or.inr rfl) ?_ (Nat.zero_le _) (Nat.zero_le _)
      have e : isC tx a c = true := by rw [hiC]; exact decide_eq_true (by omega)
      rw [e]
      obtain ⟨k1, f1⟩ := hP.st (by omega)
      exact ⟨rfl, rfl, k1, f1⟩
    · refine g_const f_X10_is_24 ?_
      refine g_retz f_X10_is_25 rfl (Or.inl rfl) ?_ (Nat.zero_le _) (Nat.zero_le _)
      have e : isC tx a c = false := by first | exact isC_end (by omega) | (rw [hiC]; exact decide_eq_false (by omega))
      rw [e]
      exact ⟨rfl, rfl, k, f⟩

set_option maxHeartbeats 4000000 in
set_option maxRecDepth 100000 in
theorem c_mdig {Ω : Ow} {S : Sg} {M : Mm} {tx : List Nat} {b a : Nat} {o : Int} {cs : List Int} (hP : PM S M tx b cs a o) : Ct Ω mX10_isDigit 1 0 0 1 [vr Ω 87] S M (fun x S' M' => x = (if pOf tx 1 a = -1 then 0 else 1) ∧ S' = S ∧ M' = M) := by
  refine Ct.mk (by decide) (Nat.le_of_ble_eq_true rfl) [some (vr Ω 87)] (by intro q hq; exact hq) (fun γ hγ hz => ?_)
  have k := hP
  have f : pfr b M M := pfr.rf
  obtain ⟨hG, hT, p9, p94, p11, pal, p14, p23, pca, pb, p100⟩ := id hP
  have htl := hT.1
  have o87 := om87 hG
  have gM10 : _ = ((94 : Nat) : Int) := grn hG (k := 87) (j := 10) (by decide)
  have aM94 := arn hG (r := 94) (c := 12) (n := 100) (by decide +kernel)
  have hpo : pOf tx 1 a = (if a < tx.length then posN 1 (tx.getD a 0) else -1) := rfl
  have hpn := posN_1 (tx.getD a 0) (by have := tx_le hT a; omega)
  have htx := tx_le hT a
  refine g_alv f_X10_isDigit_0 rfl ?_
  refine g_getI f_X10_isDigit_1 (by assumption) ?_
  rw [p11]
  refine g_alv f_X10_isDigit_4 rfl ?_
  refine g_getI f_X10_isDigit_5 (by assumption) ?_
  rw [p9]
  refine g_icmp_ge f_X10_isDigit_8 rfl (by omega) (by omega) (fun h0 => ?_) (fun h0 => ?_)
  · refine g_const f_X10_isDigit_43 ?_
    refine g_retz f_X10_isDigit_44 rfl (by first | exact Or.inl rfl | exact Or.inr rfl) ?_ (Nat.zero_le _) (Nat.zero_le _)
    rw [if_pos]
    · exact ⟨rfl, rfl, rfl⟩
    · rw [hpo]
      by_cases q : a < tx.length
      · rw [if_pos q, hpn, if_neg (by omega)]
      · rw [if_neg q]
  · refine g_alv f_X10_isDigit_11 rfl ?_
    refine g_getR f_X10_isDigit_12 (by assumption) (by assumption) ?_
    refine g_alv f_X10_isDigit_15 rfl ?_
    refine g_getI f_X10_isDigit_16 (by assumption) ?_
    rw [p11]
    refine g_ial f_X10_isDigit_19 (by assumption) a (by omega) (by omega) ?_
    rw [p94 a (by omega)]
    refine g_const f_X10_isDigit_20 ?_
    refine g_icmp_lt f_X10_isDigit_22 rfl (by omega) (by omega) (fun h1 => ?_) (fun h1 => ?_)
    · refine g_const f_X10_isDigit_43 ?_
      refine g_retz f_X10_isDigit_44 rfl (by first | exact Or.inl rfl | exact Or.inr rfl) ?_ (Nat.zero_le _) (Nat.zero_le _)
      rw [if_pos]
      · exact ⟨rfl, rfl, rfl⟩
      · rw [hpo]
        by_cases q : a < tx.length
        · rw [if_pos q, hpn, if_neg (by omega)]
        · rw [if_neg q]
    · refine g_alv f_X10_isDigit_25 rfl ?_
      refine g_getR f_X10_isDigit_26 (by assumption) (by assumption) ?_
      refine g_alv f_X10_isDigit_29 rfl ?_
      refine g_getI f_X10_isDigit_30 (by assumption) ?_
      rw [p11]
      refine g_ial f_X10_isDigit_33 (by assumption) a (by omega) (by omega) ?_
      rw [p94 a (by omega)]
      refine g_const f_X10_isDigit_34 ?_
      refine g_icmp_gt f_X10_isDigit_36 rfl (by omega) (by omega) (fun h2 => ?_) (fun h2 => ?_)
      · refine g_const f_X10_isDigit_43 ?_
        refine g_retz f_X10_isDigit_44 rfl (by first | exact Or.inl rfl | exact Or.inr rfl) ?_ (Nat.zero_le _) (Nat.zero_le _)
        rw [if_pos]
        · exact ⟨rfl, rfl, rfl⟩
        · rw [hpo]
          by_cases q : a < tx.length
          · rw [if_pos q, hpn, if_neg (by omega)]
          · rw [if_neg q]
      · refine g_const f_X10_isDigit_39 ?_
        refine g_goto f_X10_isDigit_40 ?_
        refine g_retz f_X10_isDigit_44 rfl (by first | exact Or.inl rfl | exact Or.inr rfl) ?_ (Nat.zero_le _) (Nat.zero_le _)
        rw [if_pos (by omega)] at hpo
        rw [if_pos (by omega)] at hpn
        rw [if_neg (by omega)]
        exact ⟨rfl, rfl, rfl⟩

set_option maxHeartbeats 4000000 in
set_option maxRecDepth 100000 in
theorem c_mnum {Ω : Ow} {S : Sg} {M : Mm} {tx : List Nat} {b a : Nat} {o : Int} {cs : List Int} (hP : PM S M tx b cs a o) : Ct Ω mX10_isNumber 2 0 0 1 [vr Ω 87] S M (fun x S' M' => x = (if (pNum tx a).1 = -1 then 0 else 1) ∧ S' = S ∧ PM S M' tx b cs (pNum tx a).2 o ∧ pfr b M M' ∧ ((pNum tx a).1 ≠ -1 → M' 87 12 = (pNum tx a).1)) := by
  refine Ct.mk (by decide) (Nat.le_of_ble_eq_true rfl) [some (vr Ω 87)] (by intro q hq; exact hq) (fun γ hγ hz => ?_)
  have k := hP
  have f : pfr b M M := pfr.rf
  obtain ⟨hG, hT, p9, p94, p11, pal, p14, p23, pca, pb, p100⟩ := id hP
  have htl := hT.1
  have o87 := om87 hG
  have gM10 : _ = ((94 : Nat) : Int) := grn hG (k := 87) (j := 10) (by decide)
  have aM94 := arn hG (r := 94) (c := 12) (n := 100) (by decide +kernel)
  have two : ∀ M1 : Mm, pOf tx 1 a ≠ -1 → pOf tx 1 (a + 1) ≠ -1 → PM S M1 tx b cs (a + 2) o → pfr b M M1 → M1 87 13 = 2 → M1 87 12 = 10 * pOf tx 1 a + pOf tx 1 (a + 1) → Go γ Ω mX10_isNumber (Zm γ Ω 1 0 0 (fun x S' M' => x = (if (pNum tx a).1 = -1 then 0 else 1) ∧ S' = S ∧ PM S M' tx b cs (pNum tx a).2 o ∧ pfr b M M' ∧ ((pNum tx a).1 ≠ -1 → M' 87 12 = (pNum tx a).1))) 0 0 S M1 10 [some (vr Ω 87)] [] := by
    intro M1 h1 h2 k1 f1 e1 e2
    have r1 := pOf_rg tx 1 a (by decide)
    have r2 := pOf_rg tx 1 (a + 1) (by decide)
    have en : pNum tx a = (10 * pOf tx 1 a + pOf tx 1 (a + 1), a + 2) := (if_neg h1).trans (if_neg h2)
    refine g_alv f_X10_isNumber_10 rfl ?_
    refine g_getI f_X10_isNumber_11 (by assumption) ?_
    rw [e1]
    refine g_const f_X10_isNumber_14 ?_
    refine g_icmp_ge f_X10_isNumber_15 rfl (by omega) (by omega) (fun hc => ?_) (fun hc => ?_)
    · refine g_alv f_X10_isNumber_72 rfl ?_
      refine g_getI f_X10_isNumber_73 (by assumption) ?_
      rw [e1]
      refine g_if_le f_X10_isNumber_76 rfl (by omega) (fun hc2 => ?_) (fun hc2 => ?_)
      · exact absurd hc2 (by omega)
      refine g_const f_X10_isNumber_79 ?_
      refine g_goto f_X10_isNumber_80 ?_
      refine g_retz f_X10_isNumber_84 rfl (Or.inr rfl) ?_ (Nat.zero_le _) (Nat.zero_le _)
      rw [en]
      exact ⟨by rw [if_neg (by show ¬ (10 * pOf tx 1 a + pOf tx 1 (a + 1) = -1); omega)], rfl, k1, f1, fun _ => e2⟩
    · exact absurd (by omega) hc
  have one : ∀ M1 : Mm, pOf tx 1 a ≠ -1 → PM S M1 tx b cs (a + 1) o → pfr b M M1 → M1 87 13 = 1 → M1 87 12 = pOf tx 1 a → Go γ Ω mX10_isNumber (Zm γ Ω 1 0 0 (fun x S' M' => x = (if (pNum tx a).1 = -1 then 0 else 1) ∧ S' = S ∧ PM S M' tx b cs (pNum tx a).2 o ∧ pfr b M M' ∧ ((pNum tx a).1 ≠ -1 → M' 87 12 = (pNum tx a).1))) 0 0 S M1 10 [some (vr Ω 87)] [] := by
    intro M1 h1 k1 f1 e1 e2
    have r1 := pOf_rg tx 1 a (by decide)
    have r2 := pOf_rg tx 1 (a + 1) (by decide)
    refine g_alv f_X10_isNumber_10 rfl ?_
    refine g_getI f_X10_isNumber_11 (by assumption) ?_
    rw [e1]
    refine g_const f_X10_isNumber_14 ?_
    refine g_icmp_ge f_X10_isNumber_15 rfl (by omega) (by omega) (fun hc => ?_) (fun hc => ?_)
    · exact absurd hc (by omega)
    refine g_alv f_X10_isNumber_18 rfl ?_
    refine g_cv1 hγ (c_mdig k1) f_X10_isNumber_19 mo_X10_isDigit mv_X10_isDigit (by assumption) rfl rfl (Nat.le_of_ble_eq_true rfl) ⟨by omega, by decide⟩ ⟨Nat.le_refl _, Nat.le_refl _⟩ (fun x S' M9 hq9 => ?_)
    obtain ⟨hx, q1, q2⟩ := hq9
    obtain rfl := q1.symm
    obtain rfl := q2.symm
    by_cases hd : pOf tx 1 (a + 1) = -1
    · rw [if_pos hd] at hx
      subst hx
      refine g_if_eq f_X10_isNumber_22 rfl (by omega) (fun hx => ?_) (fun hx => ?_)
      · refine g_alv f_X10_isNumber_72 rfl ?_
        refine g_getI f_X10_isNumber_73 (by assumption) ?_
        rw [e1]
        refine g_if_le f_X10_isNumber_76 rfl (by omega) (fun hc2 => ?_) (fun hc2 => ?_)
        · exact absurd hc2 (by omega)
        refine g_const f_X10_isNumber_79 ?_
        refine g_goto f_X10_isNumber_80 ?_
        refine g_retz f_X10_isNumber_84 rfl (Or.inr rfl) ?_ (Nat.zero_le _) (Nat.zero_le _)
        have en : pNum tx a = (pOf tx 1 a, a + 1) := (if_neg h1).trans (if_pos hd)
        rw [en]
        exact ⟨by rw [if_neg h1], rfl, k1, f1, fun _ => e2⟩
      · exact absurd (by omega) hx
    · rw [if_neg hd] at hx
      subst hx
      refine g_if_eq f_X10_isNumber_22 rfl (by omega) (fun hx => ?_) (fun hx => ?_)
      · exact absurd hx (by omega)
      have hlt := pOf_lt hd
      have hpo : pOf tx 1 (a + 1) = posN 1 (tx.getD (a + 1) 0) := if_pos hlt
      have htx := tx_le hT (a + 1)
      have hpn := posN_1 (tx.getD (a + 1) 0) (by omega)
      have hcd : 48 ≤ tx.getD (a + 1) 0 ∧ tx.getD (a + 1) 0 ≤ 57 := by
        by_cases q : 48 ≤ tx.getD (a + 1) 0 ∧ tx.getD (a + 1) 0 ≤ 57
        · exact q
        · rw [if_neg q] at hpn; exact absurd (hpo.trans hpn) hd
      rw [if_pos hcd] at hpn
      refine g_alv f_X10_isNumber_25 rfl ?_
      refine g_const f_X10_isNumber_26 ?_
      refine g_alv f_X10_isNumber_28 rfl ?_
      refine g_getI f_X10_isNumber_29 (by assumption) ?_
      rw [e2]
      refine g_imul f_X10_isNumber_32 ?_
      refine g_alv f_X10_isNumber_33 rfl ?_
      refine g_getR f_X10_isNumber_34 (by assumption) (by assumption) ?_
      refine g_alv f_X10_isNumber_37 rfl ?_
      refine g_getI f_X10_isNumber_38 (by assumption) ?_
      rw [k1.2.2.2.2.1]
      refine g_ial f_X10_isNumber_41 (by assumption) (a + 1) (by omega) (by omega) ?_
      rw [k1.2.2.2.1 (a + 1) hlt]
      refine g_iadd f_X10_isNumber_42 ?_
      refine g_const f_X10_isNumber_43 ?_
      refine g_isub f_X10_isNumber_45 ?_
      refine g_as (show (10 : Int) * pOf tx 1 a + (tx.getD (a + 1) 0 : Int) - 48 = (10 * pOf tx 1 a + pOf tx 1 (a + 1)) by omega) ?_
      refine g_putI f_X10_isNumber_46 rfl (by assumption) ?_
      obtain ⟨ka, fa⟩ := k1.u (j := 12) (by omega) ((10 * pOf tx 1 a + pOf tx 1 (a + 1)))
      refine g_alv f_X10_isNumber_49 rfl ?_
      refine g_dup f_X10_isNumber_50 rfl ?_
      refine g_getI f_X10_isNumber_51 (by assumption) ?_
      rw [ka.2.2.2.2.1]
      refine g_const f_X10_isNumber_54 ?_
      refine g_iadd f_X10_isNumber_55 ?_
      refine g_putI f_X10_isNumber_56 rfl (by assumption) ?_
      obtain ⟨kb, fb⟩ := ka.st (by omega)
      refine g_alv f_X10_isNumber_59 rfl ?_
      refine g_dup f_X10_isNumber_60 rfl ?_
      refine g_getI f_X10_isNumber_61 (by assumption) ?_
      rw [up_n (by omega), up_n (by omega), e1]
      refine g_const f_X10_isNumber_64 ?_
      refine g_iadd f_X10_isNumber_65 ?_
      refine g_putI f_X10_isNumber_66 rfl (by assumption) ?_
      obtain ⟨kc, fc⟩ := kb.u (j := 13) (by omega) (1 + 1)
      refine g_goto f_X10_isNumber_69 ?_
      exact two _ h1 hd kc (((f1.tr fa).tr fb).tr fc) (up_s _ _ _ _) (by rw [up_n (by omega), up_n (by omega), up_s])
  refine g_alv f_X10_isNumber_0 rfl ?_
  refine g_const f_X10_isNumber_1 ?_
  refine g_putI f_X10_isNumber_2 rfl (by assumption) ?_
  obtain ⟨ks, fs⟩ := hP.u (j := 12) (by omega) 0
  refine g_alv f_X10_isNumber_5 rfl ?_
  refine g_const f_X10_isNumber_6 ?_
  refine g_putI f_X10_isNumber_7 rfl (by assumption) ?_
  obtain ⟨kt, ft⟩ := ks.u (j := 13) (by omega) 0
  have e1 : up (up M 87 12 0) 87 13 0 87 13 = 0 := up_s _ _ _ _
  have e2 : up (up M 87 12 0) 87 13 0 87 12 = 0 := by rw [up_n (by omega), up_s]
  generalize up (up M 87 12 0) 87 13 0 = M0 at kt ft e1 e2 ⊢
  have f0 := fs.tr ft
  refine g_alv f_X10_isNumber_10 rfl ?_
  refine g_getI f_X10_isNumber_11 (by assumption) ?_
  rw [e1]
  refine g_const f_X10_isNumber_14 ?_
  refine g_icmp_ge f_X10_isNumber_15 rfl (by omega) (by omega) (fun hc => ?_) (fun hc => ?_)
  · exact absurd hc (by omega)
  refine g_alv f_X10_isNumber_18 rfl ?_
  refine g_cv1 hγ (c_mdig kt) f_X10_isNumber_19 mo_X10_isDigit mv_X10_isDigit (by assumption) rfl rfl (Nat.le_of_ble_eq_true rfl) ⟨by omega, by decide⟩ ⟨Nat.le_refl _, Nat.le_refl _⟩ (fun x S' M9 hq9 => ?_)
  obtain ⟨hx, q1, q2⟩ := hq9
  obtain rfl := q1.symm
  obtain rfl := q2.symm
  by_cases hd : pOf tx 1 (a) = -1
  · rw [if_pos hd] at hx
    subst hx
    refine g_if_eq f_X10_isNumber_22 rfl (by omega) (fun hx => ?_) (fun hx => ?_)
    · refine g_alv f_X10_isNumber_72 rfl ?_
      refine g_getI f_X10_isNumber_73 (by assumption) ?_
      rw [e1]
      refine g_if_le f_X10_isNumber_76 rfl (by omega) (fun hc2 => ?_) (fun hc2 => ?_)
      · refine g_const f_X10_isNumber_83 ?_
        refine g_retz f_X10_isNumber_84 rfl (Or.inl rfl) ?_ (Nat.zero_le _) (Nat.zero_le _)
        have en : pNum tx a = (-1, a) := if_pos hd
        rw [en]
        exact ⟨rfl, rfl, kt, f0, fun h => absurd rfl h⟩
      · exact absurd (by omega) hc2
    · exact absurd (by omega) hx
  · rw [if_neg hd] at hx
    subst hx
    refine g_if_eq f_X10_isNumber_22 rfl (by omega) (fun hx => ?_) (fun hx => ?_)
    · exact absurd hx (by omega)
    have hlt := pOf_lt hd
    have hpo : pOf tx 1 (a) = posN 1 (tx.getD (a) 0) := if_pos hlt
    have htx := tx_le hT (a)
    have hpn := posN_1 (tx.getD (a) 0) (by omega)
    have hcd : 48 ≤ tx.getD (a) 0 ∧ tx.getD (a) 0 ≤ 57 := by
      by_cases q : 48 ≤ tx.getD (a) 0 ∧ tx.getD (a) 0 ≤ 57
      · exact q
      · rw [if_neg q] at hpn; exact absurd (hpo.trans hpn) hd
    rw [if_pos hcd] at hpn
    have r1 := pOf_rg tx 1 a (by decide)
    refine g_alv f_X10_isNumber_25 rfl ?_
    refine g_const f_X10_isNumber_26 ?_
    refine g_alv f_X10_isNumber_28 rfl ?_
    refine g_getI f_X10_isNumber_29 (by assumption) ?_
    rw [e2]
    refine g_imul f_X10_isNumber_32 ?_
    refine g_alv f_X10_isNumber_33 rfl ?_
    refine g_getR f_X10_isNumber_34 (by assumption) (by assumption) ?_
    refine g_alv f_X10_isNumber_37 rfl ?_
    refine g_getI f_X10_isNumber_38 (by assumption) ?_
    rw [kt.2.2.2.2.1]
    refine g_ial f_X10_isNumber_41 (by assumption) (a) (by omega) (by omega) ?_
    rw [kt.2.2.2.1 (a) hlt]
    refine g_iadd f_X10_isNumber_42 ?_
    refine g_const f_X10_isNumber_43 ?_
    refine g_isub f_X10_isNumber_45 ?_
    refine g_as (show (10 : Int) * 0 + (tx.getD (a) 0 : Int) - 48 = (pOf tx 1 a) by omega) ?_
    refine g_putI f_X10_isNumber_46 rfl (by assumption) ?_
    obtain ⟨ka, fa⟩ := kt.u (j := 12) (by omega) ((pOf tx 1 a))
    refine g_alv f_X10_isNumber_49 rfl ?_
    refine g_dup f_X10_isNumber_50 rfl ?_
    refine g_getI f_X10_isNumber_51 (by assumption) ?_
    rw [ka.2.2.2.2.1]
    refine g_const f_X10_isNumber_54 ?_
    refine g_iadd f_X10_isNumber_55 ?_
    refine g_putI f_X10_isNumber_56 rfl (by assumption) ?_
    obtain ⟨kb, fb⟩ := ka.st (by omega)
    refine g_alv f_X10_isNumber_59 rfl ?_
    refine g_dup f_X10_isNumber_60 rfl ?_
    refine g_getI f_X10_isNumber_61 (by assumption) ?_
    rw [up_n (by omega), up_n (by omega), e1]
    refine g_const f_X10_isNumber_64 ?_
    refine g_iadd f_X10_isNumber_65 ?_
    refine g_putI f_X10_isNumber_66 rfl (by assumption) ?_
    obtain ⟨kc, fc⟩ := kb.u (j := 13) (by omega) (0 + 1)
    refine g_goto f_X10_isNumber_69 ?_
    exact one _ hd kc (((f0.tr fa).tr fb).tr fc) (up_s _ _ _ _) (by rw [up_n (by omega), up_n (by omega), up_s])

set_option maxHeartbeats 4000000 in
set_option maxRecDepth 100000 in
theorem c_mall {Ω : Ow} {S : Sg} {M : Mm} {tx : List Nat} {b a : Nat} {o : Int} {cs : List Int} (hP : PM S M tx b cs a o) {i : Nat} (hi : i < 9) : Ct Ω mX10_isAll 5 0 0 1 [vr Ω 87, .ref (ka Ω (1 + i))] S M (fun x S' M' => x = ((allS tx i (sL i).length 0 a).1.toNat : Int) ∧ S' = S ∧ PM S M' tx b cs (allS tx i (sL i).length 0 a).2 o ∧ pfr b M M') := by
  refine Ct.mk (by decide) (Nat.le_of_ble_eq_true rfl) [some (vr Ω 87), some (.ref (ka Ω (1 + i))), none] (by intro q hq; exact hq) (fun γ hγ hz => ?_)
  have k := hP
  have f : pfr b M M := pfr.rf
  obtain ⟨hG, hT, p9, p94, p11, pal, p14, p23, pca, pb, p100⟩ := id hP
  have htl := hT.1
  have o87 := om87 hG
  have hz : (cS γ).heap.size ≤ bs Ω + S.1 := by omega
  obtain ⟨hl10, hsl⟩ := sL_ok i hi
  have loop : ∀ (m n a1 : Nat) (M1 : Mm), n + m = (sL i).length → PM S M1 tx b cs a1 o → pfr b M M1 → allS tx i m n a1 = allS tx i (sL i).length 0 a → Go γ Ω mX10_isAll (Zm γ Ω 1 0 0 (fun x S' M' => x = ((allS tx i (sL i).length 0 a).1.toNat : Int) ∧ S' = S ∧ PM S M' tx b cs (allS tx i (sL i).length 0 a).2 o ∧ pfr b M M')) 0 0 S M1 2 [some (vr Ω 87), some (.ref (ka Ω (1 + i))), some (vi (n : Int))] [] := by
    intro m
    induction m with
    | zero =>
      intro n a1 M1 hm k f he
      refine g_ild f_X10_isAll_2 rfl ?_
      refine g_ald f_X10_isAll_3 rfl ?_
      refine g_ct1 hγ hi (c_slen (i := i) hi) f_X10_isAll_4 mo_J0_length_8abf5 mv_J0_length_8abf5 rfl rfl (Nat.le_of_ble_eq_true rfl) ⟨by omega, by decide⟩ ⟨Nat.le_refl _, Nat.le_refl _⟩ (fun x S' M3 hq2 => ?_)
      obtain ⟨rfl, q1, q2⟩ := hq2
      obtain rfl := q1.symm
      obtain rfl := q2.symm
      refine g_icmp_ge f_X10_isAll_7 rfl (by omega) (by omega) (fun hc => ?_) (fun hc => ?_)
      · refine g_const f_X10_isAll_30 ?_
        refine g_retz f_X10_isAll_31 rfl (Or.inr rfl) ?_ (Nat.zero_le _) (Nat.zero_le _)
        rw [← he]
        exact ⟨rfl, rfl, k, f⟩
      · exact absurd (by omega) hc
    | succ m ih =>
      intro n a1 M1 hm k f he
      have hs := hsl n (by omega)
      obtain ⟨c, hc⟩ := Int.eq_ofNat_of_zero_le hs.1
      have ec : ((sL i).getD n 0).toNat = c := by rw [hc]; rfl
      rw [allS, ec] at he
      refine g_ild f_X10_isAll_2 rfl ?_
      refine g_ald f_X10_isAll_3 rfl ?_
      refine g_ct1 hγ hi (c_slen (i := i) hi) f_X10_isAll_4 mo_J0_length_8abf5 mv_J0_length_8abf5 rfl rfl (Nat.le_of_ble_eq_true rfl) ⟨by omega, by decide⟩ ⟨Nat.le_refl _, Nat.le_refl _⟩ (fun x S' M3 hq2 => ?_)
      obtain ⟨rfl, q1, q2⟩ := hq2
      obtain rfl := q1.symm
      obtain rfl := q2.symm
      refine g_icmp_ge f_X10_isAll_7 rfl (by omega) (by omega) (fun hc2 => ?_) (fun hc2 => ?_)
      · exact absurd hc2 (by omega)
      refine g_alv f_X10_isAll_10 rfl ?_
      refine g_ald f_X10_isAll_11 rfl ?_
      refine g_ild f_X10_isAll_12 rfl ?_
      refine g_ct1 hγ hi (c_charAt (i := i) hi (j := n) (by omega)) f_X10_isAll_13 mo_J0_charAt_5068e mv_J0_charAt_5068e rfl rfl (Nat.le_of_ble_eq_true rfl) ⟨by omega, by decide⟩ ⟨Nat.le_refl _, Nat.le_refl _⟩ (fun x S' M3 hq3 => ?_)
      obtain ⟨rfl, q1, q2⟩ := hq3
      obtain rfl := q1.symm
      obtain rfl := q2.symm
      rw [hc]
      refine g_cv1 hγ (c_mis k (c := c) (by omega)) f_X10_isAll_16 mo_X10_is mv_X10_is (by assumption) rfl rfl (Nat.le_of_ble_eq_true rfl) ⟨by omega, by decide⟩ ⟨Nat.le_refl _, Nat.le_refl _⟩ (fun x S' M8 hq8 => ?_)
      obtain ⟨rfl, q1, k8, fn⟩ := hq8
      obtain rfl := q1.symm
      replace f := f.tr fn
      clear fn
      rcases Bool.eq_false_or_eq_true (isC tx a1 c) with hb8 | hb8
      · rw [if_pos hb8] at he
        rw [if_pos hb8] at k8
        rw [hb8]
        refine g_as (show ((true.toNat : Nat) : Int) = 1 from rfl) ?_
        refine g_if_ne f_X10_isAll_19 rfl (by omega) (fun hx => ?_) (fun hx => ?_)
        · refine g_inc_2 f_X10_isAll_24 (by decide) c1r ?_
          refine g_goto f_X10_isAll_27 ?_
          exact ih (n + 1) _ _ (by omega) k8 f he
        · exact absurd (by omega) hx
      · rw [if_neg (by rw [hb8]; decide)] at he
        rw [if_neg (by rw [hb8]; decide)] at k8
        rw [hb8]
        refine g_as (show ((false.toNat : Nat) : Int) = 0 from rfl) ?_
        refine g_if_ne f_X10_isAll_19 rfl (by omega) (fun hx => ?_) (fun hx => ?_)
        · exact absurd hx (by omega)
        refine g_const f_X10_isAll_22 ?_
        refine g_retz f_X10_isAll_23 rfl (Or.inl rfl) ?_ (Nat.zero_le _) (Nat.zero_le _)
        rw [← he]
        exact ⟨rfl, rfl, k8, f⟩
  refine g_const f_X10_isAll_0 ?_
  refine g_ist_2 f_X10_isAll_1 (by decide) c1r ?_
  exact loop (sL i).length 0 a M (by omega) k f rfl

set_option maxHeartbeats 4000000 in
set_option maxRecDepth 100000 in
theorem c_mcodes {Ω : Ow} {S : Sg} {M : Mm} {tx : List Nat} {b a : Nat} {o : Int} {cs : List Int} (hP : PM S M tx b cs a o) (hca : cs.length < a) (c : Int) : Ct Ω mX10_codes 1 0 0 1 [vr Ω 87, vi (mcode c)] S M (fun x S' M' => x = 1 ∧ S' = S ∧ PM S M' tx b (cs ++ [c]) a o ∧ pfr b M M') := by
  refine Ct.mk (by decide) (Nat.le_of_ble_eq_true rfl) [some (vr Ω 87), some (vi (mcode c))] (by intro q hq; exact hq) (fun γ hγ hz => ?_)
  have k := hP
  have f : pfr b M M := pfr.rf
  obtain ⟨hG, hT, p9, p94, p11, pal, p14, p23, pca, pb, p100⟩ := id hP
  have htl := hT.1
  have o87 := om87 hG
  have gM22 : _ = ((100 : Nat) : Int) := grn hG (k := 87) (j := 22) (by decide)
  have aM100 := arn hG (r := 100) (c := 12) (n := 800) (by decide +kernel)
  refine g_alv f_X10_codes_0 rfl ?_
  refine g_getR f_X10_codes_1 (by assumption) (by assumption) ?_
  refine g_alv f_X10_codes_4 rfl ?_
  refine g_dup f_X10_codes_5 rfl ?_
  refine g_getI f_X10_codes_6 (by assumption) ?_
  rw [p23]
  refine g_dup_x1 f_X10_codes_9 rfl rfl ?_
  refine g_const f_X10_codes_10 ?_
  refine g_iadd f_X10_codes_11 ?_
  refine g_putI f_X10_codes_12 rfl (by assumption) ?_
  refine g_ild f_X10_codes_15 rfl ?_
  refine g_ias f_X10_codes_16 (by assumption) (b + cs.length) (by omega) (by omega) ?_
  refine g_const f_X10_codes_17 ?_
  refine g_retz f_X10_codes_18 rfl (Or.inr rfl) ?_ (Nat.zero_le _) (Nat.zero_le _)
  obtain ⟨k1, f1⟩ := hP.code hca (v := mcode c) rfl
  exact ⟨rfl, rfl, k1, f1⟩

set_option maxHeartbeats 4000000 in
set_option maxRecDepth 100000 in
theorem c_mtest {Ω : Ow} {S : Sg} {M : Mm} {tx : List Nat} {b a : Nat} {o : Int} {cs : List Int} (hP : PM S M tx b cs a o) : Ct Ω mX10_isTest 5 0 0 1 [vr Ω 87] S M (fun x S' M' => x = ((pTest tx a cs).1.toNat : Int) ∧ S' = S ∧ PM S M' tx b (pTest tx a cs).2.2 (pTest tx a cs).2.1 o ∧ pfr b M M') := by
  refine Ct.mk (by decide) (Nat.le_of_ble_eq_true rfl) [some (vr Ω 87), none, none] (by intro q hq; exact hq) (fun γ hγ hz => ?_)
  have k := hP
  have f : pfr b M M := pfr.rf
  obtain ⟨hG, hT, p9, p94, p11, pal, p14, p23, pca, pb, p100⟩ := id hP
  have htl := hT.1
  have o87 := om87 hG
  have gM10 : _ = ((94 : Nat) : Int) := grn hG (k := 87) (j := 10) (by decide)
  have aM94 := arn hG (r := 94) (c := 12) (n := 100) (by decide +kernel)
  have hp2 : pOf tx 2 (a) = (if a < tx.length then posN 2 (tx.getD (a) 0) else -1) := rfl
  have hr2 := pOf_rg tx 2 (a) (by decide)
  have hp3 : pOf tx 3 (a + 1) = (if a + 1 < tx.length then posN 3 (tx.getD (a + 1) 0) else -1) := rfl
  have hr3 := pOf_rg tx 3 (a + 1) (by decide)
  have l2 : (sL 2).length = 6 := rfl
  have l3 : (sL 3).length = 3 := rfl
  obtain ⟨z2, z3⟩ := posN_z
  have htx0 := tx_le hT a
  have htx1 := tx_le hT (a + 1)
  have hz : (cS γ).heap.size ≤ bs Ω + S.1 := by omega
  have j106 : ∀ M1 : Mm, PM S M1 tx b cs (a + 1) o → pfr b M M1 → pOf tx 2 a ≠ -1 → pOf tx 3 (a + 1) ≠ -1 → Go γ Ω mX10_isTest (Zm γ Ω 1 0 0 (fun x S' M' => x = ((pTest tx a cs).1.toNat : Int) ∧ S' = S ∧ PM S M' tx b (pTest tx a cs).2.2 (pTest tx a cs).2.1 o ∧ pfr b M M')) 0 0 S M1 106 [some (vr Ω 87), some (vi (pOf tx 2 a)), some (vi (pOf tx 3 (a + 1)))] [] := by
    intro M1 k f h2 h3
    have hl2 := pOf_lt h2
    have hl3 := pOf_lt h3
    obtain ⟨n1, n2, n3, n4⟩ := pNum_ok tx (a + 2) (by omega)
    have hmc := mcode_test ((pOf tx 2 a * 300 + pOf tx 3 (a + 1) * 100 + (pNum tx (a + 2)).1).toNat)
    refine g_alv f_X10_isTest_106 rfl ?_
    refine g_dup f_X10_isTest_107 rfl ?_
    refine g_getI f_X10_isTest_108 (by assumption) ?_
    rw [k.2.2.2.2.1]
    refine g_const f_X10_isTest_111 ?_
    refine g_iadd f_X10_isTest_112 ?_
    refine g_putI f_X10_isTest_113 rfl (by assumption) ?_
    obtain ⟨ka, fa⟩ := k.st (by omega)
    change PM S _ tx b cs (a + 2) o at ka
    replace f := f.tr fa
    refine g_alv f_X10_isTest_116 rfl ?_
    refine g_cv1 hγ (c_mnum ka) f_X10_isTest_117 mo_X10_isNumber mv_X10_isNumber (by assumption) rfl rfl (Nat.le_of_ble_eq_true rfl) ⟨by omega, by decide⟩ ⟨Nat.le_refl _, Nat.le_refl _⟩ (fun x S' M2 hq2 => ?_)
    obtain ⟨hx, q1, k2, fn, hval⟩ := hq2
    obtain rfl := q1.symm
    replace f := f.tr fn
    clear fn
    by_cases hn : (pNum tx (a + 2)).1 = -1
    · have hx0 : x = 0 := hx.trans (if_pos hn)
      subst hx0
      refine g_if_eq f_X10_isTest_120 rfl (by omega) (fun hx => ?_) (fun hx => ?_)
      · refine g_const f_X10_isTest_151 ?_
        refine g_retz f_X10_isTest_152 rfl (by first | exact Or.inl rfl | exact Or.inr rfl) ?_ (Nat.zero_le _) (Nat.zero_le _)
        have e : pTest tx a cs = (false, (pNum tx (a + 2)).2, cs) := (if_neg h2).trans ((if_neg h3).trans (if_pos hn))
        rw [e]
        exact ⟨rfl, rfl, k2, f⟩
      · exact absurd (by omega) hx
    · have hx1 : x = 1 := hx.trans (if_neg hn)
      subst hx1
      have hv9 := hval hn
      refine g_if_eq f_X10_isTest_120 rfl (by omega) (fun hx => ?_) (fun hx => ?_)
      · exact absurd hx (by omega)
      refine g_alv f_X10_isTest_123 rfl ?_
      refine g_const f_X10_isTest_124 ?_
      refine g_const f_X10_isTest_125 ?_
      refine g_ild f_X10_isTest_128 rfl ?_
      refine g_imul f_X10_isTest_129 ?_
      refine g_iadd f_X10_isTest_130 ?_
      refine g_const f_X10_isTest_131 ?_
      refine g_ild f_X10_isTest_133 rfl ?_
      refine g_imul f_X10_isTest_134 ?_
      refine g_iadd f_X10_isTest_135 ?_
      refine g_alv f_X10_isTest_136 rfl ?_
      refine g_getI f_X10_isTest_137 (by assumption) ?_
      rw [hv9]
      refine g_iadd f_X10_isTest_140 ?_
      refine g_as (show (3 : Int) + 300 * pOf tx 2 a + 100 * pOf tx 3 (a + 1) + (pNum tx (a + 2)).1 = mcode (((pOf tx 2 a * 300 + pOf tx 3 (a + 1) * 100 + (pNum tx (a + 2)).1).toNat : Nat) : Int) by rw [hmc]; omega) ?_
      refine g_cv1 hγ (c_mcodes k2 (by omega) ((((pOf tx 2 a * 300 + pOf tx 3 (a + 1) * 100 + (pNum tx (a + 2)).1).toNat : Nat) : Int))) f_X10_isTest_141 mo_X10_codes mv_X10_codes (by assumption) rfl rfl (Nat.le_of_ble_eq_true rfl) ⟨by omega, by decide⟩ ⟨Nat.le_refl _, Nat.le_refl _⟩ (fun x S' M4 hq4 => ?_)
      obtain ⟨rfl, q1, k4, fn⟩ := hq4
      obtain rfl := q1.symm
      replace f := f.tr fn
      clear fn
      refine g_if_eq f_X10_isTest_144 rfl (by omega) (fun hx9 => ?_) (fun hx9 => ?_)
      · exact absurd hx9 (by omega)
      refine g_const f_X10_isTest_147 ?_
      refine g_goto f_X10_isTest_148 ?_
      refine g_retz f_X10_isTest_152 rfl (by first | exact Or.inl rfl | exact Or.inr rfl) ?_ (Nat.zero_le _) (Nat.zero_le _)
      have e : pTest tx a cs = (true, (pNum tx (a + 2)).2, cs ++ [pOf tx 2 a * 300 + pOf tx 3 (a + 1) * 100 + (pNum tx (a + 2)).1]) := (if_neg h2).trans ((if_neg h3).trans (if_neg hn))
      rw [e]
      rw [show ((((pOf tx 2 a * 300 + pOf tx 3 (a + 1) * 100 + (pNum tx (a + 2)).1).toNat : Nat)) : Int) = pOf tx 2 a * 300 + pOf tx 3 (a + 1) * 100 + (pNum tx (a + 2)).1 by omega] at k4
      exact ⟨rfl, rfl, k4, f⟩
  have j99 : ∀ (M1 : Mm) (v : Int) (v2 : Option Value), PM S M1 tx b cs (a + 1) o → pfr b M M1 → pOf tx 2 a ≠ -1 → v = pOf tx 3 (a + 1) → Go γ Ω mX10_isTest (Zm γ Ω 1 0 0 (fun x S' M' => x = ((pTest tx a cs).1.toNat : Int) ∧ S' = S ∧ PM S M' tx b (pTest tx a cs).2.2 (pTest tx a cs).2.1 o ∧ pfr b M M')) 0 0 S M1 99 [some (vr Ω 87), some (vi (pOf tx 2 a)), v2] [vi v] := by
    intro M1 v v2 k f h2 hv
    subst hv
    refine g_ist_2 f_X10_isTest_99 (by decide) c1i ?_
    refine g_ild f_X10_isTest_100 rfl ?_
    refine g_if_ge f_X10_isTest_101 rfl (by omega) (fun hc => ?_) (fun hc => ?_)
    · exact j106 M1 k f h2 (by omega)
    · refine g_const f_X10_isTest_104 ?_
      refine g_retz f_X10_isTest_105 rfl (Or.inl rfl) ?_ (Nat.zero_le _) (Nat.zero_le _)
      have e : pTest tx a cs = (false, a + 1, cs) := (if_neg h2).trans (if_pos (by omega))
      rw [e]
      exact ⟨rfl, rfl, k, f⟩
  have j41 : ∀ (v : Int) (v1 v2 : Option Value), v = pOf tx 2 a → Go γ Ω mX10_isTest (Zm γ Ω 1 0 0 (fun x S' M' => x = ((pTest tx a cs).1.toNat : Int) ∧ S' = S ∧ PM S M' tx b (pTest tx a cs).2.2 (pTest tx a cs).2.1 o ∧ pfr b M M')) 0 0 S M 41 [some (vr Ω 87), v1, v2] [vi v] := by
    intro v v1 v2 hv
    subst hv
    refine g_ist_1 f_X10_isTest_41 (by decide) c1v ?_
    refine g_ild f_X10_isTest_42 rfl ?_
    refine g_if_ge f_X10_isTest_43 rfl (by omega) (fun hc => ?_) (fun hc => ?_)
    · have hl2 := pOf_lt (tx := tx) (i := 2) (a := a) (by omega)
      refine g_alv f_X10_isTest_48 rfl ?_
      refine g_dup f_X10_isTest_49 rfl ?_
      refine g_getI f_X10_isTest_50 (by assumption) ?_
      rw [p11]
      refine g_const f_X10_isTest_53 ?_
      refine g_iadd f_X10_isTest_54 ?_
      refine g_putI f_X10_isTest_55 rfl (by assumption) ?_
      obtain ⟨ka, fa⟩ := k.st (by omega)
      have y9 := ka.2.2.1
      have y11 := ka.2.2.2.2.1
      have y94 := ka.2.2.2.1
      refine g_alv f_X10_isTest_58 rfl ?_
      refine g_getI f_X10_isTest_59 (by assumption) ?_
      rw [y11]
      refine g_alv f_X10_isTest_62 rfl ?_
      refine g_getI f_X10_isTest_63 (by assumption) ?_
      rw [y9]
      refine g_icmp_ge f_X10_isTest_66 rfl (by omega) (by omega) (fun h0 => ?_) (fun h0 => ?_)
      · refine g_const f_X10_isTest_98 ?_
        refine j99 _ _ _ ka fa (by omega) ?_
        rw [hp3]
        by_cases q : a + 1 < tx.length
        · rw [if_pos q, show tx.getD (a + 1) 0 = 0 by omega, z3]
        · rw [if_neg q]
      · refine g_alv f_X10_isTest_69 rfl ?_
        refine g_getR f_X10_isTest_70 (by assumption) (by assumption) ?_
        refine g_alv f_X10_isTest_73 rfl ?_
        refine g_getI f_X10_isTest_74 (by assumption) ?_
        rw [y11]
        refine g_ial f_X10_isTest_77 (by assumption) (a + 1) (by omega) (by omega) ?_
        rw [y94 (a + 1) (by omega)]
        refine g_if_le f_X10_isTest_78 rfl (by omega) (fun h1 => ?_) (fun h1 => ?_)
        · refine g_const f_X10_isTest_98 ?_
          refine j99 _ _ _ ka fa (by omega) ?_
          rw [hp3]
          by_cases q : a + 1 < tx.length
          · rw [if_pos q, show tx.getD (a + 1) 0 = 0 by omega, z3]
          · rw [if_neg q]
        · refine g_ldcS (i := 8) (by decide) f_X10_isTest_81 rfl ?_
          refine g_alv f_X10_isTest_83 rfl ?_
          refine g_getR f_X10_isTest_84 (by assumption) (by assumption) ?_
          refine g_alv f_X10_isTest_87 rfl ?_
          refine g_getI f_X10_isTest_88 (by assumption) ?_
          rw [y11]
          refine g_ial f_X10_isTest_91 (by assumption) (a + 1) (by omega) (by omega) ?_
          rw [y94 (a + 1) (by omega)]
          refine g_ct1 hγ (by decide) (c_idx (i := 8) (by decide) (c := tx.getD (a + 1) 0) (by omega)) f_X10_isTest_92 mo_J0_indexOf_0f7a4 mv_J0_indexOf_0f7a4 rfl rfl (Nat.le_of_ble_eq_true rfl) ⟨by omega, by decide⟩ ⟨Nat.le_refl _, Nat.le_refl _⟩ (fun x S' M5 hq5 => ?_)
          obtain ⟨rfl, q1, q2⟩ := hq5
          obtain rfl := q1.symm
          obtain rfl := q2.symm
          refine g_goto f_X10_isTest_95 ?_
          exact j99 _ _ _ ka fa (by omega) (by rw [hp3, if_pos (by omega)]; rfl)
    · refine g_const f_X10_isTest_46 ?_
      refine g_retz f_X10_isTest_47 rfl (Or.inl rfl) ?_ (Nat.zero_le _) (Nat.zero_le _)
      have e : pTest tx a cs = (false, a, cs) := if_pos (by omega)
      rw [e]
      exact ⟨rfl, rfl, k, f⟩
  refine g_alv f_X10_isTest_0 rfl ?_
  refine g_getI f_X10_isTest_1 (by assumption) ?_
  rw [p11]
  refine g_alv f_X10_isTest_4 rfl ?_
  refine g_getI f_X10_isTest_5 (by assumption) ?_
  rw [p9]
  refine g_icmp_ge f_X10_isTest_8 rfl (by omega) (by omega) (fun h0 => ?_) (fun h0 => ?_)
  · refine g_const f_X10_isTest_40 ?_
    refine j41 _ _ _ ?_
    rw [hp2]
    by_cases q : a < tx.length
    · rw [if_pos q, show tx.getD a 0 = 0 by omega, z2]
    · rw [if_neg q]
  · refine g_alv f_X10_isTest_11 rfl ?_
    refine g_getR f_X10_isTest_12 (by assumption) (by assumption) ?_
    refine g_alv f_X10_isTest_15 rfl ?_
    refine g_getI f_X10_isTest_16 (by assumption) ?_
    rw [p11]
    refine g_ial f_X10_isTest_19 (by assumption) a (by omega) (by omega) ?_
    rw [p94 a (by omega)]
    refine g_if_le f_X10_isTest_20 rfl (by omega) (fun h1 => ?_) (fun h1 => ?_)
    · refine g_const f_X10_isTest_40 ?_
      refine j41 _ _ _ ?_
      rw [hp2]
      by_cases q : a < tx.length
      · rw [if_pos q, show tx.getD a 0 = 0 by omega, z2]
      · rw [if_neg q]
    · refine g_ldcS (i := 7) (by decide) f_X10_isTest_23 rfl ?_
      refine g_alv f_X10_isTest_25 rfl ?_
      refine g_getR f_X10_isTest_26 (by assumption) (by assumption) ?_
      refine g_alv f_X10_isTest_29 rfl ?_
      refine g_getI f_X10_isTest_30 (by assumption) ?_
      rw [p11]
      refine g_ial f_X10_isTest_33 (by assumption) a (by omega) (by omega) ?_
      rw [p94 a (by omega)]
      refine g_ct1 hγ (by decide) (c_idx (i := 7) (by decide) (c := tx.getD (a) 0) (by omega)) f_X10_isTest_34 mo_J0_indexOf_0f7a4 mv_J0_indexOf_0f7a4 rfl rfl (Nat.le_of_ble_eq_true rfl) ⟨by omega, by decide⟩ ⟨Nat.le_refl _, Nat.le_refl _⟩ (fun x S' M5 hq5 => ?_)
      obtain ⟨rfl, q1, q2⟩ := hq5
      obtain rfl := q1.symm
      obtain rfl := q2.symm
      refine g_goto f_X10_isTest_37 ?_
      exact j41 _ _ _ (by rw [hp2, if_pos (by omega)]; rfl)

set_option maxHeartbeats 4000000 in
set_option maxRecDepth 100000 in
theorem c_mopen {Ω : Ow} {S : Sg} {M : Mm} {tx : List Nat} {b a : Nat} {o : Int} {cs : List Int} (hP : PM S M tx b cs a o) (ho : 0 ≤ o ∧ o ≤ 4) {c : Nat} (hc : c < 128) : Ct Ω mX10_isOpened 2 0 0 1 [vr Ω 87, vi (c : Int)] S M (fun x S' M' => S' = S ∧ pfr b M M' ∧ ((x = 0 ∧ PM S M' tx b cs a o ∧ (o = 4 ∨ isC tx a c = false)) ∨ (x = 1 ∧ o < 4 ∧ isC tx a c = true ∧ PM S M' tx b cs (a + 1) (o + 1)))) := by
  refine Ct.mk (by decide) (Nat.le_of_ble_eq_true rfl) [some (vr Ω 87), some (vi (c : Int))] (by intro q hq; exact hq) (fun γ hγ hz => ?_)
  have k := hP
  have f : pfr b M M := pfr.rf
  obtain ⟨hG, hT, p9, p94, p11, pal, p14, p23, pca, pb, p100⟩ := id hP
  have htl := hT.1
  have o87 := om87 hG
  refine g_alv f_X10_isOpened_0 rfl ?_
  refine g_getI f_X10_isOpened_1 (by assumption) ?_
  rw [p14]
  refine g_const f_X10_isOpened_4 ?_
  refine g_icmp_eq f_X10_isOpened_5 rfl (by omega) (by omega) (fun h4 => ?_) (fun h4 => ?_)
  · refine g_const f_X10_isOpened_16 ?_
    refine g_retz f_X10_isOpened_17 rfl (Or.inl rfl) ?_ (Nat.zero_le _) (Nat.zero_le _)
    exact ⟨rfl, f, Or.inl ⟨rfl, k, Or.inl (by omega)⟩⟩
  · refine g_alv f_X10_isOpened_8 rfl ?_
    refine g_ild f_X10_isOpened_9 rfl ?_
    refine g_cv1 hγ (c_mis k (c := c) hc) f_X10_isOpened_10 mo_X10_is mv_X10_is (by assumption) rfl rfl (Nat.le_of_ble_eq_true rfl) ⟨by omega, by decide⟩ ⟨Nat.le_refl _, Nat.le_refl _⟩ (fun x S' M8 hq8 => ?_)
    obtain ⟨rfl, q1, k8, fn⟩ := hq8
    obtain rfl := q1.symm
    replace f := f.tr fn
    clear fn
    rcases Bool.eq_false_or_eq_true (isC tx a c) with hb8 | hb8
    · rw [if_pos hb8] at k8
      refine g_as (show (((isC tx a c).toNat : Nat) : Int) = 1 by rw [hb8]; rfl) ?_
      refine g_if_ne f_X10_isOpened_13 rfl (by omega) (fun hx => ?_) (fun hx => ?_)
      · refine g_alv f_X10_isOpened_18 rfl ?_
        refine g_dup f_X10_isOpened_19 rfl ?_
        refine g_getI f_X10_isOpened_20 (by assumption) ?_
        rw [k8.2.2.2.2.2.2.1]
        refine g_const f_X10_isOpened_23 ?_
        refine g_iadd f_X10_isOpened_24 ?_
        refine g_putI f_X10_isOpened_25 rfl (by assumption) ?_
        refine g_const f_X10_isOpened_28 ?_
        refine g_retz f_X10_isOpened_29 rfl (Or.inr rfl) ?_ (Nat.zero_le _) (Nat.zero_le _)
        obtain ⟨k9, f9⟩ := k8.op (o2 := o + 1) (show (o : Int) + 1 = _ by omega)
        exact ⟨rfl, f.tr f9, Or.inr ⟨rfl, by omega, hb8, k9⟩⟩
      · exact absurd (by omega) hx
    · rw [if_neg (by rw [hb8]; decide)] at k8
      refine g_as (show (((isC tx a c).toNat : Nat) : Int) = 0 by rw [hb8]; rfl) ?_
      refine g_if_ne f_X10_isOpened_13 rfl (by omega) (fun hx => ?_) (fun hx => ?_)
      · exact absurd hx (by omega)
      refine g_const f_X10_isOpened_16 ?_
      refine g_retz f_X10_isOpened_17 rfl (Or.inl rfl) ?_ (Nat.zero_le _) (Nat.zero_le _)
      exact ⟨rfl, f, Or.inl ⟨rfl, k8, Or.inr hb8⟩⟩

def FactM (Ω : Ow) (r : Nat) : Prop := ∀ {S : Sg} {M : Mm} {tx : List Nat} {b a : Nat} {o : Int} {cs : List Int}, o + (r : Int) = 4 → PM S M tx b cs a o → Ct Ω mX10_isF (6 + 3 * r) 0 0 1 [vr Ω 87] S M (fun x S' M' => x = ((pF tx r a cs).1.toNat : Int) ∧ S' = S ∧ PM S M' tx b (pF tx r a cs).2.2 (pF tx r a cs).2.1 o ∧ pfr b M M')
def BothM (Ω : Ow) (r : Nat) : Prop := ∀ {S : Sg} {M : Mm} {tx : List Nat} {b a : Nat} {o : Int} {cs : List Int}, o + (r : Int) = 4 → PM S M tx b cs a o → Ct Ω mX10_isT (7 + 3 * r) 0 0 1 [vr Ω 87] S M (fun x S' M' => x = ((pTg (pF tx r) tx a cs).1.toNat : Int) ∧ S' = S ∧ PM S M' tx b (pTg (pF tx r) tx a cs).2.2 (pTg (pF tx r) tx a cs).2.1 o ∧ pfr b M M')
def EithM (Ω : Ow) (r : Nat) : Prop := ∀ {S : Sg} {M : Mm} {tx : List Nat} {b a : Nat} {o : Int} {cs : List Int}, o + (r : Int) = 4 → PM S M tx b cs a o → Ct Ω mX10_isE (8 + 3 * r) 0 0 1 [vr Ω 87] S M (fun x S' M' => x = ((pEg (pF tx r) tx a cs).1.toNat : Int) ∧ S' = S ∧ PM S M' tx b (pEg (pF tx r) tx a cs).2.2 (pEg (pF tx r) tx a cs).2.1 o ∧ pfr b M M')
set_option maxHeartbeats 4000000 in
set_option maxRecDepth 100000 in
theorem c_mboth {Ω : Ow} {r : Nat} (hF : FactM Ω r) : BothM Ω r := by
  intro S M tx b a o cs hn hP
  refine Ct.mk (by decide) (Nat.le_of_ble_eq_true rfl) [some (vr Ω 87)] (by intro q hq; exact hq) (fun γ hγ hz => ?_)
  obtain ⟨hG, hT, p9, p94, p11, pal, p14, p23, pca, pb, p100⟩ := id hP
  have htl := hT.1
  have o87 := om87 hG
  have hgood := good_F tx r
  have loop : ∀ (m a1 : Nat) (cs1 : List Int) (M1 : Mm), 100 ≤ a1 + m → PM S M1 tx b cs1 a1 o → pfr b M M1 → pLoop (pF tx r) tx 38 (-1) m a1 cs1 = pTg (pF tx r) tx a cs → Go γ Ω mX10_isT (Zm γ Ω 1 0 0 (fun x S' M' => x = ((pTg (pF tx r) tx a cs).1.toNat : Int) ∧ S' = S ∧ PM S M' tx b (pTg (pF tx r) tx a cs).2.2 (pTg (pF tx r) tx a cs).2.1 o ∧ pfr b M M')) 0 0 S M1 9 [some (vr Ω 87)] [] := by
    intro m
    induction m with
    | zero =>
      intro a1 cs1 M1 hm k f hi
      have hend : isC tx a1 38 = false := isC_end (by omega)
      rw [pLoop] at hi
      refine g_alv f_X10_isT_9 rfl ?_
      refine g_const f_X10_isT_10 ?_
      refine g_cv1 hγ (c_mis k (c := 38) (by decide)) f_X10_isT_12 mo_X10_is mv_X10_is (by assumption) rfl rfl (Nat.le_of_ble_eq_true rfl) ⟨by omega, by decide⟩ ⟨Nat.le_refl _, Nat.le_refl _⟩ (fun x S' M12 hq12 => ?_)
      obtain ⟨rfl, q1, k12, fn⟩ := hq12
      obtain rfl := q1.symm
      replace f := f.tr fn
      clear fn
      rw [if_neg (by rw [hend]; decide)] at k12
      rw [hend]
      refine g_as (show ((false.toNat : Nat) : Int) = 0 from rfl) ?_
      refine g_if_eq f_X10_isT_15 rfl (by omega) (fun hx => ?_) (fun hx => ?_)
      · refine g_const f_X10_isT_35 ?_
        refine g_retz f_X10_isT_36 rfl (Or.inr rfl) ?_ (Nat.zero_le _) (Nat.zero_le _)
        rw [← hi]
        exact ⟨rfl, rfl, k12, f⟩
      · exact absurd (by omega) hx
    | succ m ih =>
      intro a1 cs1 M1 hm k f hi
      refine g_alv f_X10_isT_9 rfl ?_
      refine g_const f_X10_isT_10 ?_
      refine g_cv1 hγ (c_mis k (c := 38) (by decide)) f_X10_isT_12 mo_X10_is mv_X10_is (by assumption) rfl rfl (Nat.le_of_ble_eq_true rfl) ⟨by omega, by decide⟩ ⟨Nat.le_refl _, Nat.le_refl _⟩ (fun x S' M12 hq12 => ?_)
      obtain ⟨rfl, q1, k12, fn⟩ := hq12
      obtain rfl := q1.symm
      replace f := f.tr fn
      clear fn
      rcases Bool.eq_false_or_eq_true (isC tx (a1) 38) with hb12 | hb12
      · rw [if_pos hb12] at k12
        rw [hb12]
        refine g_as (show ((true.toNat : Nat) : Int) = 1 from rfl) ?_
        refine g_if_eq f_X10_isT_15 rfl (by omega) (fun hx => ?_) (fun hx => ?_)
        · exact absurd hx (by omega)
        refine g_alv f_X10_isT_18 rfl ?_
        refine g_cv1 hγ (hF hn k12) f_X10_isT_19 mo_X10_isF mv_X10_isF (by assumption) rfl rfl (Nat.le_of_ble_eq_true rfl) ⟨by omega, by decide⟩ ⟨Nat.le_refl _, Nat.le_refl _⟩ (fun x S' M3 hq3 => ?_)
        obtain ⟨rfl, q1, k3, fn⟩ := hq3
        obtain rfl := q1.symm
        replace f := f.tr fn
        clear fn
        have hl1 := (isC_lt hb12).1
        obtain ⟨g1, g2, ⟨c1, g3, g4, g5⟩, g6⟩ := hgood (a1 + 1) cs1 hl1
        have k10 := k.2.2.2.2.2.2.2.2.1
        rw [pLoop, if_pos hb12] at hi
        rcases Bool.eq_false_or_eq_true ((pF tx r) (a1 + 1) cs1).1 with hb | hb
        · rw [hb]
          rw [if_pos hb] at hi
          refine g_as (show ((true.toNat : Nat) : Int) = 1 from rfl) ?_
          refine g_if_eq f_X10_isT_22 rfl (by omega) (fun hx => ?_) (fun hx => ?_)
          · exact absurd hx (by omega)
          refine g_alv f_X10_isT_25 rfl ?_
          refine g_const f_X10_isT_26 ?_
          refine g_as (show (1 : Int) = mcode (-1) from rfl) ?_
          refine g_cv1 hγ (c_mcodes k3 (by rw [g3, List.length_append]; omega) (-1)) f_X10_isT_27 mo_X10_codes mv_X10_codes (by assumption) rfl rfl (Nat.le_of_ble_eq_true rfl) ⟨by omega, by decide⟩ ⟨Nat.le_refl _, Nat.le_refl _⟩ (fun x S' M4 hq4 => ?_)
          obtain ⟨rfl, q1, k4, fn⟩ := hq4
          obtain rfl := q1.symm
          replace f := f.tr fn
          clear fn
          refine g_if_ne f_X10_isT_30 rfl (by omega) (fun hx9 => ?_) (fun hx9 => ?_)
          · exact ih _ _ M4 (by omega) k4 f hi
          · exact absurd (by omega) hx9
        · rw [hb]
          rw [if_neg (by rw [hb]; decide)] at hi
          refine g_as (show ((false.toNat : Nat) : Int) = 0 from rfl) ?_
          refine g_if_eq f_X10_isT_22 rfl (by omega) (fun hx => ?_) (fun hx => ?_)
          · refine g_const f_X10_isT_33 ?_
            refine g_retz f_X10_isT_34 rfl (Or.inl rfl) ?_ (Nat.zero_le _) (Nat.zero_le _)
            rw [← hi]
            exact ⟨rfl, rfl, k3, f⟩
          · exact absurd (by omega) hx
      · rw [if_neg (by rw [hb12]; decide)] at k12
        rw [hb12]
        refine g_as (show ((false.toNat : Nat) : Int) = 0 from rfl) ?_
        refine g_if_eq f_X10_isT_15 rfl (by omega) (fun hx => ?_) (fun hx => ?_)
        · refine g_const f_X10_isT_35 ?_
          refine g_retz f_X10_isT_36 rfl (Or.inr rfl) ?_ (Nat.zero_le _) (Nat.zero_le _)
          rw [pLoop, if_neg (by rw [hb12]; decide)] at hi
          rw [← hi]
          exact ⟨rfl, rfl, k12, f⟩
        · exact absurd (by omega) hx
  refine g_alv f_X10_isT_0 rfl ?_
  refine g_cv1 hγ (hF hn hP) f_X10_isT_1 mo_X10_isF mv_X10_isF (by assumption) rfl rfl (Nat.le_of_ble_eq_true rfl) ⟨by omega, by decide⟩ ⟨Nat.le_refl _, Nat.le_refl _⟩ (fun x S' M2 hq2 => ?_)
  obtain ⟨rfl, q1, k, f⟩ := hq2
  obtain rfl := q1.symm
  rcases Bool.eq_false_or_eq_true ((pF tx r) a cs).1 with hb0 | hb0
  · rw [hb0]
    refine g_as (show ((true.toNat : Nat) : Int) = 1 from rfl) ?_
    refine g_if_ne f_X10_isT_4 rfl (by omega) (fun hx => ?_) (fun hx => ?_)
    · exact loop 100 _ _ M2 (by omega) k f (if_pos hb0).symm
    · exact absurd (by omega) hx
  · rw [hb0]
    refine g_as (show ((false.toNat : Nat) : Int) = 0 from rfl) ?_
    refine g_if_ne f_X10_isT_4 rfl (by omega) (fun hx => ?_) (fun hx => ?_)
    · exact absurd hx (by omega)
    refine g_const f_X10_isT_7 ?_
    refine g_retz f_X10_isT_8 rfl (Or.inl rfl) ?_ (Nat.zero_le _) (Nat.zero_le _)
    have e : pTg (pF tx r) tx a cs = (false, ((pF tx r) a cs).2.1, ((pF tx r) a cs).2.2) := if_neg (by rw [hb0]; decide)
    rw [e]
    exact ⟨rfl, rfl, k, f⟩
set_option maxHeartbeats 4000000 in
set_option maxRecDepth 100000 in
theorem c_meith {Ω : Ow} {r : Nat} (hT0 : BothM Ω r) : EithM Ω r := by
  intro S M tx b a o cs hn hP
  refine Ct.mk (by decide) (Nat.le_of_ble_eq_true rfl) [some (vr Ω 87)] (by intro q hq; exact hq) (fun γ hγ hz => ?_)
  obtain ⟨hG, hT, p9, p94, p11, pal, p14, p23, pca, pb, p100⟩ := id hP
  have htl := hT.1
  have o87 := om87 hG
  have hgood := good_T (good_F tx r)
  have loop : ∀ (m a1 : Nat) (cs1 : List Int) (M1 : Mm), 100 ≤ a1 + m → PM S M1 tx b cs1 a1 o → pfr b M M1 → pLoop (pTg (pF tx r) tx) tx 124 (-2) m a1 cs1 = pEg (pF tx r) tx a cs → Go γ Ω mX10_isE (Zm γ Ω 1 0 0 (fun x S' M' => x = ((pEg (pF tx r) tx a cs).1.toNat : Int) ∧ S' = S ∧ PM S M' tx b (pEg (pF tx r) tx a cs).2.2 (pEg (pF tx r) tx a cs).2.1 o ∧ pfr b M M')) 0 0 S M1 9 [some (vr Ω 87)] [] := by
    intro m
    induction m with
    | zero =>
      intro a1 cs1 M1 hm k f hi
      have hend : isC tx a1 124 = false := isC_end (by omega)
      rw [pLoop] at hi
      refine g_alv f_X10_isE_9 rfl ?_
      refine g_const f_X10_isE_10 ?_
      refine g_cv1 hγ (c_mis k (c := 124) (by decide)) f_X10_isE_12 mo_X10_is mv_X10_is (by assumption) rfl rfl (Nat.le_of_ble_eq_true rfl) ⟨by omega, by decide⟩ ⟨Nat.le_refl _, Nat.le_refl _⟩ (fun x S' M12 hq12 => ?_)
      obtain ⟨rfl, q1, k12, fn⟩ := hq12
      obtain rfl := q1.symm
      replace f := f.tr fn
      clear fn
      rw [if_neg (by rw [hend]; decide)] at k12
      rw [hend]
      refine g_as (show ((false.toNat : Nat) : Int) = 0 from rfl) ?_
      refine g_if_eq f_X10_isE_15 rfl (by omega) (fun hx => ?_) (fun hx => ?_)
      · refine g_const f_X10_isE_35 ?_
        refine g_retz f_X10_isE_36 rfl (Or.inr rfl) ?_ (Nat.zero_le _) (Nat.zero_le _)
        rw [← hi]
        exact ⟨rfl, rfl, k12, f⟩
      · exact absurd (by omega) hx
    | succ m ih =>
      intro a1 cs1 M1 hm k f hi
      refine g_alv f_X10_isE_9 rfl ?_
      refine g_const f_X10_isE_10 ?_
      refine g_cv1 hγ (c_mis k (c := 124) (by decide)) f_X10_isE_12 mo_X10_is mv_X10_is (by assumption) rfl rfl (Nat.le_of_ble_eq_true rfl) ⟨by omega, by decide⟩ ⟨Nat.le_refl _, Nat.le_refl _⟩ (fun x S' M12 hq12 => ?_)
      obtain ⟨rfl, q1, k12, fn⟩ := hq12
      obtain rfl := q1.symm
      replace f := f.tr fn
      clear fn
      rcases Bool.eq_false_or_eq_true (isC tx (a1) 124) with hb12 | hb12
      · rw [if_pos hb12] at k12
        rw [hb12]
        refine g_as (show ((true.toNat : Nat) : Int) = 1 from rfl) ?_
        refine g_if_eq f_X10_isE_15 rfl (by omega) (fun hx => ?_) (fun hx => ?_)
        · exact absurd hx (by omega)
        refine g_alv f_X10_isE_18 rfl ?_
        refine g_cv1 hγ (hT0 hn k12) f_X10_isE_19 mo_X10_isT mv_X10_isT (by assumption) rfl rfl (Nat.le_of_ble_eq_true rfl) ⟨by omega, by decide⟩ ⟨Nat.le_refl _, Nat.le_refl _⟩ (fun x S' M3 hq3 => ?_)
        obtain ⟨rfl, q1, k3, fn⟩ := hq3
        obtain rfl := q1.symm
        replace f := f.tr fn
        clear fn
        have hl1 := (isC_lt hb12).1
        obtain ⟨g1, g2, ⟨c1, g3, g4, g5⟩, g6⟩ := hgood (a1 + 1) cs1 hl1
        have k10 := k.2.2.2.2.2.2.2.2.1
        rw [pLoop, if_pos hb12] at hi
        rcases Bool.eq_false_or_eq_true ((pTg (pF tx r) tx) (a1 + 1) cs1).1 with hb | hb
        · rw [hb]
          rw [if_pos hb] at hi
          refine g_as (show ((true.toNat : Nat) : Int) = 1 from rfl) ?_
          refine g_if_eq f_X10_isE_22 rfl (by omega) (fun hx => ?_) (fun hx => ?_)
          · exact absurd hx (by omega)
          refine g_alv f_X10_isE_25 rfl ?_
          refine g_const f_X10_isE_26 ?_
          refine g_as (show (2 : Int) = mcode (-2) from rfl) ?_
          refine g_cv1 hγ (c_mcodes k3 (by rw [g3, List.length_append]; omega) (-2)) f_X10_isE_27 mo_X10_codes mv_X10_codes (by assumption) rfl rfl (Nat.le_of_ble_eq_true rfl) ⟨by omega, by decide⟩ ⟨Nat.le_refl _, Nat.le_refl _⟩ (fun x S' M4 hq4 => ?_)
          obtain ⟨rfl, q1, k4, fn⟩ := hq4
          obtain rfl := q1.symm
          replace f := f.tr fn
          clear fn
          refine g_if_ne f_X10_isE_30 rfl (by omega) (fun hx9 => ?_) (fun hx9 => ?_)
          · exact ih _ _ M4 (by omega) k4 f hi
          · exact absurd (by omega) hx9
        · rw [hb]
          rw [if_neg (by rw [hb]; decide)] at hi
          refine g_as (show ((false.toNat : Nat) : Int) = 0 from rfl) ?_
          refine g_if_eq f_X10_isE_22 rfl (by omega) (fun hx => ?_) (fun hx => ?_)
          · refine g_const f_X10_isE_33 ?_
            refine g_retz f_X10_isE_34 rfl (Or.inl rfl) ?_ (Nat.zero_le _) (Nat.zero_le _)
            rw [← hi]
            exact ⟨rfl, rfl, k3, f⟩
          · exact absurd (by omega) hx
      · rw [if_neg (by rw [hb12]; decide)] at k12
        rw [hb12]
        refine g_as (show ((false.toNat : Nat) : Int) = 0 from rfl) ?_
        refine g_if_eq f_X10_isE_15 rfl (by omega) (fun hx => ?_) (fun hx => ?_)
        · refine g_const f_X10_isE_35 ?_
          refine g_retz f_X10_isE_36 rfl (Or.inr rfl) ?_ (Nat.zero_le _) (Nat.zero_le _)
          rw [pLoop, if_neg (by rw [hb12]; decide)] at hi
          rw [← hi]
          exact ⟨rfl, rfl, k12, f⟩
        · exact absurd (by omega) hx
  refine g_alv f_X10_isE_0 rfl ?_
  refine g_cv1 hγ (hT0 hn hP) f_X10_isE_1 mo_X10_isT mv_X10_isT (by assumption) rfl rfl (Nat.le_of_ble_eq_true rfl) ⟨by omega, by decide⟩ ⟨Nat.le_refl _, Nat.le_refl _⟩ (fun x S' M2 hq2 => ?_)
  obtain ⟨rfl, q1, k, f⟩ := hq2
  obtain rfl := q1.symm
  rcases Bool.eq_false_or_eq_true ((pTg (pF tx r) tx) a cs).1 with hb0 | hb0
  · rw [hb0]
    refine g_as (show ((true.toNat : Nat) : Int) = 1 from rfl) ?_
    refine g_if_ne f_X10_isE_4 rfl (by omega) (fun hx => ?_) (fun hx => ?_)
    · exact loop 100 _ _ M2 (by omega) k f (if_pos hb0).symm
    · exact absurd (by omega) hx
  · rw [hb0]
    refine g_as (show ((false.toNat : Nat) : Int) = 0 from rfl) ?_
    refine g_if_ne f_X10_isE_4 rfl (by omega) (fun hx => ?_) (fun hx => ?_)
    · exact absurd hx (by omega)
    refine g_const f_X10_isE_7 ?_
    refine g_retz f_X10_isE_8 rfl (Or.inl rfl) ?_ (Nat.zero_le _) (Nat.zero_le _)
    have e : pEg (pF tx r) tx a cs = (false, ((pTg (pF tx r) tx) a cs).2.1, ((pTg (pF tx r) tx) a cs).2.2) := if_neg (by rw [hb0]; decide)
    rw [e]
    exact ⟨rfl, rfl, k, f⟩
set_option maxHeartbeats 4000000 in
set_option maxRecDepth 100000 in
theorem c_mfact0 {Ω : Ow} : FactM Ω 0 := by
  intro S M tx b a o cs hn0 hP
  refine Ct.mk (by decide) (Nat.le_of_ble_eq_true rfl) [some (vr Ω 87), none] (by intro q hq; exact hq) (fun γ hγ hz => ?_)
  have k := hP
  have f : pfr b M M := pfr.rf
  obtain ⟨hG, hT, p9, p94, p11, pal, p14, p23, pca, pb, p100⟩ := id hP
  have htl := hT.1
  have o87 := om87 hG
  refine g_alv f_X10_isF_0 rfl ?_
  refine g_const f_X10_isF_1 ?_
  refine g_cv1 hγ (c_mopen k (by omega) (c := 33) (by decide)) f_X10_isF_3 mo_X10_isOpened mv_X10_isOpened (by assumption) rfl rfl (Nat.le_of_ble_eq_true rfl) ⟨by omega, by decide⟩ ⟨Nat.le_refl _, Nat.le_refl _⟩ (fun x S' M3 hq3 => ?_)
  obtain ⟨q1, fn, hh3⟩ := hq3
  obtain rfl := q1.symm
  replace f := f.tr fn
  clear fn
  rcases hh3 with ⟨rfl, k3, hno3⟩ | ⟨rfl, ho3, hb3, k3⟩
  · refine g_if_eq f_X10_isF_6 rfl (by omega) (fun hx => ?_) (fun hx => ?_)
    · refine g_alv f_X10_isF_33 rfl ?_
      refine g_const f_X10_isF_34 ?_
      refine g_cv1 hγ (c_mopen k3 (by omega) (c := 40) (by decide)) f_X10_isF_36 mo_X10_isOpened mv_X10_isOpened (by assumption) rfl rfl (Nat.le_of_ble_eq_true rfl) ⟨by omega, by decide⟩ ⟨Nat.le_refl _, Nat.le_refl _⟩ (fun x S' M36 hq36 => ?_)
      obtain ⟨q1, fn, hh36⟩ := hq36
      obtain rfl := q1.symm
      replace f := f.tr fn
      clear fn
      rcases hh36 with ⟨rfl, k36, hno36⟩ | ⟨rfl, ho36, hb36, k36⟩
      · refine g_if_eq f_X10_isF_39 rfl (by omega) (fun hx => ?_) (fun hx => ?_)
        · refine g_alv f_X10_isF_67 rfl ?_
          refine g_cv1 hγ (c_mtest k36) f_X10_isF_68 mo_X10_isTest mv_X10_isTest (by assumption) rfl rfl (Nat.le_of_ble_eq_true rfl) ⟨by omega, by decide⟩ ⟨Nat.le_refl _, Nat.le_refl _⟩ (fun x S' M2 hq2 => ?_)
          obtain ⟨rfl, q1, k2, fn⟩ := hq2
          obtain rfl := q1.symm
          replace f := f.tr fn
          clear fn
          refine g_retz f_X10_isF_71 rfl (by cases (pTest tx a cs).1 <;> simp) ?_ (Nat.zero_le _) (Nat.zero_le _)
          exact ⟨rfl, rfl, k2, f⟩
        · exact absurd (by omega) hx
      · refine g_if_eq f_X10_isF_39 rfl (by omega) (fun hx => ?_) (fun hx => ?_)
        · exact absurd hx (by omega)
        exact absurd ho36 (by omega)
    · exact absurd (by omega) hx
  · refine g_if_eq f_X10_isF_6 rfl (by omega) (fun hx => ?_) (fun hx => ?_)
    · exact absurd hx (by omega)
    exact absurd ho3 (by omega)
set_option maxHeartbeats 4000000 in
set_option maxRecDepth 100000 in
theorem c_mfactS {Ω : Ow} {r : Nat} (hr : r < 4) (hF : FactM Ω r) (hE : EithM Ω r) : FactM Ω (r + 1) := by
  intro S M tx b a o cs hn0 hP
  refine Ct.mk (by decide) (Nat.le_of_ble_eq_true rfl) [some (vr Ω 87), none] (by intro q hq; exact hq) (fun γ hγ hz => ?_)
  have k := hP
  have f : pfr b M M := pfr.rf
  obtain ⟨hG, hT, p9, p94, p11, pal, p14, p23, pca, pb, p100⟩ := id hP
  have htl := hT.1
  have o87 := om87 hG
  have j72 : ∀ (M1 : Mm) (x : Int), (x = 0 ∨ x = 1) → x = ((pF tx (r + 1) a cs).1.toNat : Int) → PM S M1 tx b (pF tx (r + 1) a cs).2.2 (pF tx (r + 1) a cs).2.1 (o + 1) → pfr b M M1 → Go γ Ω mX10_isF (Zm γ Ω 1 0 0 (fun x S' M' => x = ((pF tx (r + 1) a cs).1.toNat : Int) ∧ S' = S ∧ PM S M' tx b (pF tx (r + 1) a cs).2.2 (pF tx (r + 1) a cs).2.1 o ∧ pfr b M M')) 0 0 S M1 72 [some (vr Ω 87), some (vi x)] [] := by
    intro M1 x0 hx0 hx k f
    have y14 := k.2.2.2.2.2.2.1
    obtain ⟨k9, f9⟩ := k.op (o2 := o) (show (o + 1 : Int) - 1 = o by omega)
    refine g_alv f_X10_isF_72 rfl ?_
    refine g_dup f_X10_isF_73 rfl ?_
    refine g_getI f_X10_isF_74 (by assumption) ?_
    rw [y14]
    refine g_const f_X10_isF_77 ?_
    refine g_isub f_X10_isF_78 ?_
    refine g_putI f_X10_isF_79 rfl (by assumption) ?_
    refine g_ild f_X10_isF_82 rfl ?_
    refine g_retz f_X10_isF_83 rfl hx0 ?_ (Nat.zero_le _) (Nat.zero_le _)
    exact ⟨hx, rfl, k9, f.tr f9⟩
  refine g_alv f_X10_isF_0 rfl ?_
  refine g_const f_X10_isF_1 ?_
  refine g_cv1 hγ (c_mopen k (by omega) (c := 33) (by decide)) f_X10_isF_3 mo_X10_isOpened mv_X10_isOpened (by assumption) rfl rfl (Nat.le_of_ble_eq_true rfl) ⟨by omega, by decide⟩ ⟨Nat.le_refl _, Nat.le_refl _⟩ (fun x S' M3 hq3 => ?_)
  obtain ⟨q1, fn, hh3⟩ := hq3
  obtain rfl := q1.symm
  replace f := f.tr fn
  clear fn
  rcases hh3 with ⟨rfl, k3, hno3⟩ | ⟨rfl, ho3, hb3, k3⟩
  · have h33 : isC tx a 33 = false := hno3.resolve_left (by omega)
    refine g_if_eq f_X10_isF_6 rfl (by omega) (fun hx => ?_) (fun hx => ?_)
    · refine g_alv f_X10_isF_33 rfl ?_
      refine g_const f_X10_isF_34 ?_
      refine g_cv1 hγ (c_mopen k3 (by omega) (c := 40) (by decide)) f_X10_isF_36 mo_X10_isOpened mv_X10_isOpened (by assumption) rfl rfl (Nat.le_of_ble_eq_true rfl) ⟨by omega, by decide⟩ ⟨Nat.le_refl _, Nat.le_refl _⟩ (fun x S' M36 hq36 => ?_)
      obtain ⟨q1, fn, hh36⟩ := hq36
      obtain rfl := q1.symm
      replace f := f.tr fn
      clear fn
      rcases hh36 with ⟨rfl, k36, hno36⟩ | ⟨rfl, ho36, hb36, k36⟩
      · have h40 : isC tx a 40 = false := hno36.resolve_left (by omega)
        refine g_if_eq f_X10_isF_39 rfl (by omega) (fun hx => ?_) (fun hx => ?_)
        · refine g_alv f_X10_isF_67 rfl ?_
          refine g_cv1 hγ (c_mtest k36) f_X10_isF_68 mo_X10_isTest mv_X10_isTest (by assumption) rfl rfl (Nat.le_of_ble_eq_true rfl) ⟨by omega, by decide⟩ ⟨Nat.le_refl _, Nat.le_refl _⟩ (fun x S' M2 hq2 => ?_)
          obtain ⟨rfl, q1, k2, fn⟩ := hq2
          obtain rfl := q1.symm
          replace f := f.tr fn
          clear fn
          refine g_retz f_X10_isF_71 rfl (by cases (pTest tx a cs).1 <;> simp) ?_ (Nat.zero_le _) (Nat.zero_le _)
          rw [pF_test h40 h33]
          exact ⟨rfl, rfl, k2, f⟩
        · exact absurd (by omega) hx
      · refine g_if_eq f_X10_isF_39 rfl (by omega) (fun hx => ?_) (fun hx => ?_)
        · exact absurd hx (by omega)
        refine g_alv f_X10_isF_42 rfl ?_
        refine g_cv1 hγ (hE (o := o + 1) (by omega) k36) f_X10_isF_43 mo_X10_isE mv_X10_isE (by assumption) rfl rfl (Nat.le_of_ble_eq_true rfl) ⟨by omega, by decide⟩ ⟨Nat.le_refl _, Nat.le_refl _⟩ (fun x S' M5 hq5 => ?_)
        obtain ⟨rfl, q1, k5, fn⟩ := hq5
        obtain rfl := q1.symm
        replace f := f.tr fn
        clear fn
        obtain ⟨g1, g2, ⟨c1, g3, g4, g5⟩, g6⟩ := good_E (good_F tx r) (a + 1) cs (isC_lt hb36).1
        have k10 := k.2.2.2.2.2.2.2.2.1
        rcases Bool.eq_false_or_eq_true (pEg (pF tx r) tx (a + 1) cs).1 with hb | hb
        · rw [hb]
          refine g_as (show ((true.toNat : Nat) : Int) = 1 from rfl) ?_
          refine g_if_eq f_X10_isF_46 rfl (by omega) (fun hx => ?_) (fun hx => ?_)
          · exact absurd hx (by omega)
          refine g_alv f_X10_isF_49 rfl ?_
          refine g_const f_X10_isF_50 ?_
          refine g_cv1 hγ (c_mis k5 (c := 41) (by decide)) f_X10_isF_52 mo_X10_is mv_X10_is (by assumption) rfl rfl (Nat.le_of_ble_eq_true rfl) ⟨by omega, by decide⟩ ⟨Nat.le_refl _, Nat.le_refl _⟩ (fun x S' M52 hq52 => ?_)
          obtain ⟨rfl, q1, k52, fn⟩ := hq52
          obtain rfl := q1.symm
          replace f := f.tr fn
          clear fn
          rcases Bool.eq_false_or_eq_true (isC tx ((pEg (pF tx r) tx (a + 1) cs).2.1) 41) with hb52 | hb52
          · rw [if_pos hb52] at k52
            rw [hb52]
            refine g_as (show ((true.toNat : Nat) : Int) = 1 from rfl) ?_
            refine g_if_eq f_X10_isF_55 rfl (by omega) (fun hx => ?_) (fun hx => ?_)
            · exact absurd hx (by omega)
            refine g_const f_X10_isF_58 ?_
            refine g_goto f_X10_isF_59 ?_
            refine g_ist_1 f_X10_isF_63 (by decide) c1v ?_
            refine g_goto f_X10_isF_64 ?_
            have e : pF tx (r + 1) a cs = (true, (pEg (pF tx r) tx (a + 1) cs).2.1 + 1, (pEg (pF tx r) tx (a + 1) cs).2.2) := (pF_open hb36).trans ((if_pos hb).trans (if_pos hb52))
            exact j72 _ _ (Or.inr rfl) (by rw [e]; rfl) (by rw [e]; exact k52) f
          · rw [if_neg (by rw [hb52]; decide)] at k52
            rw [hb52]
            refine g_as (show ((false.toNat : Nat) : Int) = 0 from rfl) ?_
            refine g_if_eq f_X10_isF_55 rfl (by omega) (fun hx => ?_) (fun hx => ?_)
            · refine g_const f_X10_isF_62 ?_
              refine g_ist_1 f_X10_isF_63 (by decide) c1v ?_
              refine g_goto f_X10_isF_64 ?_
              have e : pF tx (r + 1) a cs = (false, (pEg (pF tx r) tx (a + 1) cs).2.1, (pEg (pF tx r) tx (a + 1) cs).2.2) := (pF_open hb36).trans ((if_pos hb).trans (if_neg (by rw [hb52]; decide)))
              exact j72 _ _ (Or.inl rfl) (by rw [e]; rfl) (by rw [e]; exact k52) f
            · exact absurd (by omega) hx
        · rw [hb]
          refine g_as (show ((false.toNat : Nat) : Int) = 0 from rfl) ?_
          refine g_if_eq f_X10_isF_46 rfl (by omega) (fun hx => ?_) (fun hx => ?_)
          · refine g_const f_X10_isF_62 ?_
            refine g_ist_1 f_X10_isF_63 (by decide) c1v ?_
            refine g_goto f_X10_isF_64 ?_
            have e : pF tx (r + 1) a cs = (false, (pEg (pF tx r) tx (a + 1) cs).2.1, (pEg (pF tx r) tx (a + 1) cs).2.2) := (pF_open hb36).trans (if_neg (by rw [hb]; decide))
            exact j72 _ _ (Or.inl rfl) (by rw [e]; rfl) (by rw [e]; exact k5) f
          · exact absurd (by omega) hx
    · exact absurd (by omega) hx
  · have h40 : isC tx a 40 = false := isC_two hb3 (by decide)
    refine g_if_eq f_X10_isF_6 rfl (by omega) (fun hx => ?_) (fun hx => ?_)
    · exact absurd hx (by omega)
    refine g_alv f_X10_isF_9 rfl ?_
    refine g_cv1 hγ (hF (o := o + 1) (by omega) k3) f_X10_isF_10 mo_X10_isF mv_X10_isF (by assumption) rfl rfl (Nat.le_of_ble_eq_true rfl) ⟨by omega, by decide⟩ ⟨Nat.le_refl _, Nat.le_refl _⟩ (fun x S' M5 hq5 => ?_)
    obtain ⟨rfl, q1, k5, fn⟩ := hq5
    obtain rfl := q1.symm
    replace f := f.tr fn
    clear fn
    obtain ⟨g1, g2, ⟨c1, g3, g4, g5⟩, g6⟩ := good_F tx r (a + 1) cs (isC_lt hb3).1
    have k10 := k.2.2.2.2.2.2.2.2.1
    rcases Bool.eq_false_or_eq_true (pF tx r (a + 1) cs).1 with hb | hb
    · rw [hb]
      refine g_as (show ((true.toNat : Nat) : Int) = 1 from rfl) ?_
      refine g_if_eq f_X10_isF_13 rfl (by omega) (fun hx => ?_) (fun hx => ?_)
      · exact absurd hx (by omega)
      refine g_alv f_X10_isF_16 rfl ?_
      refine g_const f_X10_isF_17 ?_
      refine g_as (show (0 : Int) = mcode (-3) from rfl) ?_
      refine g_cv1 hγ (c_mcodes k5 (by rw [g3, List.length_append]; omega) (-3)) f_X10_isF_18 mo_X10_codes mv_X10_codes (by assumption) rfl rfl (Nat.le_of_ble_eq_true rfl) ⟨by omega, by decide⟩ ⟨Nat.le_refl _, Nat.le_refl _⟩ (fun x S' M6 hq6 => ?_)
      obtain ⟨rfl, q1, k6, fn⟩ := hq6
      obtain rfl := q1.symm
      replace f := f.tr fn
      clear fn
      refine g_if_eq f_X10_isF_21 rfl (by omega) (fun hx9 => ?_) (fun hx9 => ?_)
      · exact absurd hx9 (by omega)
      refine g_const f_X10_isF_24 ?_
      refine g_goto f_X10_isF_25 ?_
      refine g_ist_1 f_X10_isF_29 (by decide) c1v ?_
      refine g_goto f_X10_isF_30 ?_
      have e : pF tx (r + 1) a cs = (true, (pF tx r (a + 1) cs).2.1, (pF tx r (a + 1) cs).2.2 ++ [-3]) := (pF_not h40 hb3).trans (if_pos hb)
      exact j72 _ _ (Or.inr rfl) (by rw [e]; rfl) (by rw [e]; exact k6) f
    · rw [hb]
      refine g_as (show ((false.toNat : Nat) : Int) = 0 from rfl) ?_
      refine g_if_eq f_X10_isF_13 rfl (by omega) (fun hx => ?_) (fun hx => ?_)
      · refine g_const f_X10_isF_28 ?_
        refine g_ist_1 f_X10_isF_29 (by decide) c1v ?_
        refine g_goto f_X10_isF_30 ?_
        have e : pF tx (r + 1) a cs = (false, (pF tx r (a + 1) cs).2.1, (pF tx r (a + 1) cs).2.2) := (pF_not h40 hb3).trans (if_neg (by rw [hb]; decide))
        exact j72 _ _ (Or.inl rfl) (by rw [e]; rfl) (by rw [e]; exact k5) f
      · exact absurd (by omega) hx
theorem c_mfact {Ω : Ow} : ∀ r, r ≤ 4 → FactM Ω r
  | 0, _ => c_mfact0
  | r + 1, h => c_mfactS (by omega) (c_mfact r (by omega)) (c_meith (c_mboth (c_mfact r (by omega))))
theorem c_meither {Ω : Ow} (r : Nat) (h : r ≤ 4) : EithM Ω r := c_meith (c_mboth (c_mfact r h))