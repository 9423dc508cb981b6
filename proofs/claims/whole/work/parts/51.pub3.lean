/-! contracts: the calls: set, row, see, wrong, book, act, trace, taken, ends -/
set_option maxHeartbeats 4000000 in
set_option maxRecDepth 100000 in
theorem w_row {Ω : Ow} {S : Sg} {M : Mm} {s : Wt} (hW : RepW S M s) (hO0 : okW s) (p q n : Int) (hp : rg p) (hq0 : rg q) (hn0 : rg n) : Ct Ω mX9_row 2 0 0 1 [vr Ω 0, vi p, vi q, vi n] S M (fun x S' M' => x = (a_row s p q n).1 ∧ RepW S' M' (a_row s p q n).2 ∧ mfr S S' M M') := by
  refine Ct.mk (by decide) (Nat.le_of_ble_eq_true rfl) [some (vr Ω 0), some (vi p), some (vi q), some (vi n), none, none] (by intro q hq; exact hq) (fun γ hγ hz => ?_)
  obtain ⟨hG, hS1, ⟨hX, hT1, hT2, hT3⟩, hlaw, hK, ⟨Λd, hTx, hn1, hn2⟩, hTr, hTp, hmost, hN46, hN61⟩ := id hW
  obtain ⟨⟨hO, hD, hSe, hPl, hBk, hl1, hl2, hl3⟩, hOk, hlw, hOt, hOp⟩ := id hO0
  have hX : RepX S M 25 (wz s) := hX
  have hO : okZ (wz s) := hO
  have hD : zd (wz s) ≤ 9999 := hD
  obtain ⟨x1, x2, x3, x4, x5, Λ, x6, x7, x8, x9⟩ := id hX
  obtain ⟨z1, z2, z3, z4, z5⟩ := id hO
  have hB : isB 25 := Or.inl rfl
  have oB := obB hG hB
  have aB := arB hG hB
  have g0 := (hG.2.2.1 25 hB).1
  have o0 := obn hG (r := 0) (c := 9) (by decide +kernel)
  have o18 := obn hG (r := 18) (c := 4) (by decide +kernel)
  have g00 : _ = ((18 : Nat) : Int) := grn hG (k := 0) (j := 0) (by decide)
  have g18 : _ = ((25 : Nat) : Int) := grn hG (k := 18) (j := 0) (by decide)
  have o60 := obn hG (r := 60) (c := 8) (by decide +kernel)
  have g05 : _ = ((60 : Nat) : Int) := grn hG (k := 0) (j := 5) (by decide)
  have o9 := obn hG (r := 9) (c := 0) (by decide +kernel)
  have g06 : _ = ((9 : Nat) : Int) := grn hG (k := 0) (j := 6) (by decide)
  have g181 : _ = ((19 : Nat) : Int) := grn hG (k := 18) (j := 1) (by decide)
  have g182 : _ = ((21 : Nat) : Int) := grn hG (k := 18) (j := 2) (by decide)
  have g183 : _ = ((23 : Nat) : Int) := grn hG (k := 18) (j := 3) (by decide)
  have iT1 : isT 19 5 := (snT snX).1
  have iT2 : isT 21 10 := (snT snX).2.1
  have iT3 : isT 23 8 := (snT snX).2.2.1
  obtain ⟨oT1, -, -⟩ := obT hG iT1
  obtain ⟨oT2, -, -⟩ := obT hG iT2
  obtain ⟨oT3, -, -⟩ := obT hG iT3
  refine g_alv f_X9_row_0 rfl ?_
  refine g_getR f_X9_row_1 (by assumption) (by assumption) ?_
  refine g_getR f_X9_row_4 (by assumption) (by assumption) ?_
  refine g_ild f_X9_row_7 rfl ?_
  refine g_cv3 hγ (c_person hG hB hX hO p (by omega)) f_X9_row_8 mo_X5_person mv_X5_person (by assumption) rfl rfl (Nat.le_of_ble_eq_true rfl) ⟨by decide, by decide⟩ ⟨Nat.le_refl _, Nat.le_refl _⟩ (fun x S' M' hq2 => ?_)
  obtain ⟨hq2, q1, q2⟩ := hq2
  obtain rfl := q1.symm
  obtain rfl := q2.symm
  rcases hq2 with ⟨p2, hp2, hpe, rfl⟩ | ⟨hnp, rfl⟩
  · rw [rv_nat]
    subst hpe
    have hp6 : p2 < 6 := by omega
    have oP := obP (p := p2) hG hB hp6
    have aP := arP (p := p2) hG hB hp6
    have gP := ((hG.2.2.1 25 hB).2 p2 hp6).2
    obtain ⟨r1, r2, r3, r4, r5, r6⟩ := id (x4 p2 hp2)
    obtain ⟨b1, b2, b3, b4, b5, b6⟩ := id (z4 p2 hp2)
    have hin := pe_in (B := 25) hp6
    have hip : inP s (p2 : Int) := ⟨by omega, by show (p2 : Int) < (zc (wz s) : Int); omega⟩
    refine g_ast_4 f_X9_row_11 (by decide) c1i ?_
    refine g_alv f_X9_row_13 rfl ?_
    refine g_ifnull f_X9_row_15 rfl ?_
    refine g_ild f_X9_row_18 rfl ?_
    refine g_const f_X9_row_19 ?_
    refine g_cs1 hγ (c_within q 3 (by omega) (by omega)) f_X9_row_20 mo_X9_isWithin mt_X9_isWithin rfl (Nat.le_of_ble_eq_true rfl) ⟨by decide, by decide⟩ ⟨Nat.le_refl _, Nat.le_refl _⟩ (fun x S' M' hq9 => ?_)
    obtain ⟨hx, q1, q2⟩ := hq9
    obtain rfl := q1.symm
    obtain rfl := q2.symm
    by_cases hq3 : 0 ≤ q ∧ q ≤ 3
    · rw [if_pos hq3] at hx
      subst hx
      refine g_if_ne f_X9_row_23 rfl (by omega) (fun hx => ?_) (fun hx => ?_)
      · refine g_ild f_X9_row_28 rfl ?_
        refine g_const f_X9_row_29 ?_
        refine g_cs1 hγ (c_within n 9 (by omega) (by omega)) f_X9_row_31 mo_X9_isWithin mt_X9_isWithin rfl (Nat.le_of_ble_eq_true rfl) ⟨by decide, by decide⟩ ⟨Nat.le_refl _, Nat.le_refl _⟩ (fun x S' M' hq9 => ?_)
        obtain ⟨hx, q1, q2⟩ := hq9
        obtain rfl := q1.symm
        obtain rfl := q2.symm
        by_cases hn9 : 0 ≤ n ∧ n ≤ 9
        · rw [if_pos hn9] at hx
          subst hx
          refine g_if_ne f_X9_row_34 rfl (by omega) (fun hx => ?_) (fun hx => ?_)
          · refine g_alv f_X9_row_40 rfl ?_
            refine g_getI f_X9_row_42 (by assumption) ?_
            rw [r1]
            refine g_const f_X9_row_45 ?_
            refine g_icmp_eq f_X9_row_47 rfl (by omega) (by omega) (fun h6 => ?_) (fun h6 => ?_)
            · obtain ⟨j, rfl⟩ := Int.eq_ofNat_of_zero_le hq3.1
              obtain ⟨m, rfl⟩ := Int.eq_ofNat_of_zero_le hn9.1
              refine g_alv f_X9_row_53 rfl ?_
              refine g_getR f_X9_row_55 (by assumption) (by assumption) ?_
              refine g_ild f_X9_row_58 rfl ?_
              refine g_ial f_X9_row_59 (by assumption) _ rfl (by omega) ?_
              rw [r6 j (by omega)]
              refine g_ist_5 f_X9_row_60 (by decide) c1v ?_
              refine g_alv f_X9_row_62 rfl ?_
              refine g_getR f_X9_row_64 (by assumption) (by assumption) ?_
              refine g_ild f_X9_row_67 rfl ?_
              refine g_ild f_X9_row_68 rfl ?_
              refine g_ias f_X9_row_69 (by assumption) _ rfl (by omega) ?_
              refine g_ild f_X9_row_70 rfl ?_
              refine g_reti f_X9_row_72 rfl ?_ (Nat.zero_le _) (Nat.zero_le _)
              have e : a_row s (p2 : Int) (j : Int) (m : Int) = ((zP (wz s) p2 (5 + j) : Int), putZ s (setP (wz s) p2 (5 + j) m)) := (if_neg (fun h => h ⟨hip, hq3⟩)).trans ((if_neg (fun h => h hn9)).trans (if_neg (by show ¬ zP (wz s) p2 0 ≠ 6; omega)))
              rw [e]
              have h := hW.st hO0 (blk_upM ⟨by omega, hin.2.2⟩) (RepX_setR (q := j) (v := m) hX hB z1 hp6 (by omega))
              exact ⟨rfl, h.1, h.2⟩
            · refine g_const f_X9_row_50 ?_
              refine g_reti f_X9_row_52 rfl ?_ (Nat.zero_le _) (Nat.zero_le _)
              have e : a_row s (p2 : Int) q n = (-3, s) := (if_neg (fun h => h ⟨hip, hq3⟩)).trans ((if_neg (fun h => h hn9)).trans (if_pos (by show zP (wz s) p2 0 ≠ 6; omega)))
              rw [e]
              exact ⟨rfl, hW, mfr.rf⟩
          · exact absurd (by omega) hx
        · rw [if_neg hn9] at hx
          subst hx
          refine g_if_ne f_X9_row_34 rfl (by omega) (fun hx => ?_) (fun hx => ?_)
          · exact absurd hx (by omega)
          refine g_const f_X9_row_37 ?_
          refine g_reti f_X9_row_39 rfl ?_ (Nat.zero_le _) (Nat.zero_le _)
          have e : a_row s (p2 : Int) q n = (-2, s) := (if_neg (fun h => h ⟨hip, hq3⟩)).trans (if_pos hn9)
          rw [e]
          exact ⟨rfl, hW, mfr.rf⟩
      · exact absurd (by omega) hx
    · rw [if_neg hq3] at hx
      subst hx
      refine g_if_ne f_X9_row_23 rfl (by omega) (fun hx => ?_) (fun hx => ?_)
      · exact absurd hx (by omega)
      refine g_const f_X9_row_26 ?_
      refine g_reti f_X9_row_27 rfl ?_ (Nat.zero_le _) (Nat.zero_le _)
      have e : a_row s (p2 : Int) q n = (-1, s) := if_pos (by intro h; exact hq3 h.2)
      rw [e]
      exact ⟨rfl, hW, mfr.rf⟩
  · rw [rv_m1]
    refine g_asn_4 f_X9_row_11 (by decide) c1i ?_
    refine g_aldN f_X9_row_13 rfl ?_
    refine g_ifnullN f_X9_row_15 ?_
    refine g_const f_X9_row_26 ?_
    refine g_reti f_X9_row_27 rfl ?_ (Nat.zero_le _) (Nat.zero_le _)
    have e : a_row s p q n = (-1, s) := if_pos (by intro h; exact hnp h.1)
    rw [e]
    exact ⟨rfl, hW, mfr.rf⟩

set_option maxHeartbeats 4000000 in
set_option maxRecDepth 100000 in
theorem w_see {Ω : Ow} {S : Sg} {M : Mm} {s : Wt} (hW : RepW S M s) (hO0 : okW s) (c n w : Int) (hc0 : rg c) (hn0 : rg n) (hw0 : rg w) : Ct Ω mX9_see 3 0 0 1 [vr Ω 0, vi c, vi n, vi w] S M (fun x S' M' => x = (a_see s c n w).1 ∧ RepW S' M' (a_see s c n w).2 ∧ mfr S S' M M') := by
  refine Ct.mk (by decide) (Nat.le_of_ble_eq_true rfl) [some (vr Ω 0), some (vi c), some (vi n), some (vi w)] (by intro q hq; exact hq) (fun γ hγ hz => ?_)
  obtain ⟨hG, hS1, ⟨hX, hT1, hT2, hT3⟩, hlaw, hK, ⟨Λd, hTx, hn1, hn2⟩, hTr, hTp, hmost, hN46, hN61⟩ := id hW
  obtain ⟨⟨hO, hD, hSe, hPl, hBk, hl1, hl2, hl3⟩, hOk, hlw, hOt, hOp⟩ := id hO0
  have hX : RepX S M 25 (wz s) := hX
  have hO : okZ (wz s) := hO
  have hD : zd (wz s) ≤ 9999 := hD
  obtain ⟨x1, x2, x3, x4, x5, Λ, x6, x7, x8, x9⟩ := id hX
  obtain ⟨z1, z2, z3, z4, z5⟩ := id hO
  have hB : isB 25 := Or.inl rfl
  have oB := obB hG hB
  have aB := arB hG hB
  have g0 := (hG.2.2.1 25 hB).1
  have o0 := obn hG (r := 0) (c := 9) (by decide +kernel)
  have o18 := obn hG (r := 18) (c := 4) (by decide +kernel)
  have g00 : _ = ((18 : Nat) : Int) := grn hG (k := 0) (j := 0) (by decide)
  have g18 : _ = ((25 : Nat) : Int) := grn hG (k := 18) (j := 0) (by decide)
  have o60 := obn hG (r := 60) (c := 8) (by decide +kernel)
  have g05 : _ = ((60 : Nat) : Int) := grn hG (k := 0) (j := 5) (by decide)
  have o9 := obn hG (r := 9) (c := 0) (by decide +kernel)
  have g06 : _ = ((9 : Nat) : Int) := grn hG (k := 0) (j := 6) (by decide)
  have g181 : _ = ((19 : Nat) : Int) := grn hG (k := 18) (j := 1) (by decide)
  have g182 : _ = ((21 : Nat) : Int) := grn hG (k := 18) (j := 2) (by decide)
  have g183 : _ = ((23 : Nat) : Int) := grn hG (k := 18) (j := 3) (by decide)
  have iT1 : isT 19 5 := (snT snX).1
  have iT2 : isT 21 10 := (snT snX).2.1
  have iT3 : isT 23 8 := (snT snX).2.2.1
  obtain ⟨oT1, -, -⟩ := obT hG iT1
  obtain ⟨oT2, -, -⟩ := obT hG iT2
  obtain ⟨oT3, -, -⟩ := obT hG iT3
  refine g_ild f_X9_see_0 rfl ?_
  refine g_const f_X9_see_1 ?_
  refine g_icmp_ne f_X9_see_2 rfl (by omega) (by omega) (fun hm1 => ?_) (fun hm1 => ?_)
  · refine g_ild f_X9_see_16 rfl ?_
    refine g_cs1 hγ (c_isPlace c (by omega)) f_X9_see_17 mo_X9_isPlace mt_X9_isPlace rfl (Nat.le_of_ble_eq_true rfl) ⟨by decide, by decide⟩ ⟨Nat.le_refl _, Nat.le_refl _⟩ (fun x S' M' hq9 => ?_)
    obtain ⟨hx, q1, q2⟩ := hq9
    obtain rfl := q1.symm
    obtain rfl := q2.symm
    by_cases hc : 0 ≤ c ∧ c ≤ 11
    · rw [if_pos hc] at hx
      subst hx
      refine g_if_ne f_X9_see_20 rfl (by omega) (fun hx => ?_) (fun hx => ?_)
      · refine g_ild f_X9_see_25 rfl ?_
        refine g_const f_X9_see_26 ?_
        refine g_cs1 hγ (c_within n 20 (by omega) (by omega)) f_X9_see_28 mo_X9_isWithin mt_X9_isWithin rfl (Nat.le_of_ble_eq_true rfl) ⟨by decide, by decide⟩ ⟨Nat.le_refl _, Nat.le_refl _⟩ (fun x S' M' hq9 => ?_)
        obtain ⟨hx, q1, q2⟩ := hq9
        obtain rfl := q1.symm
        obtain rfl := q2.symm
        by_cases hn : 0 ≤ n ∧ n ≤ 20
        · rw [if_pos hn] at hx
          subst hx
          refine g_if_eq f_X9_see_31 rfl (by omega) (fun hx => ?_) (fun hx => ?_)
          · exact absurd hx (by omega)
          refine g_ild f_X9_see_34 rfl ?_
          refine g_const f_X9_see_35 ?_
          refine g_cs1 hγ (c_within w 63 (by omega) (by omega)) f_X9_see_37 mo_X9_isWithin mt_X9_isWithin rfl (Nat.le_of_ble_eq_true rfl) ⟨by decide, by decide⟩ ⟨Nat.le_refl _, Nat.le_refl _⟩ (fun x S' M' hq9 => ?_)
          obtain ⟨hx, q1, q2⟩ := hq9
          obtain rfl := q1.symm
          obtain rfl := q2.symm
          by_cases hw : 0 ≤ w ∧ w ≤ 63
          · rw [if_pos hw] at hx
            subst hx
            refine g_if_ne f_X9_see_40 rfl (by omega) (fun hx => ?_) (fun hx => ?_)
            · refine g_alv f_X9_see_46 rfl ?_
              refine g_getR f_X9_see_47 (by assumption) (by assumption) ?_
              refine g_getR f_X9_see_50 (by assumption) (by assumption) ?_
              refine g_ild f_X9_see_53 rfl ?_
              refine g_ild f_X9_see_54 rfl ?_
              refine g_ild f_X9_see_55 rfl ?_
              refine g_cv1 hγ (c_tadd hG iT1 hT1 c n w) f_X9_see_56 mo_X6_add mv_X6_add (by assumption) rfl rfl (Nat.le_of_ble_eq_true rfl) ⟨by decide, by decide⟩ ⟨Nat.le_refl _, Nat.le_refl _⟩ (fun x S' M3 hq3 => ?_)
              obtain ⟨q1, hh⟩ := hq3
              obtain rfl := q1.symm
              refine g_reti f_X9_see_59 rfl ?_ (Nat.zero_le _) (Nat.zero_le _)
              have e : a_see s c n w = (if (wn s).2.1.length = 5 then (-4, s) else (((wn s).2.1.length : Int) + 1, putSeen s ((wn s).2.1 ++ [(c, n, w)]))) := (if_neg (by omega)).trans ((if_neg (fun h => h hc)).trans (if_neg (fun h => h ⟨hn, hw⟩)))
              rw [e]
              rcases hh with ⟨h5, rfl, rfl⟩ | ⟨h5, rfl, hf, hR⟩
              · rw [if_pos h5]
                exact ⟨rfl, hW, mfr.rf⟩
              · rw [if_neg (Nat.ne_of_lt h5)]
                have h := hW.seen hO0 hf hR
                exact ⟨rfl, h.1, h.2⟩
            · exact absurd (by omega) hx
          · rw [if_neg hw] at hx
            subst hx
            refine g_if_ne f_X9_see_40 rfl (by omega) (fun hx => ?_) (fun hx => ?_)
            · exact absurd hx (by omega)
            refine g_const f_X9_see_43 ?_
            refine g_reti f_X9_see_45 rfl ?_ (Nat.zero_le _) (Nat.zero_le _)
            have e : a_see s c n w = (-2, s) := (if_neg (by omega)).trans ((if_neg (fun h => h hc)).trans (if_pos (by intro h; first | exact hn h.1 | exact hw h.2)))
            rw [e]
            exact ⟨rfl, hW, mfr.rf⟩
        · rw [if_neg hn] at hx
          subst hx
          refine g_if_eq f_X9_see_31 rfl (by omega) (fun hx => ?_) (fun hx => ?_)
          · refine g_const f_X9_see_43 ?_
            refine g_reti f_X9_see_45 rfl ?_ (Nat.zero_le _) (Nat.zero_le _)
            have e : a_see s c n w = (-2, s) := (if_neg (by omega)).trans ((if_neg (fun h => h hc)).trans (if_pos (by intro h; first | exact hn h.1 | exact hw h.2)))
            rw [e]
            exact ⟨rfl, hW, mfr.rf⟩
          · exact absurd (by omega) hx
      · exact absurd (by omega) hx
    · rw [if_neg hc] at hx
      subst hx
      refine g_if_ne f_X9_see_20 rfl (by omega) (fun hx => ?_) (fun hx => ?_)
      · exact absurd hx (by omega)
      refine g_const f_X9_see_23 ?_
      refine g_reti f_X9_see_24 rfl ?_ (Nat.zero_le _) (Nat.zero_le _)
      have e : a_see s c n w = (-1, s) := (if_neg (by omega)).trans (if_pos hc)
      rw [e]
      exact ⟨rfl, hW, mfr.rf⟩
  · refine g_alv f_X9_see_5 rfl ?_
    refine g_getR f_X9_see_6 (by assumption) (by assumption) ?_
    refine g_getR f_X9_see_9 (by assumption) (by assumption) ?_
    refine g_cv1 hγ (c_tempty hG iT1 hT1) f_X9_see_12 mo_X6_empty mv_X6_empty (by assumption) rfl rfl (Nat.le_of_ble_eq_true rfl) ⟨by decide, by decide⟩ ⟨Nat.le_refl _, Nat.le_refl _⟩ (fun x S' M3 hq3 => ?_)
    obtain ⟨rfl, q1, hf, hR⟩ := hq3
    obtain rfl := q1.symm
    refine g_reti f_X9_see_15 rfl ?_ (Nat.zero_le _) (Nat.zero_le _)
    have e : a_see s c n w = (0, putSeen s []) := if_pos (by omega)
    rw [e]
    have h := hW.seen hO0 hf hR
    exact ⟨rfl, h.1, h.2⟩

set_option maxHeartbeats 4000000 in
set_option maxRecDepth 100000 in
theorem w_wrong {Ω : Ow} {S : Sg} {M : Mm} {s : Wt} (hW : RepW S M s) (hO0 : okW s) : Ct Ω mX9_wrong 9 0 0 1 [vr Ω 0] S M (fun x S' M' => x = a_wrong s ∧ RepW S' M' s ∧ mfr S S' M M') := by
  refine Ct.mk (by decide) (Nat.le_of_ble_eq_true rfl) [some (vr Ω 0)] (by intro q hq; exact hq) (fun γ hγ hz => ?_)
  obtain ⟨hG, hS1, ⟨hX, hT1, hT2, hT3⟩, hlaw, hK, ⟨Λd, hTx, hn1, hn2⟩, hTr, hTp, hmost, hN46, hN61⟩ := id hW
  obtain ⟨⟨hO, hD, hSe, hPl, hBk, hl1, hl2, hl3⟩, hOk, hlw, hOt, hOp⟩ := id hO0
  have hX : RepX S M 25 (wz s) := hX
  have hO : okZ (wz s) := hO
  have hD : zd (wz s) ≤ 9999 := hD
  obtain ⟨x1, x2, x3, x4, x5, Λ, x6, x7, x8, x9⟩ := id hX
  obtain ⟨z1, z2, z3, z4, z5⟩ := id hO
  have hB : isB 25 := Or.inl rfl
  have oB := obB hG hB
  have aB := arB hG hB
  have g0 := (hG.2.2.1 25 hB).1
  have o0 := obn hG (r := 0) (c := 9) (by decide +kernel)
  have o18 := obn hG (r := 18) (c := 4) (by decide +kernel)
  have g00 : _ = ((18 : Nat) : Int) := grn hG (k := 0) (j := 0) (by decide)
  have g18 : _ = ((25 : Nat) : Int) := grn hG (k := 18) (j := 0) (by decide)
  have o60 := obn hG (r := 60) (c := 8) (by decide +kernel)
  have g05 : _ = ((60 : Nat) : Int) := grn hG (k := 0) (j := 5) (by decide)
  have o9 := obn hG (r := 9) (c := 0) (by decide +kernel)
  have g06 : _ = ((9 : Nat) : Int) := grn hG (k := 0) (j := 6) (by decide)
  have g181 : _ = ((19 : Nat) : Int) := grn hG (k := 18) (j := 1) (by decide)
  have g182 : _ = ((21 : Nat) : Int) := grn hG (k := 18) (j := 2) (by decide)
  have g183 : _ = ((23 : Nat) : Int) := grn hG (k := 18) (j := 3) (by decide)
  have iT1 : isT 19 5 := (snT snX).1
  have iT2 : isT 21 10 := (snT snX).2.1
  have iT3 : isT 23 8 := (snT snX).2.2.1
  obtain ⟨oT1, -, -⟩ := obT hG iT1
  obtain ⟨oT2, -, -⟩ := obT hG iT2
  obtain ⟨oT3, -, -⟩ := obT hG iT3
  refine g_alv f_X9_wrong_0 rfl ?_
  refine g_getR f_X9_wrong_1 (by assumption) (by assumption) ?_
  refine g_alv f_X9_wrong_4 rfl ?_
  refine g_getR f_X9_wrong_5 (by assumption) (by assumption) ?_
  refine g_getR f_X9_wrong_8 (by assumption) (by assumption) ?_
  refine g_alv f_X9_wrong_11 rfl ?_
  refine g_getR f_X9_wrong_12 (by assumption) (by assumption) ?_
  refine g_getR f_X9_wrong_15 (by assumption) (by assumption) ?_
  refine g_cv1 hγ (c_false hG hB (by decide) hX hO hD hN61 iT1 hT1 hSe) f_X9_wrong_18 mo_X8_firstFalse mv_X8_firstFalse (by assumption) rfl rfl (Nat.le_of_ble_eq_true rfl) ⟨by decide, by decide⟩ ⟨Nat.le_refl _, Nat.le_refl _⟩ (fun x S3 M3 hq3 => ?_)
  obtain ⟨rfl, tri⟩ := hq3
  refine g_reti f_X9_wrong_21 rfl ?_ (Nat.zero_le _) (Nat.zero_le _)
  have h := hW.tri hO0 tri
  exact ⟨rfl, h.1, h.2⟩

set_option maxHeartbeats 4000000 in
set_option maxRecDepth 100000 in
theorem w_book {Ω : Ow} {S : Sg} {M : Mm} {s : Wt} (hW : RepW S M s) (hO0 : okW s) (p n : Int) (hp : rg p) (hn0 : rg n) : Ct Ω mX9_book 3 0 0 1 [vr Ω 0, vi p, vi n] S M (fun x S' M' => x = (a_book s p n).1 ∧ RepW S' M' (a_book s p n).2 ∧ mfr S S' M M') := by
  refine Ct.mk (by decide) (Nat.le_of_ble_eq_true rfl) [some (vr Ω 0), some (vi p), some (vi n)] (by intro q hq; exact hq) (fun γ hγ hz => ?_)
  obtain ⟨hG, hS1, ⟨hX, hT1, hT2, hT3⟩, hlaw, hK, ⟨Λd, hTx, hn1, hn2⟩, hTr, hTp, hmost, hN46, hN61⟩ := id hW
  obtain ⟨⟨hO, hD, hSe, hPl, hBk, hl1, hl2, hl3⟩, hOk, hlw, hOt, hOp⟩ := id hO0
  have hX : RepX S M 25 (wz s) := hX
  have hO : okZ (wz s) := hO
  have hD : zd (wz s) ≤ 9999 := hD
  obtain ⟨x1, x2, x3, x4, x5, Λ, x6, x7, x8, x9⟩ := id hX
  obtain ⟨z1, z2, z3, z4, z5⟩ := id hO
  have hB : isB 25 := Or.inl rfl
  have oB := obB hG hB
  have aB := arB hG hB
  have g0 := (hG.2.2.1 25 hB).1
  have o0 := obn hG (r := 0) (c := 9) (by decide +kernel)
  have o18 := obn hG (r := 18) (c := 4) (by decide +kernel)
  have g00 : _ = ((18 : Nat) : Int) := grn hG (k := 0) (j := 0) (by decide)
  have g18 : _ = ((25 : Nat) : Int) := grn hG (k := 18) (j := 0) (by decide)
  have o60 := obn hG (r := 60) (c := 8) (by decide +kernel)
  have g05 : _ = ((60 : Nat) : Int) := grn hG (k := 0) (j := 5) (by decide)
  have o9 := obn hG (r := 9) (c := 0) (by decide +kernel)
  have g06 : _ = ((9 : Nat) : Int) := grn hG (k := 0) (j := 6) (by decide)
  have g181 : _ = ((19 : Nat) : Int) := grn hG (k := 18) (j := 1) (by decide)
  have g182 : _ = ((21 : Nat) : Int) := grn hG (k := 18) (j := 2) (by decide)
  have g183 : _ = ((23 : Nat) : Int) := grn hG (k := 18) (j := 3) (by decide)
  have iT1 : isT 19 5 := (snT snX).1
  have iT2 : isT 21 10 := (snT snX).2.1
  have iT3 : isT 23 8 := (snT snX).2.2.1
  obtain ⟨oT1, -, -⟩ := obT hG iT1
  obtain ⟨oT2, -, -⟩ := obT hG iT2
  obtain ⟨oT3, -, -⟩ := obT hG iT3
  refine g_ild f_X9_book_0 rfl ?_
  refine g_const f_X9_book_1 ?_
  refine g_icmp_ne f_X9_book_2 rfl (by omega) (by omega) (fun hm1 => ?_) (fun hm1 => ?_)
  · refine g_alv f_X9_book_16 rfl ?_
    refine g_getR f_X9_book_17 (by assumption) (by assumption) ?_
    refine g_getR f_X9_book_20 (by assumption) (by assumption) ?_
    refine g_ild f_X9_book_23 rfl ?_
    refine g_cv3 hγ (c_person hG hB hX hO p (by omega)) f_X9_book_24 mo_X5_person mv_X5_person (by assumption) rfl rfl (Nat.le_of_ble_eq_true rfl) ⟨by decide, by decide⟩ ⟨Nat.le_refl _, Nat.le_refl _⟩ (fun x S' M' hq2 => ?_)
    obtain ⟨hq2, q1, q2⟩ := hq2
    obtain rfl := q1.symm
    obtain rfl := q2.symm
    rcases hq2 with ⟨p2, hp2, hpe, rfl⟩ | ⟨hnp, rfl⟩
    · rw [rv_nat]
      subst hpe
      have hp6 : p2 < 6 := by omega
      have oP := obP (p := p2) hG hB hp6
      have aP := arP (p := p2) hG hB hp6
      have gP := ((hG.2.2.1 25 hB).2 p2 hp6).2
      obtain ⟨r1, r2, r3, r4, r5, r6⟩ := id (x4 p2 hp2)
      obtain ⟨b1, b2, b3, b4, b5, b6⟩ := id (z4 p2 hp2)
      have hin := pe_in (B := 25) hp6
      have hip : inP s (p2 : Int) := ⟨by omega, by show (p2 : Int) < (zc (wz s) : Int); omega⟩
      refine g_ifnn f_X9_book_27 ?_
      refine g_ild f_X9_book_32 rfl ?_
      refine g_const f_X9_book_33 ?_
      refine g_cs1 hγ (c_within n 9999 (by omega) (by omega)) f_X9_book_36 mo_X9_isWithin mt_X9_isWithin rfl (Nat.le_of_ble_eq_true rfl) ⟨by decide, by decide⟩ ⟨Nat.le_refl _, Nat.le_refl _⟩ (fun x S' M' hq9 => ?_)
      obtain ⟨hx, q1, q2⟩ := hq9
      obtain rfl := q1.symm
      obtain rfl := q2.symm
      by_cases hn : 0 ≤ n ∧ n ≤ 9999
      · rw [if_pos hn] at hx
        subst hx
        refine g_if_ne f_X9_book_39 rfl (by omega) (fun hx => ?_) (fun hx => ?_)
        · refine g_alv f_X9_book_45 rfl ?_
          refine g_getR f_X9_book_46 (by assumption) (by assumption) ?_
          refine g_getR f_X9_book_49 (by assumption) (by assumption) ?_
          refine g_ild f_X9_book_52 rfl ?_
          refine g_ild f_X9_book_53 rfl ?_
          refine g_const f_X9_book_54 ?_
          refine g_cv1 hγ (c_tadd hG iT3 hT3 (p2 : Int) n 0) f_X9_book_55 mo_X6_add mv_X6_add (by assumption) rfl rfl (Nat.le_of_ble_eq_true rfl) ⟨by decide, by decide⟩ ⟨Nat.le_refl _, Nat.le_refl _⟩ (fun x S' M3 hq3 => ?_)
          obtain ⟨q1, hh⟩ := hq3
          obtain rfl := q1.symm
          refine g_reti f_X9_book_58 rfl ?_ (Nat.zero_le _) (Nat.zero_le _)
          have e : a_book s (p2 : Int) n = (if (wn s).2.2.2.length = 8 then (-4, s) else (((wn s).2.2.2.length : Int) + 1, putBook s ((wn s).2.2.2 ++ [((p2 : Int), n, 0)]))) := (if_neg (by omega)).trans ((if_neg (fun h => h hip)).trans (if_neg (fun h => h hn)))
          rw [e]
          rcases hh with ⟨h5, rfl, rfl⟩ | ⟨h5, rfl, hf, hR⟩
          · rw [if_pos h5]
            exact ⟨rfl, hW, mfr.rf⟩
          · rw [if_neg (Nat.ne_of_lt h5)]
            have h := hW.book hO0 hf hR
            exact ⟨rfl, h.1, h.2⟩
        · exact absurd (by omega) hx
      · rw [if_neg hn] at hx
        subst hx
        refine g_if_ne f_X9_book_39 rfl (by omega) (fun hx => ?_) (fun hx => ?_)
        · exact absurd hx (by omega)
        refine g_const f_X9_book_42 ?_
        refine g_reti f_X9_book_44 rfl ?_ (Nat.zero_le _) (Nat.zero_le _)
        have e : a_book s (p2 : Int) n = (-2, s) := (if_neg (by omega)).trans ((if_neg (fun h => h hip)).trans (if_pos hn))
        rw [e]
        exact ⟨rfl, hW, mfr.rf⟩
    · rw [rv_m1]
      refine g_ifnnN f_X9_book_27 rfl ?_
      refine g_const f_X9_book_30 ?_
      refine g_reti f_X9_book_31 rfl ?_ (Nat.zero_le _) (Nat.zero_le _)
      have e : a_book s p n = (-1, s) := (if_neg (by omega)).trans (if_pos hnp)
      rw [e]
      exact ⟨rfl, hW, mfr.rf⟩
  · refine g_alv f_X9_book_5 rfl ?_
    refine g_getR f_X9_book_6 (by assumption) (by assumption) ?_
    refine g_getR f_X9_book_9 (by assumption) (by assumption) ?_
    refine g_cv1 hγ (c_tempty hG iT3 hT3) f_X9_book_12 mo_X6_empty mv_X6_empty (by assumption) rfl rfl (Nat.le_of_ble_eq_true rfl) ⟨by decide, by decide⟩ ⟨Nat.le_refl _, Nat.le_refl _⟩ (fun x S' M3 hq3 => ?_)
    obtain ⟨rfl, q1, hf, hR⟩ := hq3
    obtain rfl := q1.symm
    refine g_reti f_X9_book_15 rfl ?_ (Nat.zero_le _) (Nat.zero_le _)
    have e : a_book s p n = (0, putBook s []) := if_pos (by omega)
    rw [e]
    have h := hW.book hO0 hf hR
    exact ⟨rfl, h.1, h.2⟩

set_option maxHeartbeats 4000000 in
set_option maxRecDepth 100000 in
theorem w_act {Ω : Ow} {S : Sg} {M : Mm} {s : Wt} (hW : RepW S M s) (hO0 : okW s) (p a y : Int) (hp : rg p) (ha0 : rg a) : Ct Ω mX9_act 10 0 0 1 [vr Ω 0, vi p, vi a, vi y] S M (fun x S' M' => x = (a_act s p a y).1 ∧ RepW S' M' (a_act s p a y).2 ∧ mfr S S' M M') := by
  refine Ct.mk (by decide) (Nat.le_of_ble_eq_true rfl) [some (vr Ω 0), some (vi p), some (vi a), some (vi y), none] (by intro q hq; exact hq) (fun γ hγ hz => ?_)
  obtain ⟨hG, hS1, ⟨hX, hT1, hT2, hT3⟩, hlaw, hK, ⟨Λd, hTx, hn1, hn2⟩, hTr, hTp, hmost, hN46, hN61⟩ := id hW
  obtain ⟨⟨hO, hD, hSe, hPl, hBk, hl1, hl2, hl3⟩, hOk, hlw, hOt, hOp⟩ := id hO0
  have hX : RepX S M 25 (wz s) := hX
  have hO : okZ (wz s) := hO
  have hD : zd (wz s) ≤ 9999 := hD
  obtain ⟨x1, x2, x3, x4, x5, Λ, x6, x7, x8, x9⟩ := id hX
  obtain ⟨z1, z2, z3, z4, z5⟩ := id hO
  have hB : isB 25 := Or.inl rfl
  have oB := obB hG hB
  have aB := arB hG hB
  have g0 := (hG.2.2.1 25 hB).1
  have o0 := obn hG (r := 0) (c := 9) (by decide +kernel)
  have o18 := obn hG (r := 18) (c := 4) (by decide +kernel)
  have g00 : _ = ((18 : Nat) : Int) := grn hG (k := 0) (j := 0) (by decide)
  have g18 : _ = ((25 : Nat) : Int) := grn hG (k := 18) (j := 0) (by decide)
  have o60 := obn hG (r := 60) (c := 8) (by decide +kernel)
  have g05 : _ = ((60 : Nat) : Int) := grn hG (k := 0) (j := 5) (by decide)
  have o9 := obn hG (r := 9) (c := 0) (by decide +kernel)
  have g06 : _ = ((9 : Nat) : Int) := grn hG (k := 0) (j := 6) (by decide)
  have g181 : _ = ((19 : Nat) : Int) := grn hG (k := 18) (j := 1) (by decide)
  have g182 : _ = ((21 : Nat) : Int) := grn hG (k := 18) (j := 2) (by decide)
  have g183 : _ = ((23 : Nat) : Int) := grn hG (k := 18) (j := 3) (by decide)
  have iT1 : isT 19 5 := (snT snX).1
  have iT2 : isT 21 10 := (snT snX).2.1
  have iT3 : isT 23 8 := (snT snX).2.2.1
  obtain ⟨oT1, -, -⟩ := obT hG iT1
  obtain ⟨oT2, -, -⟩ := obT hG iT2
  obtain ⟨oT3, -, -⟩ := obT hG iT3
  refine g_alv f_X9_act_0 rfl ?_
  refine g_getR f_X9_act_1 (by assumption) (by assumption) ?_
  refine g_getR f_X9_act_4 (by assumption) (by assumption) ?_
  refine g_ild f_X9_act_7 rfl ?_
  refine g_cv3 hγ (c_person hG hB hX hO p (by omega)) f_X9_act_8 mo_X5_person mv_X5_person (by assumption) rfl rfl (Nat.le_of_ble_eq_true rfl) ⟨by decide, by decide⟩ ⟨Nat.le_refl _, Nat.le_refl _⟩ (fun x S' M' hq2 => ?_)
  obtain ⟨hq2, q1, q2⟩ := hq2
  obtain rfl := q1.symm
  obtain rfl := q2.symm
  rcases hq2 with ⟨p2, hp2, hpe, rfl⟩ | ⟨hnp, rfl⟩
  · rw [rv_nat]
    subst hpe
    have hp6 : p2 < 6 := by omega
    have oP := obP (p := p2) hG hB hp6
    have aP := arP (p := p2) hG hB hp6
    have gP := ((hG.2.2.1 25 hB).2 p2 hp6).2
    obtain ⟨r1, r2, r3, r4, r5, r6⟩ := id (x4 p2 hp2)
    obtain ⟨b1, b2, b3, b4, b5, b6⟩ := id (z4 p2 hp2)
    have hin := pe_in (B := 25) hp6
    have hip : inP s (p2 : Int) := ⟨by omega, by show (p2 : Int) < (zc (wz s) : Int); omega⟩
    refine g_ast_4 f_X9_act_11 (by decide) c1i ?_
    refine g_alv f_X9_act_13 rfl ?_
    refine g_ifnull f_X9_act_15 rfl ?_
    refine g_ild f_X9_act_18 rfl ?_
    refine g_const f_X9_act_19 ?_
    refine g_cs1 hγ (c_within a 2 (by omega) (by omega)) f_X9_act_20 mo_X9_isWithin mt_X9_isWithin rfl (Nat.le_of_ble_eq_true rfl) ⟨by decide, by decide⟩ ⟨Nat.le_refl _, Nat.le_refl _⟩ (fun x S' M' hq9 => ?_)
    obtain ⟨hx, q1, q2⟩ := hq9
    obtain rfl := q1.symm
    obtain rfl := q2.symm
    by_cases ha : 0 ≤ a ∧ a ≤ 2
    · rw [if_pos ha] at hx
      subst hx
      refine g_if_ne f_X9_act_23 rfl (by omega) (fun hx => ?_) (fun hx => ?_)
      · obtain ⟨m, rfl⟩ := Int.eq_ofNat_of_zero_le ha.1
        refine g_alv f_X9_act_35 rfl ?_
        refine g_getR f_X9_act_36 (by assumption) (by assumption) ?_
        refine g_alv f_X9_act_39 rfl ?_
        refine g_ild f_X9_act_41 rfl ?_
        refine g_ild f_X9_act_42 rfl ?_
        refine g_cv1 hγ (c_perform hG oP (by omega) (x5 p2 hp6) (x4 p2 hp2) b1 (a := m) (by omega) y) f_X9_act_43 mo_X0_perform mv_X0_perform (by assumption) rfl rfl (Nat.le_of_ble_eq_true rfl) ⟨by decide, by decide⟩ ⟨Nat.le_refl _, Nat.le_refl _⟩ (fun x S' M3 hq3 => ?_)
        obtain ⟨rfl, q1, hR, hf⟩ := hq3
        obtain rfl := q1.symm
        refine g_reti f_X9_act_46 rfl ?_ (Nat.zero_le _) (Nat.zero_le _)
        have e : a_act s (p2 : Int) (m : Int) y = (actV p2 (zP (wz s) p2 1) (zP (wz s) p2 0) m y, putTr s (actT (zP (wz s) p2 0) m)) := if_pos ⟨hip, ha⟩
        rw [e]
        have h := hW.trc hO0 hf hR
        exact ⟨rfl, h.1, h.2⟩
      · exact absurd (by omega) hx
    · rw [if_neg ha] at hx
      subst hx
      refine g_if_ne f_X9_act_23 rfl (by omega) (fun hx => ?_) (fun hx => ?_)
      · exact absurd hx (by omega)
      refine g_alv f_X9_act_26 rfl ?_
      refine g_getR f_X9_act_27 (by assumption) (by assumption) ?_
      refine g_cv0 hγ (c_forget hG) f_X9_act_30 mo_X0_forget mv_X0_forget (by assumption) rfl rfl (Nat.le_of_ble_eq_true rfl) ⟨by decide, by decide⟩ ⟨Nat.le_refl _, Nat.le_refl _⟩ (fun x S' M3 hq3 => ?_)
      obtain ⟨q1, hR, hf⟩ := hq3
      obtain rfl := q1.symm
      refine g_const f_X9_act_33 ?_
      refine g_reti f_X9_act_34 rfl ?_ (Nat.zero_le _) (Nat.zero_le _)
      have e : a_act s (p2 : Int) a y = (0, putTr s []) := if_neg (by intro h; exact ha h.2)
      rw [e]
      have h := hW.trc hO0 hf hR
      exact ⟨rfl, h.1, h.2⟩
  · rw [rv_m1]
    refine g_asn_4 f_X9_act_11 (by decide) c1i ?_
    refine g_aldN f_X9_act_13 rfl ?_
    refine g_ifnullN f_X9_act_15 ?_
    refine g_alv f_X9_act_26 rfl ?_
    refine g_getR f_X9_act_27 (by assumption) (by assumption) ?_
    refine g_cv0 hγ (c_forget hG) f_X9_act_30 mo_X0_forget mv_X0_forget (by assumption) rfl rfl (Nat.le_of_ble_eq_true rfl) ⟨by decide, by decide⟩ ⟨Nat.le_refl _, Nat.le_refl _⟩ (fun x S' M3 hq3 => ?_)
    obtain ⟨q1, hR, hf⟩ := hq3
    obtain rfl := q1.symm
    refine g_const f_X9_act_33 ?_
    refine g_reti f_X9_act_34 rfl ?_ (Nat.zero_le _) (Nat.zero_le _)
    have e : a_act s p a y = (0, putTr s []) := if_neg (by intro h; exact hnp h.1)
    rw [e]
    have h := hW.trc hO0 hf hR
    exact ⟨rfl, h.1, h.2⟩

set_option maxHeartbeats 4000000 in
set_option maxRecDepth 100000 in
theorem w_trace {Ω : Ow} {S : Sg} {M : Mm} {s : Wt} (hW : RepW S M s) (hO0 : okW s) (i : Int) (hi : rg i) : Ct Ω mX9_trace 1 0 0 1 [vr Ω 0, vi i] S M (fun x S' M' => x = a_trace s i ∧ RepW S' M' s ∧ mfr S S' M M') := by
  refine Ct.mk (by decide) (Nat.le_of_ble_eq_true rfl) [some (vr Ω 0), some (vi i)] (by intro q hq; exact hq) (fun γ hγ hz => ?_)
  obtain ⟨hG, hS1, ⟨hX, hT1, hT2, hT3⟩, hlaw, hK, ⟨Λd, hTx, hn1, hn2⟩, hTr, hTp, hmost, hN46, hN61⟩ := id hW
  obtain ⟨⟨hO, hD, hSe, hPl, hBk, hl1, hl2, hl3⟩, hOk, hlw, hOt, hOp⟩ := id hO0
  have hX : RepX S M 25 (wz s) := hX
  have hO : okZ (wz s) := hO
  have hD : zd (wz s) ≤ 9999 := hD
  obtain ⟨x1, x2, x3, x4, x5, Λ, x6, x7, x8, x9⟩ := id hX
  obtain ⟨z1, z2, z3, z4, z5⟩ := id hO
  have hB : isB 25 := Or.inl rfl
  have oB := obB hG hB
  have aB := arB hG hB
  have g0 := (hG.2.2.1 25 hB).1
  have o0 := obn hG (r := 0) (c := 9) (by decide +kernel)
  have o18 := obn hG (r := 18) (c := 4) (by decide +kernel)
  have g00 : _ = ((18 : Nat) : Int) := grn hG (k := 0) (j := 0) (by decide)
  have g18 : _ = ((25 : Nat) : Int) := grn hG (k := 18) (j := 0) (by decide)
  have o60 := obn hG (r := 60) (c := 8) (by decide +kernel)
  have g05 : _ = ((60 : Nat) : Int) := grn hG (k := 0) (j := 5) (by decide)
  have o9 := obn hG (r := 9) (c := 0) (by decide +kernel)
  have g06 : _ = ((9 : Nat) : Int) := grn hG (k := 0) (j := 6) (by decide)
  have g181 : _ = ((19 : Nat) : Int) := grn hG (k := 18) (j := 1) (by decide)
  have g182 : _ = ((21 : Nat) : Int) := grn hG (k := 18) (j := 2) (by decide)
  have g183 : _ = ((23 : Nat) : Int) := grn hG (k := 18) (j := 3) (by decide)
  have iT1 : isT 19 5 := (snT snX).1
  have iT2 : isT 21 10 := (snT snX).2.1
  have iT3 : isT 23 8 := (snT snX).2.2.1
  obtain ⟨oT1, -, -⟩ := obT hG iT1
  obtain ⟨oT2, -, -⟩ := obT hG iT2
  obtain ⟨oT3, -, -⟩ := obT hG iT3
  refine g_ild f_X9_trace_0 rfl ?_
  refine g_if_lt f_X9_trace_1 rfl (by omega) (fun h1 => ?_) (fun h1 => ?_)
  · refine g_const f_X9_trace_21 ?_
    refine g_reti f_X9_trace_22 rfl ?_ (Nat.zero_le _) (Nat.zero_le _)
    have e : a_trace s i = -1 := if_neg (by omega)
    rw [e]
    exact ⟨rfl, hW, mfr.rf⟩
  · refine g_ild f_X9_trace_4 rfl ?_
    refine g_alv f_X9_trace_5 rfl ?_
    refine g_getR f_X9_trace_6 (by assumption) (by assumption) ?_
    refine g_getI f_X9_trace_9 (by assumption) ?_
    rw [hTr.1]
    refine g_icmp_ge f_X9_trace_12 rfl (by have := hTr.2.1; omega) (by have := hTr.2.1; omega) (fun h2 => ?_) (fun h2 => ?_)
    · refine g_const f_X9_trace_21 ?_
      refine g_reti f_X9_trace_22 rfl ?_ (Nat.zero_le _) (Nat.zero_le _)
      have e : a_trace s i = -1 := if_neg (by omega)
      rw [e]
      exact ⟨rfl, hW, mfr.rf⟩
    · refine g_ild f_X9_trace_15 rfl ?_
      refine g_const f_X9_trace_16 ?_
      refine g_icmp_lt f_X9_trace_18 rfl (by omega) (by omega) (fun h3 => ?_) (fun h3 => ?_)
      · obtain ⟨m, rfl⟩ := Int.eq_ofNat_of_zero_le (show 0 ≤ i by omega)
        have g9 : _ = ((10 : Nat) : Int) := grn hG (k := 9) (j := 0) (by decide)
        have a10 := arn hG (r := 10) (c := 12) (n := 20) (by decide +kernel)
        refine g_alv f_X9_trace_23 rfl ?_
        refine g_getR f_X9_trace_24 (by assumption) (by assumption) ?_
        refine g_getR f_X9_trace_27 (by assumption) (by assumption) ?_
        refine g_ild f_X9_trace_30 rfl ?_
        refine g_ial f_X9_trace_31 (by assumption) _ rfl (by have := hTr.2.1; omega) ?_
        rw [hTr.2.2 m (by omega)]
        refine g_reti f_X9_trace_32 rfl ?_ (Nat.zero_le _) (Nat.zero_le _)
        have e : a_trace s (m : Int) = ((wr s).getD m 0 : Int) := if_pos (by omega)
        rw [e]
        exact ⟨rfl, hW, mfr.rf⟩
      · exact absurd (by have := hTr.2.1; omega) h3

set_option maxHeartbeats 4000000 in
set_option maxRecDepth 100000 in
theorem w_taken {Ω : Ow} {S : Sg} {M : Mm} {s : Wt} (hW : RepW S M s) (hO0 : okW s) (p k : Int) (hp : rg p) (hk0 : rg k) : Ct Ω mX9_taken 2 0 0 1 [vr Ω 0, vi p, vi k] S M (fun x S' M' => x = a_taken s p k ∧ RepW S' M' s ∧ mfr S S' M M') := by
  refine Ct.mk (by decide) (Nat.le_of_ble_eq_true rfl) [some (vr Ω 0), some (vi p), some (vi k), none] (by intro q hq; exact hq) (fun γ hγ hz => ?_)
  obtain ⟨hG, hS1, ⟨hX, hT1, hT2, hT3⟩, hlaw, hK, ⟨Λd, hTx, hn1, hn2⟩, hTr, hTp, hmost, hN46, hN61⟩ := id hW
  obtain ⟨⟨hO, hD, hSe, hPl, hBk, hl1, hl2, hl3⟩, hOk, hlw, hOt, hOp⟩ := id hO0
  have hX : RepX S M 25 (wz s) := hX
  have hO : okZ (wz s) := hO
  have hD : zd (wz s) ≤ 9999 := hD
  obtain ⟨x1, x2, x3, x4, x5, Λ, x6, x7, x8, x9⟩ := id hX
  obtain ⟨z1, z2, z3, z4, z5⟩ := id hO
  have hB : isB 25 := Or.inl rfl
  have oB := obB hG hB
  have aB := arB hG hB
  have g0 := (hG.2.2.1 25 hB).1
  have o0 := obn hG (r := 0) (c := 9) (by decide +kernel)
  have o18 := obn hG (r := 18) (c := 4) (by decide +kernel)
  have g00 : _ = ((18 : Nat) : Int) := grn hG (k := 0) (j := 0) (by decide)
  have g18 : _ = ((25 : Nat) : Int) := grn hG (k := 18) (j := 0) (by decide)
  have o60 := obn hG (r := 60) (c := 8) (by decide +kernel)
  have g05 : _ = ((60 : Nat) : Int) := grn hG (k := 0) (j := 5) (by decide)
  have o9 := obn hG (r := 9) (c := 0) (by decide +kernel)
  have g06 : _ = ((9 : Nat) : Int) := grn hG (k := 0) (j := 6) (by decide)
  have g181 : _ = ((19 : Nat) : Int) := grn hG (k := 18) (j := 1) (by decide)
  have g182 : _ = ((21 : Nat) : Int) := grn hG (k := 18) (j := 2) (by decide)
  have g183 : _ = ((23 : Nat) : Int) := grn hG (k := 18) (j := 3) (by decide)
  have iT1 : isT 19 5 := (snT snX).1
  have iT2 : isT 21 10 := (snT snX).2.1
  have iT3 : isT 23 8 := (snT snX).2.2.1
  obtain ⟨oT1, -, -⟩ := obT hG iT1
  obtain ⟨oT2, -, -⟩ := obT hG iT2
  obtain ⟨oT3, -, -⟩ := obT hG iT3
  refine g_ild f_X9_taken_0 rfl ?_
  refine g_const f_X9_taken_1 ?_
  refine g_cs1 hγ (c_within k 6 (by omega) (by omega)) f_X9_taken_3 mo_X9_isWithin mt_X9_isWithin rfl (Nat.le_of_ble_eq_true rfl) ⟨by decide, by decide⟩ ⟨Nat.le_refl _, Nat.le_refl _⟩ (fun x S' M' hq9 => ?_)
  obtain ⟨hx, q1, q2⟩ := hq9
  obtain rfl := q1.symm
  obtain rfl := q2.symm
  by_cases hk : 0 ≤ k ∧ k ≤ 6
  · rw [if_pos hk] at hx
    subst hx
    refine g_if_ne f_X9_taken_6 rfl (by omega) (fun hx => ?_) (fun hx => ?_)
    · refine g_alv f_X9_taken_12 rfl ?_
      refine g_getR f_X9_taken_13 (by assumption) (by assumption) ?_
      refine g_getR f_X9_taken_16 (by assumption) (by assumption) ?_
      refine g_ild f_X9_taken_19 rfl ?_
      refine g_cv3 hγ (c_person hG hB hX hO p (by omega)) f_X9_taken_20 mo_X5_person mv_X5_person (by assumption) rfl rfl (Nat.le_of_ble_eq_true rfl) ⟨by decide, by decide⟩ ⟨Nat.le_refl _, Nat.le_refl _⟩ (fun x S' M' hq2 => ?_)
      obtain ⟨hq2, q1, q2⟩ := hq2
      obtain rfl := q1.symm
      obtain rfl := q2.symm
      rcases hq2 with ⟨p2, hp2, hpe, rfl⟩ | ⟨hnp, rfl⟩
      · rw [rv_nat]
        subst hpe
        have hp6 : p2 < 6 := by omega
        have oP := obP (p := p2) hG hB hp6
        have aP := arP (p := p2) hG hB hp6
        have gP := ((hG.2.2.1 25 hB).2 p2 hp6).2
        obtain ⟨r1, r2, r3, r4, r5, r6⟩ := id (x4 p2 hp2)
        obtain ⟨b1, b2, b3, b4, b5, b6⟩ := id (z4 p2 hp2)
        have hin := pe_in (B := 25) hp6
        have hip : inP s (p2 : Int) := ⟨by omega, by show (p2 : Int) < (zc (wz s) : Int); omega⟩
        refine g_ast_3 f_X9_taken_23 (by decide) c1i ?_
        refine g_alv f_X9_taken_24 rfl ?_
        refine g_ifnn f_X9_taken_25 ?_
        refine g_alv f_X9_taken_31 rfl ?_
        refine g_ild f_X9_taken_32 rfl ?_
        refine g_cv1 hγ (c_isOfKind oP r1 b1 k (by omega)) f_X9_taken_33 mo_X3_isOfKind mv_X3_isOfKind (by assumption) rfl rfl (Nat.le_of_ble_eq_true rfl) ⟨by decide, by decide⟩ ⟨Nat.le_refl _, Nat.le_refl _⟩ (fun x S' M3 hq3 => ?_)
        obtain ⟨hx, q1, q2⟩ := hq3
        obtain rfl := q1.symm
        obtain rfl := q2.symm
        by_cases hi : isK (zP (wz s) p2 0) k
        · rw [if_pos hi] at hx
          subst hx
          refine g_if_eq f_X9_taken_36 rfl (by omega) (fun hx => ?_) (fun hx => ?_)
          · exact absurd hx (by omega)
          refine g_alv f_X9_taken_39 rfl ?_
          refine g_getI f_X9_taken_40 (by assumption) ?_
          rw [r1]
          refine g_goto f_X9_taken_43 ?_
          refine g_reti f_X9_taken_48 rfl ?_ (Nat.zero_le _) (Nat.zero_le _)
          have e : a_taken s (p2 : Int) k = (zP (wz s) p2 0 : Int) := (if_neg (fun h => h hk)).trans ((if_neg (fun h => h hip)).trans (if_pos hi))
          rw [e]
          exact ⟨rfl, hW, mfr.rf⟩
        · rw [if_neg hi] at hx
          subst hx
          refine g_if_eq f_X9_taken_36 rfl (by omega) (fun hx => ?_) (fun hx => ?_)
          · refine g_const f_X9_taken_46 ?_
            refine g_reti f_X9_taken_48 rfl ?_ (Nat.zero_le _) (Nat.zero_le _)
            have e : a_taken s (p2 : Int) k = -12 := (if_neg (fun h => h hk)).trans ((if_neg (fun h => h hip)).trans (if_neg hi))
            rw [e]
            exact ⟨rfl, hW, mfr.rf⟩
          · exact absurd (by omega) hx
      · rw [rv_m1]
        refine g_asn_3 f_X9_taken_23 (by decide) c1i ?_
        refine g_aldN f_X9_taken_24 rfl ?_
        refine g_ifnnN f_X9_taken_25 rfl ?_
        refine g_const f_X9_taken_28 ?_
        refine g_reti f_X9_taken_30 rfl ?_ (Nat.zero_le _) (Nat.zero_le _)
        have e : a_taken s p k = -11 := (if_neg (fun h => h hk)).trans (if_pos hnp)
        rw [e]
        exact ⟨rfl, hW, mfr.rf⟩
    · exact absurd (by omega) hx
  · rw [if_neg hk] at hx
    subst hx
    refine g_if_ne f_X9_taken_6 rfl (by omega) (fun hx => ?_) (fun hx => ?_)
    · exact absurd hx (by omega)
    refine g_const f_X9_taken_9 ?_
    refine g_reti f_X9_taken_11 rfl ?_ (Nat.zero_le _) (Nat.zero_le _)
    have e : a_taken s p k = -2 := if_pos hk
    rw [e]
    exact ⟨rfl, hW, mfr.rf⟩

set_option maxHeartbeats 4000000 in
set_option maxRecDepth 100000 in
theorem w_ends {Ω : Ow} {S : Sg} {M : Mm} {s : Wt} (hW : RepW S M s) (hO0 : okW s) (w : Int) (hw0 : rg w) : Ct Ω mX9_ends 10 0 0 1 [vr Ω 0, vi w] S M (fun x S' M' => x = a_ends s w ∧ RepW S' M' s ∧ mfr S S' M M') := by
  refine Ct.mk (by decide) (Nat.le_of_ble_eq_true rfl) [some (vr Ω 0), some (vi w), none] (by intro q hq; exact hq) (fun γ hγ hz => ?_)
  obtain ⟨hG, hS1, ⟨hX, hT1, hT2, hT3⟩, hlaw, hK, ⟨Λd, hTx, hn1, hn2⟩, hTr, hTp, hmost, hN46, hN61⟩ := id hW
  obtain ⟨⟨hO, hD, hSe, hPl, hBk, hl1, hl2, hl3⟩, hOk, hlw, hOt, hOp⟩ := id hO0
  have hX : RepX S M 25 (wz s) := hX
  have hO : okZ (wz s) := hO
  have hD : zd (wz s) ≤ 9999 := hD
  obtain ⟨x1, x2, x3, x4, x5, Λ, x6, x7, x8, x9⟩ := id hX
  obtain ⟨z1, z2, z3, z4, z5⟩ := id hO
  have hB : isB 25 := Or.inl rfl
  have oB := obB hG hB
  have aB := arB hG hB
  have g0 := (hG.2.2.1 25 hB).1
  have o0 := obn hG (r := 0) (c := 9) (by decide +kernel)
  have o18 := obn hG (r := 18) (c := 4) (by decide +kernel)
  have g00 : _ = ((18 : Nat) : Int) := grn hG (k := 0) (j := 0) (by decide)
  have g18 : _ = ((25 : Nat) : Int) := grn hG (k := 18) (j := 0) (by decide)
  have o60 := obn hG (r := 60) (c := 8) (by decide +kernel)
  have g05 : _ = ((60 : Nat) : Int) := grn hG (k := 0) (j := 5) (by decide)
  have o9 := obn hG (r := 9) (c := 0) (by decide +kernel)
  have g06 : _ = ((9 : Nat) : Int) := grn hG (k := 0) (j := 6) (by decide)
  have g181 : _ = ((19 : Nat) : Int) := grn hG (k := 18) (j := 1) (by decide)
  have g182 : _ = ((21 : Nat) : Int) := grn hG (k := 18) (j := 2) (by decide)
  have g183 : _ = ((23 : Nat) : Int) := grn hG (k := 18) (j := 3) (by decide)
  have iT1 : isT 19 5 := (snT snX).1
  have iT2 : isT 21 10 := (snT snX).2.1
  have iT3 : isT 23 8 := (snT snX).2.2.1
  obtain ⟨oT1, -, -⟩ := obT hG iT1
  obtain ⟨oT2, -, -⟩ := obT hG iT2
  obtain ⟨oT3, -, -⟩ := obT hG iT3
  refine g_ild f_X9_ends_0 rfl ?_
  refine g_const f_X9_ends_1 ?_
  refine g_cs1 hγ (c_within w 1 (by omega) (by omega)) f_X9_ends_2 mo_X9_isWithin mt_X9_isWithin rfl (Nat.le_of_ble_eq_true rfl) ⟨by decide, by decide⟩ ⟨Nat.le_refl _, Nat.le_refl _⟩ (fun x S' M' hq9 => ?_)
  obtain ⟨hx, q1, q2⟩ := hq9
  obtain rfl := q1.symm
  obtain rfl := q2.symm
  by_cases hw : 0 ≤ w ∧ w ≤ 1
  · rw [if_pos hw] at hx
    subst hx
    refine g_if_ne f_X9_ends_5 rfl (by omega) (fun hx => ?_) (fun hx => ?_)
    · refine g_alv f_X9_ends_10 rfl ?_
      refine g_getR f_X9_ends_11 (by assumption) (by assumption) ?_
      refine g_alv f_X9_ends_14 rfl ?_
      refine g_getR f_X9_ends_15 (by assumption) (by assumption) ?_
      refine g_getR f_X9_ends_18 (by assumption) (by assumption) ?_
      refine g_alv f_X9_ends_21 rfl ?_
      refine g_getR f_X9_ends_22 (by assumption) (by assumption) ?_
      refine g_getR f_X9_ends_25 (by assumption) (by assumption) ?_
      refine g_cv3 hγ (c_plan hG hB (by decide) hX hO hD hN61 iT2 hT2 hPl) f_X9_ends_28 mo_X8_afterPlan mv_X8_afterPlan (by assumption) rfl rfl (Nat.le_of_ble_eq_true rfl) ⟨by decide, by decide⟩ ⟨Nat.le_refl _, Nat.le_refl _⟩ (fun x S3 M3 hq3 => ?_)
      obtain ⟨rfl, tri, hX3⟩ := hq3
      rw [show (61 : Int) = ((61 : Nat) : Int) from rfl, rv_nat]
      obtain ⟨oZ, cZ, dZ⟩ := okZ_planZ hO hD hPl (wn s).2.2.1.length (Nat.le_refl _) hl2
      have o61 := obB tri.2.2.1 isB61
      refine g_ast_2 f_X9_ends_31 (by decide) c1i ?_
      refine g_ild f_X9_ends_32 rfl ?_
      refine g_if_ne f_X9_ends_33 rfl (by omega) (fun h0 => ?_) (fun h0 => ?_)
      · refine g_alv f_X9_ends_43 rfl ?_
        refine g_cv1 hγ (c_unseen tri.2.2.1 isB61 hX3 oZ) f_X9_ends_44 mo_X5_unseenPlaces mv_X5_unseenPlaces (by assumption) rfl rfl (Nat.le_of_ble_eq_true rfl) ⟨by decide, by decide⟩ ⟨Nat.le_refl _, Nat.le_refl _⟩ (fun x S' M4 hq4 => ?_)
        obtain ⟨rfl, q1, l1, l2, l3⟩ := hq4
        obtain rfl := q1.symm
        have t4 := tri.mx l1.blk l3
        refine g_reti f_X9_ends_47 rfl ?_ (Nat.zero_le _) (Nat.zero_le _)
        have h := hW.tri hO0 t4
        first
        | (have e : a_ends s w = (pursesN (planZ (wz s) (wn s).2.2.1 (wn s).2.2.1.length) : Int) := (if_neg (fun h => h hw)).trans (if_pos (by omega)); rw [e]; exact ⟨rfl, h.1, h.2⟩)
        | (have e : a_ends s w = (cntF 12 (fun t => decide (seersN (planZ (wz s) (wn s).2.2.1 (wn s).2.2.1.length) t = 0)) : Int) := (if_neg (fun h => h hw)).trans (if_neg (by omega)); rw [e]; exact ⟨rfl, h.1, h.2⟩)
      · refine g_alv f_X9_ends_36 rfl ?_
        refine g_cv1 hγ (c_purses tri.2.2.1 isB61 hX3 oZ) f_X9_ends_37 mo_X5_purses mv_X5_purses (by assumption) rfl rfl (Nat.le_of_ble_eq_true rfl) ⟨by decide, by decide⟩ ⟨Nat.le_refl _, Nat.le_refl _⟩ (fun x S' M4 hq4 => ?_)
        obtain ⟨rfl, q1, q2⟩ := hq4
        obtain rfl := q1.symm
        obtain rfl := q2.symm
        have t4 := tri
        refine g_goto f_X9_ends_40 ?_
        refine g_reti f_X9_ends_47 rfl ?_ (Nat.zero_le _) (Nat.zero_le _)
        have h := hW.tri hO0 t4
        first
        | (have e : a_ends s w = (pursesN (planZ (wz s) (wn s).2.2.1 (wn s).2.2.1.length) : Int) := (if_neg (fun h => h hw)).trans (if_pos (by omega)); rw [e]; exact ⟨rfl, h.1, h.2⟩)
        | (have e : a_ends s w = (cntF 12 (fun t => decide (seersN (planZ (wz s) (wn s).2.2.1 (wn s).2.2.1.length) t = 0)) : Int) := (if_neg (fun h => h hw)).trans (if_neg (by omega)); rw [e]; exact ⟨rfl, h.1, h.2⟩)
    · exact absurd (by omega) hx
  · rw [if_neg hw] at hx
    subst hx
    refine g_if_ne f_X9_ends_5 rfl (by omega) (fun hx => ?_) (fun hx => ?_)
    · exact absurd hx (by omega)
    refine g_const f_X9_ends_8 ?_
    refine g_reti f_X9_ends_9 rfl ?_ (Nat.zero_le _) (Nat.zero_le _)
    have e : a_ends s w = -1 := if_pos hw
    rw [e]
    exact ⟨rfl, hW, mfr.rf⟩

set_option maxHeartbeats 4000000 in
set_option maxRecDepth 100000 in
theorem w_set {Ω : Ow} {S : Sg} {M : Mm} {s : Wt} (hW : RepW S M s) (hO0 : okW s) (p w n : Int) (hp : rg p) (hw0 : rg w) (hn0 : rg n) : Ct Ω mX9_set 2 0 0 1 [vr Ω 0, vi p, vi w, vi n] S M (fun x S' M' => x = (a_set s p w n).1 ∧ RepW S' M' (a_set s p w n).2 ∧ mfr S S' M M') := by
  refine Ct.mk (by decide) (Nat.le_of_ble_eq_true rfl) [some (vr Ω 0), some (vi p), some (vi w), some (vi n), none, none] (by intro q hq; exact hq) (fun γ hγ hz => ?_)
  obtain ⟨hG, hS1, ⟨hX, hT1, hT2, hT3⟩, hlaw, hK, ⟨Λd, hTx, hn1, hn2⟩, hTr, hTp, hmost, hN46, hN61⟩ := id hW
  obtain ⟨⟨hO, hD, hSe, hPl, hBk, hl1, hl2, hl3⟩, hOk, hlw, hOt, hOp⟩ := id hO0
  have hX : RepX S M 25 (wz s) := hX
  have hO : okZ (wz s) := hO
  have hD : zd (wz s) ≤ 9999 := hD
  obtain ⟨x1, x2, x3, x4, x5, Λ, x6, x7, x8, x9⟩ := id hX
  obtain ⟨z1, z2, z3, z4, z5⟩ := id hO
  have hB : isB 25 := Or.inl rfl
  have oB := obB hG hB
  have aB := arB hG hB
  have g0 := (hG.2.2.1 25 hB).1
  have o0 := obn hG (r := 0) (c := 9) (by decide +kernel)
  have o18 := obn hG (r := 18) (c := 4) (by decide +kernel)
  have g00 : _ = ((18 : Nat) : Int) := grn hG (k := 0) (j := 0) (by decide)
  have g18 : _ = ((25 : Nat) : Int) := grn hG (k := 18) (j := 0) (by decide)
  have o60 := obn hG (r := 60) (c := 8) (by decide +kernel)
  have g05 : _ = ((60 : Nat) : Int) := grn hG (k := 0) (j := 5) (by decide)
  have o9 := obn hG (r := 9) (c := 0) (by decide +kernel)
  have g06 : _ = ((9 : Nat) : Int) := grn hG (k := 0) (j := 6) (by decide)
  have g181 : _ = ((19 : Nat) : Int) := grn hG (k := 18) (j := 1) (by decide)
  have g182 : _ = ((21 : Nat) : Int) := grn hG (k := 18) (j := 2) (by decide)
  have g183 : _ = ((23 : Nat) : Int) := grn hG (k := 18) (j := 3) (by decide)
  have iT1 : isT 19 5 := (snT snX).1
  have iT2 : isT 21 10 := (snT snX).2.1
  have iT3 : isT 23 8 := (snT snX).2.2.1
  obtain ⟨oT1, -, -⟩ := obT hG iT1
  obtain ⟨oT2, -, -⟩ := obT hG iT2
  obtain ⟨oT3, -, -⟩ := obT hG iT3
  refine g_alv f_X9_set_0 rfl ?_
  refine g_getR f_X9_set_1 (by assumption) (by assumption) ?_
  refine g_getR f_X9_set_4 (by assumption) (by assumption) ?_
  refine g_ild f_X9_set_7 rfl ?_
  refine g_cv3 hγ (c_person hG hB hX hO p (by omega)) f_X9_set_8 mo_X5_person mv_X5_person (by assumption) rfl rfl (Nat.le_of_ble_eq_true rfl) ⟨by decide, by decide⟩ ⟨Nat.le_refl _, Nat.le_refl _⟩ (fun x S' M' hq2 => ?_)
  obtain ⟨hq2, q1, q2⟩ := hq2
  obtain rfl := q1.symm
  obtain rfl := q2.symm
  rcases hq2 with ⟨p2, hp2, hpe, rfl⟩ | ⟨hnp, rfl⟩
  · rw [rv_nat]
    subst hpe
    have hp6 : p2 < 6 := by omega
    have oP := obP (p := p2) hG hB hp6
    have aP := arP (p := p2) hG hB hp6
    have gP := ((hG.2.2.1 25 hB).2 p2 hp6).2
    obtain ⟨r1, r2, r3, r4, r5, r6⟩ := id (x4 p2 hp2)
    obtain ⟨b1, b2, b3, b4, b5, b6⟩ := id (z4 p2 hp2)
    have hin := pe_in (B := 25) hp6
    have hip : inP s (p2 : Int) := ⟨by omega, by show (p2 : Int) < (zc (wz s) : Int); omega⟩
    refine g_ast_4 f_X9_set_11 (by decide) c1i ?_
    refine g_alv f_X9_set_13 rfl ?_
    refine g_ifnull f_X9_set_15 rfl ?_
    refine g_ild f_X9_set_18 rfl ?_
    refine g_const f_X9_set_19 ?_
    refine g_cs1 hγ (c_within w 1 (by omega) (by omega)) f_X9_set_20 mo_X9_isWithin mt_X9_isWithin rfl (Nat.le_of_ble_eq_true rfl) ⟨by decide, by decide⟩ ⟨Nat.le_refl _, Nat.le_refl _⟩ (fun x S' M' hq9 => ?_)
    obtain ⟨hx, q1, q2⟩ := hq9
    obtain rfl := q1.symm
    obtain rfl := q2.symm
    by_cases hw : 0 ≤ w ∧ w ≤ 1
    · rw [if_pos hw] at hx
      subst hx
      refine g_if_ne f_X9_set_23 rfl (by omega) (fun hx => ?_) (fun hx => ?_)
      · refine g_ild f_X9_set_28 rfl ?_
        refine g_ild f_X9_set_29 rfl ?_
        refine g_if_ne f_X9_set_30 rfl (by omega) (fun h0 => ?_) (fun h0 => ?_)
        · refine g_const f_X9_set_38 ?_
          refine g_cs1 hγ (c_within n 9999 (by omega) (by omega)) f_X9_set_41 mo_X9_isWithin mt_X9_isWithin rfl (Nat.le_of_ble_eq_true rfl) ⟨by decide, by decide⟩ ⟨Nat.le_refl _, Nat.le_refl _⟩ (fun x S' M' hq9 => ?_)
          obtain ⟨hx, q1, q2⟩ := hq9
          obtain rfl := q1.symm
          obtain rfl := q2.symm
          by_cases hn : 0 ≤ n ∧ n ≤ 9999
          · rw [if_pos hn] at hx
            subst hx
            obtain ⟨m, rfl⟩ := Int.eq_ofNat_of_zero_le hn.1
            refine g_if_ne f_X9_set_44 rfl (by omega) (fun hx => ?_) (fun hx => ?_)
            · refine g_ild f_X9_set_50 rfl ?_
              refine g_if_ne f_X9_set_51 rfl (by omega) (fun h02 => ?_) (fun h02 => ?_)
              · refine g_alv f_X9_set_70 rfl ?_
                refine g_getI f_X9_set_72 (by assumption) ?_
                rw [r4]
                refine g_ist_5 f_X9_set_75 (by decide) c1v ?_
                refine g_alv f_X9_set_77 rfl ?_
                refine g_ild f_X9_set_79 rfl ?_
                refine g_putI f_X9_set_80 rfl (by assumption) ?_
                refine g_ild f_X9_set_83 rfl ?_
                refine g_reti f_X9_set_85 rfl ?_ (Nat.zero_le _) (Nat.zero_le _)
                have e : a_set s (p2 : Int) w (m : Int) = ((zP (wz s) p2 3 : Int), putZ s (setP (wz s) p2 3 m)) := (if_neg (fun h => h ⟨hip, hw⟩)).trans ((if_neg (fun h => h (by rw [if_neg (by omega)]; exact hn))).trans (if_neg (by omega)))
                rw [e]
                have h := hW.st hO0 (blk_upM ⟨hin.1, hin.2.1⟩) (RepX_setP (a := 3) (v := m) hX hB z1 hp6 (by decide))
                exact ⟨rfl, h.1, h.2⟩
              · exact absurd (by omega) h02
            · exact absurd (by omega) hx
          · rw [if_neg hn] at hx
            subst hx
            have e2 : a_set s (p2 : Int) w n = (-2, s) := (if_neg (fun h => h ⟨hip, hw⟩)).trans (if_pos (by intro h; apply hn; first | (rw [if_pos (by omega)] at h; exact h) | (rw [if_neg (by omega)] at h; exact h)))
            refine g_if_ne f_X9_set_44 rfl (by omega) (fun hx => ?_) (fun hx => ?_)
            · exact absurd hx (by omega)
            refine g_const f_X9_set_47 ?_
            refine g_reti f_X9_set_49 rfl ?_ (Nat.zero_le _) (Nat.zero_le _)
            rw [e2]
            exact ⟨rfl, hW, mfr.rf⟩
        · refine g_const f_X9_set_33 ?_
          refine g_goto f_X9_set_35 ?_
          refine g_cs1 hγ (c_within n 11 (by omega) (by omega)) f_X9_set_41 mo_X9_isWithin mt_X9_isWithin rfl (Nat.le_of_ble_eq_true rfl) ⟨by decide, by decide⟩ ⟨Nat.le_refl _, Nat.le_refl _⟩ (fun x S' M' hq9 => ?_)
          obtain ⟨hx, q1, q2⟩ := hq9
          obtain rfl := q1.symm
          obtain rfl := q2.symm
          by_cases hn : 0 ≤ n ∧ n ≤ 11
          · rw [if_pos hn] at hx
            subst hx
            obtain ⟨m, rfl⟩ := Int.eq_ofNat_of_zero_le hn.1
            refine g_if_ne f_X9_set_44 rfl (by omega) (fun hx => ?_) (fun hx => ?_)
            · refine g_ild f_X9_set_50 rfl ?_
              refine g_if_ne f_X9_set_51 rfl (by omega) (fun h02 => ?_) (fun h02 => ?_)
              · exact absurd h02 (by omega)
              refine g_alv f_X9_set_54 rfl ?_
              refine g_getI f_X9_set_56 (by assumption) ?_
              rw [r3]
              refine g_ist_5 f_X9_set_59 (by decide) c1v ?_
              refine g_alv f_X9_set_61 rfl ?_
              refine g_ild f_X9_set_63 rfl ?_
              refine g_putI f_X9_set_64 rfl (by assumption) ?_
              refine g_goto f_X9_set_67 ?_
              refine g_ild f_X9_set_83 rfl ?_
              refine g_reti f_X9_set_85 rfl ?_ (Nat.zero_le _) (Nat.zero_le _)
              have e : a_set s (p2 : Int) w (m : Int) = ((zP (wz s) p2 2 : Int), putZ s (setP (wz s) p2 2 m)) := (if_neg (fun h => h ⟨hip, hw⟩)).trans ((if_neg (fun h => h (by rw [if_pos (by omega)]; exact hn))).trans (if_pos (by omega)))
              rw [e]
              have h := hW.st hO0 (blk_upM ⟨hin.1, hin.2.1⟩) (RepX_setP (a := 2) (v := m) hX hB z1 hp6 (by decide))
              exact ⟨rfl, h.1, h.2⟩
            · exact absurd (by omega) hx
          · rw [if_neg hn] at hx
            subst hx
            have e2 : a_set s (p2 : Int) w n = (-2, s) := (if_neg (fun h => h ⟨hip, hw⟩)).trans (if_pos (by intro h; apply hn; first | (rw [if_pos (by omega)] at h; exact h) | (rw [if_neg (by omega)] at h; exact h)))
            refine g_if_ne f_X9_set_44 rfl (by omega) (fun hx => ?_) (fun hx => ?_)
            · exact absurd hx (by omega)
            refine g_const f_X9_set_47 ?_
            refine g_reti f_X9_set_49 rfl ?_ (Nat.zero_le _) (Nat.zero_le _)
            rw [e2]
            exact ⟨rfl, hW, mfr.rf⟩
      · exact absurd (by omega) hx
    · rw [if_neg hw] at hx
      subst hx
      refine g_if_ne f_X9_set_23 rfl (by omega) (fun hx => ?_) (fun hx => ?_)
      · exact absurd hx (by omega)
      refine g_const f_X9_set_26 ?_
      refine g_reti f_X9_set_27 rfl ?_ (Nat.zero_le _) (Nat.zero_le _)
      have e : a_set s (p2 : Int) w n = (-1, s) := if_pos (by intro h; exact hw h.2)
      rw [e]
      exact ⟨rfl, hW, mfr.rf⟩
  · rw [rv_m1]
    refine g_asn_4 f_X9_set_11 (by decide) c1i ?_
    refine g_aldN f_X9_set_13 rfl ?_
    refine g_ifnullN f_X9_set_15 ?_
    refine g_const f_X9_set_26 ?_
    refine g_reti f_X9_set_27 rfl ?_ (Nat.zero_le _) (Nat.zero_le _)
    have e : a_set s p w n = (-1, s) := if_pos (by intro h; exact hnp h.1)
    rw [e]
    exact ⟨rfl, hW, mfr.rf⟩
