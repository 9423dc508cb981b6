/-! contracts: CLAUSES, a LAW from the TEXT -/
set_option maxHeartbeats 4000000 in
set_option maxRecDepth 100000 in
theorem c_endCl {Ω : Ow} {S : Sg} {M : Mm} {tx : List Nat} {Λ : Nat} {L : LawC} {cs : List Int} {a : Nat} (hP : PG S M tx Λ L cs a) (hl : L.length < 10) {nw : List Int} (hcs : cs = flatL L ++ nw) (w n : Nat) (hw : w ≤ 2) (hn : n ≤ 99) : Ct Ω mX1_endClause 1 0 0 0 [vr Ω Λ, vi (w : Int), vi (n : Int)] S M (fun _ S' M' => S' = S ∧ PG S M' tx Λ (L ++ [(w, n, nw)]) cs a ∧ lfr Λ M M') := by
  refine Ct.mk (by decide) (Nat.le_of_ble_eq_true rfl) [some (vr Ω Λ), some (vi (w : Int)), some (vi (n : Int))] (by intro q hq; exact hq) (fun γ hγ hz => ?_)
  obtain ⟨hG, hΛ, hΛ6, gD, hT, ⟨t1, t2⟩, ⟨d1, d2, d3, d4, d5⟩, ha, hal, hcl, hLl⟩ := id hP
  have hT1 := hT.1
  have o1 := obn hG (r := 1) (c := 2) (by decide +kernel)
  have a2 := arn hG (r := 2) (c := 11) (n := 100) (by decide +kernel)
  have g2 : _ = ((2 : Nat) : Int) := grn hG (k := 1) (j := 0) (by decide)
  obtain ⟨oL, aL1, aL2, aL3, aL4, aL5⟩ := obLaw hΛ hΛ6
  obtain ⟨gL1, gL2, gL3, gL4, gL5⟩ := hG.2.2.2 Λ hΛ hΛ6
  refine g_ild f_X1_endClause_0 rfl ?_
  refine g_const f_X1_endClause_1 ?_
  refine g_icmp_ne f_X1_endClause_2 rfl (by omega) (by omega) (fun hw2 => ?_) (fun hw2 => ?_)
  · refine g_alv f_X1_endClause_10 rfl ?_
    refine g_getI f_X1_endClause_11 (by assumption) ?_
    rw [d2]
    refine g_const f_X1_endClause_14 ?_
    refine g_icmp_ge f_X1_endClause_16 rfl (by omega) (by omega) (fun hc => ?_) (fun hc => ?_)
    · exact absurd hc (by omega)
    refine g_alv f_X1_endClause_19 rfl ?_
    refine g_getR f_X1_endClause_20 (by assumption) (by assumption) ?_
    refine g_alv f_X1_endClause_23 rfl ?_
    refine g_getI f_X1_endClause_24 (by assumption) ?_
    rw [d2]
    refine g_ild f_X1_endClause_27 rfl ?_
    refine g_ias f_X1_endClause_28 (by assumption) _ rfl (by omega) ?_
    refine g_alv f_X1_endClause_29 rfl ?_
    refine g_getR f_X1_endClause_30 (by assumption) (by assumption) ?_
    refine g_alv f_X1_endClause_33 rfl ?_
    refine g_getI f_X1_endClause_34 (by assumption) ?_
    rw [up_row (by omega), d2]
    refine g_ild f_X1_endClause_37 rfl ?_
    refine g_ias f_X1_endClause_38 (by assumption) _ rfl (by omega) ?_
    refine g_alv f_X1_endClause_39 rfl ?_
    refine g_getR f_X1_endClause_40 (by assumption) (by assumption) ?_
    refine g_alv f_X1_endClause_43 rfl ?_
    refine g_getI f_X1_endClause_44 (by assumption) ?_
    rw [up_row (by omega), up_row (by omega), d2]
    refine g_alv f_X1_endClause_47 rfl ?_
    refine g_getI f_X1_endClause_48 (by assumption) ?_
    rw [up_row (by omega), up_row (by omega), d3]
    refine g_ias f_X1_endClause_51 (by assumption) _ rfl (by omega) ?_
    refine g_alv f_X1_endClause_52 rfl ?_
    refine g_dup f_X1_endClause_53 rfl ?_
    refine g_getI f_X1_endClause_54 (by assumption) ?_
    rw [up_row (by omega), up_row (by omega), up_row (by omega), d2]
    refine g_const f_X1_endClause_57 ?_
    refine g_iadd f_X1_endClause_58 ?_
    refine g_putI f_X1_endClause_59 rfl (by assumption) ?_
    refine g_ret0 (κ := 0) f_X1_endClause_62 rfl 0 ?_ (Nat.zero_le _) (Nat.zero_le _)
    refine ⟨rfl, hP.cl (M0 := M) hl hcs w n (by rw [if_neg (by omega)]; exact d1) (fun k hk => rfl) (fun j hj => rfl), ?_⟩
    exact (((lfr.rf.uL (by omega) _ _).uL (by omega) _ _).uL (by omega) _ _).uL (by omega) _ _
  · refine g_alv f_X1_endClause_5 rfl ?_
    refine g_ild f_X1_endClause_6 rfl ?_
    refine g_putI f_X1_endClause_7 rfl (by assumption) ?_
    refine g_alv f_X1_endClause_10 rfl ?_
    refine g_getI f_X1_endClause_11 (by assumption) ?_
    rw [up_n (by omega), d2]
    refine g_const f_X1_endClause_14 ?_
    refine g_icmp_ge f_X1_endClause_16 rfl (by omega) (by omega) (fun hc => ?_) (fun hc => ?_)
    · exact absurd hc (by omega)
    refine g_alv f_X1_endClause_19 rfl ?_
    refine g_getR f_X1_endClause_20 (by assumption) (by assumption) ?_
    refine g_alv f_X1_endClause_23 rfl ?_
    refine g_getI f_X1_endClause_24 (by assumption) ?_
    rw [up_n (by omega), d2]
    refine g_ild f_X1_endClause_27 rfl ?_
    refine g_ias f_X1_endClause_28 (by assumption) _ rfl (by omega) ?_
    refine g_alv f_X1_endClause_29 rfl ?_
    refine g_getR f_X1_endClause_30 (by assumption) (by assumption) ?_
    refine g_alv f_X1_endClause_33 rfl ?_
    refine g_getI f_X1_endClause_34 (by assumption) ?_
    rw [up_row (by omega), up_n (by omega), d2]
    refine g_ild f_X1_endClause_37 rfl ?_
    refine g_ias f_X1_endClause_38 (by assumption) _ rfl (by omega) ?_
    refine g_alv f_X1_endClause_39 rfl ?_
    refine g_getR f_X1_endClause_40 (by assumption) (by assumption) ?_
    refine g_alv f_X1_endClause_43 rfl ?_
    refine g_getI f_X1_endClause_44 (by assumption) ?_
    rw [up_row (by omega), up_row (by omega), up_n (by omega), d2]
    refine g_alv f_X1_endClause_47 rfl ?_
    refine g_getI f_X1_endClause_48 (by assumption) ?_
    rw [up_row (by omega), up_row (by omega), up_n (by omega), d3]
    refine g_ias f_X1_endClause_51 (by assumption) _ rfl (by omega) ?_
    refine g_alv f_X1_endClause_52 rfl ?_
    refine g_dup f_X1_endClause_53 rfl ?_
    refine g_getI f_X1_endClause_54 (by assumption) ?_
    rw [up_row (by omega), up_row (by omega), up_row (by omega), up_n (by omega), d2]
    refine g_const f_X1_endClause_57 ?_
    refine g_iadd f_X1_endClause_58 ?_
    refine g_putI f_X1_endClause_59 rfl (by assumption) ?_
    refine g_ret0 (κ := 0) f_X1_endClause_62 rfl 0 ?_ (Nat.zero_le _) (Nat.zero_le _)
    have ew : w = 2 := by omega
    refine ⟨rfl, hP.cl (M0 := up M Λ 0 (n : Int)) hl hcs w n (by rw [up_s, if_pos ew]) (fun k hk => up_row hk) (fun j hj => up_n (by omega)), ?_⟩
    exact ((((lfr.rf.uL (by omega) _ _).uL (by omega) _ _).uL (by omega) _ _).uL (by omega) _ _).uL (by omega) _ _

set_option maxHeartbeats 4000000 in
set_option maxRecDepth 100000 in
theorem c_clause {Ω : Ow} {S : Sg} {M : Mm} {tx : List Nat} {Λ : Nat} {L : LawC} {a : Nat} (hP : PG S M tx Λ L (flatL L) a) (hl10 : L.length < 10) : Ct Ω mX2_readClause 22 0 0 1 [vr Ω 1] S M (fun x S' M' => x = ((pCl tx a L).1.toNat : Int) ∧ S' = S ∧ (∃ cs', PG S M' tx Λ (pCl tx a L).2.2 cs' (pCl tx a L).2.1 ∧ ((pCl tx a L).1 = true → cs' = flatL (pCl tx a L).2.2)) ∧ lfr Λ M M') := by
  refine Ct.mk (by decide) (Nat.le_of_ble_eq_true rfl) [some (vr Ω 1), none, none] (by intro q hq; exact hq) (fun γ hγ hz => ?_)
  obtain ⟨hG, hΛ, hΛ6, gD, hT, ⟨t1, t2⟩, ⟨d1, d2, d3, d4, d5⟩, ha, hal, hcl, hLl⟩ := id hP
  have hT1 := hT.1
  have o1 := obn hG (r := 1) (c := 2) (by decide +kernel)
  have a2 := arn hG (r := 2) (c := 11) (n := 100) (by decide +kernel)
  have g2 : _ = ((2 : Nat) : Int) := grn hG (k := 1) (j := 0) (by decide)
  obtain ⟨oL, aL1, aL2, aL3, aL4, aL5⟩ := obLaw hΛ hΛ6
  obtain ⟨gL1, gL2, gL3, gL4, gL5⟩ := hG.2.2.2 Λ hΛ hΛ6
  refine g_alv f_X2_readClause_0 rfl ?_
  refine g_cv1 hγ (c_word hP) f_X2_readClause_1 mo_X2_readWord mv_X2_readWord (by assumption) rfl rfl (Nat.le_of_ble_eq_true rfl) ⟨by decide, by decide⟩ ⟨Nat.le_refl _, Nat.le_refl _⟩ (fun x S' M2 hq2 => ?_)
  obtain ⟨rfl, q1, k, f⟩ := hq2
  obtain rfl := q1.symm
  obtain ⟨w1, w2, w3⟩ := pW_ok tx a hal
  refine g_ist_1 f_X2_readClause_4 (by decide) c1v ?_
  refine g_ild f_X2_readClause_5 rfl ?_
  refine g_const f_X2_readClause_6 ?_
  refine g_icmp_eq f_X2_readClause_7 rfl (by first | omega | (split <;> omega)) (by first | omega | (split <;> omega)) (fun hw => ?_) (fun hw => ?_)
  · have hw3 : (pW tx a).1 = 3 := by
      by_cases q : (pW tx a).1 = 3
      · exact q
      · rw [if_neg q] at hw; omega
    refine g_const f_X2_readClause_19 ?_
    refine g_retz f_X2_readClause_20 rfl (Or.inl rfl) ?_ (Nat.zero_le _) (Nat.zero_le _)
    have e1 : pHead tx a = pW tx a := if_pos (by omega)
    have e : pCl tx a L = (false, (pW tx a).2, L) := by unfold pCl; rw [e1, if_pos (by omega)]
    rw [e]
    exact ⟨rfl, rfl, ⟨flatL L, k, fun h => by cases h⟩, f⟩
  · refine g_alv f_X2_readClause_10 rfl ?_
    refine g_const f_X2_readClause_11 ?_
    have hw3 : ¬ (pW tx a).1 = 3 := by intro q; rw [if_pos q] at hw; exact hw rfl
    rw [if_neg hw3] at hw
    refine g_as (show (32 : Int) = ((32 : Nat) : Int) from rfl) ?_
    refine g_cv1 hγ (c_take (a := (pW tx a).2) k (c := 32) (by decide)) f_X2_readClause_13 mo_X2_take mv_X2_take (by assumption) rfl rfl (Nat.le_of_ble_eq_true rfl) ⟨by decide, by decide⟩ ⟨Nat.le_refl _, Nat.le_refl _⟩ (fun x S' M13 hq2 => ?_)
    obtain ⟨rfl, q1, k2, fn⟩ := hq2
    obtain rfl := q1.symm
    replace f := f.tr fn
    clear k fn
    rcases Bool.eq_false_or_eq_true (isC tx ((pW tx a).2) 32) with hb13 | hb13
    · have k : PG S M13 tx Λ L (flatL L) ((pW tx a).2 + 1) := by rw [hb13] at k2; exact k2
      clear k2
      rw [hb13]
      refine g_as (show ((true.toNat : Nat) : Int) = 1 from rfl) ?_
      have e1 : pHead tx a = ((pW tx a).1, (pW tx a).2 + 1) := (if_neg (by omega)).trans (if_pos hb13)
      have h13 : (pHead tx a).1 = (pW tx a).1 := by rw [e1]
      have h23 : (pHead tx a).2 = (pW tx a).2 + 1 := by rw [e1]
      rw [← h23] at k
      refine g_if_ne f_X2_readClause_16 rfl (by omega) (fun hx => ?_) (fun hx => ?_)
      · refine g_alv f_X2_readClause_21 rfl ?_
        refine g_cv1 hγ (c_num k) f_X2_readClause_22 mo_X2_readNumber mv_X2_readNumber (by assumption) rfl rfl (Nat.le_of_ble_eq_true rfl) ⟨by decide, by decide⟩ ⟨Nat.le_refl _, Nat.le_refl _⟩ (fun x S' M3 hq3 => ?_)
        obtain ⟨rfl, q1, k3, fn⟩ := hq3
        obtain rfl := q1.symm
        replace f := f.tr fn
        clear fn k
        have k := k3
        clear k3
        obtain ⟨n1, n2, n3, n4⟩ := pNum_ok tx (pHead tx a).2 (pHead_ok tx a hal).2.1
        refine g_ist_2 f_X2_readClause_25 (by decide) c1i ?_
        refine g_ild f_X2_readClause_26 rfl ?_
        refine g_const f_X2_readClause_27 ?_
        refine g_icmp_ne f_X2_readClause_28 rfl (by omega) (by omega) (fun hn => ?_) (fun hn => ?_)
        · rw [if_neg hw3]
          refine g_ild f_X2_readClause_33 rfl ?_
          refine g_const f_X2_readClause_34 ?_
          refine g_icmp_eq f_X2_readClause_35 rfl (by omega) (by omega) (fun h2 => ?_) (fun h2 => ?_)
          · obtain ⟨nn, hnn⟩ := Int.eq_ofNat_of_zero_le (show 0 ≤ (pNum tx (pHead tx a).2).1 by omega)
            have hw4 : (pW tx a).1 ≤ 2 := by omega
            have kk := k
            refine g_alv f_X2_readClause_57 rfl ?_
            refine g_getR f_X2_readClause_58 (by assumption) kk.2.2.2.1 ?_
            refine g_ild f_X2_readClause_61 rfl ?_
            refine g_ild f_X2_readClause_62 rfl ?_
            rw [hnn]
            refine g_cv0 hγ (c_endCl kk hl10 (nw := []) (List.append_nil _).symm (pW tx a).1 nn hw4 (by omega)) f_X2_readClause_63 mo_X1_endClause mv_X1_endClause oL rfl rfl (Nat.le_of_ble_eq_true rfl) ⟨by decide, by decide⟩ ⟨Nat.le_refl _, Nat.le_refl _⟩ (fun x S' M5 hq5 => ?_)
            obtain ⟨q1, k5, fn⟩ := hq5
            obtain rfl := q1.symm
            replace f := f.tr fn
            clear fn
            refine g_const f_X2_readClause_66 ?_
            refine g_retz f_X2_readClause_67 rfl (Or.inr rfl) ?_ (Nat.zero_le _) (Nat.zero_le _)
            have e : pCl tx a L = (true, (pNum tx (pHead tx a).2).2, L ++ [(2, (pNum tx (pHead tx a).2).1.toNat, [])]) := (if_neg (by omega)).trans ((if_neg (by omega)).trans (if_pos (by omega)))
            rw [e, show (pNum tx (pHead tx a).2).1.toNat = nn by omega]
            rw [show (pW tx a).1 = 2 by omega] at k5
            exact ⟨rfl, rfl, ⟨_, k5, fun _ => by rw [flatL_app, List.append_nil]⟩, f⟩
          · refine g_alv f_X2_readClause_38 rfl ?_
            refine g_const f_X2_readClause_39 ?_
            refine g_as (show (32 : Int) = ((32 : Nat) : Int) from rfl) ?_
            refine g_cv1 hγ (c_take (a := (pNum tx (pHead tx a).2).2) k (c := 32) (by decide)) f_X2_readClause_41 mo_X2_take mv_X2_take (by assumption) rfl rfl (Nat.le_of_ble_eq_true rfl) ⟨by decide, by decide⟩ ⟨Nat.le_refl _, Nat.le_refl _⟩ (fun x S' M41 hq2 => ?_)
            obtain ⟨rfl, q1, k2, fn⟩ := hq2
            obtain rfl := q1.symm
            replace f := f.tr fn
            clear k fn
            rcases Bool.eq_false_or_eq_true (isC tx ((pNum tx (pHead tx a).2).2) 32) with hb41 | hb41
            · have k : PG S M41 tx Λ L (flatL L) ((pNum tx (pHead tx a).2).2 + 1) := by rw [hb41] at k2; exact k2
              clear k2
              rw [hb41]
              refine g_as (show ((true.toNat : Nat) : Int) = 1 from rfl) ?_
              refine g_if_eq f_X2_readClause_44 rfl (by omega) (fun hx => ?_) (fun hx => ?_)
              · exact absurd hx (by omega)
              refine g_alv f_X2_readClause_47 rfl ?_
              refine g_const f_X2_readClause_48 ?_
              refine g_as (show (0 : Int) = ((0 : Nat) : Int) from rfl) ?_
              refine g_cv1 hγ (c_either 4 (Nat.le_refl _) (n := 0) rfl k) f_X2_readClause_49 mo_X2_readEither mv_X2_readEither (by assumption) rfl rfl (Nat.le_of_ble_eq_true rfl) ⟨by decide, by decide⟩ ⟨Nat.le_refl _, Nat.le_refl _⟩ (fun x S' M4 hq4 => ?_)
              obtain ⟨rfl, q1, k4, fn⟩ := hq4
              obtain rfl := q1.symm
              replace f := f.tr fn
              clear fn
              obtain ⟨g1, g2, ⟨c, g3, g4, g5⟩, g6⟩ := good_E (good_F tx 4) ((pNum tx (pHead tx a).2).2 + 1) [] (isC_lt hb41).1
              have ep := g6 (flatL L)
              rw [List.append_nil] at ep
              change pEg (pF tx 4) tx ((pNum tx (pHead tx a).2).2 + 1) (flatL L) = ((pE tx 4 ((pNum tx (pHead tx a).2).2 + 1) []).1, (pE tx 4 ((pNum tx (pHead tx a).2).2 + 1) []).2.1, flatL L ++ (pE tx 4 ((pNum tx (pHead tx a).2).2 + 1) []).2.2) at ep
              rw [ep] at k4
              rw [ep]
              show Go _ _ _ _ _ _ _ _ _ _ [vi (((pE tx 4 ((pNum tx (pHead tx a).2).2 + 1) []).1.toNat : Nat) : Int)]
              rcases Bool.eq_false_or_eq_true (pE tx 4 ((pNum tx (pHead tx a).2).2 + 1) []).1 with hb | hb
              · rw [hb]
                refine g_as (show ((true.toNat : Nat) : Int) = 1 from rfl) ?_
                refine g_if_ne f_X2_readClause_52 rfl (by omega) (fun hx => ?_) (fun hx => ?_)
                · obtain ⟨nn, hnn⟩ := Int.eq_ofNat_of_zero_le (show 0 ≤ (pNum tx (pHead tx a).2).1 by omega)
                  have hw4 : (pW tx a).1 ≤ 2 := by omega
                  have kk := k4
                  refine g_alv f_X2_readClause_57 rfl ?_
                  refine g_getR f_X2_readClause_58 (by assumption) kk.2.2.2.1 ?_
                  refine g_ild f_X2_readClause_61 rfl ?_
                  refine g_ild f_X2_readClause_62 rfl ?_
                  rw [hnn]
                  refine g_cv0 hγ (c_endCl kk hl10 (nw := (pE tx 4 ((pNum tx (pHead tx a).2).2 + 1) []).2.2) rfl (pW tx a).1 nn hw4 (by omega)) f_X2_readClause_63 mo_X1_endClause mv_X1_endClause oL rfl rfl (Nat.le_of_ble_eq_true rfl) ⟨by decide, by decide⟩ ⟨Nat.le_refl _, Nat.le_refl _⟩ (fun x S' M5 hq5 => ?_)
                  obtain ⟨q1, k5, fn⟩ := hq5
                  obtain rfl := q1.symm
                  replace f := f.tr fn
                  clear fn
                  refine g_const f_X2_readClause_66 ?_
                  refine g_retz f_X2_readClause_67 rfl (Or.inr rfl) ?_ (Nat.zero_le _) (Nat.zero_le _)
                  have e : pCl tx a L = (true, (pE tx 4 ((pNum tx (pHead tx a).2).2 + 1) []).2.1, L ++ [((pHead tx a).1, (pNum tx (pHead tx a).2).1.toNat, (pE tx 4 ((pNum tx (pHead tx a).2).2 + 1) []).2.2)]) := (if_neg (by omega)).trans ((if_neg (by omega)).trans ((if_neg (by omega)).trans ((if_pos hb41).trans (if_pos hb))))
                  rw [e, h13, show (pNum tx (pHead tx a).2).1.toNat = nn by omega]
                  exact ⟨rfl, rfl, ⟨_, k5, fun _ => (flatL_app L ((pW tx a).1, nn, (pE tx 4 ((pNum tx (pHead tx a).2).2 + 1) []).2.2)).symm⟩, f⟩
                · exact absurd (by omega) hx
              · rw [hb]
                refine g_as (show ((false.toNat : Nat) : Int) = 0 from rfl) ?_
                refine g_if_ne f_X2_readClause_52 rfl (by omega) (fun hx => ?_) (fun hx => ?_)
                · exact absurd hx (by omega)
                refine g_const f_X2_readClause_55 ?_
                refine g_retz f_X2_readClause_56 rfl (Or.inl rfl) ?_ (Nat.zero_le _) (Nat.zero_le _)
                have e : pCl tx a L = (false, (pE tx 4 ((pNum tx (pHead tx a).2).2 + 1) []).2.1, L) := (if_neg (by omega)).trans ((if_neg (by omega)).trans ((if_neg (by omega)).trans ((if_pos hb41).trans (if_neg (by rw [hb]; decide)))))
                rw [e]
                exact ⟨rfl, rfl, ⟨_, k4, fun h => by cases h⟩, f⟩
            · have k : PG S M41 tx Λ L (flatL L) ((pNum tx (pHead tx a).2).2) := by rw [hb41] at k2; exact k2
              clear k2
              rw [hb41]
              refine g_as (show ((false.toNat : Nat) : Int) = 0 from rfl) ?_
              refine g_if_eq f_X2_readClause_44 rfl (by omega) (fun hx => ?_) (fun hx => ?_)
              · refine g_const f_X2_readClause_55 ?_
                refine g_retz f_X2_readClause_56 rfl (Or.inl rfl) ?_ (Nat.zero_le _) (Nat.zero_le _)
                have e : pCl tx a L = (false, (pNum tx (pHead tx a).2).2, L) := (if_neg (by omega)).trans ((if_neg (by omega)).trans ((if_neg (by omega)).trans (if_neg (by rw [hb41]; decide))))
                rw [e]
                exact ⟨rfl, rfl, ⟨_, k, fun h => by cases h⟩, f⟩
              · exact absurd (by omega) hx
        · refine g_const f_X2_readClause_31 ?_
          refine g_retz f_X2_readClause_32 rfl (Or.inl rfl) ?_ (Nat.zero_le _) (Nat.zero_le _)
          have e : pCl tx a L = (false, (pNum tx (pHead tx a).2).2, L) := (if_neg (by omega)).trans (if_pos (by omega))
          rw [e]
          exact ⟨rfl, rfl, ⟨flatL L, k, fun h => by cases h⟩, f⟩
      · exact absurd (by omega) hx
    · have k : PG S M13 tx Λ L (flatL L) ((pW tx a).2) := by rw [hb13] at k2; exact k2
      clear k2
      rw [hb13]
      refine g_as (show ((false.toNat : Nat) : Int) = 0 from rfl) ?_
      refine g_if_ne f_X2_readClause_16 rfl (by omega) (fun hx => ?_) (fun hx => ?_)
      · exact absurd hx (by omega)
      refine g_const f_X2_readClause_19 ?_
      refine g_retz f_X2_readClause_20 rfl (Or.inl rfl) ?_ (Nat.zero_le _) (Nat.zero_le _)
      have e1 : pHead tx a = (3, (pW tx a).2) := (if_neg (by omega)).trans (if_neg (by rw [hb13]; decide))
      have e : pCl tx a L = (false, (pW tx a).2, L) := by unfold pCl; rw [e1, if_pos rfl]
      rw [e]
      exact ⟨rfl, rfl, ⟨flatL L, k, fun h => by cases h⟩, f⟩
