/-! contracts: the calls: count, plan, tapes -/
set_option maxHeartbeats 4000000 in
set_option maxRecDepth 100000 in
theorem w_count {Ω : Ow} {S : Sg} {M : Mm} {s : Wt} (hW : RepW S M s) (hO0 : okW s) (w : Int) (hw0 : rg w) : Ct Ω mX9_count 1 0 0 1 [vr Ω 0, vi w] S M (fun x S' M' => x = a_count s w ∧ RepW S' M' s ∧ mfr S S' M M') := by
  refine Ct.mk (by decide) (Nat.le_of_ble_eq_true rfl) [some (vr Ω 0), some (vi w)] (by intro q hq; exact hq) (fun γ hγ hz => ?_)
  obtain ⟨hG, hS1, ⟨hX, hT1, hT2, hT3⟩, hlaw, hK, ⟨Λd, hTx, hn1, hn2⟩, hTr, hTp, hmost, hN46, hN61⟩ := id hW
  obtain ⟨⟨hO, hD, hSe, hPl, hBk, hl1, hl2, hl3⟩, hOk, hlw, hOt, hOp⟩ := id hO0
  have hX : RepX S M 25 (wz s) := hX
  have hO : okZ (wz s) := hO
  have hD : zd (wz s) ≤ 9999 := hD
  obtain ⟨x1, x2, x3, x4, x5, Λ, x6, x7, x8, x9⟩ := id hX
  obtain ⟨z1, z2, z3, z4, z5⟩ := id hO
  have hB : isB 25 := Or.inl rfl
  have oB := obB hG hB
  have aB := arB hG hB
  have g0 := (hG.2.2.1 25 hB).1
  have o0 := obn hG (r := 0) (c := 9) (by decide +kernel)
  have o18 := obn hG (r := 18) (c := 4) (by decide +kernel)
  have g00 : _ = ((18 : Nat) : Int) := grn hG (k := 0) (j := 0) (by decide)
  have g18 : _ = ((25 : Nat) : Int) := grn hG (k := 18) (j := 0) (by decide)
  have o60 := obn hG (r := 60) (c := 8) (by decide +kernel)
  have g05 : _ = ((60 : Nat) : Int) := grn hG (k := 0) (j := 5) (by decide)
  have o9 := obn hG (r := 9) (c := 0) (by decide +kernel)
  have g06 : _ = ((9 : Nat) : Int) := grn hG (k := 0) (j := 6) (by decide)
  have g181 : _ = ((19 : Nat) : Int) := grn hG (k := 18) (j := 1) (by decide)
  have g182 : _ = ((21 : Nat) : Int) := grn hG (k := 18) (j := 2) (by decide)
  have g183 : _ = ((23 : Nat) : Int) := grn hG (k := 18) (j := 3) (by decide)
  have iT1 : isT 19 5 := (snT snX).1
  have iT2 : isT 21 10 := (snT snX).2.1
  have iT3 : isT 23 8 := (snT snX).2.2.1
  obtain ⟨oT1, -, -⟩ := obT hG iT1
  obtain ⟨oT2, -, -⟩ := obT hG iT2
  obtain ⟨oT3, -, -⟩ := obT hG iT3
  have o1 := obn hG (r := 1) (c := 2) (by decide +kernel)
  have g03 : _ = ((1 : Nat) : Int) := grn hG (k := 0) (j := 3) (by decide)
  have r91 := hTr.1
  refine g_ild f_X9_count_0 rfl ?_
  refine g_tab f_X9_count_1 (by omega) (fun hk => ?_) (casC (fun hk => ?_) (casC (fun hk => ?_) (casC (fun hk => ?_) (casC (fun hk => ?_) (casC (fun hk => ?_) (casC (fun hk => ?_) (casC (fun hk => ?_) casN)))))))
  · refine g_const f_X9_count_109 ?_
    refine g_reti f_X9_count_111 rfl ?_ (Nat.zero_le _) (Nat.zero_le _)
    have n0 : w ≠ 0 := hk (0, 44) (by simp)
    have n1 : w ≠ 1 := hk (1, 55) (by simp)
    have n2 : w ≠ 2 := hk (2, 60) (by simp)
    have n3 : w ≠ 3 := hk (3, 71) (by simp)
    have n4 : w ≠ 4 := hk (4, 82) (by simp)
    have n5 : w ≠ 5 := hk (5, 93) (by simp)
    have n6 : w ≠ 6 := hk (6, 101) (by simp)
    have e : a_count s w = -2 := by
      unfold a_count
      rw [if_neg n0, if_neg n1, if_neg n2, if_neg n3, if_neg n4, if_neg n5, if_neg n6]
    rw [e]
    exact ⟨rfl, hW, mfr.rf⟩
  · refine g_alv f_X9_count_44 rfl ?_
    refine g_getR f_X9_count_45 (by assumption) (by assumption) ?_
    refine g_getR f_X9_count_48 (by assumption) (by assumption) ?_
    refine g_getI f_X9_count_51 (by assumption) ?_
    rw [x1]
    refine g_reti f_X9_count_54 rfl ?_ (Nat.zero_le _) (Nat.zero_le _)
    obtain rfl : w = 0 := hk
    have e : a_count s 0 = (zc (wz s) : Int) := rfl
    rw [e]
    exact ⟨rfl, hW, mfr.rf⟩
  · refine g_alv f_X9_count_55 rfl ?_
    refine g_getI f_X9_count_56 (by assumption) ?_
    rw [hlaw]
    refine g_reti f_X9_count_59 rfl ?_ (Nat.zero_le _) (Nat.zero_le _)
    obtain rfl : w = 1 := hk
    have e : a_count s 1 = (wl s : Int) := rfl
    rw [e]
    exact ⟨rfl, hW, mfr.rf⟩
  · refine g_alv f_X9_count_60 rfl ?_
    refine g_getR f_X9_count_61 (by assumption) (by assumption) ?_
    refine g_getR f_X9_count_64 (by assumption) (by assumption) ?_
    refine g_getI f_X9_count_67 (by assumption) ?_
    rw [show M 19 2 = _ from hT1.2.1]
    refine g_reti f_X9_count_70 rfl ?_ (Nat.zero_le _) (Nat.zero_le _)
    obtain rfl : w = 2 := hk
    have e : a_count s 2 = ((wn s).2.1.length : Int) := rfl
    rw [e]
    exact ⟨rfl, hW, mfr.rf⟩
  · refine g_alv f_X9_count_71 rfl ?_
    refine g_getR f_X9_count_72 (by assumption) (by assumption) ?_
    refine g_getR f_X9_count_75 (by assumption) (by assumption) ?_
    refine g_getI f_X9_count_78 (by assumption) ?_
    rw [show M 21 2 = _ from hT2.2.1]
    refine g_reti f_X9_count_81 rfl ?_ (Nat.zero_le _) (Nat.zero_le _)
    obtain rfl : w = 3 := hk
    have e : a_count s 3 = ((wn s).2.2.1.length : Int) := rfl
    rw [e]
    exact ⟨rfl, hW, mfr.rf⟩
  · refine g_alv f_X9_count_82 rfl ?_
    refine g_getR f_X9_count_83 (by assumption) (by assumption) ?_
    refine g_getR f_X9_count_86 (by assumption) (by assumption) ?_
    refine g_getI f_X9_count_89 (by assumption) ?_
    rw [show M 23 2 = _ from hT3.2.1]
    refine g_reti f_X9_count_92 rfl ?_ (Nat.zero_le _) (Nat.zero_le _)
    obtain rfl : w = 4 := hk
    have e : a_count s 4 = ((wn s).2.2.2.length : Int) := rfl
    rw [e]
    exact ⟨rfl, hW, mfr.rf⟩
  · refine g_alv f_X9_count_93 rfl ?_
    refine g_getR f_X9_count_94 (by assumption) (by assumption) ?_
    refine g_getI f_X9_count_97 (by assumption) ?_
    rw [hTx.2.2.2.2.1]
    refine g_reti f_X9_count_100 rfl ?_ (Nat.zero_le _) (Nat.zero_le _)
    obtain rfl : w = 5 := hk
    have e : a_count s 5 = ((wx s).length : Int) := rfl
    rw [e]
    exact ⟨rfl, hW, mfr.rf⟩
  · refine g_alv f_X9_count_101 rfl ?_
    refine g_getR f_X9_count_102 (by assumption) (by assumption) ?_
    refine g_getI f_X9_count_105 (by assumption) ?_
    rw [r91]
    refine g_reti f_X9_count_108 rfl ?_ (Nat.zero_le _) (Nat.zero_le _)
    obtain rfl : w = 6 := hk
    have e : a_count s 6 = ((wr s).length : Int) := rfl
    rw [e]
    exact ⟨rfl, hW, mfr.rf⟩

set_option maxHeartbeats 4000000 in
set_option maxRecDepth 100000 in
theorem c_planRow {Ω : Ow} {S : Sg} {M : Mm} {s : Wt} (hW : RepW S M s) (hO0 : okW s) (w n : Int) (hw0 : rg w) (hn0 : rg n) : Ct Ω mX9_isPlanRow 3 0 0 1 [vr Ω 0, vi w, vi n] S M (fun x S' M' => (x = if planOK s w n then 1 else 0) ∧ S' = S ∧ M' = M) := by
  refine Ct.mk (by decide) (Nat.le_of_ble_eq_true rfl) [some (vr Ω 0), some (vi w), some (vi n)] (by intro q hq; exact hq) (fun γ hγ hz => ?_)
  obtain ⟨hG, hS1, ⟨hX, hT1, hT2, hT3⟩, hlaw, hK, ⟨Λd, hTx, hn1, hn2⟩, hTr, hTp, hmost, hN46, hN61⟩ := id hW
  obtain ⟨⟨hO, hD, hSe, hPl, hBk, hl1, hl2, hl3⟩, hOk, hlw, hOt, hOp⟩ := id hO0
  have hX : RepX S M 25 (wz s) := hX
  have hO : okZ (wz s) := hO
  have hD : zd (wz s) ≤ 9999 := hD
  obtain ⟨x1, x2, x3, x4, x5, Λ, x6, x7, x8, x9⟩ := id hX
  obtain ⟨z1, z2, z3, z4, z5⟩ := id hO
  have hB : isB 25 := Or.inl rfl
  have oB := obB hG hB
  have aB := arB hG hB
  have g0 := (hG.2.2.1 25 hB).1
  have o0 := obn hG (r := 0) (c := 9) (by decide +kernel)
  have o18 := obn hG (r := 18) (c := 4) (by decide +kernel)
  have g00 : _ = ((18 : Nat) : Int) := grn hG (k := 0) (j := 0) (by decide)
  have g18 : _ = ((25 : Nat) : Int) := grn hG (k := 18) (j := 0) (by decide)
  have o60 := obn hG (r := 60) (c := 8) (by decide +kernel)
  have g05 : _ = ((60 : Nat) : Int) := grn hG (k := 0) (j := 5) (by decide)
  have o9 := obn hG (r := 9) (c := 0) (by decide +kernel)
  have g06 : _ = ((9 : Nat) : Int) := grn hG (k := 0) (j := 6) (by decide)
  have g181 : _ = ((19 : Nat) : Int) := grn hG (k := 18) (j := 1) (by decide)
  have g182 : _ = ((21 : Nat) : Int) := grn hG (k := 18) (j := 2) (by decide)
  have g183 : _ = ((23 : Nat) : Int) := grn hG (k := 18) (j := 3) (by decide)
  have iT1 : isT 19 5 := (snT snX).1
  have iT2 : isT 21 10 := (snT snX).2.1
  have iT3 : isT 23 8 := (snT snX).2.2.1
  obtain ⟨oT1, -, -⟩ := obT hG iT1
  obtain ⟨oT2, -, -⟩ := obT hG iT2
  obtain ⟨oT3, -, -⟩ := obT hG iT3
  refine g_ild f_X9_isPlanRow_0 rfl ?_
  refine g_tab f_X9_isPlanRow_1 (by omega) (fun hk => ?_) (casC (fun hk => ?_) (casC (fun hk => ?_) (casC (fun hk => ?_) (casC (fun hk => ?_) casN))))
  · refine g_const f_X9_isPlanRow_59 ?_
    refine g_retz f_X9_isPlanRow_60 rfl (Or.inl rfl) ?_ (Nat.zero_le _) (Nat.zero_le _)
    have n0 : w ≠ 0 := hk (0, 32) (by simp)
    have n1 : w ≠ 1 := hk (1, 34) (by simp)
    have n2 : w ≠ 2 := hk (2, 34) (by simp)
    have n3 : w ≠ 3 := hk (3, 39) (by simp)
    rw [if_neg (by intro h; unfold planOK at h; omega)]
    exact ⟨rfl, rfl, rfl⟩
  · refine g_const f_X9_isPlanRow_32 ?_
    refine g_retz f_X9_isPlanRow_33 rfl (Or.inr rfl) ?_ (Nat.zero_le _) (Nat.zero_le _)
    rw [if_pos (by unfold planOK; omega)]
    exact ⟨rfl, rfl, rfl⟩
  · refine g_ild f_X9_isPlanRow_34 rfl ?_
    refine g_cs1 hγ (c_isPlace n (by omega)) f_X9_isPlanRow_35 mo_X9_isPlace mt_X9_isPlace rfl (Nat.le_of_ble_eq_true rfl) ⟨by decide, by decide⟩ ⟨Nat.le_refl _, Nat.le_refl _⟩ (fun x S' M' hq9 => ?_)
    obtain ⟨hx, q1, q2⟩ := hq9
    obtain rfl := q1.symm
    obtain rfl := q2.symm
    by_cases hn : 0 ≤ n ∧ n ≤ 11
    · rw [if_pos hn] at hx
      subst hx
      refine g_retz f_X9_isPlanRow_38 rfl (by first | exact Or.inl rfl | exact Or.inr rfl) ?_ (Nat.zero_le _) (Nat.zero_le _)
      rw [if_pos (by unfold planOK; omega)]
      exact ⟨rfl, rfl, rfl⟩
    · rw [if_neg hn] at hx
      subst hx
      refine g_retz f_X9_isPlanRow_38 rfl (by first | exact Or.inl rfl | exact Or.inr rfl) ?_ (Nat.zero_le _) (Nat.zero_le _)
      rw [if_neg (by intro h; unfold planOK at h; omega)]
      exact ⟨rfl, rfl, rfl⟩
  · refine g_ild f_X9_isPlanRow_34 rfl ?_
    refine g_cs1 hγ (c_isPlace n (by omega)) f_X9_isPlanRow_35 mo_X9_isPlace mt_X9_isPlace rfl (Nat.le_of_ble_eq_true rfl) ⟨by decide, by decide⟩ ⟨Nat.le_refl _, Nat.le_refl _⟩ (fun x S' M' hq9 => ?_)
    obtain ⟨hx, q1, q2⟩ := hq9
    obtain rfl := q1.symm
    obtain rfl := q2.symm
    by_cases hn : 0 ≤ n ∧ n ≤ 11
    · rw [if_pos hn] at hx
      subst hx
      refine g_retz f_X9_isPlanRow_38 rfl (by first | exact Or.inl rfl | exact Or.inr rfl) ?_ (Nat.zero_le _) (Nat.zero_le _)
      rw [if_pos (by unfold planOK; omega)]
      exact ⟨rfl, rfl, rfl⟩
    · rw [if_neg hn] at hx
      subst hx
      refine g_retz f_X9_isPlanRow_38 rfl (by first | exact Or.inl rfl | exact Or.inr rfl) ?_ (Nat.zero_le _) (Nat.zero_le _)
      rw [if_neg (by intro h; unfold planOK at h; omega)]
      exact ⟨rfl, rfl, rfl⟩
  · refine g_alv f_X9_isPlanRow_39 rfl ?_
    refine g_getR f_X9_isPlanRow_40 (by assumption) (by assumption) ?_
    refine g_getR f_X9_isPlanRow_43 (by assumption) (by assumption) ?_
    refine g_ild f_X9_isPlanRow_46 rfl ?_
    refine g_cv3 hγ (c_person hG hB hX hO n (by omega)) f_X9_isPlanRow_47 mo_X5_person mv_X5_person (by assumption) rfl rfl (Nat.le_of_ble_eq_true rfl) ⟨by decide, by decide⟩ ⟨Nat.le_refl _, Nat.le_refl _⟩ (fun x S' M' hq2 => ?_)
    obtain ⟨hq2, q1, q2⟩ := hq2
    obtain rfl := q1.symm
    obtain rfl := q2.symm
    rcases hq2 with ⟨p2, hp2, hpe, rfl⟩ | ⟨hnp, rfl⟩
    · rw [rv_nat]
      subst hpe
      have hp6 : p2 < 6 := by omega
      have oP := obP (p := p2) hG hB hp6
      have aP := arP (p := p2) hG hB hp6
      have gP := ((hG.2.2.1 25 hB).2 p2 hp6).2
      obtain ⟨r1, r2, r3, r4, r5, r6⟩ := id (x4 p2 hp2)
      obtain ⟨b1, b2, b3, b4, b5, b6⟩ := id (z4 p2 hp2)
      have hin := pe_in (B := 25) hp6
      have hip : inP s (p2 : Int) := ⟨by omega, by show (p2 : Int) < (zc (wz s) : Int); omega⟩
      refine g_ifnull f_X9_isPlanRow_50 rfl ?_
      refine g_const f_X9_isPlanRow_53 ?_
      refine g_goto f_X9_isPlanRow_54 ?_
      refine g_retz f_X9_isPlanRow_58 rfl (by first | exact Or.inl rfl | exact Or.inr rfl) ?_ (Nat.zero_le _) (Nat.zero_le _)
      have hi1 := hip.1
      have hi2 := hip.2
      rw [if_pos (by unfold planOK; omega)]
      exact ⟨rfl, rfl, rfl⟩
    · rw [rv_m1]
      refine g_ifnullN f_X9_isPlanRow_50 ?_
      refine g_const f_X9_isPlanRow_57 ?_
      refine g_retz f_X9_isPlanRow_58 rfl (by first | exact Or.inl rfl | exact Or.inr rfl) ?_ (Nat.zero_le _) (Nat.zero_le _)
      rw [if_neg (by intro h; unfold planOK at h; omega)]
      exact ⟨rfl, rfl, rfl⟩

set_option maxHeartbeats 4000000 in
set_option maxRecDepth 100000 in
theorem w_plan {Ω : Ow} {S : Sg} {M : Mm} {s : Wt} (hW : RepW S M s) (hO0 : okW s) (w n : Int) (hw0 : rg w) (hn0 : rg n) : Ct Ω mX9_plan 4 0 0 1 [vr Ω 0, vi w, vi n] S M (fun x S' M' => x = (a_plan s w n).1 ∧ RepW S' M' (a_plan s w n).2 ∧ mfr S S' M M') := by
  refine Ct.mk (by decide) (Nat.le_of_ble_eq_true rfl) [some (vr Ω 0), some (vi w), some (vi n)] (by intro q hq; exact hq) (fun γ hγ hz => ?_)
  obtain ⟨hG, hS1, ⟨hX, hT1, hT2, hT3⟩, hlaw, hK, ⟨Λd, hTx, hn1, hn2⟩, hTr, hTp, hmost, hN46, hN61⟩ := id hW
  obtain ⟨⟨hO, hD, hSe, hPl, hBk, hl1, hl2, hl3⟩, hOk, hlw, hOt, hOp⟩ := id hO0
  have hX : RepX S M 25 (wz s) := hX
  have hO : okZ (wz s) := hO
  have hD : zd (wz s) ≤ 9999 := hD
  obtain ⟨x1, x2, x3, x4, x5, Λ, x6, x7, x8, x9⟩ := id hX
  obtain ⟨z1, z2, z3, z4, z5⟩ := id hO
  have hB : isB 25 := Or.inl rfl
  have oB := obB hG hB
  have aB := arB hG hB
  have g0 := (hG.2.2.1 25 hB).1
  have o0 := obn hG (r := 0) (c := 9) (by decide +kernel)
  have o18 := obn hG (r := 18) (c := 4) (by decide +kernel)
  have g00 : _ = ((18 : Nat) : Int) := grn hG (k := 0) (j := 0) (by decide)
  have g18 : _ = ((25 : Nat) : Int) := grn hG (k := 18) (j := 0) (by decide)
  have o60 := obn hG (r := 60) (c := 8) (by decide +kernel)
  have g05 : _ = ((60 : Nat) : Int) := grn hG (k := 0) (j := 5) (by decide)
  have o9 := obn hG (r := 9) (c := 0) (by decide +kernel)
  have g06 : _ = ((9 : Nat) : Int) := grn hG (k := 0) (j := 6) (by decide)
  have g181 : _ = ((19 : Nat) : Int) := grn hG (k := 18) (j := 1) (by decide)
  have g182 : _ = ((21 : Nat) : Int) := grn hG (k := 18) (j := 2) (by decide)
  have g183 : _ = ((23 : Nat) : Int) := grn hG (k := 18) (j := 3) (by decide)
  have iT1 : isT 19 5 := (snT snX).1
  have iT2 : isT 21 10 := (snT snX).2.1
  have iT3 : isT 23 8 := (snT snX).2.2.1
  obtain ⟨oT1, -, -⟩ := obT hG iT1
  obtain ⟨oT2, -, -⟩ := obT hG iT2
  obtain ⟨oT3, -, -⟩ := obT hG iT3
  refine g_ild f_X9_plan_0 rfl ?_
  refine g_const f_X9_plan_1 ?_
  refine g_icmp_ne f_X9_plan_2 rfl (by omega) (by omega) (fun hm1 => ?_) (fun hm1 => ?_)
  · refine g_alv f_X9_plan_16 rfl ?_
    refine g_ild f_X9_plan_17 rfl ?_
    refine g_ild f_X9_plan_18 rfl ?_
    refine g_cv1 hγ (c_planRow hW hO0 w n hw0 hn0) f_X9_plan_19 mo_X9_isPlanRow mv_X9_isPlanRow (by assumption) rfl rfl (Nat.le_of_ble_eq_true rfl) ⟨by decide, by decide⟩ ⟨Nat.le_refl _, Nat.le_refl _⟩ (fun x S' M' hq9 => ?_)
    obtain ⟨hx, q1, q2⟩ := hq9
    obtain rfl := q1.symm
    obtain rfl := q2.symm
    by_cases hp : planOK s w n
    · rw [if_pos hp] at hx
      subst hx
      refine g_if_ne f_X9_plan_22 rfl (by omega) (fun hx => ?_) (fun hx => ?_)
      · refine g_alv f_X9_plan_27 rfl ?_
        refine g_getR f_X9_plan_28 (by assumption) (by assumption) ?_
        refine g_getR f_X9_plan_31 (by assumption) (by assumption) ?_
        refine g_ild f_X9_plan_34 rfl ?_
        refine g_ild f_X9_plan_35 rfl ?_
        refine g_const f_X9_plan_36 ?_
        refine g_cv1 hγ (c_tadd hG iT2 hT2 w n 0) f_X9_plan_37 mo_X6_add mv_X6_add (by assumption) rfl rfl (Nat.le_of_ble_eq_true rfl) ⟨by decide, by decide⟩ ⟨Nat.le_refl _, Nat.le_refl _⟩ (fun x S' M3 hq3 => ?_)
        obtain ⟨q1, hh⟩ := hq3
        obtain rfl := q1.symm
        refine g_reti f_X9_plan_40 rfl ?_ (Nat.zero_le _) (Nat.zero_le _)
        have e : a_plan s w n = (if (wn s).2.2.1.length = 10 then (-4, s) else (((wn s).2.2.1.length : Int) + 1, putPlan s ((wn s).2.2.1 ++ [(w, n, 0)]))) := (if_neg (by omega)).trans (if_neg (fun h => h hp))
        rw [e]
        rcases hh with ⟨h5, rfl, rfl⟩ | ⟨h5, rfl, hf, hR⟩
        · rw [if_pos h5]
          exact ⟨rfl, hW, mfr.rf⟩
        · rw [if_neg (Nat.ne_of_lt h5)]
          have h := hW.plan hO0 hf hR
          exact ⟨rfl, h.1, h.2⟩
      · exact absurd (by omega) hx
    · rw [if_neg hp] at hx
      subst hx
      refine g_if_ne f_X9_plan_22 rfl (by omega) (fun hx => ?_) (fun hx => ?_)
      · exact absurd hx (by omega)
      refine g_const f_X9_plan_25 ?_
      refine g_reti f_X9_plan_26 rfl ?_ (Nat.zero_le _) (Nat.zero_le _)
      have e : a_plan s w n = (-1, s) := (if_neg (by omega)).trans (if_pos hp)
      rw [e]
      exact ⟨rfl, hW, mfr.rf⟩
  · refine g_alv f_X9_plan_5 rfl ?_
    refine g_getR f_X9_plan_6 (by assumption) (by assumption) ?_
    refine g_getR f_X9_plan_9 (by assumption) (by assumption) ?_
    refine g_cv1 hγ (c_tempty hG iT2 hT2) f_X9_plan_12 mo_X6_empty mv_X6_empty (by assumption) rfl rfl (Nat.le_of_ble_eq_true rfl) ⟨by decide, by decide⟩ ⟨Nat.le_refl _, Nat.le_refl _⟩ (fun x S' M3 hq3 => ?_)
    obtain ⟨rfl, q1, hf, hR⟩ := hq3
    obtain rfl := q1.symm
    refine g_reti f_X9_plan_15 rfl ?_ (Nat.zero_le _) (Nat.zero_le _)
    have e : a_plan s w n = (0, putPlan s []) := if_pos (by omega)
    rw [e]
    have h := hW.plan hO0 hf hR
    exact ⟨rfl, h.1, h.2⟩

set_option maxHeartbeats 4000000 in
set_option maxRecDepth 100000 in
theorem w_read {Ω : Ow} {S : Sg} {M : Mm} {s : Wt} (hW : RepW S M s) (hO0 : okW s) (t i : Int) (ht : rg t) (hi : rg i) : Ct Ω mX9_read 3 0 0 2 [vr Ω 0, vi t, vi i] S M (fun x S' M' => x = a_read s t i ∧ RepW S' M' s ∧ mfr S S' M M') := by
  refine Ct.mk (by decide) (Nat.le_of_ble_eq_true rfl) [some (vr Ω 0), some (vi t), some (vi i), none] (by intro q hq; exact hq) (fun γ hγ hz => ?_)
  obtain ⟨hG, hS1, ⟨hX, hT1, hT2, hT3⟩, hlaw, hK, ⟨Λd, hTx, hn1, hn2⟩, hTr, hTp, hmost, hN46, hN61⟩ := id hW
  obtain ⟨⟨hO, hD, hSe, hPl, hBk, hl1, hl2, hl3⟩, hOk, hlw, hOt, hOp⟩ := id hO0
  have hX : RepX S M 25 (wz s) := hX
  have hO : okZ (wz s) := hO
  have hD : zd (wz s) ≤ 9999 := hD
  obtain ⟨x1, x2, x3, x4, x5, Λ, x6, x7, x8, x9⟩ := id hX
  obtain ⟨z1, z2, z3, z4, z5⟩ := id hO
  have hB : isB 25 := Or.inl rfl
  have oB := obB hG hB
  have aB := arB hG hB
  have g0 := (hG.2.2.1 25 hB).1
  have o0 := obn hG (r := 0) (c := 9) (by decide +kernel)
  have o18 := obn hG (r := 18) (c := 4) (by decide +kernel)
  have g00 : _ = ((18 : Nat) : Int) := grn hG (k := 0) (j := 0) (by decide)
  have g18 : _ = ((25 : Nat) : Int) := grn hG (k := 18) (j := 0) (by decide)
  have o60 := obn hG (r := 60) (c := 8) (by decide +kernel)
  have g05 : _ = ((60 : Nat) : Int) := grn hG (k := 0) (j := 5) (by decide)
  have o9 := obn hG (r := 9) (c := 0) (by decide +kernel)
  have g06 : _ = ((9 : Nat) : Int) := grn hG (k := 0) (j := 6) (by decide)
  have g181 : _ = ((19 : Nat) : Int) := grn hG (k := 18) (j := 1) (by decide)
  have g182 : _ = ((21 : Nat) : Int) := grn hG (k := 18) (j := 2) (by decide)
  have g183 : _ = ((23 : Nat) : Int) := grn hG (k := 18) (j := 3) (by decide)
  have iT1 : isT 19 5 := (snT snX).1
  have iT2 : isT 21 10 := (snT snX).2.1
  have iT3 : isT 23 8 := (snT snX).2.2.1
  obtain ⟨oT1, -, -⟩ := obT hG iT1
  obtain ⟨oT2, -, -⟩ := obT hG iT2
  obtain ⟨oT3, -, -⟩ := obT hG iT3
  refine g_alv f_X9_read_0 rfl ?_
  refine g_ild f_X9_read_1 rfl ?_
  refine g_cv3 hγ (c_tapeOf hG t (by omega)) f_X9_read_2 mo_X9_tapeOf mv_X9_tapeOf (by assumption) rfl rfl (Nat.le_of_ble_eq_true rfl) ⟨by decide, by decide⟩ ⟨Nat.le_refl _, Nat.le_refl _⟩ (fun x S' M' hq2 => ?_)
  obtain ⟨hq2, q1, q2⟩ := hq2
  obtain rfl := q1.symm
  obtain rfl := q2.symm
  rcases hq2 with ⟨m, hm6, hem, rfl⟩ | ⟨hnt, rfl⟩
  · rw [rv_nat]
    subst hem
    obtain ⟨oKm, aKm, gKm, -⟩ := obK hG hm6
    obtain ⟨km1, km2, km3⟩ := id (hTp m hm6)
    obtain ⟨⟨jm1, jm2⟩, jm3, jm4⟩ := id (hOp m hm6)
    have im : inN (m : Int) 5 := ⟨by omega, by omega⟩
    refine g_ast_3 f_X9_read_5 (by decide) c1i ?_
    refine g_alv f_X9_read_6 rfl ?_
    refine g_ifnull f_X9_read_7 rfl ?_
    refine g_alv f_X9_read_10 rfl ?_
    refine g_getI f_X9_read_11 (by assumption) ?_
    rw [km1]
    refine g_const f_X9_read_14 ?_
    refine g_icmp_eq f_X9_read_15 rfl (by omega) (by omega) (fun hs => ?_) (fun hs => ?_)
    · refine g_ldc2 (z := -9223372036854775808) f_X9_read_27 (ldcL (by decide) w_743) ?_
      refine g_retl f_X9_read_30 rfl ?_ (Nat.zero_le _) (Nat.zero_le _)
      have e : a_read s (m : Int) i = -9223372036854775808 := if_neg (by intro h; first | exact hnt h.1 | exact h.2.1 (by show (wp s m).1 = -1; omega) | exact hr h.2.2)
      rw [e]
      exact ⟨rfl, hW, mfr.rf⟩
    · refine g_alv f_X9_read_18 rfl ?_
      refine g_ild f_X9_read_19 rfl ?_
      refine g_const f_X9_read_20 ?_
      refine g_cv1 hγ (c_reaches hG hm6 (hTp m hm6) jm3 i 1 (by omega) (by omega)) f_X9_read_21 mo_X7_reaches mv_X7_reaches (by assumption) rfl rfl (Nat.le_of_ble_eq_true rfl) ⟨by decide, by decide⟩ ⟨Nat.le_refl _, Nat.le_refl _⟩ (fun x S' M' hq9 => ?_)
      obtain ⟨hx, q1, q2⟩ := hq9
      obtain rfl := q1.symm
      obtain rfl := q2.symm
      by_cases hr : hasK (wp s m) i 1
      · rw [if_pos hr] at hx
        subst hx
        refine g_if_ne f_X9_read_24 rfl (by omega) (fun hx => ?_) (fun hx => ?_)
        · obtain ⟨j, rfl⟩ := Int.eq_ofNat_of_zero_le hr.1
          have hj : j < 60 := by have := hr.2.2; omega
          refine g_alv f_X9_read_31 rfl ?_
          refine g_getR f_X9_read_32 (by assumption) (by assumption) ?_
          refine g_ild f_X9_read_35 rfl ?_
          refine g_lal f_X9_read_36 (by assumption) _ rfl (by omega) ?_
          rw [km3 j hj]
          refine g_retl f_X9_read_37 rfl ?_ (Nat.zero_le _) (Nat.zero_le _)
          have e : a_read s (m : Int) (j : Int) = (wp s m).2.2 j := if_pos ⟨im, by show (wp s m).1 ≠ -1; omega, hr⟩
          rw [e]
          exact ⟨rfl, hW, mfr.rf⟩
        · exact absurd (by omega) hx
      · rw [if_neg hr] at hx
        subst hx
        refine g_if_ne f_X9_read_24 rfl (by omega) (fun hx => ?_) (fun hx => ?_)
        · exact absurd hx (by omega)
        refine g_ldc2 (z := -9223372036854775808) f_X9_read_27 (ldcL (by decide) w_743) ?_
        refine g_retl f_X9_read_30 rfl ?_ (Nat.zero_le _) (Nat.zero_le _)
        have e : a_read s (m : Int) i = -9223372036854775808 := if_neg (by intro h; first | exact hnt h.1 | exact h.2.1 (by show (wp s m).1 = -1; omega) | exact hr h.2.2)
        rw [e]
        exact ⟨rfl, hW, mfr.rf⟩
  · rw [rv_m1]
    refine g_asn_3 f_X9_read_5 (by decide) c1i ?_
    refine g_aldN f_X9_read_6 rfl ?_
    refine g_ifnullN f_X9_read_7 ?_
    refine g_ldc2 (z := -9223372036854775808) f_X9_read_27 (ldcL (by decide) w_743) ?_
    refine g_retl f_X9_read_30 rfl ?_ (Nat.zero_le _) (Nat.zero_le _)
    have e : a_read s t i = -9223372036854775808 := if_neg (by intro h; first | exact hnt h.1 | exact h.2.1 (by show (wp s m).1 = -1; omega) | exact hr h.2.2)
    rw [e]
    exact ⟨rfl, hW, mfr.rf⟩

set_option maxHeartbeats 4000000 in
set_option maxRecDepth 100000 in
theorem w_item {Ω : Ow} {S : Sg} {M : Mm} {s : Wt} (hW : RepW S M s) (hO0 : okW s) (t i v : Int) (ht : rg t) (hi : rg i) (hv : rgL v) : Ct Ω mX9_item 3 0 0 1 [vr Ω 0, vi t, vi i, vl v] S M (fun x S' M' => x = (a_item s t i v).1 ∧ RepW S' M' (a_item s t i v).2 ∧ mfr S S' M M') := by
  refine Ct.mk (by decide) (Nat.le_of_ble_eq_true rfl) [some (vr Ω 0), some (vi t), some (vi i), some (vl v), none, none] (by intro q hq; exact hq) (fun γ hγ hz => ?_)
  obtain ⟨hG, hS1, ⟨hX, hT1, hT2, hT3⟩, hlaw, hK, ⟨Λd, hTx, hn1, hn2⟩, hTr, hTp, hmost, hN46, hN61⟩ := id hW
  obtain ⟨⟨hO, hD, hSe, hPl, hBk, hl1, hl2, hl3⟩, hOk, hlw, hOt, hOp⟩ := id hO0
  have hX : RepX S M 25 (wz s) := hX
  have hO : okZ (wz s) := hO
  have hD : zd (wz s) ≤ 9999 := hD
  obtain ⟨x1, x2, x3, x4, x5, Λ, x6, x7, x8, x9⟩ := id hX
  obtain ⟨z1, z2, z3, z4, z5⟩ := id hO
  have hB : isB 25 := Or.inl rfl
  have oB := obB hG hB
  have aB := arB hG hB
  have g0 := (hG.2.2.1 25 hB).1
  have o0 := obn hG (r := 0) (c := 9) (by decide +kernel)
  have o18 := obn hG (r := 18) (c := 4) (by decide +kernel)
  have g00 : _ = ((18 : Nat) : Int) := grn hG (k := 0) (j := 0) (by decide)
  have g18 : _ = ((25 : Nat) : Int) := grn hG (k := 18) (j := 0) (by decide)
  have o60 := obn hG (r := 60) (c := 8) (by decide +kernel)
  have g05 : _ = ((60 : Nat) : Int) := grn hG (k := 0) (j := 5) (by decide)
  have o9 := obn hG (r := 9) (c := 0) (by decide +kernel)
  have g06 : _ = ((9 : Nat) : Int) := grn hG (k := 0) (j := 6) (by decide)
  have g181 : _ = ((19 : Nat) : Int) := grn hG (k := 18) (j := 1) (by decide)
  have g182 : _ = ((21 : Nat) : Int) := grn hG (k := 18) (j := 2) (by decide)
  have g183 : _ = ((23 : Nat) : Int) := grn hG (k := 18) (j := 3) (by decide)
  have iT1 : isT 19 5 := (snT snX).1
  have iT2 : isT 21 10 := (snT snX).2.1
  have iT3 : isT 23 8 := (snT snX).2.2.1
  obtain ⟨oT1, -, -⟩ := obT hG iT1
  obtain ⟨oT2, -, -⟩ := obT hG iT2
  obtain ⟨oT3, -, -⟩ := obT hG iT3
  refine g_alv f_X9_item_0 rfl ?_
  refine g_ild f_X9_item_1 rfl ?_
  refine g_cv3 hγ (c_tapeOf hG t (by omega)) f_X9_item_2 mo_X9_tapeOf mv_X9_tapeOf (by assumption) rfl rfl (Nat.le_of_ble_eq_true rfl) ⟨by decide, by decide⟩ ⟨Nat.le_refl _, Nat.le_refl _⟩ (fun x S' M' hq2 => ?_)
  obtain ⟨hq2, q1, q2⟩ := hq2
  obtain rfl := q1.symm
  obtain rfl := q2.symm
  rcases hq2 with ⟨m, hm6, hem, rfl⟩ | ⟨hnt, rfl⟩
  · rw [rv_nat]
    subst hem
    obtain ⟨oKm, aKm, gKm, -⟩ := obK hG hm6
    obtain ⟨km1, km2, km3⟩ := id (hTp m hm6)
    obtain ⟨⟨jm1, jm2⟩, jm3, jm4⟩ := id (hOp m hm6)
    have im : inN (m : Int) 5 := ⟨by omega, by omega⟩
    refine g_ast_5 f_X9_item_5 (by decide) c1n ?_
    refine g_alv f_X9_item_7 rfl ?_
    refine g_ifnn f_X9_item_9 ?_
    refine g_alv f_X9_item_14 rfl ?_
    refine g_getI f_X9_item_16 (by assumption) ?_
    rw [km1]
    refine g_const f_X9_item_19 ?_
    refine g_icmp_ne f_X9_item_20 rfl (by omega) (by omega) (fun hs => ?_) (fun hs => ?_)
    · refine g_alv f_X9_item_26 rfl ?_
      refine g_ild f_X9_item_28 rfl ?_
      refine g_const f_X9_item_29 ?_
      refine g_cv1 hγ (c_reaches hG hm6 (hTp m hm6) jm3 i 1 (by omega) (by omega)) f_X9_item_30 mo_X7_reaches mv_X7_reaches (by assumption) rfl rfl (Nat.le_of_ble_eq_true rfl) ⟨by decide, by decide⟩ ⟨Nat.le_refl _, Nat.le_refl _⟩ (fun x S' M' hq9 => ?_)
      obtain ⟨hx, q1, q2⟩ := hq9
      obtain rfl := q1.symm
      obtain rfl := q2.symm
      by_cases hr : hasK (wp s m) i 1
      · rw [if_pos hr] at hx
        subst hx
        refine g_if_ne f_X9_item_33 rfl (by omega) (fun hx => ?_) (fun hx => ?_)
        · obtain ⟨j, rfl⟩ := Int.eq_ofNat_of_zero_le hr.1
          have hj : j < 60 := by have := hr.2.2; omega
          refine g_alv f_X9_item_39 rfl ?_
          refine g_getR f_X9_item_41 (by assumption) (by assumption) ?_
          refine g_ild f_X9_item_44 rfl ?_
          refine g_alv f_X9_item_45 rfl ?_
          refine g_lld f_X9_item_47 rfl ?_
          refine g_cv2 hγ (c_narrowed hG hm6 (hTp m hm6) ⟨jm1, jm2⟩ v hv) f_X9_item_48 mo_X7_narrowed mv_X7_narrowed (by assumption) rfl rfl (Nat.le_of_ble_eq_true rfl) ⟨by decide, by decide⟩ ⟨Nat.le_refl _, Nat.le_refl _⟩ (fun x S' M' hq4 => ?_)
          obtain ⟨rfl, q1, q2⟩ := hq4
          obtain rfl := q1.symm
          obtain rfl := q2.symm
          refine g_las f_X9_item_51 (by assumption) _ rfl (by omega) ?_
          refine g_const f_X9_item_52 ?_
          refine g_reti f_X9_item_53 rfl ?_ (Nat.zero_le _) (Nat.zero_le _)
          have e : a_item s (m : Int) (j : Int) v = (1, putK s m ((wp s m).1, (wp s m).2.1, fun k => if k = j then narK (wp s m).1 v else (wp s m).2.2 k)) := (if_neg (fun h => h im)).trans ((if_neg (by show ¬ (wp s m).1 = -1; omega)).trans (if_neg (fun h => h hr)))
          rw [e]
          have hT : RepK (up M (76 + 2 * m) j (narK (wp s m).1 v)) m ((wp s m).1, (wp s m).2.1, fun k => if k = j then narK (wp s m).1 v else (wp s m).2.2 k) := by
            refine ⟨by rw [up_row (by omega)]; exact km1, by rw [up_row (by omega)]; exact km2, fun k hk => ?_⟩
            by_cases h : k = j
            · subst h; rw [up_s]; show _ = (if k = k then _ else _); rw [if_pos rfl]
            · rw [up_n (by omega), km3 k hk]; show _ = (if k = j then _ else _); rw [if_neg h]
          have h := hW.tape hO0 hm6 (fun k a b => up_row b) hT
          exact ⟨rfl, h.1, h.2⟩
        · exact absurd (by omega) hx
      · rw [if_neg hr] at hx
        subst hx
        refine g_if_ne f_X9_item_33 rfl (by omega) (fun hx => ?_) (fun hx => ?_)
        · exact absurd hx (by omega)
        refine g_const f_X9_item_36 ?_
        refine g_reti f_X9_item_38 rfl ?_ (Nat.zero_le _) (Nat.zero_le _)
        have e : a_item s (m : Int) i v = (-13, s) := (if_neg (fun h => h im)).trans ((if_neg (by show ¬ (wp s m).1 = -1; omega)).trans (if_pos hr))
        rw [e]
        exact ⟨rfl, hW, mfr.rf⟩
    · refine g_const f_X9_item_23 ?_
      refine g_reti f_X9_item_25 rfl ?_ (Nat.zero_le _) (Nat.zero_le _)
      have e : a_item s (m : Int) i v = (-11, s) := (if_neg (fun h => h im)).trans (if_pos (by show (wp s m).1 = -1; omega))
      rw [e]
      exact ⟨rfl, hW, mfr.rf⟩
  · rw [rv_m1]
    refine g_asn_5 f_X9_item_5 (by decide) c1n ?_
    refine g_aldN f_X9_item_7 rfl ?_
    refine g_ifnnN f_X9_item_9 rfl ?_
    refine g_const f_X9_item_12 ?_
    refine g_reti f_X9_item_13 rfl ?_ (Nat.zero_le _) (Nat.zero_le _)
    have e : a_item s t i v = (-1, s) := if_pos hnt
    rw [e]
    exact ⟨rfl, hW, mfr.rf⟩

set_option maxHeartbeats 4000000 in
set_option maxRecDepth 100000 in
theorem w_tape {Ω : Ow} {S : Sg} {M : Mm} {s : Wt} (hW : RepW S M s) (hO0 : okW s) (t k n : Int) (ht : rg t) (hk0 : rg k) (hn : rg n) : Ct Ω mX9_tape 3 0 0 1 [vr Ω 0, vi t, vi k, vi n] S M (fun x S' M' => x = (a_tape s t k n).1 ∧ RepW S' M' (a_tape s t k n).2 ∧ mfr S S' M M') := by
  refine Ct.mk (by decide) (Nat.le_of_ble_eq_true rfl) [some (vr Ω 0), some (vi t), some (vi k), some (vi n), none] (by intro q hq; exact hq) (fun γ hγ hz => ?_)
  obtain ⟨hG, hS1, ⟨hX, hT1, hT2, hT3⟩, hlaw, hK, ⟨Λd, hTx, hn1, hn2⟩, hTr, hTp, hmost, hN46, hN61⟩ := id hW
  obtain ⟨⟨hO, hD, hSe, hPl, hBk, hl1, hl2, hl3⟩, hOk, hlw, hOt, hOp⟩ := id hO0
  have hX : RepX S M 25 (wz s) := hX
  have hO : okZ (wz s) := hO
  have hD : zd (wz s) ≤ 9999 := hD
  obtain ⟨x1, x2, x3, x4, x5, Λ, x6, x7, x8, x9⟩ := id hX
  obtain ⟨z1, z2, z3, z4, z5⟩ := id hO
  have hB : isB 25 := Or.inl rfl
  have oB := obB hG hB
  have aB := arB hG hB
  have g0 := (hG.2.2.1 25 hB).1
  have o0 := obn hG (r := 0) (c := 9) (by decide +kernel)
  have o18 := obn hG (r := 18) (c := 4) (by decide +kernel)
  have g00 : _ = ((18 : Nat) : Int) := grn hG (k := 0) (j := 0) (by decide)
  have g18 : _ = ((25 : Nat) : Int) := grn hG (k := 18) (j := 0) (by decide)
  have o60 := obn hG (r := 60) (c := 8) (by decide +kernel)
  have g05 : _ = ((60 : Nat) : Int) := grn hG (k := 0) (j := 5) (by decide)
  have o9 := obn hG (r := 9) (c := 0) (by decide +kernel)
  have g06 : _ = ((9 : Nat) : Int) := grn hG (k := 0) (j := 6) (by decide)
  have g181 : _ = ((19 : Nat) : Int) := grn hG (k := 18) (j := 1) (by decide)
  have g182 : _ = ((21 : Nat) : Int) := grn hG (k := 18) (j := 2) (by decide)
  have g183 : _ = ((23 : Nat) : Int) := grn hG (k := 18) (j := 3) (by decide)
  have iT1 : isT 19 5 := (snT snX).1
  have iT2 : isT 21 10 := (snT snX).2.1
  have iT3 : isT 23 8 := (snT snX).2.2.1
  obtain ⟨oT1, -, -⟩ := obT hG iT1
  obtain ⟨oT2, -, -⟩ := obT hG iT2
  obtain ⟨oT3, -, -⟩ := obT hG iT3
  refine g_alv f_X9_tape_0 rfl ?_
  refine g_ild f_X9_tape_1 rfl ?_
  refine g_cv3 hγ (c_tapeOf hG t (by omega)) f_X9_tape_2 mo_X9_tapeOf mv_X9_tapeOf (by assumption) rfl rfl (Nat.le_of_ble_eq_true rfl) ⟨by decide, by decide⟩ ⟨Nat.le_refl _, Nat.le_refl _⟩ (fun x S' M' hq2 => ?_)
  obtain ⟨hq2, q1, q2⟩ := hq2
  obtain rfl := q1.symm
  obtain rfl := q2.symm
  rcases hq2 with ⟨m, hm6, hem, rfl⟩ | ⟨hnt, rfl⟩
  · rw [rv_nat]
    subst hem
    obtain ⟨oKm, aKm, gKm, -⟩ := obK hG hm6
    obtain ⟨km1, km2, km3⟩ := id (hTp m hm6)
    obtain ⟨⟨jm1, jm2⟩, jm3, jm4⟩ := id (hOp m hm6)
    have im : inN (m : Int) 5 := ⟨by omega, by omega⟩
    refine g_ast_4 f_X9_tape_5 (by decide) c1i ?_
    refine g_alv f_X9_tape_7 rfl ?_
    refine g_ifnn f_X9_tape_9 ?_
    refine g_ild f_X9_tape_14 rfl ?_
    refine g_const f_X9_tape_15 ?_
    refine g_icmp_ne f_X9_tape_16 rfl (by omega) (by omega) (fun hk1 => ?_) (fun hk1 => ?_)
    · refine g_ild f_X9_tape_28 rfl ?_
      refine g_const f_X9_tape_29 ?_
      refine g_cs1 hγ (c_within k 4 (by omega) (by omega)) f_X9_tape_30 mo_X9_isWithin mt_X9_isWithin rfl (Nat.le_of_ble_eq_true rfl) ⟨by decide, by decide⟩ ⟨Nat.le_refl _, Nat.le_refl _⟩ (fun x S' M' hq9 => ?_)
      obtain ⟨hx, q1, q2⟩ := hq9
      obtain rfl := q1.symm
      obtain rfl := q2.symm
      by_cases hk4 : 0 ≤ k ∧ k ≤ 4
      · rw [if_pos hk4] at hx
        subst hx
        refine g_if_eq f_X9_tape_33 rfl (by omega) (fun hx => ?_) (fun hx => ?_)
        · exact absurd hx (by omega)
        refine g_ild f_X9_tape_36 rfl ?_
        refine g_const f_X9_tape_37 ?_
        refine g_icmp_le f_X9_tape_39 rfl (by omega) (by omega) (fun hn60 => ?_) (fun hn60 => ?_)
        · refine g_ild f_X9_tape_45 rfl ?_
          refine g_if_ge f_X9_tape_46 rfl (by omega) (fun hn0 => ?_) (fun hn0 => ?_)
          · obtain ⟨n, rfl⟩ := Int.eq_ofNat_of_zero_le (show 0 ≤ n by omega)
            refine g_alv f_X9_tape_52 rfl ?_
            refine g_ild f_X9_tape_54 rfl ?_
            refine g_ild f_X9_tape_55 rfl ?_
            refine g_cv0 hγ (c_become hG hm6 k n) f_X9_tape_56 mo_X7_become mv_X7_become (by assumption) rfl rfl (Nat.le_of_ble_eq_true rfl) ⟨by decide, by decide⟩ ⟨Nat.le_refl _, Nat.le_refl _⟩ (fun x S' M3 hq3 => ?_)
            obtain ⟨q1, hR, hf⟩ := hq3
            obtain rfl := q1.symm
            refine g_const f_X9_tape_59 ?_
            refine g_reti f_X9_tape_60 rfl ?_ (Nat.zero_le _) (Nat.zero_le _)
            have e : a_tape s (m : Int) k (n : Int) = (1, putK s m (k, n, fun _ => 0)) := (if_neg (fun h => h im)).trans ((if_neg (by omega)).trans ((if_neg (fun h => h.elim (fun g => g hk4) (fun g => by omega))).trans (if_neg (by omega))))
            rw [e]
            have h := hW.tape hO0 hm6 hf hR
            exact ⟨rfl, h.1, h.2⟩
          · refine g_const f_X9_tape_49 ?_
            refine g_reti f_X9_tape_51 rfl ?_ (Nat.zero_le _) (Nat.zero_le _)
            have e : a_tape s (m : Int) k n = (-14, s) := (if_neg (fun h => h im)).trans ((if_neg (by omega)).trans ((if_neg (fun h => h.elim (fun g => g hk4) (fun g => by omega))).trans (if_pos (by omega))))
            rw [e]
            exact ⟨rfl, hW, mfr.rf⟩
        · refine g_const f_X9_tape_42 ?_
          refine g_reti f_X9_tape_44 rfl ?_ (Nat.zero_le _) (Nat.zero_le _)
          have e : a_tape s (m : Int) k n = (-2, s) := (if_neg (fun h => h im)).trans ((if_neg (by omega)).trans (if_pos (by first | exact Or.inl hk4 | exact Or.inr (by omega))))
          rw [e]
          exact ⟨rfl, hW, mfr.rf⟩
      · rw [if_neg hk4] at hx
        subst hx
        refine g_if_eq f_X9_tape_33 rfl (by omega) (fun hx => ?_) (fun hx => ?_)
        · refine g_const f_X9_tape_42 ?_
          refine g_reti f_X9_tape_44 rfl ?_ (Nat.zero_le _) (Nat.zero_le _)
          have e : a_tape s (m : Int) k n = (-2, s) := (if_neg (fun h => h im)).trans ((if_neg (by omega)).trans (if_pos (by first | exact Or.inl hk4 | exact Or.inr (by omega))))
          rw [e]
          exact ⟨rfl, hW, mfr.rf⟩
        · exact absurd (by omega) hx
    · refine g_alv f_X9_tape_19 rfl ?_
      refine g_const f_X9_tape_21 ?_
      refine g_const f_X9_tape_22 ?_
      refine g_as (show (0 : Int) = ((0 : Nat) : Int) from rfl) ?_
      refine g_cv0 hγ (c_become hG hm6 (-1) 0) f_X9_tape_23 mo_X7_become mv_X7_become (by assumption) rfl rfl (Nat.le_of_ble_eq_true rfl) ⟨by decide, by decide⟩ ⟨Nat.le_refl _, Nat.le_refl _⟩ (fun x S' M3 hq3 => ?_)
      obtain ⟨q1, hR, hf⟩ := hq3
      obtain rfl := q1.symm
      refine g_const f_X9_tape_26 ?_
      refine g_reti f_X9_tape_27 rfl ?_ (Nat.zero_le _) (Nat.zero_le _)
      have e : a_tape s (m : Int) k n = (1, putK s m (-1, 0, fun _ => 0)) := (if_neg (fun h => h im)).trans (if_pos (by omega))
      rw [e]
      have h := hW.tape hO0 hm6 hf hR
      exact ⟨rfl, h.1, h.2⟩
  · rw [rv_m1]
    refine g_asn_4 f_X9_tape_5 (by decide) c1i ?_
    refine g_aldN f_X9_tape_7 rfl ?_
    refine g_ifnnN f_X9_tape_9 rfl ?_
    refine g_const f_X9_tape_12 ?_
    refine g_reti f_X9_tape_13 rfl ?_ (Nat.zero_le _) (Nat.zero_le _)
    have e : a_tape s t k n = (-1, s) := if_pos hnt
    rw [e]
    exact ⟨rfl, hW, mfr.rf⟩
