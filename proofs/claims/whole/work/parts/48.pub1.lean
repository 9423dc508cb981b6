/-! contracts: the calls -/
set_option maxHeartbeats 4000000 in
set_option maxRecDepth 100000 in
theorem w_walls {Ω : Ow} {S : Sg} {M : Mm} {s : Wt} (hW : RepW S M s) (hO0 : okW s) (n : Int) (hn : rg n) : Ct Ω mX9_walls 2 0 0 1 [vr Ω 0, vi n] S M (fun x S' M' => x = (a_walls s n).1 ∧ RepW S' M' (a_walls s n).2 ∧ mfr S S' M M') := by
  refine Ct.mk (by decide) (Nat.le_of_ble_eq_true rfl) [some (vr Ω 0), some (vi n), none] (by intro q hq; exact hq) (fun γ hγ hz => ?_)
  obtain ⟨hG, hS1, ⟨hX, hT1, hT2, hT3⟩, hlaw, hK, ⟨Λd, hTx, hn1, hn2⟩, hTr, hTp, hmost, hN46, hN61⟩ := id hW
  obtain ⟨⟨hO, hD, hSe, hPl, hBk, hl1, hl2, hl3⟩, hOk, hlw, hOt, hOp⟩ := id hO0
  have hX : RepX S M 25 (wz s) := hX
  have hO : okZ (wz s) := hO
  have hD : zd (wz s) ≤ 9999 := hD
  obtain ⟨x1, x2, x3, x4, x5, Λ, x6, x7, x8, x9⟩ := id hX
  obtain ⟨z1, z2, z3, z4, z5⟩ := id hO
  have hB : isB 25 := Or.inl rfl
  have oB := obB hG hB
  have aB := arB hG hB
  have g0 := (hG.2.2.1 25 hB).1
  have o0 := obn hG (r := 0) (c := 9) (by decide +kernel)
  have o18 := obn hG (r := 18) (c := 4) (by decide +kernel)
  have g00 : _ = ((18 : Nat) : Int) := grn hG (k := 0) (j := 0) (by decide)
  have g18 : _ = ((25 : Nat) : Int) := grn hG (k := 18) (j := 0) (by decide)
  have o60 := obn hG (r := 60) (c := 8) (by decide +kernel)
  have g05 : _ = ((60 : Nat) : Int) := grn hG (k := 0) (j := 5) (by decide)
  refine g_ild f_X9_walls_0 rfl ?_
  refine g_const f_X9_walls_1 ?_
  refine g_cs1 hγ (c_within n 4095 (by omega) (by omega)) f_X9_walls_4 mo_X9_isWithin mt_X9_isWithin rfl (Nat.le_of_ble_eq_true rfl) ⟨by decide, by decide⟩ ⟨Nat.le_refl _, Nat.le_refl _⟩ (fun x S' M' hq9 => ?_)
  obtain ⟨hx, q1, q2⟩ := hq9
  obtain rfl := q1.symm
  obtain rfl := q2.symm
  by_cases hw : 0 ≤ n ∧ n ≤ 4095
  · rw [if_pos hw] at hx
    subst hx
    refine g_if_ne f_X9_walls_7 rfl (by omega) (fun hx => ?_) (fun hx => ?_)
    · obtain ⟨m, rfl⟩ := Int.eq_ofNat_of_zero_le hw.1
      refine g_alv f_X9_walls_13 rfl ?_
      refine g_getR f_X9_walls_14 (by assumption) (by assumption) ?_
      refine g_getR f_X9_walls_17 (by assumption) (by assumption) ?_
      refine g_getI f_X9_walls_20 (by assumption) ?_
      rw [x2]
      refine g_ist_2 f_X9_walls_23 (by decide) c1i ?_
      refine g_alv f_X9_walls_24 rfl ?_
      refine g_getR f_X9_walls_25 (by assumption) (by assumption) ?_
      refine g_getR f_X9_walls_28 (by assumption) (by assumption) ?_
      refine g_ild f_X9_walls_31 rfl ?_
      refine g_putI f_X9_walls_32 rfl (by assumption) ?_
      refine g_ild f_X9_walls_35 rfl ?_
      refine g_reti f_X9_walls_36 rfl ?_ (Nat.zero_le _) (Nat.zero_le _)
      have e : a_walls s (m : Int) = ((zw (wz s) : Int), putZ s (zc (wz s), m, zd (wz s), zP (wz s), zL (wz s))) := if_pos hw
      rw [e]
      have h := hW.st hO0 (blk_upM ⟨by decide, by decide⟩) (RepX_walls hX hB z1 m)
      exact ⟨rfl, h.1, h.2⟩
    · exact absurd (by omega) hx
  · rw [if_neg hw] at hx
    subst hx
    refine g_if_ne f_X9_walls_7 rfl (by omega) (fun hx => ?_) (fun hx => ?_)
    · exact absurd hx (by omega)
    refine g_const f_X9_walls_10 ?_
    refine g_reti f_X9_walls_12 rfl ?_ (Nat.zero_le _) (Nat.zero_le _)
    have e : a_walls s n = (-2, s) := if_neg hw
    rw [e]
    exact ⟨rfl, hW, mfr.rf⟩

set_option maxHeartbeats 4000000 in
set_option maxRecDepth 100000 in
theorem w_leave {Ω : Ow} {S : Sg} {M : Mm} {s : Wt} (hW : RepW S M s) (hO0 : okW s) (p b : Int) (hp : rg p) (hb : b = 0 ∨ b = 1) : Ct Ω mX9_leave 2 0 0 1 [vr Ω 0, vi p, vi b] S M (fun x S' M' => x = (a_leave s p b).1 ∧ RepW S' M' (a_leave s p b).2 ∧ mfr S S' M M') := by
  refine Ct.mk (by decide) (Nat.le_of_ble_eq_true rfl) [some (vr Ω 0), some (vi p), some (vi b), none, none] (by intro q hq; exact hq) (fun γ hγ hz => ?_)
  obtain ⟨hG, hS1, ⟨hX, hT1, hT2, hT3⟩, hlaw, hK, ⟨Λd, hTx, hn1, hn2⟩, hTr, hTp, hmost, hN46, hN61⟩ := id hW
  obtain ⟨⟨hO, hD, hSe, hPl, hBk, hl1, hl2, hl3⟩, hOk, hlw, hOt, hOp⟩ := id hO0
  have hX : RepX S M 25 (wz s) := hX
  have hO : okZ (wz s) := hO
  have hD : zd (wz s) ≤ 9999 := hD
  obtain ⟨x1, x2, x3, x4, x5, Λ, x6, x7, x8, x9⟩ := id hX
  obtain ⟨z1, z2, z3, z4, z5⟩ := id hO
  have hB : isB 25 := Or.inl rfl
  have oB := obB hG hB
  have aB := arB hG hB
  have g0 := (hG.2.2.1 25 hB).1
  have o0 := obn hG (r := 0) (c := 9) (by decide +kernel)
  have o18 := obn hG (r := 18) (c := 4) (by decide +kernel)
  have g00 : _ = ((18 : Nat) : Int) := grn hG (k := 0) (j := 0) (by decide)
  have g18 : _ = ((25 : Nat) : Int) := grn hG (k := 18) (j := 0) (by decide)
  have o60 := obn hG (r := 60) (c := 8) (by decide +kernel)
  have g05 : _ = ((60 : Nat) : Int) := grn hG (k := 0) (j := 5) (by decide)
  refine g_alv f_X9_leave_0 rfl ?_
  refine g_getR f_X9_leave_1 (by assumption) (by assumption) ?_
  refine g_getR f_X9_leave_4 (by assumption) (by assumption) ?_
  refine g_ild f_X9_leave_7 rfl ?_
  refine g_cv3 hγ (c_person hG hB hX hO p (by omega)) f_X9_leave_8 mo_X5_person mv_X5_person (by assumption) rfl rfl (Nat.le_of_ble_eq_true rfl) ⟨by decide, by decide⟩ ⟨Nat.le_refl _, Nat.le_refl _⟩ (fun x S' M' hq2 => ?_)
  obtain ⟨hq2, q1, q2⟩ := hq2
  obtain rfl := q1.symm
  obtain rfl := q2.symm
  rcases hq2 with ⟨p2, hp2, hpe, rfl⟩ | ⟨hnp, rfl⟩
  · rw [rv_nat]
    subst hpe
    have hp6 : p2 < 6 := by omega
    have oP := obP (p := p2) hG hB hp6
    have aP := arP (p := p2) hG hB hp6
    have gP := ((hG.2.2.1 25 hB).2 p2 hp6).2
    obtain ⟨r1, r2, r3, r4, r5, r6⟩ := id (x4 p2 hp2)
    obtain ⟨b1, b2, b3, b4, b5, b6⟩ := id (z4 p2 hp2)
    have hin := pe_in (B := 25) hp6
    have hip : inP s (p2 : Int) := ⟨by omega, by show (p2 : Int) < (zc (wz s) : Int); omega⟩
    refine g_ast_3 f_X9_leave_11 (by decide) c1i ?_
    refine g_alv f_X9_leave_12 rfl ?_
    refine g_ifnn f_X9_leave_13 ?_
    refine g_alv f_X9_leave_18 rfl ?_
    refine g_getI f_X9_leave_19 (by assumption) ?_
    rw [r5]
    refine g_ist_4 f_X9_leave_22 (by decide) c1v ?_
    refine g_alv f_X9_leave_24 rfl ?_
    refine g_ild f_X9_leave_25 rfl ?_
    refine g_putZ f_X9_leave_26 rfl hb (by assumption) ?_
    refine g_ild f_X9_leave_29 rfl ?_
    refine g_if_eq f_X9_leave_31 rfl (by have hb5 : zP (wz s) p2 4 ≤ 1 := b5; omega) (fun hg => ?_) (fun hg => ?_)
    · refine g_const f_X9_leave_38 ?_
      refine g_reti f_X9_leave_39 rfl ?_ (Nat.zero_le _) (Nat.zero_le _)
      have hb5 : zP (wz s) p2 4 ≤ 1 := b5
      have e : a_leave s (p2 : Int) b = ((zP (wz s) p2 4 : Int), putZ s (setP (wz s) p2 4 b.toNat)) := if_pos hip
      rw [e]
      have h := hW.st hO0 (blk_upM ⟨hin.1, hin.2.1⟩) (RepX_setP (a := 4) (v := b.toNat) hX hB z1 hp6 (by decide))
      rw [show ((b.toNat : Nat) : Int) = b by omega] at h
      refine ⟨?_, h.1, h.2⟩
      show _ = (zP (wz s) p2 4 : Int)
      omega
    · refine g_const f_X9_leave_34 ?_
      refine g_goto f_X9_leave_35 ?_
      refine g_reti f_X9_leave_39 rfl ?_ (Nat.zero_le _) (Nat.zero_le _)
      have hb5 : zP (wz s) p2 4 ≤ 1 := b5
      have e : a_leave s (p2 : Int) b = ((zP (wz s) p2 4 : Int), putZ s (setP (wz s) p2 4 b.toNat)) := if_pos hip
      rw [e]
      have h := hW.st hO0 (blk_upM ⟨hin.1, hin.2.1⟩) (RepX_setP (a := 4) (v := b.toNat) hX hB z1 hp6 (by decide))
      rw [show ((b.toNat : Nat) : Int) = b by omega] at h
      refine ⟨?_, h.1, h.2⟩
      show _ = (zP (wz s) p2 4 : Int)
      omega
  · rw [rv_m1]
    refine g_asn_3 f_X9_leave_11 (by decide) c1i ?_
    refine g_aldN f_X9_leave_12 rfl ?_
    refine g_ifnnN f_X9_leave_13 rfl ?_
    refine g_const f_X9_leave_16 ?_
    refine g_reti f_X9_leave_17 rfl ?_ (Nat.zero_le _) (Nat.zero_le _)
    have e : a_leave s p b = (-1, s) := if_neg hnp
    rw [e]
    exact ⟨rfl, hW, mfr.rf⟩

set_option maxHeartbeats 4000000 in
set_option maxRecDepth 100000 in
theorem w_deed {Ω : Ow} {S : Sg} {M : Mm} {s : Wt} (hW : RepW S M s) (hO0 : okW s) (c : Int) (hc0 : rg c) : Ct Ω mX9_deed 9 0 0 1 [vr Ω 0, vi c] S M (fun x S' M' => x = (a_deed s c).1 ∧ RepW S' M' (a_deed s c).2 ∧ mfr S S' M M') := by
  refine Ct.mk (by decide) (Nat.le_of_ble_eq_true rfl) [some (vr Ω 0), some (vi c)] (by intro q hq; exact hq) (fun γ hγ hz => ?_)
  obtain ⟨hG, hS1, ⟨hX, hT1, hT2, hT3⟩, hlaw, hK, ⟨Λd, hTx, hn1, hn2⟩, hTr, hTp, hmost, hN46, hN61⟩ := id hW
  obtain ⟨⟨hO, hD, hSe, hPl, hBk, hl1, hl2, hl3⟩, hOk, hlw, hOt, hOp⟩ := id hO0
  have hX : RepX S M 25 (wz s) := hX
  have hO : okZ (wz s) := hO
  have hD : zd (wz s) ≤ 9999 := hD
  obtain ⟨x1, x2, x3, x4, x5, Λ, x6, x7, x8, x9⟩ := id hX
  obtain ⟨z1, z2, z3, z4, z5⟩ := id hO
  have hB : isB 25 := Or.inl rfl
  have oB := obB hG hB
  have aB := arB hG hB
  have g0 := (hG.2.2.1 25 hB).1
  have o0 := obn hG (r := 0) (c := 9) (by decide +kernel)
  have o18 := obn hG (r := 18) (c := 4) (by decide +kernel)
  have g00 : _ = ((18 : Nat) : Int) := grn hG (k := 0) (j := 0) (by decide)
  have g18 : _ = ((25 : Nat) : Int) := grn hG (k := 18) (j := 0) (by decide)
  have o60 := obn hG (r := 60) (c := 8) (by decide +kernel)
  have g05 : _ = ((60 : Nat) : Int) := grn hG (k := 0) (j := 5) (by decide)
  refine g_ild f_X9_deed_0 rfl ?_
  refine g_cs1 hγ (c_isPlace c (by omega)) f_X9_deed_1 mo_X9_isPlace mt_X9_isPlace rfl (Nat.le_of_ble_eq_true rfl) ⟨by decide, by decide⟩ ⟨Nat.le_refl _, Nat.le_refl _⟩ (fun x S' M' hq9 => ?_)
  obtain ⟨hx, q1, q2⟩ := hq9
  obtain rfl := q1.symm
  obtain rfl := q2.symm
  by_cases hc : 0 ≤ c ∧ c ≤ 11
  · rw [if_pos hc] at hx
    subst hx
    refine g_if_ne f_X9_deed_4 rfl (by omega) (fun hx => ?_) (fun hx => ?_)
    · obtain ⟨t, rfl⟩ := Int.eq_ofNat_of_zero_le hc.1
      refine g_alv f_X9_deed_9 rfl ?_
      refine g_getR f_X9_deed_10 (by assumption) (by assumption) ?_
      refine g_getR f_X9_deed_13 (by assumption) (by assumption) ?_
      refine g_ild f_X9_deed_16 rfl ?_
      refine g_cv1 hγ (c_collect hG hB hX hO (t := t) (by omega)) f_X9_deed_17 mo_X5_collect mv_X5_collect (by assumption) rfl rfl (Nat.le_of_ble_eq_true rfl) ⟨by decide, by decide⟩ ⟨Nat.le_refl _, Nat.le_refl _⟩ (fun x S' M3 hq3 => ?_)
      obtain ⟨rfl, q1, hbk, hX3⟩ := hq3
      obtain rfl := q1.symm
      refine g_reti f_X9_deed_20 rfl ?_ (Nat.zero_le _) (Nat.zero_le _)
      have e : a_deed s (t : Int) = ((paidN (wz s) (seersN (wz s) t) : Int), putZ s (paidZ (wz s) (seersN (wz s) t))) := if_pos hc
      rw [e]
      have h := hW.st hO0 hbk hX3
      exact ⟨rfl, h.1, h.2⟩
    · exact absurd (by omega) hx
  · rw [if_neg hc] at hx
    subst hx
    refine g_if_ne f_X9_deed_4 rfl (by omega) (fun hx => ?_) (fun hx => ?_)
    · exact absurd hx (by omega)
    refine g_const f_X9_deed_7 ?_
    refine g_reti f_X9_deed_8 rfl ?_ (Nat.zero_le _) (Nat.zero_le _)
    have e : a_deed s c = (-1, s) := if_neg hc
    rw [e]
    exact ⟨rfl, hW, mfr.rf⟩

set_option maxHeartbeats 4000000 in
set_option maxRecDepth 100000 in
theorem w_pass {Ω : Ow} {S : Sg} {M : Mm} {s : Wt} (hW : RepW S M s) (hO0 : okW s) (n : Int) (hn : rg n) : Ct Ω mX9_pass 4 0 0 1 [vr Ω 0, vi n] S M (fun x S' M' => x = (a_pass s n).1 ∧ RepW S' M' (a_pass s n).2 ∧ mfr S S' M M') := by
  refine Ct.mk (by decide) (Nat.le_of_ble_eq_true rfl) [some (vr Ω 0), some (vi n)] (by intro q hq; exact hq) (fun γ hγ hz => ?_)
  obtain ⟨hG, hS1, ⟨hX, hT1, hT2, hT3⟩, hlaw, hK, ⟨Λd, hTx, hn1, hn2⟩, hTr, hTp, hmost, hN46, hN61⟩ := id hW
  obtain ⟨⟨hO, hD, hSe, hPl, hBk, hl1, hl2, hl3⟩, hOk, hlw, hOt, hOp⟩ := id hO0
  have hX : RepX S M 25 (wz s) := hX
  have hO : okZ (wz s) := hO
  have hD : zd (wz s) ≤ 9999 := hD
  obtain ⟨x1, x2, x3, x4, x5, Λ, x6, x7, x8, x9⟩ := id hX
  obtain ⟨z1, z2, z3, z4, z5⟩ := id hO
  have hB : isB 25 := Or.inl rfl
  have oB := obB hG hB
  have aB := arB hG hB
  have g0 := (hG.2.2.1 25 hB).1
  have o0 := obn hG (r := 0) (c := 9) (by decide +kernel)
  have o18 := obn hG (r := 18) (c := 4) (by decide +kernel)
  have g00 : _ = ((18 : Nat) : Int) := grn hG (k := 0) (j := 0) (by decide)
  have g18 : _ = ((25 : Nat) : Int) := grn hG (k := 18) (j := 0) (by decide)
  have o60 := obn hG (r := 60) (c := 8) (by decide +kernel)
  have g05 : _ = ((60 : Nat) : Int) := grn hG (k := 0) (j := 5) (by decide)
  refine g_ild f_X9_pass_0 rfl ?_
  refine g_const f_X9_pass_1 ?_
  refine g_cs1 hγ (c_within n 60 (by omega) (by omega)) f_X9_pass_3 mo_X9_isWithin mt_X9_isWithin rfl (Nat.le_of_ble_eq_true rfl) ⟨by decide, by decide⟩ ⟨Nat.le_refl _, Nat.le_refl _⟩ (fun x S' M' hq9 => ?_)
  obtain ⟨hx, q1, q2⟩ := hq9
  obtain rfl := q1.symm
  obtain rfl := q2.symm
  by_cases hw : 0 ≤ n ∧ n ≤ 60
  · rw [if_pos hw] at hx
    subst hx
    refine g_if_ne f_X9_pass_6 rfl (by omega) (fun hx => ?_) (fun hx => ?_)
    · obtain ⟨m, rfl⟩ := Int.eq_ofNat_of_zero_le hw.1
      refine g_alv f_X9_pass_12 rfl ?_
      refine g_getR f_X9_pass_13 (by assumption) (by assumption) ?_
      refine g_getR f_X9_pass_16 (by assumption) (by assumption) ?_
      refine g_getI f_X9_pass_19 (by assumption) ?_
      rw [x3]
      refine g_ild f_X9_pass_22 rfl ?_
      refine g_iadd f_X9_pass_23 ?_
      refine g_const f_X9_pass_24 ?_
      refine g_icmp_le f_X9_pass_27 rfl (by omega) (by omega) (fun hd => ?_) (fun hd => ?_)
      · refine g_alv f_X9_pass_33 rfl ?_
        refine g_getR f_X9_pass_34 (by assumption) (by assumption) ?_
        refine g_getR f_X9_pass_37 (by assumption) (by assumption) ?_
        refine g_ild f_X9_pass_40 rfl ?_
        refine g_cv0 hγ (c_goOn hG hB hX hO (d := m) (by omega)) f_X9_pass_41 mo_X5_goOn mv_X5_goOn (by assumption) rfl rfl (Nat.le_of_ble_eq_true rfl) ⟨by decide, by decide⟩ ⟨Nat.le_refl _, Nat.le_refl _⟩ (fun x S' M3 hq3 => ?_)
        obtain ⟨q1, hbk, hX3⟩ := hq3
        obtain rfl := q1.symm
        have y3 : M3 25 3 = ((zd (wz s) + m : Nat) : Int) := hX3.2.2.1
        refine g_alv f_X9_pass_44 rfl ?_
        refine g_getR f_X9_pass_45 (by assumption) (by assumption) ?_
        refine g_getR f_X9_pass_48 (by assumption) (by assumption) ?_
        refine g_getI f_X9_pass_51 (by assumption) ?_
        rw [y3]
        refine g_reti f_X9_pass_54 rfl ?_ (Nat.zero_le _) (Nat.zero_le _)
        have e : a_pass s (m : Int) = ((zd (wz s) : Int) + m, putZ s (walkZ (wz s) m)) := (if_neg (fun h => h hw)).trans (if_neg (by show ¬ ((zd (wz s) : Int) + m > 9999); omega))
        rw [e]
        have h := hW.st hO0 hbk hX3
        exact ⟨by show ((zd (wz s) + m : Nat) : Int) = (zd (wz s) : Int) + m; omega, h.1, h.2⟩
      · refine g_const f_X9_pass_30 ?_
        refine g_reti f_X9_pass_32 rfl ?_ (Nat.zero_le _) (Nat.zero_le _)
        have e : a_pass s (m : Int) = (-3, s) := (if_neg (fun h => h hw)).trans (if_pos (by show (zd (wz s) : Int) + m > 9999; omega))
        rw [e]
        exact ⟨rfl, hW, mfr.rf⟩
    · exact absurd (by omega) hx
  · rw [if_neg hw] at hx
    subst hx
    refine g_if_ne f_X9_pass_6 rfl (by omega) (fun hx => ?_) (fun hx => ?_)
    · exact absurd hx (by omega)
    refine g_const f_X9_pass_9 ?_
    refine g_reti f_X9_pass_11 rfl ?_ (Nat.zero_le _) (Nat.zero_le _)
    have e : a_pass s n = (-2, s) := if_pos hw
    rw [e]
    exact ⟨rfl, hW, mfr.rf⟩

set_option maxHeartbeats 4000000 in
set_option maxRecDepth 100000 in
theorem w_one {Ω : Ow} {S : Sg} {M : Mm} {s : Wt} (hW : RepW S M s) (hO0 : okW s) (k v c : Int) (hk0 : rg k) (hv0 : rg v) (hc0 : rg c) : Ct Ω mX9_one 3 0 0 1 [vr Ω 0, vi k, vi v, vi c] S M (fun x S' M' => x = (a_one s k v c).1 ∧ RepW S' M' (a_one s k v c).2 ∧ mfr S S' M M') := by
  refine Ct.mk (by decide) (Nat.le_of_ble_eq_true rfl) [some (vr Ω 0), some (vi k), some (vi v), some (vi c)] (by intro q hq; exact hq) (fun γ hγ hz => ?_)
  obtain ⟨hG, hS1, ⟨hX, hT1, hT2, hT3⟩, hlaw, hK, ⟨Λd, hTx, hn1, hn2⟩, hTr, hTp, hmost, hN46, hN61⟩ := id hW
  obtain ⟨⟨hO, hD, hSe, hPl, hBk, hl1, hl2, hl3⟩, hOk, hlw, hOt, hOp⟩ := id hO0
  have hX : RepX S M 25 (wz s) := hX
  have hO : okZ (wz s) := hO
  have hD : zd (wz s) ≤ 9999 := hD
  obtain ⟨x1, x2, x3, x4, x5, Λ, x6, x7, x8, x9⟩ := id hX
  obtain ⟨z1, z2, z3, z4, z5⟩ := id hO
  have hB : isB 25 := Or.inl rfl
  have oB := obB hG hB
  have aB := arB hG hB
  have g0 := (hG.2.2.1 25 hB).1
  have o0 := obn hG (r := 0) (c := 9) (by decide +kernel)
  have o18 := obn hG (r := 18) (c := 4) (by decide +kernel)
  have g00 : _ = ((18 : Nat) : Int) := grn hG (k := 0) (j := 0) (by decide)
  have g18 : _ = ((25 : Nat) : Int) := grn hG (k := 18) (j := 0) (by decide)
  have o60 := obn hG (r := 60) (c := 8) (by decide +kernel)
  have g05 : _ = ((60 : Nat) : Int) := grn hG (k := 0) (j := 5) (by decide)
  refine g_ild f_X9_one_0 rfl ?_
  refine g_const f_X9_one_1 ?_
  refine g_cs1 hγ (c_within k 6 (by omega) (by omega)) f_X9_one_3 mo_X9_isWithin mt_X9_isWithin rfl (Nat.le_of_ble_eq_true rfl) ⟨by decide, by decide⟩ ⟨Nat.le_refl _, Nat.le_refl _⟩ (fun x S' M' hq9 => ?_)
  obtain ⟨hx, q1, q2⟩ := hq9
  obtain rfl := q1.symm
  obtain rfl := q2.symm
  by_cases hk : 0 ≤ k ∧ k ≤ 6
  · rw [if_pos hk] at hx
    subst hx
    refine g_if_eq f_X9_one_6 rfl (by omega) (fun hx => ?_) (fun hx => ?_)
    · exact absurd hx (by omega)
    refine g_ild f_X9_one_9 rfl ?_
    refine g_cs1 hγ (c_isPlace c (by omega)) f_X9_one_10 mo_X9_isPlace mt_X9_isPlace rfl (Nat.le_of_ble_eq_true rfl) ⟨by decide, by decide⟩ ⟨Nat.le_refl _, Nat.le_refl _⟩ (fun x S' M' hq9 => ?_)
    obtain ⟨hx, q1, q2⟩ := hq9
    obtain rfl := q1.symm
    obtain rfl := q2.symm
    by_cases hc : 0 ≤ c ∧ c ≤ 11
    · rw [if_pos hc] at hx
      subst hx
      refine g_if_ne f_X9_one_13 rfl (by omega) (fun hx => ?_) (fun hx => ?_)
      · refine g_ild f_X9_one_18 rfl ?_
        refine g_const f_X9_one_19 ?_
        refine g_cs1 hγ (c_within v 9 (by omega) (by omega)) f_X9_one_21 mo_X9_isWithin mt_X9_isWithin rfl (Nat.le_of_ble_eq_true rfl) ⟨by decide, by decide⟩ ⟨Nat.le_refl _, Nat.le_refl _⟩ (fun x S' M' hq9 => ?_)
        obtain ⟨hx, q1, q2⟩ := hq9
        obtain rfl := q1.symm
        obtain rfl := q2.symm
        by_cases hv : 0 ≤ v ∧ v ≤ 9
        · rw [if_pos hv] at hx
          subst hx
          refine g_if_ne f_X9_one_24 rfl (by omega) (fun hx => ?_) (fun hx => ?_)
          · obtain ⟨k, rfl⟩ := Int.eq_ofNat_of_zero_le hk.1
            obtain ⟨v, rfl⟩ := Int.eq_ofNat_of_zero_le hv.1
            obtain ⟨c, rfl⟩ := Int.eq_ofNat_of_zero_le hc.1
            refine g_alv f_X9_one_30 rfl ?_
            refine g_getR f_X9_one_31 (by assumption) (by assumption) ?_
            refine g_getR f_X9_one_34 (by assumption) (by assumption) ?_
            refine g_ild f_X9_one_37 rfl ?_
            refine g_ild f_X9_one_38 rfl ?_
            refine g_ild f_X9_one_39 rfl ?_
            refine g_cv1 hγ (c_welcome hG hB hX hO k v c) f_X9_one_40 mo_X5_welcome mv_X5_welcome (by assumption) rfl rfl (Nat.le_of_ble_eq_true rfl) ⟨by decide, by decide⟩ ⟨Nat.le_refl _, Nat.le_refl _⟩ (fun x S' M3 hq3 => ?_)
            obtain ⟨q1, hh⟩ := hq3
            obtain rfl := q1.symm
            refine g_reti f_X9_one_43 rfl ?_ (Nat.zero_le _) (Nat.zero_le _)
            rcases hh with ⟨h6, rfl, rfl⟩ | ⟨h6, rfl, hbk, hX3⟩
            · have e : a_one s (k : Int) v c = (-4, s) := (if_neg (fun h => h ⟨hk, hc⟩)).trans ((if_neg (fun h => h hv)).trans (if_pos h6))
              rw [e]
              exact ⟨rfl, hW, mfr.rf⟩
            · have e : a_one s (k : Int) v c = ((zc (wz s) : Int), putZ s (joinZ (wz s) k v c)) := (if_neg (fun h => h ⟨hk, hc⟩)).trans ((if_neg (fun h => h hv)).trans (if_neg (Nat.ne_of_lt h6)))
              rw [e]
              have h := hW.st hO0 hbk hX3
              exact ⟨rfl, h.1, h.2⟩
          · exact absurd (by omega) hx
        · rw [if_neg hv] at hx
          subst hx
          refine g_if_ne f_X9_one_24 rfl (by omega) (fun hx => ?_) (fun hx => ?_)
          · exact absurd hx (by omega)
          refine g_const f_X9_one_27 ?_
          refine g_reti f_X9_one_29 rfl ?_ (Nat.zero_le _) (Nat.zero_le _)
          have e : a_one s k v c = (-2, s) := (if_neg (fun h => h ⟨hk, hc⟩)).trans (if_pos hv)
          rw [e]
          exact ⟨rfl, hW, mfr.rf⟩
      · exact absurd (by omega) hx
    · rw [if_neg hc] at hx
      subst hx
      refine g_if_ne f_X9_one_13 rfl (by omega) (fun hx => ?_) (fun hx => ?_)
      · exact absurd hx (by omega)
      refine g_const f_X9_one_16 ?_
      refine g_reti f_X9_one_17 rfl ?_ (Nat.zero_le _) (Nat.zero_le _)
      have e : a_one s k v c = (-1, s) := if_pos (by intro h; first | exact hk h.1 | exact hc h.2)
      rw [e]
      exact ⟨rfl, hW, mfr.rf⟩
  · rw [if_neg hk] at hx
    subst hx
    refine g_if_eq f_X9_one_6 rfl (by omega) (fun hx => ?_) (fun hx => ?_)
    · refine g_const f_X9_one_16 ?_
      refine g_reti f_X9_one_17 rfl ?_ (Nat.zero_le _) (Nat.zero_le _)
      have e : a_one s k v c = (-1, s) := if_pos (by intro h; first | exact hk h.1 | exact hc h.2)
      rw [e]
      exact ⟨rfl, hW, mfr.rf⟩
    · exact absurd (by omega) hx

set_option maxHeartbeats 4000000 in
set_option maxRecDepth 100000 in
theorem w_share {Ω : Ow} {S : Sg} {M : Mm} {s : Wt} (hW : RepW S M s) (hO0 : okW s) (p c : Int) (hp : rg p) (hc0 : rg c) : Ct Ω mX9_share 8 0 0 1 [vr Ω 0, vi p, vi c] S M (fun x S' M' => x = a_share s p c ∧ RepW S' M' s ∧ mfr S S' M M') := by
  refine Ct.mk (by decide) (Nat.le_of_ble_eq_true rfl) [some (vr Ω 0), some (vi p), some (vi c), none] (by intro q hq; exact hq) (fun γ hγ hz => ?_)
  obtain ⟨hG, hS1, ⟨hX, hT1, hT2, hT3⟩, hlaw, hK, ⟨Λd, hTx, hn1, hn2⟩, hTr, hTp, hmost, hN46, hN61⟩ := id hW
  obtain ⟨⟨hO, hD, hSe, hPl, hBk, hl1, hl2, hl3⟩, hOk, hlw, hOt, hOp⟩ := id hO0
  have hX : RepX S M 25 (wz s) := hX
  have hO : okZ (wz s) := hO
  have hD : zd (wz s) ≤ 9999 := hD
  obtain ⟨x1, x2, x3, x4, x5, Λ, x6, x7, x8, x9⟩ := id hX
  obtain ⟨z1, z2, z3, z4, z5⟩ := id hO
  have hB : isB 25 := Or.inl rfl
  have oB := obB hG hB
  have aB := arB hG hB
  have g0 := (hG.2.2.1 25 hB).1
  have o0 := obn hG (r := 0) (c := 9) (by decide +kernel)
  have o18 := obn hG (r := 18) (c := 4) (by decide +kernel)
  have g00 : _ = ((18 : Nat) : Int) := grn hG (k := 0) (j := 0) (by decide)
  have g18 : _ = ((25 : Nat) : Int) := grn hG (k := 18) (j := 0) (by decide)
  have o60 := obn hG (r := 60) (c := 8) (by decide +kernel)
  have g05 : _ = ((60 : Nat) : Int) := grn hG (k := 0) (j := 5) (by decide)
  refine g_alv f_X9_share_0 rfl ?_
  refine g_getR f_X9_share_1 (by assumption) (by assumption) ?_
  refine g_getR f_X9_share_4 (by assumption) (by assumption) ?_
  refine g_ild f_X9_share_7 rfl ?_
  refine g_cv3 hγ (c_person hG hB hX hO p (by omega)) f_X9_share_8 mo_X5_person mv_X5_person (by assumption) rfl rfl (Nat.le_of_ble_eq_true rfl) ⟨by decide, by decide⟩ ⟨Nat.le_refl _, Nat.le_refl _⟩ (fun x S' M' hq2 => ?_)
  obtain ⟨hq2, q1, q2⟩ := hq2
  obtain rfl := q1.symm
  obtain rfl := q2.symm
  rcases hq2 with ⟨p2, hp2, hpe, rfl⟩ | ⟨hnp, rfl⟩
  · rw [rv_nat]
    subst hpe
    have hp6 : p2 < 6 := by omega
    have oP := obP (p := p2) hG hB hp6
    have aP := arP (p := p2) hG hB hp6
    have gP := ((hG.2.2.1 25 hB).2 p2 hp6).2
    obtain ⟨r1, r2, r3, r4, r5, r6⟩ := id (x4 p2 hp2)
    obtain ⟨b1, b2, b3, b4, b5, b6⟩ := id (z4 p2 hp2)
    have hin := pe_in (B := 25) hp6
    have hip : inP s (p2 : Int) := ⟨by omega, by show (p2 : Int) < (zc (wz s) : Int); omega⟩
    refine g_ast_3 f_X9_share_11 (by decide) c1i ?_
    refine g_alv f_X9_share_12 rfl ?_
    refine g_ifnull f_X9_share_13 rfl ?_
    refine g_ild f_X9_share_16 rfl ?_
    refine g_cs1 hγ (c_isPlace c (by omega)) f_X9_share_17 mo_X9_isPlace mt_X9_isPlace rfl (Nat.le_of_ble_eq_true rfl) ⟨by decide, by decide⟩ ⟨Nat.le_refl _, Nat.le_refl _⟩ (fun x S' M' hq9 => ?_)
    obtain ⟨hx, q1, q2⟩ := hq9
    obtain rfl := q1.symm
    obtain rfl := q2.symm
    by_cases hc : 0 ≤ c ∧ c ≤ 11
    · rw [if_pos hc] at hx
      subst hx
      refine g_if_ne f_X9_share_20 rfl (by omega) (fun hx => ?_) (fun hx => ?_)
      · obtain ⟨t, rfl⟩ := Int.eq_ofNat_of_zero_le hc.1
        refine g_alv f_X9_share_25 rfl ?_
        refine g_getR f_X9_share_26 (by assumption) (by assumption) ?_
        refine g_getR f_X9_share_29 (by assumption) (by assumption) ?_
        refine g_alv f_X9_share_32 rfl ?_
        refine g_alv f_X9_share_33 rfl ?_
        refine g_getR f_X9_share_34 (by assumption) (by assumption) ?_
        refine g_getR f_X9_share_37 (by assumption) (by assumption) ?_
        refine g_ild f_X9_share_40 rfl ?_
        refine g_cv1 hγ (c_seers hG hB hX hO (t := t) (by omega)) f_X9_share_41 mo_X5_seers mv_X5_seers (by assumption) rfl rfl (Nat.le_of_ble_eq_true rfl) ⟨by decide, by decide⟩ ⟨Nat.le_refl _, Nat.le_refl _⟩ (fun x S' M3 hq3 => ?_)
        obtain ⟨rfl, q1, l1, l2, l3⟩ := hq3
        obtain rfl := q1.symm
        have hsl := seersN_lt (t := t) hO
        refine g_cv1 hγ (c_paidByOne hG hB l3 hO hp2 hsl) f_X9_share_44 mo_X5_paidByOne mv_X5_paidByOne (by assumption) rfl rfl (Nat.le_of_ble_eq_true rfl) ⟨by decide, by decide⟩ ⟨Nat.le_refl _, Nat.le_refl _⟩ (fun x S' M4 hq4 => ?_)
        obtain ⟨rfl, q1, q2⟩ := hq4
        obtain rfl := q1.symm
        obtain rfl := q2.symm
        refine g_reti f_X9_share_47 rfl ?_ (Nat.zero_le _) (Nat.zero_le _)
        have e : a_share s (p2 : Int) (t : Int) = (payN (zP (wz s) p2) (fineL (zL (wz s))) (seersN (wz s) t) p2 : Int) := if_pos ⟨hip, hc⟩
        rw [e]
        have h := hW.st hO0 l1.blk l3
        exact ⟨rfl, h.1, h.2⟩
      · exact absurd (by omega) hx
    · rw [if_neg hc] at hx
      subst hx
      refine g_if_ne f_X9_share_20 rfl (by omega) (fun hx => ?_) (fun hx => ?_)
      · exact absurd hx (by omega)
      refine g_const f_X9_share_23 ?_
      refine g_reti f_X9_share_24 rfl ?_ (Nat.zero_le _) (Nat.zero_le _)
      have e : a_share s (p2 : Int) c = -1 := if_neg (by intro h; exact hc h.2)
      rw [e]
      exact ⟨rfl, hW, mfr.rf⟩
  · rw [rv_m1]
    refine g_asn_3 f_X9_share_11 (by decide) c1i ?_
    refine g_aldN f_X9_share_12 rfl ?_
    refine g_ifnullN f_X9_share_13 ?_
    refine g_const f_X9_share_23 ?_
    refine g_reti f_X9_share_24 rfl ?_ (Nat.zero_le _) (Nat.zero_le _)
    have e : a_share s p c = -1 := if_neg (by intro h; exact hnp h.1)
    rw [e]
    exact ⟨rfl, hW, mfr.rf⟩
