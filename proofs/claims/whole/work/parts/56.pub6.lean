/-! contracts: the calls: can, shift -/
set_option maxHeartbeats 4000000 in
set_option maxRecDepth 100000 in
theorem w_can {Ω : Ow} {S : Sg} {M : Mm} {s : Wt} (hW : RepW S M s) (hO0 : okW s) (p w : Int) (hp : rg p) (hw0 : rg w) : Ct Ω mX9_can 8 0 0 1 [vr Ω 0, vi p, vi w] S M (fun x S' M' => x = a_can s p w ∧ RepW S' M' s ∧ mfr S S' M M') := by
  refine Ct.mk (by decide) (Nat.le_of_ble_eq_true rfl) [some (vr Ω 0), some (vi p), some (vi w), none, none, none, none] (by intro q hq; exact hq) (fun γ hγ hz => ?_)
  obtain ⟨hG, hS1, ⟨hX, hT1, hT2, hT3⟩, hlaw, hK, ⟨Λd, hTx, hn1, hn2⟩, hTr, hTp, hmost, hN46, hN61⟩ := id hW
  obtain ⟨⟨hO, hD, hSe, hPl, hBk, hl1, hl2, hl3⟩, hOk, hlw, hOt, hOp⟩ := id hO0
  have hX : RepX S M 25 (wz s) := hX
  have hO : okZ (wz s) := hO
  have hD : zd (wz s) ≤ 9999 := hD
  obtain ⟨x1, x2, x3, x4, x5, Λ, x6, x7, x8, x9⟩ := id hX
  obtain ⟨z1, z2, z3, z4, z5⟩ := id hO
  have hB : isB 25 := Or.inl rfl
  have oB := obB hG hB
  have aB := arB hG hB
  have g0 := (hG.2.2.1 25 hB).1
  have o0 := obn hG (r := 0) (c := 9) (by decide +kernel)
  have o18 := obn hG (r := 18) (c := 4) (by decide +kernel)
  have g00 : _ = ((18 : Nat) : Int) := grn hG (k := 0) (j := 0) (by decide)
  have g18 : _ = ((25 : Nat) : Int) := grn hG (k := 18) (j := 0) (by decide)
  have o60 := obn hG (r := 60) (c := 8) (by decide +kernel)
  have g05 : _ = ((60 : Nat) : Int) := grn hG (k := 0) (j := 5) (by decide)
  have o9 := obn hG (r := 9) (c := 0) (by decide +kernel)
  have g06 : _ = ((9 : Nat) : Int) := grn hG (k := 0) (j := 6) (by decide)
  have g181 : _ = ((19 : Nat) : Int) := grn hG (k := 18) (j := 1) (by decide)
  have g182 : _ = ((21 : Nat) : Int) := grn hG (k := 18) (j := 2) (by decide)
  have g183 : _ = ((23 : Nat) : Int) := grn hG (k := 18) (j := 3) (by decide)
  have iT1 : isT 19 5 := (snT snX).1
  have iT2 : isT 21 10 := (snT snX).2.1
  have iT3 : isT 23 8 := (snT snX).2.2.1
  obtain ⟨oT1, -, -⟩ := obT hG iT1
  obtain ⟨oT2, -, -⟩ := obT hG iT2
  obtain ⟨oT3, -, -⟩ := obT hG iT3
  refine g_alv f_X9_can_0 rfl ?_
  refine g_getR f_X9_can_1 (by assumption) (by assumption) ?_
  refine g_getR f_X9_can_4 (by assumption) (by assumption) ?_
  refine g_ild f_X9_can_7 rfl ?_
  refine g_cv3 hγ (c_person hG hB hX hO p (by omega)) f_X9_can_8 mo_X5_person mv_X5_person (by assumption) rfl rfl (Nat.le_of_ble_eq_true rfl) ⟨by decide, by decide⟩ ⟨Nat.le_refl _, Nat.le_refl _⟩ (fun x S' M' hq2 => ?_)
  obtain ⟨hq2, q1, q2⟩ := hq2
  obtain rfl := q1.symm
  obtain rfl := q2.symm
  rcases hq2 with ⟨p2, hp2, hpe, rfl⟩ | ⟨hnp, rfl⟩
  · rw [rv_nat]
    subst hpe
    have hp6 : p2 < 6 := by omega
    have oP := obP (p := p2) hG hB hp6
    have aP := arP (p := p2) hG hB hp6
    have gP := ((hG.2.2.1 25 hB).2 p2 hp6).2
    obtain ⟨r1, r2, r3, r4, r5, r6⟩ := id (x4 p2 hp2)
    obtain ⟨b1, b2, b3, b4, b5, b6⟩ := id (z4 p2 hp2)
    have hin := pe_in (B := 25) hp6
    have hip : inP s (p2 : Int) := ⟨by omega, by show (p2 : Int) < (zc (wz s) : Int); omega⟩
    refine g_ast_3 f_X9_can_11 (by decide) c1i ?_
    refine g_alv f_X9_can_12 rfl ?_
    refine g_ifnull f_X9_can_13 rfl ?_
    refine g_ild f_X9_can_16 rfl ?_
    refine g_const f_X9_can_17 ?_
    refine g_cs1 hγ (c_within w 1 (by omega) (by omega)) f_X9_can_18 mo_X9_isWithin mt_X9_isWithin rfl (Nat.le_of_ble_eq_true rfl) ⟨by decide, by decide⟩ ⟨Nat.le_refl _, Nat.le_refl _⟩ (fun x S' M' hq9 => ?_)
    obtain ⟨hx, q1, q2⟩ := hq9
    obtain rfl := q1.symm
    obtain rfl := q2.symm
    by_cases hw : 0 ≤ w ∧ w ≤ 1
    · rw [if_pos hw] at hx
      subst hx
      refine g_if_ne f_X9_can_21 rfl (by omega) (fun hx => ?_) (fun hx => ?_)
      · have t0 := triF.rf (M := M) hG hN61
        have loop : ∀ (m k : Nat) (S1 : Sg) (M1 : Mm), m + k = 10 → triF S S1 M M1 → Go γ Ω mX9_can (Zm γ Ω 1 0 0 (fun x S' M' => x = a_can s (p2 : Int) w ∧ RepW S' M' s ∧ mfr S S' M M')) 0 0 S1 M1 37 [some (vr Ω 0), some (vi (p2 : Int)), some (vi w), some (vr Ω (pe 25 p2)), some (vi (canN (fun v => agreeN (wz s) p2 (zP (wz s) p2 2) v (wn s).2.1) k).1), some (vi ((canN (fun v => agreeN (wz s) p2 (zP (wz s) p2 2) v (wn s).2.1) k).2 : Int)), some (vi (9 - (k : Int)))] [] := by
          intro m
          induction m with
          | zero =>
            intro k S1 M1 hk t1
            have hn : k = 10 := by omega
            subst hn
            have hr1 := canN_rg (fun v => agreeN (wz s) p2 (zP (wz s) p2 2) v (wn s).2.1) 10
            have hr2 := canN_le (fun v => agreeN (wz s) p2 (zP (wz s) p2 2) v (wn s).2.1) 10
            refine g_ild f_X9_can_37 rfl ?_
            refine g_if_lt f_X9_can_39 rfl (by omega) (fun hc => ?_) (fun hc => ?_)
            · refine g_ild f_X9_can_86 rfl ?_
              refine g_if_ne f_X9_can_87 rfl (by omega) (fun h0 => ?_) (fun h0 => ?_)
              · refine g_ild f_X9_can_95 rfl ?_
                refine g_reti f_X9_can_97 rfl ?_ (Nat.zero_le _) (Nat.zero_le _)
                have h := hW.tri hO0 t1
                have e : a_can s (p2 : Int) w = (canN (fun v => agreeN (wz s) p2 (zP (wz s) p2 2) v (wn s).2.1) 10).1 := (if_neg (fun h => h ⟨hip, hw⟩)).trans (if_neg (by omega))
                rw [e]
                exact ⟨rfl, h.1, h.2⟩
              · refine g_ild f_X9_can_90 rfl ?_
                refine g_goto f_X9_can_92 ?_
                refine g_reti f_X9_can_97 rfl ?_ (Nat.zero_le _) (Nat.zero_le _)
                have h := hW.tri hO0 t1
                have e : a_can s (p2 : Int) w = ((canN (fun v => agreeN (wz s) p2 (zP (wz s) p2 2) v (wn s).2.1) 10).2 : Int) := (if_neg (fun h => h ⟨hip, hw⟩)).trans (if_pos (by omega))
                rw [e]
                exact ⟨rfl, h.1, h.2⟩
            · exact absurd (by omega) hc
          | succ m ih =>
            intro k S1 M1 hk t1
            have hn : k < 10 := by omega
            have hX1 := t1.xx hB (by decide) hX z1
            obtain ⟨y1, y2, y3, y4, -⟩ := id hX1
            obtain ⟨s1, s2, s3, -⟩ := id (y4 p2 hp2)
            have o0a := obn t1.2.2.1 (r := 0) (c := 9) (by decide +kernel)
            have o18a := obn t1.2.2.1 (r := 18) (c := 4) (by decide +kernel)
            have o60a := obn t1.2.2.1 (r := 60) (c := 8) (by decide +kernel)
            have p00a : _ = ((18 : Nat) : Int) := grn t1.2.2.1 (k := 0) (j := 0) (by decide)
            have p18a : _ = ((25 : Nat) : Int) := grn t1.2.2.1 (k := 18) (j := 0) (by decide)
            have p05a : _ = ((60 : Nat) : Int) := grn t1.2.2.1 (k := 0) (j := 5) (by decide)
            have p181a : _ = ((19 : Nat) : Int) := grn t1.2.2.1 (k := 18) (j := 1) (by decide)
            have oPPa := obP (p := p2) t1.2.2.1 hB hp6
            refine g_ild f_X9_can_37 rfl ?_
            refine g_if_lt f_X9_can_39 rfl (by omega) (fun hc => ?_) (fun hc => ?_)
            · exact absurd hc (by omega)
            refine g_alv f_X9_can_42 rfl ?_
            refine g_getR f_X9_can_43 (by assumption) (by assumption) ?_
            refine g_ild f_X9_can_46 rfl ?_
            refine g_alv f_X9_can_47 rfl ?_
            refine g_getI f_X9_can_48 (by assumption) ?_
            rw [s3]
            refine g_ild f_X9_can_51 rfl ?_
            refine g_as (show (9 - (k : Int)) = ((9 - k : Nat) : Int) by omega) ?_
            refine g_alv f_X9_can_53 rfl ?_
            refine g_getR f_X9_can_54 (by assumption) (by assumption) ?_
            refine g_getR f_X9_can_57 (by assumption) (by assumption) ?_
            refine g_alv f_X9_can_60 rfl ?_
            refine g_getR f_X9_can_61 (by assumption) (by assumption) ?_
            refine g_getR f_X9_can_64 (by assumption) (by assumption) ?_
            refine g_cv1 hγ (c_agrees t1.2.2.1 hB (by decide) hX1 hO hD t1.2.2.2.2 iT1 (t1.tt iT1 hT1) hSe (p := p2) (t := zP (wz s) p2 2) (v := 9 - k) hp2 (by omega) (by omega)) f_X9_can_67 mo_X8_agrees mv_X8_agrees (by assumption) rfl rfl (Nat.le_of_ble_eq_true rfl) ⟨by decide, by decide⟩ ⟨Nat.le_refl _, Nat.le_refl _⟩ (fun x S3 M3 hq7 => ?_)
            obtain ⟨rfl, q7⟩ := hq7
            have t3 : triF S S3 M M3 := t1.then q7
            rcases Bool.eq_false_or_eq_true (agreeN (wz s) p2 (zP (wz s) p2 2) (9 - k) (wn s).2.1) with hb | hb
            · rw [hb]
              refine g_as (show ((true.toNat : Nat) : Int) = 1 from rfl) ?_
              refine g_if_eq f_X9_can_70 rfl (by omega) (fun hx => ?_) (fun hx => ?_)
              · exact absurd hx (by omega)
              refine g_ild f_X9_can_73 rfl ?_
              refine g_as (show (9 - (k : Int)) = ((9 - k : Nat) : Int) by omega) ?_
              refine g_ist_4 f_X9_can_75 (by decide) c1v ?_
              refine g_inc_5 f_X9_can_77 (by decide) c1i ?_
              refine g_inc_6 f_X9_can_80 (by decide) c1i ?_
              refine g_goto f_X9_can_83 ?_
              have h9 := ih (k + 1) S3 M3 (by omega) t3
              rw [show (9 - ((k + 1 : Nat) : Int)) = 9 - (k : Int) + -1 by omega] at h9
              rw [canN, if_pos hb] at h9
              exact h9
            · rw [hb]
              refine g_as (show ((false.toNat : Nat) : Int) = 0 from rfl) ?_
              refine g_if_eq f_X9_can_70 rfl (by omega) (fun hx => ?_) (fun hx => ?_)
              · refine g_inc_6 f_X9_can_80 (by decide) c1i ?_
                refine g_goto f_X9_can_83 ?_
                have h9 := ih (k + 1) S3 M3 (by omega) t3
                rw [show (9 - ((k + 1 : Nat) : Int)) = 9 - (k : Int) + -1 by omega] at h9
                rw [canN, if_neg (by rw [hb]; decide)] at h9
                exact h9
              · exact absurd (by omega) hx
        refine g_const f_X9_can_26 ?_
        refine g_ist_4 f_X9_can_28 (by decide) c1v ?_
        refine g_const f_X9_can_30 ?_
        refine g_ist_5 f_X9_can_31 (by decide) c1i ?_
        refine g_const f_X9_can_33 ?_
        refine g_ist_6 f_X9_can_35 (by decide) c1i ?_
        exact loop 10 0 S M rfl t0
      · exact absurd (by omega) hx
    · rw [if_neg hw] at hx
      subst hx
      refine g_if_ne f_X9_can_21 rfl (by omega) (fun hx => ?_) (fun hx => ?_)
      · exact absurd hx (by omega)
      refine g_const f_X9_can_24 ?_
      refine g_reti f_X9_can_25 rfl ?_ (Nat.zero_le _) (Nat.zero_le _)
      have e : a_can s (p2 : Int) w = -1 := if_pos (by intro h; exact hw h.2)
      rw [e]
      exact ⟨rfl, hW, mfr.rf⟩
  · rw [rv_m1]
    refine g_asn_3 f_X9_can_11 (by decide) c1i ?_
    refine g_aldN f_X9_can_12 rfl ?_
    refine g_ifnullN f_X9_can_13 ?_
    refine g_const f_X9_can_24 ?_
    refine g_reti f_X9_can_25 rfl ?_ (Nat.zero_le _) (Nat.zero_le _)
    have e : a_can s p w = -1 := if_pos (by intro h; exact hnp h.1)
    rw [e]
    exact ⟨rfl, hW, mfr.rf⟩

set_option maxHeartbeats 4000000 in
set_option maxRecDepth 100000 in
theorem w_shift {Ω : Ow} {S : Sg} {M : Mm} {s : Wt} (hW : RepW S M s) (hO0 : okW s) (t i u j n : Int) (ht : rg t) (hi : rg i) (hu : rg u) (hj : rg j) (hn : rg n) : Ct Ω mX9_shift 3 0 0 1 [vr Ω 0, vi t, vi i, vi u, vi j, vi n] S M (fun x S' M' => x = (a_shift s t i u j n).1 ∧ RepW S' M' (a_shift s t i u j n).2 ∧ mfr S S' M M') := by
  refine Ct.mk (by decide) (Nat.le_of_ble_eq_true rfl) [some (vr Ω 0), some (vi t), some (vi i), some (vi u), some (vi j), some (vi n), none, none] (by intro q hq; exact hq) (fun γ hγ hz => ?_)
  obtain ⟨hG, hS1, ⟨hX, hT1, hT2, hT3⟩, hlaw, hK, ⟨Λd, hTx, hn1, hn2⟩, hTr, hTp, hmost, hN46, hN61⟩ := id hW
  obtain ⟨⟨hO, hD, hSe, hPl, hBk, hl1, hl2, hl3⟩, hOk, hlw, hOt, hOp⟩ := id hO0
  have hX : RepX S M 25 (wz s) := hX
  have hO : okZ (wz s) := hO
  have hD : zd (wz s) ≤ 9999 := hD
  obtain ⟨x1, x2, x3, x4, x5, Λ, x6, x7, x8, x9⟩ := id hX
  obtain ⟨z1, z2, z3, z4, z5⟩ := id hO
  have hB : isB 25 := Or.inl rfl
  have oB := obB hG hB
  have aB := arB hG hB
  have g0 := (hG.2.2.1 25 hB).1
  have o0 := obn hG (r := 0) (c := 9) (by decide +kernel)
  have o18 := obn hG (r := 18) (c := 4) (by decide +kernel)
  have g00 : _ = ((18 : Nat) : Int) := grn hG (k := 0) (j := 0) (by decide)
  have g18 : _ = ((25 : Nat) : Int) := grn hG (k := 18) (j := 0) (by decide)
  have o60 := obn hG (r := 60) (c := 8) (by decide +kernel)
  have g05 : _ = ((60 : Nat) : Int) := grn hG (k := 0) (j := 5) (by decide)
  have o9 := obn hG (r := 9) (c := 0) (by decide +kernel)
  have g06 : _ = ((9 : Nat) : Int) := grn hG (k := 0) (j := 6) (by decide)
  have g181 : _ = ((19 : Nat) : Int) := grn hG (k := 18) (j := 1) (by decide)
  have g182 : _ = ((21 : Nat) : Int) := grn hG (k := 18) (j := 2) (by decide)
  have g183 : _ = ((23 : Nat) : Int) := grn hG (k := 18) (j := 3) (by decide)
  have iT1 : isT 19 5 := (snT snX).1
  have iT2 : isT 21 10 := (snT snX).2.1
  have iT3 : isT 23 8 := (snT snX).2.2.1
  obtain ⟨oT1, -, -⟩ := obT hG iT1
  obtain ⟨oT2, -, -⟩ := obT hG iT2
  obtain ⟨oT3, -, -⟩ := obT hG iT3
  refine g_alv f_X9_shift_0 rfl ?_
  refine g_ild f_X9_shift_1 rfl ?_
  refine g_cv3 hγ (c_tapeOf hG t (by omega)) f_X9_shift_2 mo_X9_tapeOf mv_X9_tapeOf (by assumption) rfl rfl (Nat.le_of_ble_eq_true rfl) ⟨by decide, by decide⟩ ⟨Nat.le_refl _, Nat.le_refl _⟩ (fun x S' M' hq2 => ?_)
  obtain ⟨hq2, q1, q2⟩ := hq2
  obtain rfl := q1.symm
  obtain rfl := q2.symm
  rcases hq2 with ⟨m, hm6, hem, rfl⟩ | ⟨hnt, rfl⟩
  · rw [rv_nat]
    subst hem
    obtain ⟨oKm, aKm, gKm, -⟩ := obK hG hm6
    obtain ⟨km1, km2, km3⟩ := id (hTp m hm6)
    obtain ⟨⟨jm1, jm2⟩, jm3, jm4⟩ := id (hOp m hm6)
    have im : inN (m : Int) 5 := ⟨by omega, by omega⟩
    refine g_ast_6 f_X9_shift_5 (by decide) c1i ?_
    refine g_alv f_X9_shift_7 rfl ?_
    refine g_ild f_X9_shift_8 rfl ?_
    refine g_cv3 hγ (c_tapeOf hG u (by omega)) f_X9_shift_9 mo_X9_tapeOf mv_X9_tapeOf (by assumption) rfl rfl (Nat.le_of_ble_eq_true rfl) ⟨by decide, by decide⟩ ⟨Nat.le_refl _, Nat.le_refl _⟩ (fun x S' M' hq2 => ?_)
    obtain ⟨hq2, q1, q2⟩ := hq2
    obtain rfl := q1.symm
    obtain rfl := q2.symm
    rcases hq2 with ⟨l, hl6, hel, rfl⟩ | ⟨hnu, rfl⟩
    · rw [rv_nat]
      subst hel
      obtain ⟨oKl, aKl, gKl, -⟩ := obK hG hl6
      obtain ⟨kl1, kl2, kl3⟩ := id (hTp l hl6)
      obtain ⟨⟨jl1, jl2⟩, jl3, jl4⟩ := id (hOp l hl6)
      have il : inN (l : Int) 5 := ⟨by omega, by omega⟩
      refine g_ast_7 f_X9_shift_12 (by decide) c1v ?_
      refine g_alv f_X9_shift_14 rfl ?_
      refine g_ifnull f_X9_shift_16 rfl ?_
      refine g_alv f_X9_shift_19 rfl ?_
      refine g_ifnn f_X9_shift_21 ?_
      refine g_alv f_X9_shift_26 rfl ?_
      refine g_getI f_X9_shift_28 (by assumption) ?_
      rw [km1]
      refine g_const f_X9_shift_31 ?_
      refine g_icmp_eq f_X9_shift_32 rfl (by omega) (by omega) (fun hs1 => ?_) (fun hs1 => ?_)
      · refine g_const f_X9_shift_44 ?_
        refine g_reti f_X9_shift_46 rfl ?_ (Nat.zero_le _) (Nat.zero_le _)
        have e : a_shift s (m : Int) i (l : Int) j n = (-11, s) := (if_neg (fun h => h ⟨im, il⟩)).trans (if_pos (by show (wp s m).1 = -1 ∨ (wp s l).1 = -1; omega))
        rw [e]
        exact ⟨rfl, hW, mfr.rf⟩
      · refine g_alv f_X9_shift_35 rfl ?_
        refine g_getI f_X9_shift_37 (by assumption) ?_
        rw [kl1]
        refine g_const f_X9_shift_40 ?_
        refine g_icmp_ne f_X9_shift_41 rfl (by omega) (by omega) (fun hs2 => ?_) (fun hs2 => ?_)
        · refine g_alv f_X9_shift_47 rfl ?_
          refine g_getI f_X9_shift_49 (by assumption) ?_
          rw [km1]
          refine g_alv f_X9_shift_52 rfl ?_
          refine g_getI f_X9_shift_54 (by assumption) ?_
          rw [kl1]
          refine g_icmp_eq f_X9_shift_57 rfl (by omega) (by omega) (fun hs3 => ?_) (fun hs3 => ?_)
          · refine g_alv f_X9_shift_63 rfl ?_
            refine g_ild f_X9_shift_65 rfl ?_
            refine g_ild f_X9_shift_66 rfl ?_
            refine g_cv1 hγ (c_reaches hG hm6 (hTp m hm6) jm3 i n (by omega) (by omega)) f_X9_shift_68 mo_X7_reaches mv_X7_reaches (by assumption) rfl rfl (Nat.le_of_ble_eq_true rfl) ⟨by decide, by decide⟩ ⟨Nat.le_refl _, Nat.le_refl _⟩ (fun x S' M' hq9 => ?_)
            obtain ⟨hx, q1, q2⟩ := hq9
            obtain rfl := q1.symm
            obtain rfl := q2.symm
            by_cases hr1 : hasK (wp s m) i n
            · rw [if_pos hr1] at hx
              subst hx
              refine g_if_eq f_X9_shift_71 rfl (by omega) (fun hx => ?_) (fun hx => ?_)
              · exact absurd hx (by omega)
              refine g_alv f_X9_shift_74 rfl ?_
              refine g_ild f_X9_shift_76 rfl ?_
              refine g_ild f_X9_shift_78 rfl ?_
              refine g_cv1 hγ (c_reaches hG hl6 (hTp l hl6) jl3 j n (by omega) (by omega)) f_X9_shift_80 mo_X7_reaches mv_X7_reaches (by assumption) rfl rfl (Nat.le_of_ble_eq_true rfl) ⟨by decide, by decide⟩ ⟨Nat.le_refl _, Nat.le_refl _⟩ (fun x S' M' hq9 => ?_)
              obtain ⟨hx, q1, q2⟩ := hq9
              obtain rfl := q1.symm
              obtain rfl := q2.symm
              by_cases hr2 : hasK (wp s l) j n
              · rw [if_pos hr2] at hx
                subst hx
                refine g_if_ne f_X9_shift_83 rfl (by omega) (fun hx => ?_) (fun hx => ?_)
                · obtain ⟨i, rfl⟩ := Int.eq_ofNat_of_zero_le hr1.1
                  obtain ⟨n, rfl⟩ := Int.eq_ofNat_of_zero_le hr1.2.1
                  obtain ⟨j, rfl⟩ := Int.eq_ofNat_of_zero_le hr2.1
                  have v1 := hr1.2.2
                  have v2 := hr2.2.2
                  refine g_alv f_X9_shift_89 rfl ?_
                  refine g_getR f_X9_shift_91 (by assumption) (by assumption) ?_
                  refine g_ild f_X9_shift_94 rfl ?_
                  refine g_alv f_X9_shift_95 rfl ?_
                  refine g_getR f_X9_shift_97 (by assumption) (by assumption) ?_
                  refine g_ild f_X9_shift_100 rfl ?_
                  refine g_ild f_X9_shift_102 rfl ?_
                  refine g_acopyL (sp := i) (dp := j) (n := n) f_X9_shift_104 (by assumption) (by assumption) (by omega) (by omega) (by rw [hγ]; exact ⟨by decide, by decide⟩) (by omega) ?_
                  refine g_ild f_X9_shift_107 rfl ?_
                  refine g_reti f_X9_shift_109 rfl ?_ (Nat.zero_le _) (Nat.zero_le _)
                  have e : a_shift s (m : Int) (i : Int) (l : Int) (j : Int) (n : Int) = ((n : Int), putK s l ((wp s l).1, (wp s l).2.1, fun k => if j ≤ k ∧ k < j + n then (wp s m).2.2 (i + (k - j)) else (wp s l).2.2 k)) := (if_neg (fun h => h ⟨im, il⟩)).trans ((if_neg (by show ¬ ((wp s m).1 = -1 ∨ (wp s l).1 = -1); omega)).trans ((if_neg (fun h => h (by show (wp s m).1 = (wp s l).1; omega))).trans (if_neg (fun h => h ⟨hr1, hr2⟩))))
                  rw [e]
                  have hT : RepK (cpM M (76 + 2 * m) i (76 + 2 * l) j n) l ((wp s l).1, (wp s l).2.1, fun k => if j ≤ k ∧ k < j + n then (wp s m).2.2 (i + (k - j)) else (wp s l).2.2 k) := by
                    refine ⟨by rw [cpM_row (by omega)]; exact kl1, by rw [cpM_row (by omega)]; exact kl2, fun k hk => ?_⟩
                    unfold cpM
                    show _ = (if j ≤ k ∧ k < j + n then _ else _)
                    by_cases h : j ≤ k ∧ k < j + n
                    · rw [if_pos ⟨rfl, h⟩, if_pos h]; exact km3 _ (by omega)
                    · rw [if_neg (fun q => h q.2), if_neg h]; exact kl3 k hk
                  have h := hW.tape hO0 hl6 (fun k a b => cpM_row b) hT
                  exact ⟨rfl, h.1, h.2⟩
                · exact absurd (by omega) hx
              · rw [if_neg hr2] at hx
                subst hx
                refine g_if_ne f_X9_shift_83 rfl (by omega) (fun hx => ?_) (fun hx => ?_)
                · exact absurd hx (by omega)
                refine g_const f_X9_shift_86 ?_
                refine g_reti f_X9_shift_88 rfl ?_ (Nat.zero_le _) (Nat.zero_le _)
                have e : a_shift s (m : Int) i (l : Int) j n = (-13, s) := (if_neg (fun h => h ⟨im, il⟩)).trans ((if_neg (by show ¬ ((wp s m).1 = -1 ∨ (wp s l).1 = -1); omega)).trans ((if_neg (fun h => h (by show (wp s m).1 = (wp s l).1; omega))).trans (if_pos (by intro h; first | exact hr1 h.1 | exact hr2 h.2))))
                rw [e]
                exact ⟨rfl, hW, mfr.rf⟩
            · rw [if_neg hr1] at hx
              subst hx
              refine g_if_eq f_X9_shift_71 rfl (by omega) (fun hx => ?_) (fun hx => ?_)
              · refine g_const f_X9_shift_86 ?_
                refine g_reti f_X9_shift_88 rfl ?_ (Nat.zero_le _) (Nat.zero_le _)
                have e : a_shift s (m : Int) i (l : Int) j n = (-13, s) := (if_neg (fun h => h ⟨im, il⟩)).trans ((if_neg (by show ¬ ((wp s m).1 = -1 ∨ (wp s l).1 = -1); omega)).trans ((if_neg (fun h => h (by show (wp s m).1 = (wp s l).1; omega))).trans (if_pos (by intro h; first | exact hr1 h.1 | exact hr2 h.2))))
                rw [e]
                exact ⟨rfl, hW, mfr.rf⟩
              · exact absurd (by omega) hx
          · refine g_const f_X9_shift_60 ?_
            refine g_reti f_X9_shift_62 rfl ?_ (Nat.zero_le _) (Nat.zero_le _)
            have e : a_shift s (m : Int) i (l : Int) j n = (-12, s) := (if_neg (fun h => h ⟨im, il⟩)).trans ((if_neg (by show ¬ ((wp s m).1 = -1 ∨ (wp s l).1 = -1); omega)).trans (if_pos hs3))
            rw [e]
            exact ⟨rfl, hW, mfr.rf⟩
        · refine g_const f_X9_shift_44 ?_
          refine g_reti f_X9_shift_46 rfl ?_ (Nat.zero_le _) (Nat.zero_le _)
          have e : a_shift s (m : Int) i (l : Int) j n = (-11, s) := (if_neg (fun h => h ⟨im, il⟩)).trans (if_pos (by show (wp s m).1 = -1 ∨ (wp s l).1 = -1; omega))
          rw [e]
          exact ⟨rfl, hW, mfr.rf⟩
    · rw [rv_m1]
      refine g_asn_7 f_X9_shift_12 (by decide) c1v ?_
      refine g_alv f_X9_shift_14 rfl ?_
      refine g_ifnull f_X9_shift_16 rfl ?_
      refine g_aldN f_X9_shift_19 rfl ?_
      refine g_ifnnN f_X9_shift_21 rfl ?_
      refine g_const f_X9_shift_24 ?_
      refine g_reti f_X9_shift_25 rfl ?_ (Nat.zero_le _) (Nat.zero_le _)
      first
      | (have e : a_shift s t i u j n = (-1, s) := if_pos (fun h => hnt h.1)
         rw [e]
         exact ⟨rfl, hW, mfr.rf⟩)
      | (have e : a_shift s (m : Int) i u j n = (-1, s) := if_pos (fun h => hnu h.2)
         rw [e]
         exact ⟨rfl, hW, mfr.rf⟩)
      | (have e : a_shift s t i (l : Int) j n = (-1, s) := if_pos (fun h => hnt h.1)
         rw [e]
         exact ⟨rfl, hW, mfr.rf⟩)
  · rw [rv_m1]
    refine g_asn_6 f_X9_shift_5 (by decide) c1i ?_
    refine g_alv f_X9_shift_7 rfl ?_
    refine g_ild f_X9_shift_8 rfl ?_
    refine g_cv3 hγ (c_tapeOf hG u (by omega)) f_X9_shift_9 mo_X9_tapeOf mv_X9_tapeOf (by assumption) rfl rfl (Nat.le_of_ble_eq_true rfl) ⟨by decide, by decide⟩ ⟨Nat.le_refl _, Nat.le_refl _⟩ (fun x S' M' hq2 => ?_)
    obtain ⟨hq2, q1, q2⟩ := hq2
    obtain rfl := q1.symm
    obtain rfl := q2.symm
    rcases hq2 with ⟨l, hl6, hel, rfl⟩ | ⟨hnu, rfl⟩
    · rw [rv_nat]
      subst hel
      obtain ⟨oKl, aKl, gKl, -⟩ := obK hG hl6
      obtain ⟨kl1, kl2, kl3⟩ := id (hTp l hl6)
      obtain ⟨⟨jl1, jl2⟩, jl3, jl4⟩ := id (hOp l hl6)
      have il : inN (l : Int) 5 := ⟨by omega, by omega⟩
      refine g_ast_7 f_X9_shift_12 (by decide) c10 ?_
      refine g_aldN f_X9_shift_14 rfl ?_
      refine g_ifnullN f_X9_shift_16 ?_
      refine g_const f_X9_shift_24 ?_
      refine g_reti f_X9_shift_25 rfl ?_ (Nat.zero_le _) (Nat.zero_le _)
      first
      | (have e : a_shift s t i u j n = (-1, s) := if_pos (fun h => hnt h.1)
         rw [e]
         exact ⟨rfl, hW, mfr.rf⟩)
      | (have e : a_shift s (m : Int) i u j n = (-1, s) := if_pos (fun h => hnu h.2)
         rw [e]
         exact ⟨rfl, hW, mfr.rf⟩)
      | (have e : a_shift s t i (l : Int) j n = (-1, s) := if_pos (fun h => hnt h.1)
         rw [e]
         exact ⟨rfl, hW, mfr.rf⟩)
    · rw [rv_m1]
      refine g_asn_7 f_X9_shift_12 (by decide) c10 ?_
      refine g_aldN f_X9_shift_14 rfl ?_
      refine g_ifnullN f_X9_shift_16 ?_
      refine g_const f_X9_shift_24 ?_
      refine g_reti f_X9_shift_25 rfl ?_ (Nat.zero_le _) (Nat.zero_le _)
      first
      | (have e : a_shift s t i u j n = (-1, s) := if_pos (fun h => hnt h.1)
         rw [e]
         exact ⟨rfl, hW, mfr.rf⟩)
      | (have e : a_shift s (m : Int) i u j n = (-1, s) := if_pos (fun h => hnu h.2)
         rw [e]
         exact ⟨rfl, hW, mfr.rf⟩)
      | (have e : a_shift s t i (l : Int) j n = (-1, s) := if_pos (fun h => hnt h.1)
         rw [e]
         exact ⟨rfl, hW, mfr.rf⟩)
