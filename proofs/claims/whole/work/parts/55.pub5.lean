/-! contracts: the calls: from, can, looked -/
set_option maxHeartbeats 4000000 in
set_option maxRecDepth 100000 in
theorem w_looked {Ω : Ow} {S : Sg} {M : Mm} {s : Wt} (hW : RepW S M s) (hO0 : okW s) : Ct Ω mX9_looked 3 0 0 1 [vr Ω 0] S M (fun x S' M' => x = a_looked s ∧ RepW S' M' s ∧ mfr S S' M M') := by
  refine Ct.mk (by decide) (Nat.le_of_ble_eq_true rfl) [some (vr Ω 0), none, none] (by intro q hq; exact hq) (fun γ hγ hz => ?_)
  obtain ⟨hG, hS1, ⟨hX, hT1, hT2, hT3⟩, hlaw, hK, ⟨Λd, hTx, hn1, hn2⟩, hTr, hTp, hmost, hN46, hN61⟩ := id hW
  obtain ⟨⟨hO, hD, hSe, hPl, hBk, hl1, hl2, hl3⟩, hOk, hlw, hOt, hOp⟩ := id hO0
  have hX : RepX S M 25 (wz s) := hX
  have hO : okZ (wz s) := hO
  have hD : zd (wz s) ≤ 9999 := hD
  obtain ⟨x1, x2, x3, x4, x5, Λ, x6, x7, x8, x9⟩ := id hX
  obtain ⟨z1, z2, z3, z4, z5⟩ := id hO
  have hB : isB 25 := Or.inl rfl
  have oB := obB hG hB
  have aB := arB hG hB
  have g0 := (hG.2.2.1 25 hB).1
  have o0 := obn hG (r := 0) (c := 9) (by decide +kernel)
  have o18 := obn hG (r := 18) (c := 4) (by decide +kernel)
  have g00 : _ = ((18 : Nat) : Int) := grn hG (k := 0) (j := 0) (by decide)
  have g18 : _ = ((25 : Nat) : Int) := grn hG (k := 18) (j := 0) (by decide)
  have o60 := obn hG (r := 60) (c := 8) (by decide +kernel)
  have g05 : _ = ((60 : Nat) : Int) := grn hG (k := 0) (j := 5) (by decide)
  have o9 := obn hG (r := 9) (c := 0) (by decide +kernel)
  have g06 : _ = ((9 : Nat) : Int) := grn hG (k := 0) (j := 6) (by decide)
  have g181 : _ = ((19 : Nat) : Int) := grn hG (k := 18) (j := 1) (by decide)
  have g182 : _ = ((21 : Nat) : Int) := grn hG (k := 18) (j := 2) (by decide)
  have g183 : _ = ((23 : Nat) : Int) := grn hG (k := 18) (j := 3) (by decide)
  have iT1 : isT 19 5 := (snT snX).1
  have iT2 : isT 21 10 := (snT snX).2.1
  have iT3 : isT 23 8 := (snT snX).2.2.1
  obtain ⟨oT1, -, -⟩ := obT hG iT1
  obtain ⟨oT2, -, -⟩ := obT hG iT2
  obtain ⟨oT3, -, -⟩ := obT hG iT3
  have hl : M 23 2 = ((wn s).2.2.2.length : Int) := hT3.2.1
  have loop : ∀ (k n : Nat) (v2 : Option Value), n + k = (wn s).2.2.2.length → fstF k n (fun i => decide (¬ (inP s (tg (wn s).2.2.2 i 0) ∧ (zP (wz s) (tg (wn s).2.2.2 i 0).toNat 3 : Int) = tg (wn s).2.2.2 i 1))) = a_looked s → Go γ Ω mX9_looked (Zm γ Ω 1 0 0 (fun x S' M' => x = a_looked s ∧ RepW S' M' s ∧ mfr S S' M M')) 0 0 S M 2 [some (vr Ω 0), some (vi (n : Int)), v2] [] := by
    intro k
    induction k with
    | zero =>
      intro n v2 hk hi
      have hn : n = (wn s).2.2.2.length := by omega
      subst hn
      refine g_ild f_X9_looked_2 rfl ?_
      refine g_alv f_X9_looked_3 rfl ?_
      refine g_getR f_X9_looked_4 (by assumption) (by assumption) ?_
      refine g_getR f_X9_looked_7 (by assumption) (by assumption) ?_
      refine g_getI f_X9_looked_10 (by assumption) ?_
      rw [hl]
      refine g_icmp_ge f_X9_looked_13 rfl (by omega) (by omega) (fun hc => ?_) (fun hc => ?_)
      · refine g_const f_X9_looked_70 ?_
        refine g_reti f_X9_looked_72 rfl ?_ (Nat.zero_le _) (Nat.zero_le _)
        exact ⟨hi, hW, mfr.rf⟩
      · exact absurd (by omega) hc
    | succ k ih =>
      intro n v2 hk hi
      have hn : n < (wn s).2.2.2.length := by omega
      obtain ⟨⟨s1, s2⟩, s3, s4⟩ := hBk n hn
      refine g_ild f_X9_looked_2 rfl ?_
      refine g_alv f_X9_looked_3 rfl ?_
      refine g_getR f_X9_looked_4 (by assumption) (by assumption) ?_
      refine g_getR f_X9_looked_7 (by assumption) (by assumption) ?_
      refine g_getI f_X9_looked_10 (by assumption) ?_
      rw [hl]
      refine g_icmp_ge f_X9_looked_13 rfl (by omega) (by omega) (fun hc => ?_) (fun hc => ?_)
      · exact absurd hc (by omega)
      refine g_alv f_X9_looked_16 rfl ?_
      refine g_getR f_X9_looked_17 (by assumption) (by assumption) ?_
      refine g_getR f_X9_looked_20 (by assumption) (by assumption) ?_
      refine g_alv f_X9_looked_23 rfl ?_
      refine g_getR f_X9_looked_24 (by assumption) (by assumption) ?_
      refine g_getR f_X9_looked_27 (by assumption) (by assumption) ?_
      refine g_ild f_X9_looked_30 rfl ?_
      refine g_const f_X9_looked_31 ?_
      refine g_as (show (0 : Int) = ((0 : Nat) : Int) from rfl) ?_
      refine g_cv1 hγ (c_tcell hG iT3 hT3 (i := n) (k := 0) hn (by decide)) f_X9_looked_32 mo_X6_cell mv_X6_cell (by assumption) rfl rfl (Nat.le_of_ble_eq_true rfl) ⟨by decide, by decide⟩ ⟨Nat.le_refl _, Nat.le_refl _⟩ (fun x S' M' hq8 => ?_)
      obtain ⟨rfl, q1, q2⟩ := hq8
      obtain rfl := q1.symm
      obtain rfl := q2.symm
      refine g_cv3 hγ (c_person hG hB hX hO (tg (wn s).2.2.2 n 0) (by omega)) f_X9_looked_35 mo_X5_person mv_X5_person (by assumption) rfl rfl (Nat.le_of_ble_eq_true rfl) ⟨by decide, by decide⟩ ⟨Nat.le_refl _, Nat.le_refl _⟩ (fun x S' M' hq2 => ?_)
      obtain ⟨hq2, q1, q2⟩ := hq2
      obtain rfl := q1.symm
      obtain rfl := q2.symm
      rcases hq2 with ⟨p2, hp2, hpe, rfl⟩ | ⟨hnp, rfl⟩
      · rw [rv_nat]
        have hp6 : p2 < 6 := by omega
        have oP := obP (p := p2) hG hB hp6
        have aP := arP (p := p2) hG hB hp6
        have gP := ((hG.2.2.1 25 hB).2 p2 hp6).2
        obtain ⟨r1, r2, r3, r4, r5, r6⟩ := id (x4 p2 hp2)
        obtain ⟨b1, b2, b3, b4, b5, b6⟩ := id (z4 p2 hp2)
        have hin := pe_in (B := 25) hp6
        have hip : inP s (p2 : Int) := ⟨by omega, by show (p2 : Int) < (zc (wz s) : Int); omega⟩
        refine g_ast_2 f_X9_looked_38 (by decide) c1i ?_
        refine g_alv f_X9_looked_39 rfl ?_
        refine g_ifnull f_X9_looked_40 rfl ?_
        refine g_alv f_X9_looked_43 rfl ?_
        refine g_getI f_X9_looked_44 (by assumption) ?_
        rw [r4]
        refine g_alv f_X9_looked_47 rfl ?_
        refine g_getR f_X9_looked_48 (by assumption) (by assumption) ?_
        refine g_getR f_X9_looked_51 (by assumption) (by assumption) ?_
        refine g_ild f_X9_looked_54 rfl ?_
        refine g_const f_X9_looked_55 ?_
        refine g_as (show (1 : Int) = ((1 : Nat) : Int) from rfl) ?_
        refine g_cv1 hγ (c_tcell hG iT3 hT3 (i := n) (k := 1) hn (by decide)) f_X9_looked_56 mo_X6_cell mv_X6_cell (by assumption) rfl rfl (Nat.le_of_ble_eq_true rfl) ⟨by decide, by decide⟩ ⟨Nat.le_refl _, Nat.le_refl _⟩ (fun x S' M' hq8 => ?_)
        obtain ⟨rfl, q1, q2⟩ := hq8
        obtain rfl := q1.symm
        obtain rfl := q2.symm
        refine g_icmp_eq f_X9_looked_59 rfl (by omega) (by omega) (fun hs => ?_) (fun hs => ?_)
        · refine g_inc_1 f_X9_looked_64 (by decide) c1v ?_
          refine g_goto f_X9_looked_67 ?_
          have e : ¬ decide (¬ (inP s (tg (wn s).2.2.2 n 0) ∧ (zP (wz s) (tg (wn s).2.2.2 n 0).toNat 3 : Int) = tg (wn s).2.2.2 n 1)) = true := by
            rw [decide_eq_true_eq]
            intro h
            refine h ⟨by rw [hpe]; exact hip, ?_⟩
            rw [show (tg (wn s).2.2.2 n 0).toNat = p2 by omega]
            omega
          exact ih (n + 1) _ (by omega) (by rw [← hi, fstF, if_neg e])
        · refine g_ild f_X9_looked_62 rfl ?_
          refine g_reti f_X9_looked_63 rfl ?_ (Nat.zero_le _) (Nat.zero_le _)
          have e : decide (¬ (inP s (tg (wn s).2.2.2 n 0) ∧ (zP (wz s) (tg (wn s).2.2.2 n 0).toNat 3 : Int) = tg (wn s).2.2.2 n 1)) = true := decide_eq_true (by intro h; have h2 := h.2; rw [hpe] at h2; exact hs h2)
          exact ⟨by rw [← hi, fstF, if_pos e], hW, mfr.rf⟩
      · rw [rv_m1]
        refine g_asn_2 f_X9_looked_38 (by decide) c1i ?_
        refine g_aldN f_X9_looked_39 rfl ?_
        refine g_ifnullN f_X9_looked_40 ?_
        refine g_ild f_X9_looked_62 rfl ?_
        refine g_reti f_X9_looked_63 rfl ?_ (Nat.zero_le _) (Nat.zero_le _)
        have e : decide (¬ (inP s (tg (wn s).2.2.2 n 0) ∧ (zP (wz s) (tg (wn s).2.2.2 n 0).toNat 3 : Int) = tg (wn s).2.2.2 n 1)) = true := decide_eq_true (by intro h; exact hnp h.1)
        exact ⟨by rw [← hi, fstF, if_pos e], hW, mfr.rf⟩
  refine g_const f_X9_looked_0 ?_
  refine g_ist_1 f_X9_looked_1 (by decide) c1v ?_
  exact loop _ 0 none (Nat.zero_add _) rfl

set_option maxHeartbeats 4000000 in
set_option maxRecDepth 100000 in
theorem w_from {Ω : Ow} {S : Sg} {M : Mm} {s : Wt} (hW : RepW S M s) (hO0 : okW s) (p : Int) (hp : rg p) : Ct Ω mX9_from 8 0 0 1 [vr Ω 0, vi p] S M (fun x S' M' => x = a_from s p ∧ RepW S' M' s ∧ mfr S S' M M') := by
  refine Ct.mk (by decide) (Nat.le_of_ble_eq_true rfl) [some (vr Ω 0), some (vi p), none, none, none] (by intro q hq; exact hq) (fun γ hγ hz => ?_)
  obtain ⟨hG, hS1, ⟨hX, hT1, hT2, hT3⟩, hlaw, hK, ⟨Λd, hTx, hn1, hn2⟩, hTr, hTp, hmost, hN46, hN61⟩ := id hW
  obtain ⟨⟨hO, hD, hSe, hPl, hBk, hl1, hl2, hl3⟩, hOk, hlw, hOt, hOp⟩ := id hO0
  have hX : RepX S M 25 (wz s) := hX
  have hO : okZ (wz s) := hO
  have hD : zd (wz s) ≤ 9999 := hD
  obtain ⟨x1, x2, x3, x4, x5, Λ, x6, x7, x8, x9⟩ := id hX
  obtain ⟨z1, z2, z3, z4, z5⟩ := id hO
  have hB : isB 25 := Or.inl rfl
  have oB := obB hG hB
  have aB := arB hG hB
  have g0 := (hG.2.2.1 25 hB).1
  have o0 := obn hG (r := 0) (c := 9) (by decide +kernel)
  have o18 := obn hG (r := 18) (c := 4) (by decide +kernel)
  have g00 : _ = ((18 : Nat) : Int) := grn hG (k := 0) (j := 0) (by decide)
  have g18 : _ = ((25 : Nat) : Int) := grn hG (k := 18) (j := 0) (by decide)
  have o60 := obn hG (r := 60) (c := 8) (by decide +kernel)
  have g05 : _ = ((60 : Nat) : Int) := grn hG (k := 0) (j := 5) (by decide)
  have o9 := obn hG (r := 9) (c := 0) (by decide +kernel)
  have g06 : _ = ((9 : Nat) : Int) := grn hG (k := 0) (j := 6) (by decide)
  have g181 : _ = ((19 : Nat) : Int) := grn hG (k := 18) (j := 1) (by decide)
  have g182 : _ = ((21 : Nat) : Int) := grn hG (k := 18) (j := 2) (by decide)
  have g183 : _ = ((23 : Nat) : Int) := grn hG (k := 18) (j := 3) (by decide)
  have iT1 : isT 19 5 := (snT snX).1
  have iT2 : isT 21 10 := (snT snX).2.1
  have iT3 : isT 23 8 := (snT snX).2.2.1
  obtain ⟨oT1, -, -⟩ := obT hG iT1
  obtain ⟨oT2, -, -⟩ := obT hG iT2
  obtain ⟨oT3, -, -⟩ := obT hG iT3
  refine g_alv f_X9_from_0 rfl ?_
  refine g_getR f_X9_from_1 (by assumption) (by assumption) ?_
  refine g_getR f_X9_from_4 (by assumption) (by assumption) ?_
  refine g_ild f_X9_from_7 rfl ?_
  refine g_cv3 hγ (c_person hG hB hX hO p (by omega)) f_X9_from_8 mo_X5_person mv_X5_person (by assumption) rfl rfl (Nat.le_of_ble_eq_true rfl) ⟨by decide, by decide⟩ ⟨Nat.le_refl _, Nat.le_refl _⟩ (fun x S' M' hq2 => ?_)
  obtain ⟨hq2, q1, q2⟩ := hq2
  obtain rfl := q1.symm
  obtain rfl := q2.symm
  rcases hq2 with ⟨p2, hp2, hpe, rfl⟩ | ⟨hnp, rfl⟩
  · rw [rv_nat]
    subst hpe
    have hp6 : p2 < 6 := by omega
    have oP := obP (p := p2) hG hB hp6
    have aP := arP (p := p2) hG hB hp6
    have gP := ((hG.2.2.1 25 hB).2 p2 hp6).2
    obtain ⟨r1, r2, r3, r4, r5, r6⟩ := id (x4 p2 hp2)
    obtain ⟨b1, b2, b3, b4, b5, b6⟩ := id (z4 p2 hp2)
    have hin := pe_in (B := 25) hp6
    have hip : inP s (p2 : Int) := ⟨by omega, by show (p2 : Int) < (zc (wz s) : Int); omega⟩
    have t0 := triF.rf (M := M) hG hN61
    have loop : ∀ (k n : Nat) (S1 : Sg) (M1 : Mm), n + k = 12 → triF S S1 M M1 → Go γ Ω mX9_from (Zm γ Ω 1 0 0 (fun x S' M' => x = a_from s (p2 : Int) ∧ RepW S' M' s ∧ mfr S S' M M')) 0 0 S1 M1 23 [some (vr Ω 0), some (vi (p2 : Int)), some (vr Ω (pe 25 p2)), some (vi (bitsP n (fun t => agreeN (wz s) p2 t (zP (wz s) p2 1) (wn s).2.1) : Int)), some (vi (n : Int))] [] := by
      intro k
      induction k with
      | zero =>
        intro n S1 M1 hk t1
        have hn : n = 12 := by omega
        subst hn
        refine g_ild f_X9_from_23 rfl ?_
        refine g_const f_X9_from_25 ?_
        refine g_icmp_ge f_X9_from_27 rfl (by omega) (by omega) (fun hc => ?_) (fun hc => ?_)
        · refine g_ild f_X9_from_74 rfl ?_
          refine g_reti f_X9_from_75 rfl ?_ (Nat.zero_le _) (Nat.zero_le _)
          have e : a_from s (p2 : Int) = (bitsP 12 (fun t => agreeN (wz s) p2 t (zP (wz s) p2 1) (wn s).2.1) : Int) := if_pos hip
          rw [e]
          have h := hW.tri hO0 t1
          exact ⟨rfl, h.1, h.2⟩
        · exact absurd (by omega) hc
      | succ k ih =>
        intro n S1 M1 hk t1
        have hn : n < 12 := by omega
        have hX1 := t1.xx hB (by decide) hX z1
        obtain ⟨y1, y2, y3, y4, -⟩ := id hX1
        obtain ⟨s1, s2, -⟩ := id (y4 p2 hp2)
        have hbl := bitsP_lt (fun t => agreeN (wz s) p2 t (zP (wz s) p2 1) (wn s).2.1) n
        have hb2 : 2 ^ n ≤ 2048 := p2le hn
        have o0a := obn t1.2.2.1 (r := 0) (c := 9) (by decide +kernel)
        have o18a := obn t1.2.2.1 (r := 18) (c := 4) (by decide +kernel)
        have o60a := obn t1.2.2.1 (r := 60) (c := 8) (by decide +kernel)
        have p00a : _ = ((18 : Nat) : Int) := grn t1.2.2.1 (k := 0) (j := 0) (by decide)
        have p18a : _ = ((25 : Nat) : Int) := grn t1.2.2.1 (k := 18) (j := 0) (by decide)
        have p05a : _ = ((60 : Nat) : Int) := grn t1.2.2.1 (k := 0) (j := 5) (by decide)
        have p181a : _ = ((19 : Nat) : Int) := grn t1.2.2.1 (k := 18) (j := 1) (by decide)
        have oPPa := obP (p := p2) t1.2.2.1 hB hp6
        refine g_ild f_X9_from_23 rfl ?_
        refine g_const f_X9_from_25 ?_
        refine g_icmp_ge f_X9_from_27 rfl (by omega) (by omega) (fun hc => ?_) (fun hc => ?_)
        · exact absurd hc (by omega)
        refine g_alv f_X9_from_30 rfl ?_
        refine g_getR f_X9_from_31 (by assumption) (by assumption) ?_
        refine g_ild f_X9_from_34 rfl ?_
        refine g_ild f_X9_from_35 rfl ?_
        refine g_alv f_X9_from_37 rfl ?_
        refine g_getI f_X9_from_38 (by assumption) ?_
        rw [s2]
        refine g_alv f_X9_from_41 rfl ?_
        refine g_getR f_X9_from_42 (by assumption) (by assumption) ?_
        refine g_getR f_X9_from_45 (by assumption) (by assumption) ?_
        refine g_alv f_X9_from_48 rfl ?_
        refine g_getR f_X9_from_49 (by assumption) (by assumption) ?_
        refine g_getR f_X9_from_52 (by assumption) (by assumption) ?_
        refine g_cv1 hγ (c_agrees t1.2.2.1 hB (by decide) hX1 hO hD t1.2.2.2.2 iT1 (t1.tt iT1 hT1) hSe (p := p2) (t := n) (v := zP (wz s) p2 1) hp2 (by omega) (by omega)) f_X9_from_55 mo_X8_agrees mv_X8_agrees (by assumption) rfl rfl (Nat.le_of_ble_eq_true rfl) ⟨by decide, by decide⟩ ⟨Nat.le_refl _, Nat.le_refl _⟩ (fun x S3 M3 hq7 => ?_)
        obtain ⟨rfl, q7⟩ := hq7
        have t3 : triF S S3 M M3 := t1.then q7
        rcases Bool.eq_false_or_eq_true (agreeN (wz s) p2 n (zP (wz s) p2 1) (wn s).2.1) with hb | hb
        · rw [hb]
          refine g_as (show ((true.toNat : Nat) : Int) = 1 from rfl) ?_
          refine g_if_eq f_X9_from_58 rfl (by omega) (fun hx => ?_) (fun hx => ?_)
          · exact absurd hx (by omega)
          refine g_ild f_X9_from_61 rfl ?_
          refine g_const f_X9_from_62 ?_
          refine g_ild f_X9_from_63 rfl ?_
          refine g_ishl f_X9_from_65 ?_
          rw [show (1 : Int) = ((1 : Nat) : Int) from rfl, bshl_n (by omega) (by omega), Nat.one_mul]
          refine g_ior f_X9_from_66 ?_
          rw [bits_or hbl (by omega)]
          refine g_ist_3 f_X9_from_67 (by decide) c1v ?_
          refine g_inc_4 f_X9_from_68 (by decide) c1i ?_
          refine g_goto f_X9_from_71 ?_
          have e : bitsP (n + 1) (fun t => agreeN (wz s) p2 t (zP (wz s) p2 1) (wn s).2.1) = bitsP n (fun t => agreeN (wz s) p2 t (zP (wz s) p2 1) (wn s).2.1) + 2 ^ n := by rw [bitsP]; simp only [hb, if_true]
          have h9 := ih (n + 1) S3 M3 (by omega) t3
          rw [e] at h9
          exact h9
        · rw [hb]
          refine g_as (show ((false.toNat : Nat) : Int) = 0 from rfl) ?_
          refine g_if_eq f_X9_from_58 rfl (by omega) (fun hx => ?_) (fun hx => ?_)
          · refine g_inc_4 f_X9_from_68 (by decide) c1i ?_
            refine g_goto f_X9_from_71 ?_
            have e : bitsP (n + 1) (fun t => agreeN (wz s) p2 t (zP (wz s) p2 1) (wn s).2.1) = bitsP n (fun t => agreeN (wz s) p2 t (zP (wz s) p2 1) (wn s).2.1) := by rw [bitsP]; simp [hb]
            have h9 := ih (n + 1) S3 M3 (by omega) t3
            rw [e] at h9
            exact h9
          · exact absurd (by omega) hx
    refine g_ast_2 f_X9_from_11 (by decide) c1i ?_
    refine g_alv f_X9_from_12 rfl ?_
    refine g_ifnn f_X9_from_13 ?_
    refine g_const f_X9_from_18 ?_
    refine g_ist_3 f_X9_from_19 (by decide) c1v ?_
    refine g_const f_X9_from_20 ?_
    refine g_ist_4 f_X9_from_21 (by decide) c1i ?_
    exact loop 12 0 S M rfl t0
  · rw [rv_m1]
    refine g_asn_2 f_X9_from_11 (by decide) c1i ?_
    refine g_aldN f_X9_from_12 rfl ?_
    refine g_ifnnN f_X9_from_13 rfl ?_
    refine g_const f_X9_from_16 ?_
    refine g_reti f_X9_from_17 rfl ?_ (Nat.zero_le _) (Nat.zero_le _)
    have e : a_from s p = -1 := if_neg hnp
    rw [e]
    exact ⟨rfl, hW, mfr.rf⟩
