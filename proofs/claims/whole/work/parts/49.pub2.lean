/-! contracts: the calls: of, told, at, set, row -/
set_option maxHeartbeats 4000000 in
set_option maxRecDepth 100000 in
theorem w_of {Ω : Ow} {S : Sg} {M : Mm} {s : Wt} (hW : RepW S M s) (hO0 : okW s) (p w : Int) (hp : rg p) (hw : rg w) : Ct Ω mX9_of 9 0 0 1 [vr Ω 0, vi p, vi w] S M (fun x S' M' => x = a_of s p w ∧ RepW S' M' s ∧ mfr S S' M M') := by
  refine Ct.mk (by decide) (Nat.le_of_ble_eq_true rfl) [some (vr Ω 0), some (vi p), some (vi w), none] (by intro q hq; exact hq) (fun γ hγ hz => ?_)
  obtain ⟨hG, hS1, ⟨hX, hT1, hT2, hT3⟩, hlaw, hK, ⟨Λd, hTx, hn1, hn2⟩, hTr, hTp, hmost, hN46, hN61⟩ := id hW
  obtain ⟨⟨hO, hD, hSe, hPl, hBk, hl1, hl2, hl3⟩, hOk, hlw, hOt, hOp⟩ := id hO0
  have hX : RepX S M 25 (wz s) := hX
  have hO : okZ (wz s) := hO
  have hD : zd (wz s) ≤ 9999 := hD
  obtain ⟨x1, x2, x3, x4, x5, Λ, x6, x7, x8, x9⟩ := id hX
  obtain ⟨z1, z2, z3, z4, z5⟩ := id hO
  have hB : isB 25 := Or.inl rfl
  have oB := obB hG hB
  have aB := arB hG hB
  have g0 := (hG.2.2.1 25 hB).1
  have o0 := obn hG (r := 0) (c := 9) (by decide +kernel)
  have o18 := obn hG (r := 18) (c := 4) (by decide +kernel)
  have g00 : _ = ((18 : Nat) : Int) := grn hG (k := 0) (j := 0) (by decide)
  have g18 : _ = ((25 : Nat) : Int) := grn hG (k := 18) (j := 0) (by decide)
  have o60 := obn hG (r := 60) (c := 8) (by decide +kernel)
  have g05 : _ = ((60 : Nat) : Int) := grn hG (k := 0) (j := 5) (by decide)
  refine g_alv f_X9_of_0 rfl ?_
  refine g_getR f_X9_of_1 (by assumption) (by assumption) ?_
  refine g_getR f_X9_of_4 (by assumption) (by assumption) ?_
  refine g_ild f_X9_of_7 rfl ?_
  refine g_cv3 hγ (c_person hG hB hX hO p (by omega)) f_X9_of_8 mo_X5_person mv_X5_person (by assumption) rfl rfl (Nat.le_of_ble_eq_true rfl) ⟨by decide, by decide⟩ ⟨Nat.le_refl _, Nat.le_refl _⟩ (fun x S' M' hq2 => ?_)
  obtain ⟨hq2, q1, q2⟩ := hq2
  obtain rfl := q1.symm
  obtain rfl := q2.symm
  rcases hq2 with ⟨p2, hp2, hpe, rfl⟩ | ⟨hnp, rfl⟩
  · rw [rv_nat]
    subst hpe
    have hp6 : p2 < 6 := by omega
    have oP := obP (p := p2) hG hB hp6
    have aP := arP (p := p2) hG hB hp6
    have gP := ((hG.2.2.1 25 hB).2 p2 hp6).2
    obtain ⟨r1, r2, r3, r4, r5, r6⟩ := id (x4 p2 hp2)
    obtain ⟨b1, b2, b3, b4, b5, b6⟩ := id (z4 p2 hp2)
    have hin := pe_in (B := 25) hp6
    have hip : inP s (p2 : Int) := ⟨by omega, by show (p2 : Int) < (zc (wz s) : Int); omega⟩
    refine g_ast_3 f_X9_of_11 (by decide) c1i ?_
    refine g_alv f_X9_of_12 rfl ?_
    refine g_ifnn f_X9_of_13 ?_
    refine g_ild f_X9_of_18 rfl ?_
    refine g_tab f_X9_of_19 (by omega) (fun hk => ?_) (casC (fun hk => ?_) (casC (fun hk => ?_) (casC (fun hk => ?_) (casC (fun hk => ?_) (casC (fun hk => ?_) (casC (fun hk => ?_) (casC (fun hk => ?_) (casC (fun hk => ?_) (casC (fun hk => ?_) casN)))))))))
    · refine g_const f_X9_of_153 ?_
      refine g_reti f_X9_of_154 rfl ?_ (Nat.zero_le _) (Nat.zero_le _)
      have n0 : w ≠ 0 := hk (0, 68) (by simp)
      have n1 : w ≠ 1 := hk (1, 73) (by simp)
      have n2 : w ≠ 2 := hk (2, 78) (by simp)
      have n3 : w ≠ 3 := hk (3, 83) (by simp)
      have n4 : w ≠ 4 := hk (4, 88) (by simp)
      have n5 : w ≠ 5 := hk (5, 101) (by simp)
      have n6 : w ≠ 6 := hk (6, 113) (by simp)
      have n7 : w ≠ 7 := hk (7, 125) (by simp)
      have n8 : w ≠ 8 := hk (8, 141) (by simp)
      have e : a_of s (p2 : Int) w = -1 := by
        refine (if_pos hip).trans ?_
        unfold ofN
        rw [if_neg n0, if_neg n1, if_neg n2, if_neg n3, if_neg n4, if_neg n5, if_neg n6, if_neg n7, if_neg n8]
      rw [e]
      exact ⟨rfl, hW, mfr.rf⟩
    · refine g_alv f_X9_of_68 rfl ?_
      refine g_getI f_X9_of_69 (by assumption) ?_
      rw [r1]
      refine g_reti f_X9_of_72 rfl ?_ (Nat.zero_le _) (Nat.zero_le _)
      obtain rfl : w = 0 := hk
      have e : a_of s (p2 : Int) 0 = (zP (wz s) p2 0 : Int) := if_pos hip
      rw [e]
      exact ⟨rfl, hW, mfr.rf⟩
    · refine g_alv f_X9_of_73 rfl ?_
      refine g_getI f_X9_of_74 (by assumption) ?_
      rw [r2]
      refine g_reti f_X9_of_77 rfl ?_ (Nat.zero_le _) (Nat.zero_le _)
      obtain rfl : w = 1 := hk
      have e : a_of s (p2 : Int) 1 = (zP (wz s) p2 1 : Int) := if_pos hip
      rw [e]
      exact ⟨rfl, hW, mfr.rf⟩
    · refine g_alv f_X9_of_78 rfl ?_
      refine g_getI f_X9_of_79 (by assumption) ?_
      rw [r3]
      refine g_reti f_X9_of_82 rfl ?_ (Nat.zero_le _) (Nat.zero_le _)
      obtain rfl : w = 2 := hk
      have e : a_of s (p2 : Int) 2 = (zP (wz s) p2 2 : Int) := if_pos hip
      rw [e]
      exact ⟨rfl, hW, mfr.rf⟩
    · refine g_alv f_X9_of_83 rfl ?_
      refine g_getI f_X9_of_84 (by assumption) ?_
      rw [r4]
      refine g_reti f_X9_of_87 rfl ?_ (Nat.zero_le _) (Nat.zero_le _)
      obtain rfl : w = 3 := hk
      have e : a_of s (p2 : Int) 3 = (zP (wz s) p2 3 : Int) := if_pos hip
      rw [e]
      exact ⟨rfl, hW, mfr.rf⟩
    · refine g_alv f_X9_of_88 rfl ?_
      refine g_getI f_X9_of_89 (by assumption) ?_
      rw [r5]
      refine g_if_eq f_X9_of_92 rfl (by have hb5 : zP (wz s) p2 4 ≤ 1 := b5; omega) (fun hg => ?_) (fun hg => ?_)
      · refine g_const f_X9_of_99 ?_
        refine g_reti f_X9_of_100 rfl ?_ (Nat.zero_le _) (Nat.zero_le _)
        obtain rfl : w = 4 := hk
        have e : a_of s (p2 : Int) 4 = (zP (wz s) p2 4 : Int) := if_pos hip
        rw [e]
        have hb5 : zP (wz s) p2 4 ≤ 1 := b5
        exact ⟨by omega, hW, mfr.rf⟩
      · refine g_const f_X9_of_95 ?_
        refine g_goto f_X9_of_96 ?_
        refine g_reti f_X9_of_100 rfl ?_ (Nat.zero_le _) (Nat.zero_le _)
        obtain rfl : w = 4 := hk
        have e : a_of s (p2 : Int) 4 = (zP (wz s) p2 4 : Int) := if_pos hip
        rw [e]
        have hb5 : zP (wz s) p2 4 ≤ 1 := b5
        exact ⟨by omega, hW, mfr.rf⟩
    · refine g_alv f_X9_of_101 rfl ?_
      refine g_getR f_X9_of_102 (by assumption) (by assumption) ?_
      refine g_getR f_X9_of_105 (by assumption) (by assumption) ?_
      refine g_alv f_X9_of_108 rfl ?_
      refine g_cv1 hγ (c_reachOf hG hB hX hO hp2 x6 x7 x8 x9) f_X9_of_109 mo_X5_reachOf mv_X5_reachOf (by assumption) rfl rfl (Nat.le_of_ble_eq_true rfl) ⟨by decide, by decide⟩ ⟨Nat.le_refl _, Nat.le_refl _⟩ (fun x S' M3 hq3 => ?_)
      obtain ⟨rfl, q1, hm⟩ := hq3
      obtain rfl := q1.symm
      refine g_reti f_X9_of_112 rfl ?_ (Nat.zero_le _) (Nat.zero_le _)
      obtain rfl : w = 5 := hk
      have e : a_of s (p2 : Int) 5 = reachN (wz s) p2 := if_pos hip
      rw [e]
      have hb : blk 25 M M3 := fun k _ b => hm k (fun e => b ⟨Λ, x7, e⟩)
      have hX3 : RepX S M3 25 (wz s) := hX.cong z1 (Nat.le_refl _) rfl (fun k hk => hm k (fun e => hk.elim (fun h => by have := law_far hB x7; omega) (fun h => (lawRow_not h).1 ⟨Λ, x7, e⟩)))
      have h := hW.st hO0 hb hX3
      exact ⟨rfl, h.1, h.2⟩
    · refine g_alv f_X9_of_113 rfl ?_
      refine g_getR f_X9_of_114 (by assumption) (by assumption) ?_
      refine g_getR f_X9_of_117 (by assumption) (by assumption) ?_
      refine g_alv f_X9_of_120 rfl ?_
      refine g_cv1 hγ (c_sightOf hG hB hX hO hp2) f_X9_of_121 mo_X5_sightOf mv_X5_sightOf (by assumption) rfl rfl (Nat.le_of_ble_eq_true rfl) ⟨by decide, by decide⟩ ⟨Nat.le_refl _, Nat.le_refl _⟩ (fun x S' M3 hq3 => ?_)
      obtain ⟨rfl, q1, l1, l3⟩ := hq3
      obtain rfl := q1.symm
      refine g_reti f_X9_of_124 rfl ?_ (Nat.zero_le _) (Nat.zero_le _)
      obtain rfl : w = 6 := hk
      have e : a_of s (p2 : Int) 6 = (sightN (wz s) p2 : Int) := if_pos hip
      rw [e]
      have h := hW.st hO0 l1.blk l3
      exact ⟨rfl, h.1, h.2⟩
    · refine g_alv f_X9_of_125 rfl ?_
      refine g_getR f_X9_of_126 (by assumption) (by assumption) ?_
      refine g_ild f_X9_of_129 rfl ?_
      refine g_alv f_X9_of_130 rfl ?_
      refine g_getR f_X9_of_131 (by assumption) (by assumption) ?_
      refine g_getR f_X9_of_134 (by assumption) (by assumption) ?_
      refine g_cv1 hγ (c_shun hG hB (by decide) hX hO hD hN61 hp2) f_X9_of_137 mo_X8_shunnedBy mv_X8_shunnedBy (by assumption) rfl rfl (Nat.le_of_ble_eq_true rfl) ⟨by decide, by decide⟩ ⟨Nat.le_refl _, Nat.le_refl _⟩ (fun x S3 M3 hq3 => ?_)
      obtain ⟨rfl, tri⟩ := hq3
      refine g_reti f_X9_of_140 rfl ?_ (Nat.zero_le _) (Nat.zero_le _)
      obtain rfl : w = 7 := hk
      have e : a_of s (p2 : Int) 7 = (shunN (wz s) p2 : Int) := if_pos hip
      rw [e]
      have h := hW.tri hO0 tri
      exact ⟨rfl, h.1, h.2⟩
    · refine g_alv f_X9_of_141 rfl ?_
      refine g_getR f_X9_of_142 (by assumption) (by assumption) ?_
      refine g_getR f_X9_of_145 (by assumption) (by assumption) ?_
      refine g_alv f_X9_of_148 rfl ?_
      refine g_cv1 hγ (c_firstOnly hG hB hX hO hp2) f_X9_of_149 mo_X5_firstSeenOnlyBy mv_X5_firstSeenOnlyBy (by assumption) rfl rfl (Nat.le_of_ble_eq_true rfl) ⟨by decide, by decide⟩ ⟨Nat.le_refl _, Nat.le_refl _⟩ (fun x S' M3 hq3 => ?_)
      obtain ⟨rfl, q1, l1, l2, l3⟩ := hq3
      obtain rfl := q1.symm
      refine g_reti f_X9_of_152 rfl ?_ (Nat.zero_le _) (Nat.zero_le _)
      obtain rfl : w = 8 := hk
      have e : a_of s (p2 : Int) 8 = fstF 12 0 (fun t => decide (seersN (wz s) t = 2 ^ p2)) := if_pos hip
      rw [e]
      have h := hW.st hO0 l1.blk l3
      exact ⟨rfl, h.1, h.2⟩
  · rw [rv_m1]
    refine g_asn_3 f_X9_of_11 (by decide) c1i ?_
    refine g_aldN f_X9_of_12 rfl ?_
    refine g_ifnnN f_X9_of_13 rfl ?_
    refine g_const f_X9_of_16 ?_
    refine g_reti f_X9_of_17 rfl ?_ (Nat.zero_le _) (Nat.zero_le _)
    have e : a_of s p w = -1 := if_neg hnp
    rw [e]
    exact ⟨rfl, hW, mfr.rf⟩

set_option maxHeartbeats 4000000 in
set_option maxRecDepth 100000 in
theorem w_told {Ω : Ow} {S : Sg} {M : Mm} {s : Wt} (hW : RepW S M s) (hO0 : okW s) (w : Int) (hw : rg w) : Ct Ω mX9_told 9 0 0 1 [vr Ω 0, vi w] S M (fun x S' M' => x = a_told s w ∧ RepW S' M' s ∧ mfr S S' M M') := by
  refine Ct.mk (by decide) (Nat.le_of_ble_eq_true rfl) [some (vr Ω 0), some (vi w), none] (by intro q hq; exact hq) (fun γ hγ hz => ?_)
  obtain ⟨hG, hS1, ⟨hX, hT1, hT2, hT3⟩, hlaw, hK, ⟨Λd, hTx, hn1, hn2⟩, hTr, hTp, hmost, hN46, hN61⟩ := id hW
  obtain ⟨⟨hO, hD, hSe, hPl, hBk, hl1, hl2, hl3⟩, hOk, hlw, hOt, hOp⟩ := id hO0
  have hX : RepX S M 25 (wz s) := hX
  have hO : okZ (wz s) := hO
  have hD : zd (wz s) ≤ 9999 := hD
  obtain ⟨x1, x2, x3, x4, x5, Λ, x6, x7, x8, x9⟩ := id hX
  obtain ⟨z1, z2, z3, z4, z5⟩ := id hO
  have hB : isB 25 := Or.inl rfl
  have oB := obB hG hB
  have aB := arB hG hB
  have g0 := (hG.2.2.1 25 hB).1
  have o0 := obn hG (r := 0) (c := 9) (by decide +kernel)
  have o18 := obn hG (r := 18) (c := 4) (by decide +kernel)
  have g00 : _ = ((18 : Nat) : Int) := grn hG (k := 0) (j := 0) (by decide)
  have g18 : _ = ((25 : Nat) : Int) := grn hG (k := 18) (j := 0) (by decide)
  have o60 := obn hG (r := 60) (c := 8) (by decide +kernel)
  have g05 : _ = ((60 : Nat) : Int) := grn hG (k := 0) (j := 5) (by decide)
  refine g_alv f_X9_told_0 rfl ?_
  refine g_getR f_X9_told_1 (by assumption) (by assumption) ?_
  refine g_getR f_X9_told_4 (by assumption) (by assumption) ?_
  refine g_ast_2 f_X9_told_7 (by decide) c1i ?_
  refine g_ild f_X9_told_8 rfl ?_
  refine g_tab f_X9_told_9 (by omega) (fun hk => ?_) (casC (fun hk => ?_) (casC (fun hk => ?_) (casC (fun hk => ?_) (casC (fun hk => ?_) (casC (fun hk => ?_) (casC (fun hk => ?_) (casC (fun hk => ?_) (casC (fun hk => ?_) casN))))))))
  · refine g_const f_X9_told_99 ?_
    refine g_reti f_X9_told_100 rfl ?_ (Nat.zero_le _) (Nat.zero_le _)
    have n0 : w ≠ 0 := hk (0, 56) (by simp)
    have n1 : w ≠ 1 := hk (1, 61) (by simp)
    have n2 : w ≠ 2 := hk (2, 69) (by simp)
    have n3 : w ≠ 3 := hk (3, 74) (by simp)
    have n4 : w ≠ 4 := hk (4, 79) (by simp)
    have n5 : w ≠ 5 := hk (5, 84) (by simp)
    have n6 : w ≠ 6 := hk (6, 89) (by simp)
    have n7 : w ≠ 7 := hk (7, 94) (by simp)
    have e : a_told s w = -1 := by
      unfold a_told
      rw [if_neg n0, if_neg n1, if_neg n2, if_neg n3, if_neg n4, if_neg n5, if_neg n6, if_neg n7]
    rw [e]
    exact ⟨rfl, hW, mfr.rf⟩
  · refine g_alv f_X9_told_56 rfl ?_
    refine g_getI f_X9_told_57 (by assumption) ?_
    rw [x3]
    refine g_reti f_X9_told_60 rfl ?_ (Nat.zero_le _) (Nat.zero_le _)
    obtain rfl : w = 0 := hk
    have e : a_told s 0 = (zd (wz s) : Int) := rfl
    rw [e]
    exact ⟨rfl, hW, mfr.rf⟩
  · refine g_alv f_X9_told_61 rfl ?_
    refine g_getR f_X9_told_62 (by assumption) x6 ?_
    refine g_getI f_X9_told_65 (by exact (obLaw x7 x8).1) ?_
    rw [x9.1]
    refine g_reti f_X9_told_68 rfl ?_ (Nat.zero_le _) (Nat.zero_le _)
    obtain rfl : w = 1 := hk
    have e : a_told s 1 = (fineL (zL (wz s)) : Int) := rfl
    rw [e]
    exact ⟨rfl, hW, mfr.rf⟩
  · refine g_alv f_X9_told_69 rfl ?_
    refine g_getI f_X9_told_70 (by assumption) ?_
    rw [x2]
    refine g_reti f_X9_told_73 rfl ?_ (Nat.zero_le _) (Nat.zero_le _)
    obtain rfl : w = 2 := hk
    have e : a_told s 2 = (zw (wz s) : Int) := rfl
    rw [e]
    exact ⟨rfl, hW, mfr.rf⟩
  · refine g_alv f_X9_told_74 rfl ?_
    refine g_cv1 hγ (c_purses hG hB hX hO) f_X9_told_75 mo_X5_purses mv_X5_purses (by assumption) rfl rfl (Nat.le_of_ble_eq_true rfl) ⟨by decide, by decide⟩ ⟨Nat.le_refl _, Nat.le_refl _⟩ (fun x S' M3 hq3 => ?_)
    obtain ⟨rfl, q1, q2⟩ := hq3
    obtain rfl := q1.symm
    obtain rfl := q2.symm
    refine g_reti f_X9_told_78 rfl ?_ (Nat.zero_le _) (Nat.zero_le _)
    obtain rfl : w = 3 := hk
    have e : a_told s 3 = (pursesN (wz s) : Int) := rfl
    rw [e]
    exact ⟨rfl, hW, mfr.rf⟩
  · refine g_alv f_X9_told_79 rfl ?_
    refine g_cv1 hγ (c_firstUnseen hG hB hX hO) f_X9_told_80 mo_X5_firstUnseen mv_X5_firstUnseen (by assumption) rfl rfl (Nat.le_of_ble_eq_true rfl) ⟨by decide, by decide⟩ ⟨Nat.le_refl _, Nat.le_refl _⟩ (fun x S' M3 hq3 => ?_)
    obtain ⟨rfl, q1, l1, l2, l3⟩ := hq3
    obtain rfl := q1.symm
    refine g_reti f_X9_told_83 rfl ?_ (Nat.zero_le _) (Nat.zero_le _)
    obtain rfl : w = 4 := hk
    have e : a_told s 4 = fstF 12 0 (fun t => decide (seersN (wz s) t = 0)) := rfl
    rw [e]
    have h := hW.st hO0 l1.blk l3
    exact ⟨rfl, h.1, h.2⟩
  · refine g_alv f_X9_told_84 rfl ?_
    refine g_cv1 hγ (c_unseen hG hB hX hO) f_X9_told_85 mo_X5_unseenPlaces mv_X5_unseenPlaces (by assumption) rfl rfl (Nat.le_of_ble_eq_true rfl) ⟨by decide, by decide⟩ ⟨Nat.le_refl _, Nat.le_refl _⟩ (fun x S' M3 hq3 => ?_)
    obtain ⟨rfl, q1, l1, l2, l3⟩ := hq3
    obtain rfl := q1.symm
    refine g_reti f_X9_told_88 rfl ?_ (Nat.zero_le _) (Nat.zero_le _)
    obtain rfl : w = 5 := hk
    have e : a_told s 5 = (cntF 12 (fun t => decide (seersN (wz s) t = 0)) : Int) := rfl
    rw [e]
    have h := hW.st hO0 l1.blk l3
    exact ⟨rfl, h.1, h.2⟩
  · refine g_alv f_X9_told_89 rfl ?_
    refine g_cv1 hγ (c_most hG hB hX hO) f_X9_told_90 mo_X5_mostSeenPlace mv_X5_mostSeenPlace (by assumption) rfl rfl (Nat.le_of_ble_eq_true rfl) ⟨by decide, by decide⟩ ⟨Nat.le_refl _, Nat.le_refl _⟩ (fun x S' M3 hq3 => ?_)
    obtain ⟨rfl, q1, l1, l2, l3⟩ := hq3
    obtain rfl := q1.symm
    refine g_reti f_X9_told_93 rfl ?_ (Nat.zero_le _) (Nat.zero_le _)
    obtain rfl : w = 6 := hk
    have e : a_told s 6 = ((maxF 12 (fun t => bcN (seersN (wz s) t))).1 : Int) := rfl
    rw [e]
    have h := hW.st hO0 l1.blk l3
    exact ⟨rfl, h.1, h.2⟩
  · refine g_alv f_X9_told_94 rfl ?_
    refine g_cv1 hγ (c_dear hG hB hX hO) f_X9_told_95 mo_X5_dearestPlace mv_X5_dearestPlace (by assumption) rfl rfl (Nat.le_of_ble_eq_true rfl) ⟨by decide, by decide⟩ ⟨Nat.le_refl _, Nat.le_refl _⟩ (fun x S' M3 hq3 => ?_)
    obtain ⟨rfl, q1, l1, l2, l3⟩ := hq3
    obtain rfl := q1.symm
    refine g_reti f_X9_told_98 rfl ?_ (Nat.zero_le _) (Nat.zero_le _)
    obtain rfl : w = 7 := hk
    have e : a_told s 7 = ((maxF 12 (fun t => paidN (wz s) (seersN (wz s) t))).1 : Int) := rfl
    rw [e]
    have h := hW.st hO0 l1.blk l3
    exact ⟨rfl, h.1, h.2⟩

set_option maxHeartbeats 4000000 in
set_option maxRecDepth 100000 in
theorem w_at {Ω : Ow} {S : Sg} {M : Mm} {s : Wt} (hW : RepW S M s) (hO0 : okW s) (c w : Int) (hc0 : rg c) (hw : rg w) : Ct Ω mX9_at 9 0 0 1 [vr Ω 0, vi c, vi w] S M (fun x S' M' => x = a_at s c w ∧ RepW S' M' s ∧ mfr S S' M M') := by
  refine Ct.mk (by decide) (Nat.le_of_ble_eq_true rfl) [some (vr Ω 0), some (vi c), some (vi w)] (by intro q hq; exact hq) (fun γ hγ hz => ?_)
  obtain ⟨hG, hS1, ⟨hX, hT1, hT2, hT3⟩, hlaw, hK, ⟨Λd, hTx, hn1, hn2⟩, hTr, hTp, hmost, hN46, hN61⟩ := id hW
  obtain ⟨⟨hO, hD, hSe, hPl, hBk, hl1, hl2, hl3⟩, hOk, hlw, hOt, hOp⟩ := id hO0
  have hX : RepX S M 25 (wz s) := hX
  have hO : okZ (wz s) := hO
  have hD : zd (wz s) ≤ 9999 := hD
  obtain ⟨x1, x2, x3, x4, x5, Λ, x6, x7, x8, x9⟩ := id hX
  obtain ⟨z1, z2, z3, z4, z5⟩ := id hO
  have hB : isB 25 := Or.inl rfl
  have oB := obB hG hB
  have aB := arB hG hB
  have g0 := (hG.2.2.1 25 hB).1
  have o0 := obn hG (r := 0) (c := 9) (by decide +kernel)
  have o18 := obn hG (r := 18) (c := 4) (by decide +kernel)
  have g00 : _ = ((18 : Nat) : Int) := grn hG (k := 0) (j := 0) (by decide)
  have g18 : _ = ((25 : Nat) : Int) := grn hG (k := 18) (j := 0) (by decide)
  have o60 := obn hG (r := 60) (c := 8) (by decide +kernel)
  have g05 : _ = ((60 : Nat) : Int) := grn hG (k := 0) (j := 5) (by decide)
  refine g_ild f_X9_at_0 rfl ?_
  refine g_cs1 hγ (c_isPlace c (by omega)) f_X9_at_1 mo_X9_isPlace mt_X9_isPlace rfl (Nat.le_of_ble_eq_true rfl) ⟨by decide, by decide⟩ ⟨Nat.le_refl _, Nat.le_refl _⟩ (fun x S' M' hq9 => ?_)
  obtain ⟨hx, q1, q2⟩ := hq9
  obtain rfl := q1.symm
  obtain rfl := q2.symm
  by_cases hc : 0 ≤ c ∧ c ≤ 11
  · rw [if_pos hc] at hx
    subst hx
    refine g_if_ne f_X9_at_4 rfl (by omega) (fun hx => ?_) (fun hx => ?_)
    · obtain ⟨t, rfl⟩ := Int.eq_ofNat_of_zero_le hc.1
      refine g_ild f_X9_at_9 rfl ?_
      refine g_tab f_X9_at_10 (by omega) (fun hk => ?_) (casC (fun hk => ?_) (casC (fun hk => ?_) (casC (fun hk => ?_) (casC (fun hk => ?_) casN))))
      · refine g_const f_X9_at_92 ?_
        refine g_reti f_X9_at_93 rfl ?_ (Nat.zero_le _) (Nat.zero_le _)
        have n0 : w ≠ 0 := hk (0, 40) (by simp)
        have n1 : w ≠ 1 := hk (1, 52) (by simp)
        have n2 : w ≠ 2 := hk (2, 64) (by simp)
        have n3 : w ≠ 3 := hk (3, 80) (by simp)
        have e : a_at s (t : Int) w = -1 := by
          refine (if_neg (fun h => h hc)).trans ?_
          rw [if_neg n0, if_neg n1, if_neg n2, if_neg n3]
        rw [e]
        exact ⟨rfl, hW, mfr.rf⟩
      · refine g_alv f_X9_at_40 rfl ?_
        refine g_getR f_X9_at_41 (by assumption) (by assumption) ?_
        refine g_getR f_X9_at_44 (by assumption) (by assumption) ?_
        refine g_ild f_X9_at_47 rfl ?_
        refine g_cv1 hγ (c_seers hG hB hX hO (t := t) (by omega)) f_X9_at_48 mo_X5_seers mv_X5_seers (by assumption) rfl rfl (Nat.le_of_ble_eq_true rfl) ⟨by decide, by decide⟩ ⟨Nat.le_refl _, Nat.le_refl _⟩ (fun x S' M3 hq3 => ?_)
        obtain ⟨rfl, q1, l1, l2, l3⟩ := hq3
        obtain rfl := q1.symm
        refine g_reti f_X9_at_51 rfl ?_ (Nat.zero_le _) (Nat.zero_le _)
        obtain rfl : w = 0 := hk
        have e : a_at s (t : Int) 0 = (seersN (wz s) t : Int) := if_neg (fun h => h hc)
        rw [e]
        have h := hW.st hO0 l1.blk l3
        exact ⟨rfl, h.1, h.2⟩
      · refine g_alv f_X9_at_52 rfl ?_
        refine g_getR f_X9_at_53 (by assumption) (by assumption) ?_
        refine g_getR f_X9_at_56 (by assumption) (by assumption) ?_
        refine g_ild f_X9_at_59 rfl ?_
        refine g_cv1 hγ (c_paidFor hG hB hX hO (t := t) (by omega)) f_X9_at_60 mo_X5_paidFor mv_X5_paidFor (by assumption) rfl rfl (Nat.le_of_ble_eq_true rfl) ⟨by decide, by decide⟩ ⟨Nat.le_refl _, Nat.le_refl _⟩ (fun x S' M3 hq3 => ?_)
        obtain ⟨rfl, q1, l1, l2, l3⟩ := hq3
        obtain rfl := q1.symm
        refine g_reti f_X9_at_63 rfl ?_ (Nat.zero_le _) (Nat.zero_le _)
        obtain rfl : w = 1 := hk
        have e : a_at s (t : Int) 1 = (paidN (wz s) (seersN (wz s) t) : Int) := if_neg (fun h => h hc)
        rw [e]
        have h := hW.st hO0 l1.blk l3
        exact ⟨rfl, h.1, h.2⟩
      · refine g_alv f_X9_at_64 rfl ?_
        refine g_getR f_X9_at_65 (by assumption) (by assumption) ?_
        refine g_ild f_X9_at_68 rfl ?_
        refine g_alv f_X9_at_69 rfl ?_
        refine g_getR f_X9_at_70 (by assumption) (by assumption) ?_
        refine g_getR f_X9_at_73 (by assumption) (by assumption) ?_
        refine g_cv1 hγ (c_until hG hB (by decide) hX hO hD hN61 (t := t) (by omega)) f_X9_at_76 mo_X8_daysUntilUnseen mv_X8_daysUntilUnseen (by assumption) rfl rfl (Nat.le_of_ble_eq_true rfl) ⟨by decide, by decide⟩ ⟨Nat.le_refl _, Nat.le_refl _⟩ (fun x S3 M3 hq3 => ?_)
        obtain ⟨rfl, tri⟩ := hq3
        refine g_reti f_X9_at_79 rfl ?_ (Nat.zero_le _) (Nat.zero_le _)
        obtain rfl : w = 2 := hk
        have e : a_at s (t : Int) 2 = untilN (wz s) t := if_neg (fun h => h hc)
        rw [e]
        have h := hW.tri hO0 tri
        exact ⟨rfl, h.1, h.2⟩
      · refine g_alv f_X9_at_80 rfl ?_
        refine g_getR f_X9_at_81 (by assumption) (by assumption) ?_
        refine g_getR f_X9_at_84 (by assumption) (by assumption) ?_
        refine g_ild f_X9_at_87 rfl ?_
        refine g_cv1 hγ (c_bricks hG hB hX hO (t := t) (by omega)) f_X9_at_88 mo_X5_bricks mv_X5_bricks (by assumption) rfl rfl (Nat.le_of_ble_eq_true rfl) ⟨by decide, by decide⟩ ⟨Nat.le_refl _, Nat.le_refl _⟩ (fun x S' M3 hq3 => ?_)
        obtain ⟨rfl, q1, l1, l2, l3⟩ := hq3
        obtain rfl := q1.symm
        refine g_reti f_X9_at_91 rfl ?_ (Nat.zero_le _) (Nat.zero_le _)
        obtain rfl : w = 3 := hk
        have e : a_at s (t : Int) 3 = brickC (wz s) t := if_neg (fun h => h hc)
        rw [e]
        have h := hW.st hO0 l1.blk l3
        exact ⟨rfl, h.1, h.2⟩
    · exact absurd (by omega) hx
  · rw [if_neg hc] at hx
    subst hx
    refine g_if_ne f_X9_at_4 rfl (by omega) (fun hx => ?_) (fun hx => ?_)
    · exact absurd hx (by omega)
    refine g_const f_X9_at_7 ?_
    refine g_reti f_X9_at_8 rfl ?_ (Nat.zero_le _) (Nat.zero_le _)
    have e : a_at s c w = -1 := if_pos hc
    rw [e]
    exact ⟨rfl, hW, mfr.rf⟩
