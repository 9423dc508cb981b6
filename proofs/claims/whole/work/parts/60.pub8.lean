/-! contracts: the calls: judge -/
set_option maxHeartbeats 4000000 in
set_option maxRecDepth 100000 in
theorem w_judge {Ω : Ow} {S : Sg} {M : Mm} {s : Wt} (hW : RepW S M s) (hO0 : okW s) (t i : Int) (ht : rg t) (hi : rg i) : Ct Ω mX9_judge 7 0 0 1 [vr Ω 0, vi t, vi i] S M (fun x S' M' => x = a_judge s t i ∧ RepW S' M' s ∧ mfr S S' M M') := by
  refine Ct.mk (by decide) (Nat.le_of_ble_eq_true rfl) [some (vr Ω 0), some (vi t), some (vi i), none, none, none, none] (by intro q hq; exact hq) (fun γ hγ hz => ?_)
  obtain ⟨hG, hS1, ⟨hX, hT1, hT2, hT3⟩, hlaw, hK, ⟨Λd, hTx, hn1, hn2⟩, hTr, hTp, hmost, hN46, hN61⟩ := id hW
  obtain ⟨⟨hO, hD, hSe, hPl, hBk, hl1, hl2, hl3⟩, hOk, hlw, hOt, hOp⟩ := id hO0
  have hX : RepX S M 25 (wz s) := hX
  have hO : okZ (wz s) := hO
  have hD : zd (wz s) ≤ 9999 := hD
  obtain ⟨x1, x2, x3, x4, x5, Λ, x6, x7, x8, x9⟩ := id hX
  obtain ⟨z1, z2, z3, z4, z5⟩ := id hO
  have hB : isB 25 := Or.inl rfl
  have oB := obB hG hB
  have aB := arB hG hB
  have g0 := (hG.2.2.1 25 hB).1
  have o0 := obn hG (r := 0) (c := 9) (by decide +kernel)
  have o18 := obn hG (r := 18) (c := 4) (by decide +kernel)
  have g00 : _ = ((18 : Nat) : Int) := grn hG (k := 0) (j := 0) (by decide)
  have g18 : _ = ((25 : Nat) : Int) := grn hG (k := 18) (j := 0) (by decide)
  have o60 := obn hG (r := 60) (c := 8) (by decide +kernel)
  have g05 : _ = ((60 : Nat) : Int) := grn hG (k := 0) (j := 5) (by decide)
  have o9 := obn hG (r := 9) (c := 0) (by decide +kernel)
  have g06 : _ = ((9 : Nat) : Int) := grn hG (k := 0) (j := 6) (by decide)
  have g181 : _ = ((19 : Nat) : Int) := grn hG (k := 18) (j := 1) (by decide)
  have g182 : _ = ((21 : Nat) : Int) := grn hG (k := 18) (j := 2) (by decide)
  have g183 : _ = ((23 : Nat) : Int) := grn hG (k := 18) (j := 3) (by decide)
  have iT1 : isT 19 5 := (snT snX).1
  have iT2 : isT 21 10 := (snT snX).2.1
  have iT3 : isT 23 8 := (snT snX).2.2.1
  obtain ⟨oT1, -, -⟩ := obT hG iT1
  obtain ⟨oT2, -, -⟩ := obT hG iT2
  obtain ⟨oT3, -, -⟩ := obT hG iT3
  refine g_alv f_X9_judge_0 rfl ?_
  refine g_ild f_X9_judge_1 rfl ?_
  refine g_cv3 hγ (c_tapeOf hG t (by omega)) f_X9_judge_2 mo_X9_tapeOf mv_X9_tapeOf (by assumption) rfl rfl (Nat.le_of_ble_eq_true rfl) ⟨by decide, by decide⟩ ⟨Nat.le_refl _, Nat.le_refl _⟩ (fun x S' M' hq2 => ?_)
  obtain ⟨hq2, q1, q2⟩ := hq2
  obtain rfl := q1.symm
  obtain rfl := q2.symm
  rcases hq2 with ⟨m, hm6, hem, rfl⟩ | ⟨hnt, rfl⟩
  · rw [rv_nat]
    subst hem
    obtain ⟨oKm, aKm, gKm, -⟩ := obK hG hm6
    obtain ⟨km1, km2, km3⟩ := id (hTp m hm6)
    obtain ⟨⟨jm1, jm2⟩, jm3, jm4⟩ := id (hOp m hm6)
    have im : inN (m : Int) 5 := ⟨by omega, by omega⟩
    refine g_ast_3 f_X9_judge_5 (by decide) c1i ?_
    refine g_alv f_X9_judge_6 rfl ?_
    refine g_ifnn f_X9_judge_7 ?_
    refine g_alv f_X9_judge_12 rfl ?_
    refine g_getI f_X9_judge_13 (by assumption) ?_
    rw [km1]
    refine g_const f_X9_judge_16 ?_
    refine g_icmp_ne f_X9_judge_17 rfl (by omega) (by omega) (fun hs1 => ?_) (fun hs1 => ?_)
    · refine g_alv f_X9_judge_23 rfl ?_
      refine g_getI f_X9_judge_24 (by assumption) ?_
      rw [km1]
      refine g_if_eq f_X9_judge_27 rfl (by omega) (fun hs2 => ?_) (fun hs2 => ?_)
      · refine g_alv f_X9_judge_33 rfl ?_
        refine g_getR f_X9_judge_34 (by assumption) (by assumption) ?_
        refine g_getR f_X9_judge_37 (by assumption) (by assumption) ?_
        refine g_cv0 hγ (c_look hG hB hX hO) f_X9_judge_40 mo_X5_look mv_X5_look (by assumption) rfl rfl (Nat.le_of_ble_eq_true rfl) ⟨by decide, by decide⟩ ⟨Nat.le_refl _, Nat.le_refl _⟩ (fun x S' M1 hq2 => ?_)
        obtain ⟨q1, l1, l2, l3⟩ := hq2
        obtain rfl := q1.symm
        have ej : ∀ x, judF (wp s m) (wz s) i 12 0 = x → a_judge s (m : Int) i = x := fun x hx => ((if_neg (fun h => h im)).trans ((if_neg (by show ¬ (wp s m).1 = -1; omega)).trans (if_neg (fun h => h (by show (wp s m).1 = 0; omega))))).trans hx
        have hW1 := (hW.st hO0 l1.blk l3)
        have loop : ∀ (k n : Nat) (v5 v6 : Option Value), n + k = 12 → judF (wp s m) (wz s) i k n = judF (wp s m) (wz s) i 12 0 → Go γ Ω mX9_judge (Zm γ Ω 1 0 0 (fun x S' M' => x = a_judge s (m : Int) i ∧ RepW S' M' s ∧ mfr S S' M M')) 0 0 S M1 46 [some (vr Ω 0), some (vi (m : Int)), some (vi i), some (vr Ω (75 + 2 * m)), some (vi (n : Int)), v5, v6] [] := by
          intro k
          induction k with
          | zero =>
            intro n v5 v6 hk hi0
            have hn : n = 12 := by omega
            subst hn
            refine g_ild f_X9_judge_46 rfl ?_
            refine g_const f_X9_judge_48 ?_
            refine g_icmp_ge f_X9_judge_50 rfl (by omega) (by omega) (fun hc => ?_) (fun hc => ?_)
            · refine g_const f_X9_judge_117 ?_
              refine g_reti f_X9_judge_119 rfl ?_ (Nat.zero_le _) (Nat.zero_le _)
              exact ⟨(ej _ hi0.symm).symm, hW1.1, hW1.2⟩
            · exact absurd (by omega) hc
          | succ k ih =>
            intro n v5 v6 hk hi0
            have hn : n < 12 := by omega
            have hsl := seersN_lt (t := n) hO
            have hTm1 : RepK M1 m (wp s m) := hW1.1.2.2.2.2.2.2.2.1 m hm6
            obtain ⟨km1b, km2b, km3b⟩ := id hTm1
            have x11 : M1 25 1 = _ := l3.1
            refine g_ild f_X9_judge_46 rfl ?_
            refine g_const f_X9_judge_48 ?_
            refine g_icmp_ge f_X9_judge_50 rfl (by omega) (by omega) (fun hc => ?_) (fun hc => ?_)
            · exact absurd hc (by omega)
            refine g_alv f_X9_judge_53 rfl ?_
            refine g_ild f_X9_judge_54 rfl ?_
            refine g_ild f_X9_judge_55 rfl ?_
            refine g_const f_X9_judge_57 ?_
            refine g_iadd f_X9_judge_58 ?_
            refine g_cv1 hγ (c_reaches hG hm6 hTm1 jm3 i ((n : Int) + 1) (by omega) (by omega)) f_X9_judge_59 mo_X7_reaches mv_X7_reaches (by assumption) rfl rfl (Nat.le_of_ble_eq_true rfl) ⟨by decide, by decide⟩ ⟨Nat.le_refl _, Nat.le_refl _⟩ (fun x S' M' hq9 => ?_)
            obtain ⟨hx, q1, q2⟩ := hq9
            obtain rfl := q1.symm
            obtain rfl := q2.symm
            by_cases hr : hasK (wp s m) i ((n : Int) + 1)
            · rw [if_pos hr] at hx
              subst hx
              refine g_if_ne f_X9_judge_62 rfl (by omega) (fun hx => ?_) (fun hx => ?_)
              · obtain ⟨a, ha⟩ := Int.eq_ofNat_of_zero_le hr.1
                have hr3 := hr.2.2
                have hjm := jm4 (a + n) (by omega)
                refine g_alv f_X9_judge_71 rfl ?_
                refine g_getR f_X9_judge_72 (by assumption) (by assumption) ?_
                refine g_getR f_X9_judge_75 (by assumption) (by assumption) ?_
                refine g_ild f_X9_judge_78 rfl ?_
                refine g_cv1 hγ (c_seersInView hG hB l3 hO l2 (t := n) hn) f_X9_judge_80 mo_X5_seersInView mv_X5_seersInView (by assumption) rfl rfl (Nat.le_of_ble_eq_true rfl) ⟨by decide, by decide⟩ ⟨Nat.le_refl _, Nat.le_refl _⟩ (fun x S' M4 hq4 => ?_)
                obtain ⟨rfl, q1, q2⟩ := hq4
                obtain rfl := q1.symm
                obtain rfl := q2.symm
                refine g_if_ne f_X9_judge_83 rfl (by omega) (fun hs => ?_) (fun hs => ?_)
                · refine g_lconst (z := 1) f_X9_judge_90 rfl ?_
                  have hd : dueN (wz s) n = 1 := if_neg (by omega)
                  refine g_lst f_X9_judge_91 (by decide) nol5 ?_
                  refine g_alv f_X9_judge_93 rfl ?_
                  refine g_getR f_X9_judge_94 (by assumption) (by assumption) ?_
                  refine g_ild f_X9_judge_97 rfl ?_
                  refine g_ild f_X9_judge_98 rfl ?_
                  refine g_iadd f_X9_judge_100 ?_
                  refine g_lal f_X9_judge_101 (by assumption) (a + n) (by omega) (by omega) ?_
                  rw [km3b (a + n) (by omega)]
                  refine g_lld f_X9_judge_102 rfl ?_
                  refine g_lcmp f_X9_judge_104 (by omega) (by omega) ?_
                  have hl0 := lcm_0 (a := (wp s m).2.2 (a + n)) (b := dueN (wz s) n)
                  rw [hd] at hl0
                  have hl1 := lcm_rg (a := (wp s m).2.2 (a + n)) (b := dueN (wz s) n)
                  rw [hd] at hl1
                  refine g_if_eq f_X9_judge_105 rfl (by omega) (fun hne => ?_) (fun hne => ?_)
                  · refine g_inc_4 f_X9_judge_111 (by decide) c1v ?_
                    refine g_goto f_X9_judge_114 ?_
                    exact ih (n + 1) _ _ (by omega) (by rw [← hi0, judF, if_neg (fun h => h hr), if_neg (by rw [hd, show i.toNat = a by omega]; omega)])
                  · refine g_ild f_X9_judge_108 rfl ?_
                    refine g_reti f_X9_judge_110 rfl ?_ (Nat.zero_le _) (Nat.zero_le _)
                    exact ⟨(ej _ (by rw [← hi0, judF, if_neg (fun h => h hr), if_pos (by rw [hd, show i.toNat = a by omega]; omega)])).symm, hW1.1, hW1.2⟩
                · refine g_lconst (z := 0) f_X9_judge_86 rfl ?_
                  have hd : dueN (wz s) n = 0 := if_pos (by omega)
                  refine g_goto f_X9_judge_87 ?_
                  refine g_lst f_X9_judge_91 (by decide) nol5 ?_
                  refine g_alv f_X9_judge_93 rfl ?_
                  refine g_getR f_X9_judge_94 (by assumption) (by assumption) ?_
                  refine g_ild f_X9_judge_97 rfl ?_
                  refine g_ild f_X9_judge_98 rfl ?_
                  refine g_iadd f_X9_judge_100 ?_
                  refine g_lal f_X9_judge_101 (by assumption) (a + n) (by omega) (by omega) ?_
                  rw [km3b (a + n) (by omega)]
                  refine g_lld f_X9_judge_102 rfl ?_
                  refine g_lcmp f_X9_judge_104 (by omega) (by omega) ?_
                  have hl0 := lcm_0 (a := (wp s m).2.2 (a + n)) (b := dueN (wz s) n)
                  rw [hd] at hl0
                  have hl1 := lcm_rg (a := (wp s m).2.2 (a + n)) (b := dueN (wz s) n)
                  rw [hd] at hl1
                  refine g_if_eq f_X9_judge_105 rfl (by omega) (fun hne => ?_) (fun hne => ?_)
                  · refine g_inc_4 f_X9_judge_111 (by decide) c1v ?_
                    refine g_goto f_X9_judge_114 ?_
                    exact ih (n + 1) _ _ (by omega) (by rw [← hi0, judF, if_neg (fun h => h hr), if_neg (by rw [hd, show i.toNat = a by omega]; omega)])
                  · refine g_ild f_X9_judge_108 rfl ?_
                    refine g_reti f_X9_judge_110 rfl ?_ (Nat.zero_le _) (Nat.zero_le _)
                    exact ⟨(ej _ (by rw [← hi0, judF, if_neg (fun h => h hr), if_pos (by rw [hd, show i.toNat = a by omega]; omega)])).symm, hW1.1, hW1.2⟩
              · exact absurd (by omega) hx
            · rw [if_neg hr] at hx
              subst hx
              refine g_if_ne f_X9_judge_62 rfl (by omega) (fun hx => ?_) (fun hx => ?_)
              · exact absurd hx (by omega)
              refine g_const f_X9_judge_65 ?_
              refine g_ild f_X9_judge_67 rfl ?_
              refine g_iadd f_X9_judge_69 ?_
              refine g_reti f_X9_judge_70 rfl ?_ (Nat.zero_le _) (Nat.zero_le _)
              exact ⟨(ej _ (by rw [← hi0, judF, if_pos hr])).symm, hW1.1, hW1.2⟩
        refine g_const f_X9_judge_43 ?_
        refine g_ist_4 f_X9_judge_44 (by decide) c1v ?_
        exact loop 12 0 none none rfl rfl
      · refine g_const f_X9_judge_30 ?_
        refine g_reti f_X9_judge_32 rfl ?_ (Nat.zero_le _) (Nat.zero_le _)
        have e : a_judge s (m : Int) i = -12 := (if_neg (fun h => h im)).trans ((if_neg (by show ¬ (wp s m).1 = -1; omega)).trans (if_pos (by show (wp s m).1 ≠ 0; omega)))
        rw [e]
        exact ⟨rfl, hW, mfr.rf⟩
    · refine g_const f_X9_judge_20 ?_
      refine g_reti f_X9_judge_22 rfl ?_ (Nat.zero_le _) (Nat.zero_le _)
      have e : a_judge s (m : Int) i = 100 := (if_neg (fun h => h im)).trans (if_pos (by show (wp s m).1 = -1; omega))
      rw [e]
      exact ⟨rfl, hW, mfr.rf⟩
  · rw [rv_m1]
    refine g_asn_3 f_X9_judge_5 (by decide) c1i ?_
    refine g_aldN f_X9_judge_6 rfl ?_
    refine g_ifnnN f_X9_judge_7 rfl ?_
    refine g_const f_X9_judge_10 ?_
    refine g_reti f_X9_judge_11 rfl ?_ (Nat.zero_le _) (Nat.zero_le _)
    have e : a_judge s t i = -1 := if_pos hnt
    rw [e]
    exact ⟨rfl, hW, mfr.rf⟩
