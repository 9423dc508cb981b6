/-! contracts: the calls: statute, odds, mean -/
set_option maxHeartbeats 4000000 in
set_option maxRecDepth 100000 in
theorem w_statute {Ω : Ow} {S : Sg} {M : Mm} {s : Wt} (hW : RepW S M s) (hO0 : okW s) : Ct Ω mX9_statute 24 6 144 1 [vr Ω 0] S M (fun x S' M' => x = (a_statute s).1 ∧ RepW S' M' (a_statute s).2 ∧ mfr S S' M M') := by
  refine Ct.mk (by decide) (Nat.le_of_ble_eq_true rfl) [some (vr Ω 0), none] (by intro q hq; exact hq) (fun γ hγ hz => ?_)
  obtain ⟨hG, hS1, ⟨hX, hT1, hT2, hT3⟩, hlaw, hK, ⟨Λd, hTx, hn1, hn2⟩, hTr, hTp, hmost, hN46, hN61⟩ := id hW
  obtain ⟨⟨hO, hD, hSe, hPl, hBk, hl1, hl2, hl3⟩, hOk, hlw, hOt, hOp⟩ := id hO0
  have hX : RepX S M 25 (wz s) := hX
  have hO : okZ (wz s) := hO
  have hD : zd (wz s) ≤ 9999 := hD
  obtain ⟨x1, x2, x3, x4, x5, Λ, x6, x7, x8, x9⟩ := id hX
  obtain ⟨z1, z2, z3, z4, z5⟩ := id hO
  have hB : isB 25 := Or.inl rfl
  have oB := obB hG hB
  have aB := arB hG hB
  have g0 := (hG.2.2.1 25 hB).1
  have o0 := obn hG (r := 0) (c := 9) (by decide +kernel)
  have o18 := obn hG (r := 18) (c := 4) (by decide +kernel)
  have g00 : _ = ((18 : Nat) : Int) := grn hG (k := 0) (j := 0) (by decide)
  have g18 : _ = ((25 : Nat) : Int) := grn hG (k := 18) (j := 0) (by decide)
  have o60 := obn hG (r := 60) (c := 8) (by decide +kernel)
  have g05 : _ = ((60 : Nat) : Int) := grn hG (k := 0) (j := 5) (by decide)
  have o9 := obn hG (r := 9) (c := 0) (by decide +kernel)
  have g06 : _ = ((9 : Nat) : Int) := grn hG (k := 0) (j := 6) (by decide)
  have g181 : _ = ((19 : Nat) : Int) := grn hG (k := 18) (j := 1) (by decide)
  have g182 : _ = ((21 : Nat) : Int) := grn hG (k := 18) (j := 2) (by decide)
  have g183 : _ = ((23 : Nat) : Int) := grn hG (k := 18) (j := 3) (by decide)
  have iT1 : isT 19 5 := (snT snX).1
  have iT2 : isT 21 10 := (snT snX).2.1
  have iT3 : isT 23 8 := (snT snX).2.2.1
  obtain ⟨oT1, -, -⟩ := obT hG iT1
  obtain ⟨oT2, -, -⟩ := obT hG iT2
  obtain ⟨oT3, -, -⟩ := obT hG iT3
  have g03 : _ = ((1 : Nat) : Int) := grn hG (k := 0) (j := 3) (by decide)
  have o1 := obn hG (r := 1) (c := 2) (by decide +kernel)
  refine g_alv f_X9_statute_0 rfl ?_
  refine g_getI f_X9_statute_1 (by assumption) ?_
  rw [hlaw]
  refine g_const f_X9_statute_4 ?_
  refine g_icmp_lt f_X9_statute_6 rfl (by omega) (by omega) (fun h6 => ?_) (fun h6 => ?_)
  · refine g_alv f_X9_statute_12 rfl ?_
    refine g_getR f_X9_statute_13 (by assumption) (by assumption) ?_
    refine g_cv3 hγ (c_enact hG hS1 hTx) f_X9_statute_16 mo_X2_enact mv_X2_enact (by assumption) rfl rfl (Nat.le_of_ble_eq_true rfl) ⟨by decide, by decide⟩ ⟨by decide, by decide⟩ (fun x S2 M2 hq2 => ?_)
    have e0 : a_statute s = (match lawOf (wx s) with
      | .inl L => ((wl s : Int), putL s L)
      | .inr a => (-10 - (a : Int), putX s [])) := if_neg (by omega)
    rcases hq2 with ⟨fa, hl2, hfa, rfl, q1, hat, hR, hf⟩ | ⟨L, hl2, rfl, q1, hR, hL, hf⟩
    · obtain rfl := q1.symm
      rw [rv_m1]
      refine g_asn_1 f_X9_statute_19 (by decide) c1v ?_
      refine g_aldN f_X9_statute_20 rfl ?_
      refine g_ifnnN f_X9_statute_21 rfl ?_
      refine g_const f_X9_statute_24 ?_
      refine g_alv f_X9_statute_26 rfl ?_
      refine g_getR f_X9_statute_27 (by assumption) (by assumption) ?_
      refine g_getI f_X9_statute_30 (by assumption) ?_
      rw [hat]
      refine g_isub f_X9_statute_33 ?_
      refine g_reti f_X9_statute_34 rfl ?_ (Nat.le_of_ble_eq_true rfl) (Nat.le_of_ble_eq_true rfl)
      rw [hl2] at e0
      rw [e0]
      have h := hW.stat0 hO0 hTx hn1 hn2 hf hR
      exact ⟨rfl, h.1, h.2⟩
    · rw [rv_nat]
      have oΛ : True := trivial
      subst q1
      have h9 := hW.stat1 hO0 hTx hn1 hn2 hf hR hL
      have hS9 : 116 ≤ S.1 := hG.1
      have o0b : Ob (S.1 + 6, up (newS S S.1) 1 3 (S.1 : Int)) 0 9 := ⟨o0.1, by show 0 < S.1 + 6; omega, o0.2.2⟩
      have o18b : Ob (S.1 + 6, up (newS S S.1) 1 3 (S.1 : Int)) 18 4 := ⟨o18.1, by show 18 < S.1 + 6; omega, o18.2.2⟩
      have oBb : Ob (S.1 + 6, up (newS S S.1) 1 3 (S.1 : Int)) 25 5 := ⟨oB.1, by show 25 < S.1 + 6; omega, oB.2.2⟩
      have g00b : (up (newS S S.1) 1 3 (S.1 : Int)) 0 0 = ((18 : Nat) : Int) := by rw [up_n (by omega), newS_row (by omega)]; exact g00
      have g18b : (up (newS S S.1) 1 3 (S.1 : Int)) 18 0 = ((25 : Nat) : Int) := by rw [up_n (by omega), newS_row (by omega)]; exact g18
      have hm2 : M2 0 4 = (wl s : Int) := by rw [hf 0 (by decide) (by have := law_1 hTx.1; omega) (by omega)]; exact hlaw
      refine g_ast_1 f_X9_statute_19 (by decide) c1v ?_
      refine g_alv f_X9_statute_20 rfl ?_
      refine g_ifnn f_X9_statute_21 ?_
      refine g_alv f_X9_statute_35 rfl ?_
      refine g_getR f_X9_statute_36 (by assumption) (by assumption) ?_
      refine g_getR f_X9_statute_39 (by assumption) (by assumption) ?_
      refine g_alv f_X9_statute_42 rfl ?_
      refine g_putR f_X9_statute_43 (by first | exact Or.inl ⟨_, rfl⟩ | exact Or.inr ⟨_, rfl⟩) (by assumption) ?_
      refine g_alv f_X9_statute_46 rfl ?_
      refine g_dup f_X9_statute_47 rfl ?_
      refine g_getI f_X9_statute_48 (by assumption) ?_
      rw [hm2]
      refine g_const f_X9_statute_51 ?_
      refine g_iadd f_X9_statute_52 ?_
      refine g_putI f_X9_statute_53 rfl (by assumption) ?_
      refine g_alv f_X9_statute_56 rfl ?_
      refine g_getI f_X9_statute_57 (by assumption) ?_
      rw [up_s]
      refine g_const f_X9_statute_60 ?_
      refine g_isub f_X9_statute_61 ?_
      refine g_reti f_X9_statute_62 rfl ?_ (Nat.le_refl _) (Nat.le_refl _)
      rw [hl2] at e0
      rw [e0]
      exact ⟨by show (wl s : Int) + 1 - 1 = (wl s : Int); omega, h9.1, h9.2⟩
  · refine g_const f_X9_statute_9 ?_
    refine g_reti f_X9_statute_11 rfl ?_ (Nat.le_of_ble_eq_true rfl) (Nat.le_of_ble_eq_true rfl)
    have e : a_statute s = (-4, s) := if_pos (by omega)
    rw [e]
    exact ⟨rfl, hW, mfr.rf⟩

set_option maxHeartbeats 4000000 in
set_option maxRecDepth 100000 in
theorem c_frac {Ω : Ow} {S : Sg} {M : Mm} {a b : Nat} {part : Int} (ha : a ≤ 1000000) (hb : b ≤ 12) (hb0 : 0 < b) (hp0 : rg part) : Ct Ω mX9_lowestTerms 1 0 0 2 [vi (a : Int), vi (b : Int), vi part] S M (fun x S' M' => x = fracN a b part ∧ S' = S ∧ M' = M) := by
  refine Ct.mk (by decide) (Nat.le_of_ble_eq_true rfl) [some (vi (a : Int)), some (vi (b : Int)), some (vi part), none, none, none, none] (by intro q hq; exact hq) (fun γ hγ hz => ?_)
  have tail : ∀ (d i : Nat) (v6 : Option Value), d = Nat.gcd b a → Go γ Ω mX9_lowestTerms (Zm γ Ω 2 0 0 (fun x S' M' => x = fracN a b part ∧ S' = S ∧ M' = M)) 0 0 S M 39 [some (vi (a : Int)), some (vi (b : Int)), some (vi part), some (vi (d : Int)), some (vi ((0 : Nat) : Int)), some (vi (i : Int)), v6] [] := by
    intro d i v6 hd
    have hd0 : 0 < d := by rw [hd]; exact Nat.gcd_pos_of_pos_left _ hb0
    have hda : d ≤ b := by rw [hd]; exact Nat.gcd_le_left _ hb0
    refine g_ild f_X9_lowestTerms_39 rfl ?_
    refine g_if_ne f_X9_lowestTerms_40 rfl (by omega) (fun hp => ?_) (fun hp => ?_)
    · refine g_ild f_X9_lowestTerms_47 rfl ?_
      refine g_ist_5 f_X9_lowestTerms_48 (by decide) c1i ?_
      refine g_ild f_X9_lowestTerms_50 rfl ?_
      refine g_if_ne f_X9_lowestTerms_51 rfl (by omega) (fun hz0 => ?_) (fun hz0 => ?_)
      · refine g_ild f_X9_lowestTerms_60 rfl ?_
        refine g_ild f_X9_lowestTerms_62 rfl ?_
        refine g_idiv f_X9_lowestTerms_63 (by omega) (by omega) ?_
        refine g_i2l f_X9_lowestTerms_64 (by constructor <;> first | (have h1 := Int.ediv_nonneg (show (0:Int) ≤ (a:Int) by omega) (show (0:Int) ≤ (d:Int) by omega); have h2 := Int.ediv_le_self (d:Int) (show (0:Int) ≤ (a:Int) by omega); omega) | (have h1 := Int.ediv_nonneg (show (0:Int) ≤ (b:Int) by omega) (show (0:Int) ≤ (d:Int) by omega); have h2 := Int.ediv_le_self (d:Int) (show (0:Int) ≤ (b:Int) by omega); omega)) ?_
        refine g_retl f_X9_lowestTerms_65 rfl ?_ (Nat.zero_le _) (Nat.zero_le _)
        refine ⟨?_, rfl, rfl⟩
        unfold fracN
        rw [← hd]
        first
        | (rw [if_pos (by omega)]; exact (Int.natCast_ediv _ _).symm)
        | (rw [if_neg (by omega)]; exact (Int.natCast_ediv _ _).symm)
      · exact absurd (by omega) hz0
    · refine g_ild f_X9_lowestTerms_43 rfl ?_
      refine g_goto f_X9_lowestTerms_44 ?_
      refine g_ist_5 f_X9_lowestTerms_48 (by decide) c1i ?_
      refine g_ild f_X9_lowestTerms_50 rfl ?_
      refine g_if_ne f_X9_lowestTerms_51 rfl (by omega) (fun hz0 => ?_) (fun hz0 => ?_)
      · refine g_ild f_X9_lowestTerms_60 rfl ?_
        refine g_ild f_X9_lowestTerms_62 rfl ?_
        refine g_idiv f_X9_lowestTerms_63 (by omega) (by omega) ?_
        refine g_i2l f_X9_lowestTerms_64 (by constructor <;> first | (have h1 := Int.ediv_nonneg (show (0:Int) ≤ (a:Int) by omega) (show (0:Int) ≤ (d:Int) by omega); have h2 := Int.ediv_le_self (d:Int) (show (0:Int) ≤ (a:Int) by omega); omega) | (have h1 := Int.ediv_nonneg (show (0:Int) ≤ (b:Int) by omega) (show (0:Int) ≤ (d:Int) by omega); have h2 := Int.ediv_le_self (d:Int) (show (0:Int) ≤ (b:Int) by omega); omega)) ?_
        refine g_retl f_X9_lowestTerms_65 rfl ?_ (Nat.zero_le _) (Nat.zero_le _)
        refine ⟨?_, rfl, rfl⟩
        unfold fracN
        rw [← hd]
        first
        | (rw [if_pos (by omega)]; exact (Int.natCast_ediv _ _).symm)
        | (rw [if_neg (by omega)]; exact (Int.natCast_ediv _ _).symm)
      · exact absurd (by omega) hz0
  have loop : ∀ (k i d r : Nat) (v6 : Option Value), i + k = 64 → ((i = 0 ∧ d = b ∧ r = a) ∨ (1 ≤ i ∧ r + i ≤ 13 ∧ d ≤ 2147483647)) → Nat.gcd d r = Nat.gcd b a → Go γ Ω mX9_lowestTerms (Zm γ Ω 2 0 0 (fun x S' M' => x = fracN a b part ∧ S' = S ∧ M' = M)) 0 0 S M 8 [some (vi (a : Int)), some (vi (b : Int)), some (vi part), some (vi (d : Int)), some (vi (r : Int)), some (vi (i : Int)), v6] [] := by
    intro k
    induction k with
    | zero =>
      intro i d r v6 hk hinv hg
      omega
    | succ k ih =>
      intro i d r v6 hk hinv hg
      refine g_ild f_X9_lowestTerms_8 rfl ?_
      refine g_const f_X9_lowestTerms_10 ?_
      refine g_icmp_ge f_X9_lowestTerms_12 rfl (by omega) (by omega) (fun hc => ?_) (fun hc => ?_)
      · exact absurd hc (by omega)
      refine g_ild f_X9_lowestTerms_15 rfl ?_
      refine g_if_eq f_X9_lowestTerms_17 rfl (by omega) (fun hr => ?_) (fun hr => ?_)
      · obtain rfl : r = 0 := by omega
        exact tail d i v6 (by rw [← hg, Nat.gcd_zero_right])
      · refine g_ild f_X9_lowestTerms_20 rfl ?_
        refine g_ild f_X9_lowestTerms_21 rfl ?_
        refine g_irem f_X9_lowestTerms_23 (by omega) (by omega) ?_
        rw [← Int.natCast_emod]
        refine g_ist_6 f_X9_lowestTerms_24 (by decide) c1i ?_
        refine g_ild f_X9_lowestTerms_26 rfl ?_
        refine g_ist_3 f_X9_lowestTerms_28 (by decide) c1i ?_
        refine g_ild f_X9_lowestTerms_29 rfl ?_
        refine g_ist_4 f_X9_lowestTerms_31 (by decide) c1i ?_
        refine g_inc_5 f_X9_lowestTerms_33 (by decide) c1i ?_
        refine g_goto f_X9_lowestTerms_36 ?_
        have hlt : d % r < r := Nat.mod_lt _ (by omega)
        have hle : d % r ≤ d := Nat.mod_le _ _
        exact ih (i + 1) r (d % r) _ (by omega) (Or.inr (by omega)) (by rw [← hg, Nat.gcd_comm d r, Nat.gcd_rec r d, Nat.gcd_comm])
  refine g_ild f_X9_lowestTerms_0 rfl ?_
  refine g_ist_3 f_X9_lowestTerms_1 (by decide) c1i ?_
  refine g_ild f_X9_lowestTerms_2 rfl ?_
  refine g_ist_4 f_X9_lowestTerms_3 (by decide) c1i ?_
  refine g_const f_X9_lowestTerms_5 ?_
  refine g_ist_5 f_X9_lowestTerms_6 (by decide) c1i ?_
  exact loop 64 0 b a none rfl (Or.inl ⟨rfl, rfl, rfl⟩) rfl

set_option maxHeartbeats 4000000 in
set_option maxRecDepth 100000 in
theorem w_mean {Ω : Ow} {S : Sg} {M : Mm} {s : Wt} (hW : RepW S M s) (hO0 : okW s) (part : Int) (hp0 : rg part) : Ct Ω mX9_mean 10 0 0 2 [vr Ω 0, vi part] S M (fun x S' M' => x = a_mean s part ∧ RepW S' M' s ∧ mfr S S' M M') := by
  refine Ct.mk (by decide) (Nat.le_of_ble_eq_true rfl) [some (vr Ω 0), some (vi part), none, none] (by intro q hq; exact hq) (fun γ hγ hz => ?_)
  obtain ⟨hG, hS1, ⟨hX, hT1, hT2, hT3⟩, hlaw, hK, ⟨Λd, hTx, hn1, hn2⟩, hTr, hTp, hmost, hN46, hN61⟩ := id hW
  obtain ⟨⟨hO, hD, hSe, hPl, hBk, hl1, hl2, hl3⟩, hOk, hlw, hOt, hOp⟩ := id hO0
  have hX : RepX S M 25 (wz s) := hX
  have hO : okZ (wz s) := hO
  have hD : zd (wz s) ≤ 9999 := hD
  obtain ⟨x1, x2, x3, x4, x5, Λ, x6, x7, x8, x9⟩ := id hX
  obtain ⟨z1, z2, z3, z4, z5⟩ := id hO
  have hB : isB 25 := Or.inl rfl
  have oB := obB hG hB
  have aB := arB hG hB
  have g0 := (hG.2.2.1 25 hB).1
  have o0 := obn hG (r := 0) (c := 9) (by decide +kernel)
  have o18 := obn hG (r := 18) (c := 4) (by decide +kernel)
  have g00 : _ = ((18 : Nat) : Int) := grn hG (k := 0) (j := 0) (by decide)
  have g18 : _ = ((25 : Nat) : Int) := grn hG (k := 18) (j := 0) (by decide)
  have o60 := obn hG (r := 60) (c := 8) (by decide +kernel)
  have g05 : _ = ((60 : Nat) : Int) := grn hG (k := 0) (j := 5) (by decide)
  have o9 := obn hG (r := 9) (c := 0) (by decide +kernel)
  have g06 : _ = ((9 : Nat) : Int) := grn hG (k := 0) (j := 6) (by decide)
  have g181 : _ = ((19 : Nat) : Int) := grn hG (k := 18) (j := 1) (by decide)
  have g182 : _ = ((21 : Nat) : Int) := grn hG (k := 18) (j := 2) (by decide)
  have g183 : _ = ((23 : Nat) : Int) := grn hG (k := 18) (j := 3) (by decide)
  have iT1 : isT 19 5 := (snT snX).1
  have iT2 : isT 21 10 := (snT snX).2.1
  have iT3 : isT 23 8 := (snT snX).2.2.1
  obtain ⟨oT1, -, -⟩ := obT hG iT1
  obtain ⟨oT2, -, -⟩ := obT hG iT2
  obtain ⟨oT3, -, -⟩ := obT hG iT3
  refine g_ild f_X9_mean_0 rfl ?_
  refine g_const f_X9_mean_1 ?_
  refine g_cs1 hγ (c_within part 1 (by omega) (by omega)) f_X9_mean_2 mo_X9_isWithin mt_X9_isWithin rfl (Nat.le_of_ble_eq_true rfl) ⟨by decide, by decide⟩ ⟨Nat.le_refl _, Nat.le_refl _⟩ (fun x S' M' hq9 => ?_)
  obtain ⟨hx, q1, q2⟩ := hq9
  obtain rfl := q1.symm
  obtain rfl := q2.symm
  by_cases hp : 0 ≤ part ∧ part ≤ 1
  · rw [if_pos hp] at hx
    subst hx
    refine g_if_ne f_X9_mean_5 rfl (by omega) (fun hx => ?_) (fun hx => ?_)
    · have loop : ∀ (k n : Nat) (M1 : Mm), n + k = 12 → RepW S M1 s → mfr S S M M1 → Go γ Ω mX9_mean (Zm γ Ω 2 0 0 (fun x S' M' => x = a_mean s part ∧ RepW S' M' s ∧ mfr S S' M M')) 0 0 S M1 16 [some (vr Ω 0), some (vi part), some (vi (meanN (wz s) n : Int)), some (vi (n : Int))] [] := by
        intro k
        induction k with
        | zero =>
          intro n M1 hk w1 m1
          have hn : n = 12 := by omega
          subst hn
          have hm9 := meanN_le hO 12
          refine g_ild f_X9_mean_16 rfl ?_
          refine g_const f_X9_mean_17 ?_
          refine g_icmp_ge f_X9_mean_19 rfl (by omega) (by omega) (fun hc => ?_) (fun hc => ?_)
          · refine g_ild f_X9_mean_42 rfl ?_
            refine g_const f_X9_mean_43 ?_
            refine g_ild f_X9_mean_45 rfl ?_
            refine g_cs2 hγ (c_frac (a := meanN (wz s) 12) (b := 12) (part := part) (by omega) (by decide) (by decide) (by omega)) f_X9_mean_46 mo_X9_lowestTerms mt_X9_lowestTerms rfl (Nat.le_of_ble_eq_true rfl) ⟨by decide, by decide⟩ ⟨Nat.le_refl _, Nat.le_refl _⟩ (fun x S' M3 hq3 => ?_)
            obtain ⟨rfl, q1, q2⟩ := hq3
            obtain rfl := q1.symm
            obtain rfl := q2.symm
            refine g_retl f_X9_mean_49 rfl ?_ (Nat.zero_le _) (Nat.zero_le _)
            have e : a_mean s part = fracN (meanN (wz s) 12) 12 part := if_neg (fun h => h hp)
            rw [e]
            exact ⟨rfl, w1, m1⟩
          · exact absurd (by omega) hc
        | succ k ih =>
          intro n M1 hk w1 m1
          have hn : n < 12 := by omega
          have hX1 : RepX S M1 25 (wz s) := w1.2.2.1.1
          have hm9 := meanN_le hO n
          have hm8 := paidN_le (who := seersN (wz s) n) hO
          refine g_ild f_X9_mean_16 rfl ?_
          refine g_const f_X9_mean_17 ?_
          refine g_icmp_ge f_X9_mean_19 rfl (by omega) (by omega) (fun hc => ?_) (fun hc => ?_)
          · exact absurd hc (by omega)
          refine g_ild f_X9_mean_22 rfl ?_
          refine g_alv f_X9_mean_23 rfl ?_
          refine g_getR f_X9_mean_24 (by assumption) (by assumption) ?_
          refine g_getR f_X9_mean_27 (by assumption) (by assumption) ?_
          refine g_ild f_X9_mean_30 rfl ?_
          refine g_cv1 hγ (c_paidFor hG hB hX1 hO (t := n) hn) f_X9_mean_31 mo_X5_paidFor mv_X5_paidFor (by assumption) rfl rfl (Nat.le_of_ble_eq_true rfl) ⟨by decide, by decide⟩ ⟨Nat.le_refl _, Nat.le_refl _⟩ (fun x S' M3 hq3 => ?_)
          obtain ⟨rfl, q1, l1, l2, l3⟩ := hq3
          obtain rfl := q1.symm
          have h := w1.st hO0 l1.blk l3
          refine g_iadd f_X9_mean_34 ?_
          refine g_as (show (meanN (wz s) n : Int) + (paidN (wz s) (seersN (wz s) n) : Int) = ((meanN (wz s) (n + 1) : Nat) : Int) by unfold meanN; rw [sumF]; push_cast; rfl) ?_
          refine g_ist_2 f_X9_mean_35 (by decide) c1i ?_
          refine g_inc_3 f_X9_mean_36 (by decide) c1i ?_
          refine g_goto f_X9_mean_39 ?_
          exact ih (n + 1) M3 (by omega) h.1 (m1.tr h.2)
      refine g_const f_X9_mean_12 ?_
      refine g_ist_2 f_X9_mean_13 (by decide) c1i ?_
      refine g_const f_X9_mean_14 ?_
      refine g_ist_3 f_X9_mean_15 (by decide) c1i ?_
      exact loop 12 0 M rfl hW mfr.rf
    · exact absurd (by omega) hx
  · rw [if_neg hp] at hx
    subst hx
    refine g_if_ne f_X9_mean_5 rfl (by omega) (fun hx => ?_) (fun hx => ?_)
    · exact absurd hx (by omega)
    refine g_ldc2 (z := -9223372036854775808) f_X9_mean_8 (ldcL (by decide) w_743) ?_
    refine g_retl f_X9_mean_11 rfl ?_ (Nat.zero_le _) (Nat.zero_le _)
    have e : a_mean s part = -9223372036854775808 := if_pos hp
    rw [e]
    exact ⟨rfl, hW, mfr.rf⟩

set_option maxHeartbeats 4000000 in
set_option maxRecDepth 100000 in
theorem w_odds {Ω : Ow} {S : Sg} {M : Mm} {s : Wt} (hW : RepW S M s) (hO0 : okW s) (c part : Int) (hc0 : rg c) (hp0 : rg part) : Ct Ω mX9_odds 9 0 0 2 [vr Ω 0, vi c, vi part] S M (fun x S' M' => x = a_odds s c part ∧ RepW S' M' s ∧ mfr S S' M M') := by
  refine Ct.mk (by decide) (Nat.le_of_ble_eq_true rfl) [some (vr Ω 0), some (vi c), some (vi part), none, none, none, none] (by intro q hq; exact hq) (fun γ hγ hz => ?_)
  obtain ⟨hG, hS1, ⟨hX, hT1, hT2, hT3⟩, hlaw, hK, ⟨Λd, hTx, hn1, hn2⟩, hTr, hTp, hmost, hN46, hN61⟩ := id hW
  obtain ⟨⟨hO, hD, hSe, hPl, hBk, hl1, hl2, hl3⟩, hOk, hlw, hOt, hOp⟩ := id hO0
  have hX : RepX S M 25 (wz s) := hX
  have hO : okZ (wz s) := hO
  have hD : zd (wz s) ≤ 9999 := hD
  obtain ⟨x1, x2, x3, x4, x5, Λ, x6, x7, x8, x9⟩ := id hX
  obtain ⟨z1, z2, z3, z4, z5⟩ := id hO
  have hB : isB 25 := Or.inl rfl
  have oB := obB hG hB
  have aB := arB hG hB
  have g0 := (hG.2.2.1 25 hB).1
  have o0 := obn hG (r := 0) (c := 9) (by decide +kernel)
  have o18 := obn hG (r := 18) (c := 4) (by decide +kernel)
  have g00 : _ = ((18 : Nat) : Int) := grn hG (k := 0) (j := 0) (by decide)
  have g18 : _ = ((25 : Nat) : Int) := grn hG (k := 18) (j := 0) (by decide)
  have o60 := obn hG (r := 60) (c := 8) (by decide +kernel)
  have g05 : _ = ((60 : Nat) : Int) := grn hG (k := 0) (j := 5) (by decide)
  have o9 := obn hG (r := 9) (c := 0) (by decide +kernel)
  have g06 : _ = ((9 : Nat) : Int) := grn hG (k := 0) (j := 6) (by decide)
  have g181 : _ = ((19 : Nat) : Int) := grn hG (k := 18) (j := 1) (by decide)
  have g182 : _ = ((21 : Nat) : Int) := grn hG (k := 18) (j := 2) (by decide)
  have g183 : _ = ((23 : Nat) : Int) := grn hG (k := 18) (j := 3) (by decide)
  have iT1 : isT 19 5 := (snT snX).1
  have iT2 : isT 21 10 := (snT snX).2.1
  have iT3 : isT 23 8 := (snT snX).2.2.1
  obtain ⟨oT1, -, -⟩ := obT hG iT1
  obtain ⟨oT2, -, -⟩ := obT hG iT2
  obtain ⟨oT3, -, -⟩ := obT hG iT3
  refine g_alv f_X9_odds_0 rfl ?_
  refine g_getR f_X9_odds_1 (by assumption) (by assumption) ?_
  refine g_getR f_X9_odds_4 (by assumption) (by assumption) ?_
  refine g_getI f_X9_odds_7 (by assumption) ?_
  rw [x1]
  refine g_ist_3 f_X9_odds_10 (by decide) c1i ?_
  refine g_ild f_X9_odds_11 rfl ?_
  refine g_cs1 hγ (c_isPlace c (by omega)) f_X9_odds_12 mo_X9_isPlace mt_X9_isPlace rfl (Nat.le_of_ble_eq_true rfl) ⟨by decide, by decide⟩ ⟨Nat.le_refl _, Nat.le_refl _⟩ (fun x S' M' hq9 => ?_)
  obtain ⟨hx, q1, q2⟩ := hq9
  obtain rfl := q1.symm
  obtain rfl := q2.symm
  by_cases hc : 0 ≤ c ∧ c ≤ 11
  · rw [if_pos hc] at hx
    subst hx
    refine g_if_eq f_X9_odds_15 rfl (by omega) (fun hx => ?_) (fun hx => ?_)
    · exact absurd hx (by omega)
    refine g_ild f_X9_odds_18 rfl ?_
    refine g_const f_X9_odds_19 ?_
    refine g_cs1 hγ (c_within part 1 (by omega) (by omega)) f_X9_odds_20 mo_X9_isWithin mt_X9_isWithin rfl (Nat.le_of_ble_eq_true rfl) ⟨by decide, by decide⟩ ⟨Nat.le_refl _, Nat.le_refl _⟩ (fun x S' M' hq9 => ?_)
    obtain ⟨hx, q1, q2⟩ := hq9
    obtain rfl := q1.symm
    obtain rfl := q2.symm
    by_cases hp : 0 ≤ part ∧ part ≤ 1
    · rw [if_pos hp] at hx
      subst hx
      refine g_if_eq f_X9_odds_23 rfl (by omega) (fun hx => ?_) (fun hx => ?_)
      · exact absurd hx (by omega)
      refine g_ild f_X9_odds_26 rfl ?_
      refine g_if_ne f_X9_odds_27 rfl (by omega) (fun h0 => ?_) (fun h0 => ?_)
      · obtain ⟨t, rfl⟩ := Int.eq_ofNat_of_zero_le hc.1
        refine g_alv f_X9_odds_34 rfl ?_
        refine g_getR f_X9_odds_35 (by assumption) (by assumption) ?_
        refine g_getR f_X9_odds_38 (by assumption) (by assumption) ?_
        refine g_ild f_X9_odds_41 rfl ?_
        refine g_cv1 hγ (c_seers hG hB hX hO (t := t) (by omega)) f_X9_odds_42 mo_X5_seers mv_X5_seers (by assumption) rfl rfl (Nat.le_of_ble_eq_true rfl) ⟨by decide, by decide⟩ ⟨Nat.le_refl _, Nat.le_refl _⟩ (fun x S' M3 hq3 => ?_)
        obtain ⟨rfl, q1, l1, l2, l3⟩ := hq3
        obtain rfl := q1.symm
        have hsl := seersN_lt (t := t) hO
        have h := hW.st hO0 l1.blk l3
        have loop : ∀ (k n : Nat), n + k = zc (wz s) → Go γ Ω mX9_odds (Zm γ Ω 2 0 0 (fun x S' M' => x = a_odds s (t : Int) part ∧ RepW S' M' s ∧ mfr S S' M M')) 0 0 S M3 53 [some (vr Ω 0), some (vi (t : Int)), some (vi part), some (vi (zc (wz s) : Int)), some (vi (seersN (wz s) t : Int)), some (vi (oddN (seersN (wz s) t) n : Int)), some (vi (n : Int))] [] := by
          intro k
          induction k with
          | zero =>
            intro n hk
            have hn : n = zc (wz s) := by omega
            subst hn
            have hm9 := cntF_le (fun i => decide (band (seersN (wz s) t : Int) (bxor (bshl 1 (i : Int)) (-1)) = 0)) (zc (wz s))
            change oddN (seersN (wz s) t) (zc (wz s)) ≤ _ at hm9
            refine g_ild f_X9_odds_53 rfl ?_
            refine g_ild f_X9_odds_55 rfl ?_
            refine g_icmp_ge f_X9_odds_56 rfl (by omega) (by omega) (fun hcc => ?_) (fun hcc => ?_)
            · refine g_ild f_X9_odds_80 rfl ?_
              refine g_ild f_X9_odds_82 rfl ?_
              refine g_ild f_X9_odds_83 rfl ?_
              refine g_cs2 hγ (c_frac (a := oddN (seersN (wz s) t) (zc (wz s))) (b := zc (wz s)) (part := part) (by omega) (by omega) (by omega) (by omega)) f_X9_odds_84 mo_X9_lowestTerms mt_X9_lowestTerms rfl (Nat.le_of_ble_eq_true rfl) ⟨by decide, by decide⟩ ⟨Nat.le_refl _, Nat.le_refl _⟩ (fun x S' M4 hq3 => ?_)
              obtain ⟨rfl, q1, q2⟩ := hq3
              obtain rfl := q1.symm
              obtain rfl := q2.symm
              refine g_retl f_X9_odds_87 rfl ?_ (Nat.zero_le _) (Nat.zero_le _)
              have e : a_odds s (t : Int) part = fracN (oddN (seersN (wz s) t) (zc (wz s))) (zc (wz s)) part := if_neg (fun h => h ⟨hc, hp, by omega⟩)
              rw [e]
              exact ⟨rfl, h.1, h.2⟩
            · exact absurd (by omega) hcc
          | succ k ih =>
            intro n hk
            have hn : n < zc (wz s) := by omega
            have hih := ih (n + 1) (by omega)
            have eo : oddN (seersN (wz s) t) (n + 1) = oddN (seersN (wz s) t) n + (if decide (band (seersN (wz s) t : Int) (bxor (bshl 1 (n : Int)) (-1)) = 0) = true then 1 else 0) := rfl
            refine g_ild f_X9_odds_53 rfl ?_
            refine g_ild f_X9_odds_55 rfl ?_
            refine g_icmp_ge f_X9_odds_56 rfl (by omega) (by omega) (fun hcc => ?_) (fun hcc => ?_)
            · exact absurd hcc (by omega)
            refine g_ild f_X9_odds_59 rfl ?_
            refine g_const f_X9_odds_61 ?_
            refine g_ild f_X9_odds_62 rfl ?_
            refine g_ishl f_X9_odds_64 ?_
            refine g_const f_X9_odds_65 ?_
            refine g_ixor f_X9_odds_66 ?_
            refine g_iand f_X9_odds_67 ?_
            refine g_if_ne f_X9_odds_68 rfl (by exact rg_of _) (fun hb => ?_) (fun hb => ?_)
            · refine g_inc_6 f_X9_odds_74 (by decide) c1i ?_
              refine g_goto f_X9_odds_77 ?_
              rw [eo, if_neg (by rw [decide_eq_true_eq]; omega)] at hih
              exact hih
            · have eo2 : (oddN (seersN (wz s) t) n : Int) + 1 = ((oddN (seersN (wz s) t) (n + 1) : Nat) : Int) := by rw [eo, if_pos (decide_eq_true (by omega))]; push_cast; rfl
              refine g_inc_5 f_X9_odds_71 (by decide) c1i ?_
              refine g_inc_6 f_X9_odds_74 (by decide) c1i ?_
              refine g_goto f_X9_odds_77 ?_
              rw [eo2]
              exact hih
        refine g_ist_4 f_X9_odds_45 (by decide) c1i ?_
        refine g_const f_X9_odds_47 ?_
        refine g_ist_5 f_X9_odds_48 (by decide) c1i ?_
        refine g_const f_X9_odds_50 ?_
        refine g_ist_6 f_X9_odds_51 (by decide) c1i ?_
        exact loop (zc (wz s)) 0 (by omega)
      · refine g_ldc2 (z := -9223372036854775808) f_X9_odds_30 (ldcL (by decide) w_743) ?_
        refine g_retl f_X9_odds_33 rfl ?_ (Nat.zero_le _) (Nat.zero_le _)
        have e : a_odds s c part = -9223372036854775808 := if_pos (by intro h; first | exact hc h.1 | exact hp h.2.1 | exact h.2.2 (by omega))
        rw [e]
        exact ⟨rfl, hW, mfr.rf⟩
    · rw [if_neg hp] at hx
      subst hx
      refine g_if_eq f_X9_odds_23 rfl (by omega) (fun hx => ?_) (fun hx => ?_)
      · refine g_ldc2 (z := -9223372036854775808) f_X9_odds_30 (ldcL (by decide) w_743) ?_
        refine g_retl f_X9_odds_33 rfl ?_ (Nat.zero_le _) (Nat.zero_le _)
        have e : a_odds s c part = -9223372036854775808 := if_pos (by intro h; first | exact hc h.1 | exact hp h.2.1 | exact h.2.2 (by omega))
        rw [e]
        exact ⟨rfl, hW, mfr.rf⟩
      · exact absurd (by omega) hx
  · rw [if_neg hc] at hx
    subst hx
    refine g_if_eq f_X9_odds_15 rfl (by omega) (fun hx => ?_) (fun hx => ?_)
    · refine g_ldc2 (z := -9223372036854775808) f_X9_odds_30 (ldcL (by decide) w_743) ?_
      refine g_retl f_X9_odds_33 rfl ?_ (Nat.zero_le _) (Nat.zero_le _)
      have e : a_odds s c part = -9223372036854775808 := if_pos (by intro h; first | exact hc h.1 | exact hp h.2.1 | exact h.2.2 (by omega))
      rw [e]
      exact ⟨rfl, hW, mfr.rf⟩
    · exact absurd (by omega) hx
