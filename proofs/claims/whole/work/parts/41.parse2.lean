/-! contracts: E, T, F -/
def FactC (Ω : Ow) (r : Nat) : Prop := ∀ {S : Sg} {M : Mm} {tx : List Nat} {Λ : Nat} {L : LawC} {cs : List Int} {a n : Nat}, n + r = 4 → PG S M tx Λ L cs a → Ct Ω mX2_readFactor (7 + 3 * r) 0 0 1 [vr Ω 1, vi (n : Int)] S M (fun x S' M' => x = ((pF tx r a cs).1.toNat : Int) ∧ S' = S ∧ PG S M' tx Λ L (pF tx r a cs).2.2 (pF tx r a cs).2.1 ∧ lfr Λ M M')
def BothC (Ω : Ow) (r : Nat) : Prop := ∀ {S : Sg} {M : Mm} {tx : List Nat} {Λ : Nat} {L : LawC} {cs : List Int} {a n : Nat}, n + r = 4 → PG S M tx Λ L cs a → Ct Ω mX2_readBoth (8 + 3 * r) 0 0 1 [vr Ω 1, vi (n : Int)] S M (fun x S' M' => x = ((pTg (pF tx r) tx a cs).1.toNat : Int) ∧ S' = S ∧ PG S M' tx Λ L (pTg (pF tx r) tx a cs).2.2 (pTg (pF tx r) tx a cs).2.1 ∧ lfr Λ M M')
def EithC (Ω : Ow) (r : Nat) : Prop := ∀ {S : Sg} {M : Mm} {tx : List Nat} {Λ : Nat} {L : LawC} {cs : List Int} {a n : Nat}, n + r = 4 → PG S M tx Λ L cs a → Ct Ω mX2_readEither (9 + 3 * r) 0 0 1 [vr Ω 1, vi (n : Int)] S M (fun x S' M' => x = ((pEg (pF tx r) tx a cs).1.toNat : Int) ∧ S' = S ∧ PG S M' tx Λ L (pEg (pF tx r) tx a cs).2.2 (pEg (pF tx r) tx a cs).2.1 ∧ lfr Λ M M')
theorem pF_open {tx : List Nat} {r a : Nat} {q : List Int} (h : isC tx a 40 = true) : pF tx (r + 1) a q = pClose tx (pEg (pF tx r) tx (a + 1) q) := by rw [pF]; simp only [if_pos h]
theorem pF_not {tx : List Nat} {r a : Nat} {q : List Int} (h1 : isC tx a 40 = false) (h : isC tx a 33 = true) : pF tx (r + 1) a q = pNot (pF tx r (a + 1) q) := by rw [pF]; simp [h1, h]
theorem pF_test {tx : List Nat} {r a : Nat} {q : List Int} (h1 : isC tx a 40 = false) (h : isC tx a 33 = false) : pF tx (r + 1) a q = pTest tx a q := by rw [pF]; simp [h1, h]
set_option maxHeartbeats 4000000 in
set_option maxRecDepth 100000 in
theorem c_both {Ω : Ow} {r : Nat} (hF : FactC Ω r) : BothC Ω r := by
  intro S M tx Λ L cs a n hn hP
  refine Ct.mk (by decide) (Nat.le_of_ble_eq_true rfl) [some (vr Ω 1), some (vi (n : Int)), none] (by intro q hq; exact hq) (fun γ hγ hz => ?_)
  obtain ⟨hG, hΛ, hΛ6, gD, hT, ⟨t1, t2⟩, ⟨d1, d2, d3, d4, d5⟩, ha, hal, hcl, hLl⟩ := id hP
  have hT1 := hT.1
  have o1 := obn hG (r := 1) (c := 2) (by decide +kernel)
  have a2 := arn hG (r := 2) (c := 11) (n := 100) (by decide +kernel)
  have g2 : _ = ((2 : Nat) : Int) := grn hG (k := 1) (j := 0) (by decide)
  obtain ⟨oL, aL1, aL2, aL3, aL4, aL5⟩ := obLaw hΛ hΛ6
  obtain ⟨gL1, gL2, gL3, gL4, gL5⟩ := hG.2.2.2 Λ hΛ hΛ6
  have hgood := good_F tx r
  have loop : ∀ (k i a1 : Nat) (cs1 : List Int) (M1 : Mm), i + k = 100 → PG S M1 tx Λ L cs1 a1 → lfr Λ M M1 → pLoop (pF tx r) tx 38 (-1) k a1 cs1 = pTg (pF tx r) tx a cs → Go γ Ω mX2_readBoth (Zm γ Ω 1 0 0 (fun x S' M' => x = ((pTg (pF tx r) tx a cs).1.toNat : Int) ∧ S' = S ∧ PG S M' tx Λ L (pTg (pF tx r) tx a cs).2.2 (pTg (pF tx r) tx a cs).2.1 ∧ lfr Λ M M')) 0 0 S M1 12 [some (vr Ω 1), some (vi (n : Int)), some (vi (i : Int))] [] := by
    intro k
    induction k with
    | zero =>
      intro i a1 cs1 M1 hk k f hi
      have hn2 : i = 100 := by omega
      subst hn2
      rw [pLoop] at hi
      refine g_ild f_X2_readBoth_12 rfl ?_
      refine g_const f_X2_readBoth_13 ?_
      refine g_icmp_ge f_X2_readBoth_15 rfl (by omega) (by omega) (fun hc => ?_) (fun hc => ?_)
      · refine g_const f_X2_readBoth_51 ?_
        refine g_retz f_X2_readBoth_52 rfl (Or.inr rfl) ?_ (Nat.zero_le _) (Nat.zero_le _)
        rw [← hi]
        exact ⟨rfl, rfl, k, f⟩
      · exact absurd (by omega) hc
    | succ k2 ih =>
      intro i a1 cs1 M1 hk k f hi
      have k100 := k.2.2.2.2.2.2.2.2.2.1
      have hn2 : i < 100 := by omega
      refine g_ild f_X2_readBoth_12 rfl ?_
      refine g_const f_X2_readBoth_13 ?_
      refine g_icmp_ge f_X2_readBoth_15 rfl (by omega) (by omega) (fun hc => ?_) (fun hc => ?_)
      · exact absurd hc (by omega)
      refine g_alv f_X2_readBoth_18 rfl ?_
      refine g_const f_X2_readBoth_19 ?_
      refine g_as (show (38 : Int) = ((38 : Nat) : Int) from rfl) ?_
      refine g_cv1 hγ (c_take (a := a1) k (c := 38) (by decide)) f_X2_readBoth_21 mo_X2_take mv_X2_take (by assumption) rfl rfl (Nat.le_of_ble_eq_true rfl) ⟨by omega, by decide⟩ ⟨Nat.le_refl _, Nat.le_refl _⟩ (fun x S' M21 hq2 => ?_)
      obtain ⟨rfl, q1, k2, fn⟩ := hq2
      obtain rfl := q1.symm
      replace f := f.tr fn
      clear k fn
      rcases Bool.eq_false_or_eq_true (isC tx (a1) 38) with hb21 | hb21
      · have k : PG S M21 tx Λ L cs1 (a1 + 1) := by rw [hb21] at k2; exact k2
        clear k2
        rw [hb21]
        refine g_as (show ((true.toNat : Nat) : Int) = 1 from rfl) ?_
        refine g_if_eq f_X2_readBoth_24 rfl (by omega) (fun hx => ?_) (fun hx => ?_)
        · exact absurd hx (by omega)
        refine g_alv f_X2_readBoth_27 rfl ?_
        refine g_ild f_X2_readBoth_28 rfl ?_
        refine g_cv1 hγ (hF hn k) f_X2_readBoth_29 mo_X2_readFactor mv_X2_readFactor (by assumption) rfl rfl (Nat.le_of_ble_eq_true rfl) ⟨by omega, by decide⟩ ⟨Nat.le_refl _, Nat.le_refl _⟩ (fun x S' M3 hq3 => ?_)
        obtain ⟨rfl, q1, k3, fn⟩ := hq3
        obtain rfl := q1.symm
        replace f := f.tr fn
        clear fn
        have hl1 := (isC_lt hb21).1
        obtain ⟨g1, g2, ⟨c1, g3, g4, g5⟩, g6⟩ := hgood (a1 + 1) cs1 hl1
        have k10 := k.2.2.2.2.2.2.2.2.2.1
        rw [pLoop, if_pos hb21] at hi
        rcases Bool.eq_false_or_eq_true ((pF tx r) (a1 + 1) cs1).1 with hb | hb
        · rw [hb]
          rw [if_pos hb] at hi
          refine g_as (show ((true.toNat : Nat) : Int) = 1 from rfl) ?_
          refine g_if_ne f_X2_readBoth_32 rfl (by omega) (fun hx => ?_) (fun hx => ?_)
          · refine g_alv f_X2_readBoth_37 rfl ?_
            refine g_getR f_X2_readBoth_38 (by assumption) k3.2.2.2.1 ?_
            refine g_const f_X2_readBoth_41 ?_
            refine g_cv0 hγ (c_code k3 (by rw [g3, List.length_append]; omega) (-1)) f_X2_readBoth_42 mo_X1_addStep mv_X1_addStep oL rfl rfl (Nat.le_of_ble_eq_true rfl) ⟨by omega, by decide⟩ ⟨Nat.le_refl _, Nat.le_refl _⟩ (fun x S' M4 hq4 => ?_)
            obtain ⟨q1, k4, fn⟩ := hq4
            obtain rfl := q1.symm
            replace f := f.tr fn
            clear fn
            refine g_inc_2 f_X2_readBoth_45 (by decide) c1i ?_
            refine g_goto f_X2_readBoth_48 ?_
            exact ih (i + 1) _ _ M4 (by omega) k4 f hi
          · exact absurd (by omega) hx
        · rw [hb]
          rw [if_neg (by rw [hb]; decide)] at hi
          refine g_as (show ((false.toNat : Nat) : Int) = 0 from rfl) ?_
          refine g_if_ne f_X2_readBoth_32 rfl (by omega) (fun hx => ?_) (fun hx => ?_)
          · exact absurd hx (by omega)
          refine g_const f_X2_readBoth_35 ?_
          refine g_retz f_X2_readBoth_36 rfl (Or.inl rfl) ?_ (Nat.zero_le _) (Nat.zero_le _)
          rw [← hi]
          exact ⟨rfl, rfl, k3, f⟩
      · have k : PG S M21 tx Λ L cs1 (a1) := by rw [hb21] at k2; exact k2
        clear k2
        rw [hb21]
        refine g_as (show ((false.toNat : Nat) : Int) = 0 from rfl) ?_
        refine g_if_eq f_X2_readBoth_24 rfl (by omega) (fun hx => ?_) (fun hx => ?_)
        · refine g_const f_X2_readBoth_51 ?_
          refine g_retz f_X2_readBoth_52 rfl (Or.inr rfl) ?_ (Nat.zero_le _) (Nat.zero_le _)
          rw [pLoop, if_neg (by rw [hb21]; decide)] at hi
          rw [← hi]
          exact ⟨rfl, rfl, k, f⟩
        · exact absurd (by omega) hx
  refine g_alv f_X2_readBoth_0 rfl ?_
  refine g_ild f_X2_readBoth_1 rfl ?_
  refine g_cv1 hγ (hF hn hP) f_X2_readBoth_2 mo_X2_readFactor mv_X2_readFactor (by assumption) rfl rfl (Nat.le_of_ble_eq_true rfl) ⟨by omega, by decide⟩ ⟨Nat.le_refl _, Nat.le_refl _⟩ (fun x S' M2 hq2 => ?_)
  obtain ⟨rfl, q1, k, f⟩ := hq2
  obtain rfl := q1.symm
  rcases Bool.eq_false_or_eq_true ((pF tx r) a cs).1 with hb0 | hb0
  · rw [hb0]
    refine g_as (show ((true.toNat : Nat) : Int) = 1 from rfl) ?_
    refine g_if_ne f_X2_readBoth_5 rfl (by omega) (fun hx => ?_) (fun hx => ?_)
    · refine g_const f_X2_readBoth_10 ?_
      refine g_ist_2 f_X2_readBoth_11 (by decide) c1i ?_
      exact loop 100 0 _ _ M2 rfl k f (if_pos hb0).symm
    · exact absurd (by omega) hx
  · rw [hb0]
    refine g_as (show ((false.toNat : Nat) : Int) = 0 from rfl) ?_
    refine g_if_ne f_X2_readBoth_5 rfl (by omega) (fun hx => ?_) (fun hx => ?_)
    · exact absurd hx (by omega)
    refine g_const f_X2_readBoth_8 ?_
    refine g_retz f_X2_readBoth_9 rfl (Or.inl rfl) ?_ (Nat.zero_le _) (Nat.zero_le _)
    have e : pTg (pF tx r) tx a cs = (false, ((pF tx r) a cs).2.1, ((pF tx r) a cs).2.2) := if_neg (by rw [hb0]; decide)
    rw [e]
    exact ⟨rfl, rfl, k, f⟩
set_option maxHeartbeats 4000000 in
set_option maxRecDepth 100000 in
theorem c_eith {Ω : Ow} {r : Nat} (hT0 : BothC Ω r) : EithC Ω r := by
  intro S M tx Λ L cs a n hn hP
  refine Ct.mk (by decide) (Nat.le_of_ble_eq_true rfl) [some (vr Ω 1), some (vi (n : Int)), none] (by intro q hq; exact hq) (fun γ hγ hz => ?_)
  obtain ⟨hG, hΛ, hΛ6, gD, hT, ⟨t1, t2⟩, ⟨d1, d2, d3, d4, d5⟩, ha, hal, hcl, hLl⟩ := id hP
  have hT1 := hT.1
  have o1 := obn hG (r := 1) (c := 2) (by decide +kernel)
  have a2 := arn hG (r := 2) (c := 11) (n := 100) (by decide +kernel)
  have g2 : _ = ((2 : Nat) : Int) := grn hG (k := 1) (j := 0) (by decide)
  obtain ⟨oL, aL1, aL2, aL3, aL4, aL5⟩ := obLaw hΛ hΛ6
  obtain ⟨gL1, gL2, gL3, gL4, gL5⟩ := hG.2.2.2 Λ hΛ hΛ6
  have hgood := good_T (good_F tx r)
  have loop : ∀ (k i a1 : Nat) (cs1 : List Int) (M1 : Mm), i + k = 100 → PG S M1 tx Λ L cs1 a1 → lfr Λ M M1 → pLoop (pTg (pF tx r) tx) tx 124 (-2) k a1 cs1 = pEg (pF tx r) tx a cs → Go γ Ω mX2_readEither (Zm γ Ω 1 0 0 (fun x S' M' => x = ((pEg (pF tx r) tx a cs).1.toNat : Int) ∧ S' = S ∧ PG S M' tx Λ L (pEg (pF tx r) tx a cs).2.2 (pEg (pF tx r) tx a cs).2.1 ∧ lfr Λ M M')) 0 0 S M1 12 [some (vr Ω 1), some (vi (n : Int)), some (vi (i : Int))] [] := by
    intro k
    induction k with
    | zero =>
      intro i a1 cs1 M1 hk k f hi
      have hn2 : i = 100 := by omega
      subst hn2
      rw [pLoop] at hi
      refine g_ild f_X2_readEither_12 rfl ?_
      refine g_const f_X2_readEither_13 ?_
      refine g_icmp_ge f_X2_readEither_15 rfl (by omega) (by omega) (fun hc => ?_) (fun hc => ?_)
      · refine g_const f_X2_readEither_52 ?_
        refine g_retz f_X2_readEither_53 rfl (Or.inr rfl) ?_ (Nat.zero_le _) (Nat.zero_le _)
        rw [← hi]
        exact ⟨rfl, rfl, k, f⟩
      · exact absurd (by omega) hc
    | succ k2 ih =>
      intro i a1 cs1 M1 hk k f hi
      have k100 := k.2.2.2.2.2.2.2.2.2.1
      have hn2 : i < 100 := by omega
      refine g_ild f_X2_readEither_12 rfl ?_
      refine g_const f_X2_readEither_13 ?_
      refine g_icmp_ge f_X2_readEither_15 rfl (by omega) (by omega) (fun hc => ?_) (fun hc => ?_)
      · exact absurd hc (by omega)
      refine g_alv f_X2_readEither_18 rfl ?_
      refine g_const f_X2_readEither_19 ?_
      refine g_as (show (124 : Int) = ((124 : Nat) : Int) from rfl) ?_
      refine g_cv1 hγ (c_take (a := a1) k (c := 124) (by decide)) f_X2_readEither_21 mo_X2_take mv_X2_take (by assumption) rfl rfl (Nat.le_of_ble_eq_true rfl) ⟨by omega, by decide⟩ ⟨Nat.le_refl _, Nat.le_refl _⟩ (fun x S' M21 hq2 => ?_)
      obtain ⟨rfl, q1, k2, fn⟩ := hq2
      obtain rfl := q1.symm
      replace f := f.tr fn
      clear k fn
      rcases Bool.eq_false_or_eq_true (isC tx (a1) 124) with hb21 | hb21
      · have k : PG S M21 tx Λ L cs1 (a1 + 1) := by rw [hb21] at k2; exact k2
        clear k2
        rw [hb21]
        refine g_as (show ((true.toNat : Nat) : Int) = 1 from rfl) ?_
        refine g_if_eq f_X2_readEither_24 rfl (by omega) (fun hx => ?_) (fun hx => ?_)
        · exact absurd hx (by omega)
        refine g_alv f_X2_readEither_27 rfl ?_
        refine g_ild f_X2_readEither_28 rfl ?_
        refine g_cv1 hγ (hT0 hn k) f_X2_readEither_29 mo_X2_readBoth mv_X2_readBoth (by assumption) rfl rfl (Nat.le_of_ble_eq_true rfl) ⟨by omega, by decide⟩ ⟨Nat.le_refl _, Nat.le_refl _⟩ (fun x S' M3 hq3 => ?_)
        obtain ⟨rfl, q1, k3, fn⟩ := hq3
        obtain rfl := q1.symm
        replace f := f.tr fn
        clear fn
        have hl1 := (isC_lt hb21).1
        obtain ⟨g1, g2, ⟨c1, g3, g4, g5⟩, g6⟩ := hgood (a1 + 1) cs1 hl1
        have k10 := k.2.2.2.2.2.2.2.2.2.1
        rw [pLoop, if_pos hb21] at hi
        rcases Bool.eq_false_or_eq_true ((pTg (pF tx r) tx) (a1 + 1) cs1).1 with hb | hb
        · rw [hb]
          rw [if_pos hb] at hi
          refine g_as (show ((true.toNat : Nat) : Int) = 1 from rfl) ?_
          refine g_if_ne f_X2_readEither_32 rfl (by omega) (fun hx => ?_) (fun hx => ?_)
          · refine g_alv f_X2_readEither_37 rfl ?_
            refine g_getR f_X2_readEither_38 (by assumption) k3.2.2.2.1 ?_
            refine g_const f_X2_readEither_41 ?_
            refine g_cv0 hγ (c_code k3 (by rw [g3, List.length_append]; omega) (-2)) f_X2_readEither_43 mo_X1_addStep mv_X1_addStep oL rfl rfl (Nat.le_of_ble_eq_true rfl) ⟨by omega, by decide⟩ ⟨Nat.le_refl _, Nat.le_refl _⟩ (fun x S' M4 hq4 => ?_)
            obtain ⟨q1, k4, fn⟩ := hq4
            obtain rfl := q1.symm
            replace f := f.tr fn
            clear fn
            refine g_inc_2 f_X2_readEither_46 (by decide) c1i ?_
            refine g_goto f_X2_readEither_49 ?_
            exact ih (i + 1) _ _ M4 (by omega) k4 f hi
          · exact absurd (by omega) hx
        · rw [hb]
          rw [if_neg (by rw [hb]; decide)] at hi
          refine g_as (show ((false.toNat : Nat) : Int) = 0 from rfl) ?_
          refine g_if_ne f_X2_readEither_32 rfl (by omega) (fun hx => ?_) (fun hx => ?_)
          · exact absurd hx (by omega)
          refine g_const f_X2_readEither_35 ?_
          refine g_retz f_X2_readEither_36 rfl (Or.inl rfl) ?_ (Nat.zero_le _) (Nat.zero_le _)
          rw [← hi]
          exact ⟨rfl, rfl, k3, f⟩
      · have k : PG S M21 tx Λ L cs1 (a1) := by rw [hb21] at k2; exact k2
        clear k2
        rw [hb21]
        refine g_as (show ((false.toNat : Nat) : Int) = 0 from rfl) ?_
        refine g_if_eq f_X2_readEither_24 rfl (by omega) (fun hx => ?_) (fun hx => ?_)
        · refine g_const f_X2_readEither_52 ?_
          refine g_retz f_X2_readEither_53 rfl (Or.inr rfl) ?_ (Nat.zero_le _) (Nat.zero_le _)
          rw [pLoop, if_neg (by rw [hb21]; decide)] at hi
          rw [← hi]
          exact ⟨rfl, rfl, k, f⟩
        · exact absurd (by omega) hx
  refine g_alv f_X2_readEither_0 rfl ?_
  refine g_ild f_X2_readEither_1 rfl ?_
  refine g_cv1 hγ (hT0 hn hP) f_X2_readEither_2 mo_X2_readBoth mv_X2_readBoth (by assumption) rfl rfl (Nat.le_of_ble_eq_true rfl) ⟨by omega, by decide⟩ ⟨Nat.le_refl _, Nat.le_refl _⟩ (fun x S' M2 hq2 => ?_)
  obtain ⟨rfl, q1, k, f⟩ := hq2
  obtain rfl := q1.symm
  rcases Bool.eq_false_or_eq_true ((pTg (pF tx r) tx) a cs).1 with hb0 | hb0
  · rw [hb0]
    refine g_as (show ((true.toNat : Nat) : Int) = 1 from rfl) ?_
    refine g_if_ne f_X2_readEither_5 rfl (by omega) (fun hx => ?_) (fun hx => ?_)
    · refine g_const f_X2_readEither_10 ?_
      refine g_ist_2 f_X2_readEither_11 (by decide) c1i ?_
      exact loop 100 0 _ _ M2 rfl k f (if_pos hb0).symm
    · exact absurd (by omega) hx
  · rw [hb0]
    refine g_as (show ((false.toNat : Nat) : Int) = 0 from rfl) ?_
    refine g_if_ne f_X2_readEither_5 rfl (by omega) (fun hx => ?_) (fun hx => ?_)
    · exact absurd hx (by omega)
    refine g_const f_X2_readEither_8 ?_
    refine g_retz f_X2_readEither_9 rfl (Or.inl rfl) ?_ (Nat.zero_le _) (Nat.zero_le _)
    have e : pEg (pF tx r) tx a cs = (false, ((pTg (pF tx r) tx) a cs).2.1, ((pTg (pF tx r) tx) a cs).2.2) := if_neg (by rw [hb0]; decide)
    rw [e]
    exact ⟨rfl, rfl, k, f⟩
set_option maxHeartbeats 4000000 in
set_option maxRecDepth 100000 in
theorem c_fact0 {Ω : Ow} : FactC Ω 0 := by
  intro S M tx Λ L cs a n hn0 hP
  refine Ct.mk (by decide) (Nat.le_of_ble_eq_true rfl) [some (vr Ω 1), some (vi (n : Int)), none, none, none] (by intro q hq; exact hq) (fun γ hγ hz => ?_)
  obtain ⟨hG, hΛ, hΛ6, gD, hT, ⟨t1, t2⟩, ⟨d1, d2, d3, d4, d5⟩, ha, hal, hcl, hLl⟩ := id hP
  have hT1 := hT.1
  have o1 := obn hG (r := 1) (c := 2) (by decide +kernel)
  have a2 := arn hG (r := 2) (c := 11) (n := 100) (by decide +kernel)
  have g2 : _ = ((2 : Nat) : Int) := grn hG (k := 1) (j := 0) (by decide)
  obtain ⟨oL, aL1, aL2, aL3, aL4, aL5⟩ := obLaw hΛ hΛ6
  obtain ⟨gL1, gL2, gL3, gL4, gL5⟩ := hG.2.2.2 Λ hΛ hΛ6
  have k := hP
  have f : lfr Λ M M := lfr.rf
  refine g_ild f_X2_readFactor_0 rfl ?_
  refine g_const f_X2_readFactor_1 ?_
  refine g_icmp_ge f_X2_readFactor_2 rfl (by omega) (by omega) (fun h0 => ?_) (fun h0 => ?_)
  · refine g_ild f_X2_readFactor_39 rfl ?_
    refine g_const f_X2_readFactor_40 ?_
    refine g_icmp_ge f_X2_readFactor_41 rfl (by omega) (by omega) (fun h00 => ?_) (fun h00 => ?_)
    · refine g_alv f_X2_readFactor_76 rfl ?_
      refine g_ldcS (i := 2) (by decide) f_X2_readFactor_77 rfl ?_
      refine g_cv1 hγ (c_any (a := a) k (i := 2) (by decide)) f_X2_readFactor_79 mo_X2_takeAnyOf mv_X2_takeAnyOf (by assumption) rfl rfl (Nat.le_of_ble_eq_true rfl) ⟨by omega, by decide⟩ ⟨Nat.le_refl _, Nat.le_refl _⟩ (fun x S' M1 hq2 => ?_)
      obtain ⟨rfl, q1, k1, fn⟩ := hq2
      obtain rfl := q1.symm
      replace f := f.tr fn
      clear fn
      have hr1 := pOf_rg tx 2 (a) (by decide)
      refine g_ist_2 f_X2_readFactor_82 (by decide) c1i ?_
      refine g_ild f_X2_readFactor_83 rfl ?_
      refine g_const f_X2_readFactor_84 ?_
      refine g_icmp_ne f_X2_readFactor_85 rfl (by omega) (by omega) (fun hl => ?_) (fun hl => ?_)
      · rw [if_neg (by omega)] at k1
        have hlt := pOf_lt (tx := tx) (i := 2) (a := a) (by omega)
        refine g_alv f_X2_readFactor_92 rfl ?_
        refine g_ldcS (i := 3) (by decide) f_X2_readFactor_93 rfl ?_
        refine g_cv1 hγ (c_any (a := a + 1) k1 (i := 3) (by decide)) f_X2_readFactor_95 mo_X2_takeAnyOf mv_X2_takeAnyOf (by assumption) rfl rfl (Nat.le_of_ble_eq_true rfl) ⟨by omega, by decide⟩ ⟨Nat.le_refl _, Nat.le_refl _⟩ (fun x S' M2 hq2 => ?_)
        obtain ⟨rfl, q1, k2, fn⟩ := hq2
        obtain rfl := q1.symm
        replace f := f.tr fn
        clear fn
        have hr2 := pOf_rg tx 3 (a + 1) (by decide)
        refine g_ist_3 f_X2_readFactor_98 (by decide) c1i ?_
        refine g_ild f_X2_readFactor_99 rfl ?_
        refine g_const f_X2_readFactor_100 ?_
        refine g_icmp_ne f_X2_readFactor_101 rfl (by omega) (by omega) (fun hr => ?_) (fun hr => ?_)
        · rw [if_neg (by omega)] at k2
          have hlt2 := pOf_lt (tx := tx) (i := 3) (a := a + 1) (by omega)
          refine g_alv f_X2_readFactor_108 rfl ?_
          refine g_cv1 hγ (c_num (a := a + 2) k2) f_X2_readFactor_109 mo_X2_readNumber mv_X2_readNumber (by assumption) rfl rfl (Nat.le_of_ble_eq_true rfl) ⟨by omega, by decide⟩ ⟨Nat.le_refl _, Nat.le_refl _⟩ (fun x S' M3 hq3 => ?_)
          obtain ⟨rfl, q1, k3, fn⟩ := hq3
          obtain rfl := q1.symm
          replace f := f.tr fn
          clear fn
          obtain ⟨n1, n2, n3, n4⟩ := pNum_ok tx (a + 2) (by omega)
          refine g_ist_4 f_X2_readFactor_112 (by decide) c1i ?_
          refine g_ild f_X2_readFactor_114 rfl ?_
          refine g_const f_X2_readFactor_116 ?_
          refine g_icmp_ne f_X2_readFactor_117 rfl (by omega) (by omega) (fun hn => ?_) (fun hn => ?_)
          · refine g_alv f_X2_readFactor_122 rfl ?_
            refine g_getR f_X2_readFactor_123 (by assumption) k3.2.2.2.1 ?_
            refine g_ild f_X2_readFactor_126 rfl ?_
            refine g_const f_X2_readFactor_127 ?_
            refine g_imul f_X2_readFactor_130 ?_
            refine g_ild f_X2_readFactor_131 rfl ?_
            refine g_const f_X2_readFactor_132 ?_
            refine g_imul f_X2_readFactor_134 ?_
            refine g_iadd f_X2_readFactor_135 ?_
            refine g_ild f_X2_readFactor_136 rfl ?_
            refine g_iadd f_X2_readFactor_138 ?_
            refine g_cv0 hγ (c_code k3 (by omega) (pOf tx 2 a * 300 + pOf tx 3 (a + 1) * 100 + (pNum tx (a + 2)).1)) f_X2_readFactor_139 mo_X1_addStep mv_X1_addStep oL rfl rfl (Nat.le_of_ble_eq_true rfl) ⟨by omega, by decide⟩ ⟨Nat.le_refl _, Nat.le_refl _⟩ (fun x S' M4 hq4 => ?_)
            obtain ⟨q1, k4, fn⟩ := hq4
            obtain rfl := q1.symm
            replace f := f.tr fn
            clear fn
            refine g_const f_X2_readFactor_142 ?_
            refine g_retz f_X2_readFactor_143 rfl (Or.inr rfl) ?_ (Nat.zero_le _) (Nat.zero_le _)
            have e : pTest tx a cs = (true, (pNum tx (a + 2)).2, cs ++ [pOf tx 2 a * 300 + pOf tx 3 (a + 1) * 100 + (pNum tx (a + 2)).1]) := (if_neg (by omega)).trans ((if_neg (by omega)).trans (if_neg (by omega)))
            rw [show pF tx 0 a cs = pTest tx a cs from rfl, e]
            exact ⟨rfl, rfl, k4, f⟩
          · refine g_const f_X2_readFactor_120 ?_
            refine g_retz f_X2_readFactor_121 rfl (Or.inl rfl) ?_ (Nat.zero_le _) (Nat.zero_le _)
            have e : pTest tx a cs = (false, (pNum tx (a + 2)).2, cs) := (if_neg (by omega)).trans ((if_neg (by omega)).trans (if_pos (by omega)))
            rw [show pF tx 0 a cs = pTest tx a cs from rfl, e]
            exact ⟨rfl, rfl, k3, f⟩
        · rw [if_pos (by omega)] at k2
          refine g_const f_X2_readFactor_104 ?_
          refine g_goto f_X2_readFactor_105 ?_
          refine g_ist_4 f_X2_readFactor_112 (by decide) c1i ?_
          refine g_ild f_X2_readFactor_114 rfl ?_
          refine g_const f_X2_readFactor_116 ?_
          refine g_icmp_ne f_X2_readFactor_117 rfl (by omega) (by omega) (fun hn => ?_) (fun hn => ?_)
          · exact absurd hn (by omega)
          refine g_const f_X2_readFactor_120 ?_
          refine g_retz f_X2_readFactor_121 rfl (Or.inl rfl) ?_ (Nat.zero_le _) (Nat.zero_le _)
          have e : pTest tx a cs = (false, a + 1, cs) := (if_neg (by omega)).trans (if_pos (by omega))
          rw [show pF tx 0 a cs = pTest tx a cs from rfl, e]
          exact ⟨rfl, rfl, k2, f⟩
      · rw [if_pos (by omega)] at k1
        refine g_const f_X2_readFactor_88 ?_
        refine g_goto f_X2_readFactor_89 ?_
        refine g_ist_3 f_X2_readFactor_98 (by decide) c1i ?_
        refine g_ild f_X2_readFactor_99 rfl ?_
        refine g_const f_X2_readFactor_100 ?_
        refine g_icmp_ne f_X2_readFactor_101 rfl (by omega) (by omega) (fun hr => ?_) (fun hr => ?_)
        · exact absurd hr (by omega)
        refine g_const f_X2_readFactor_104 ?_
        refine g_goto f_X2_readFactor_105 ?_
        refine g_ist_4 f_X2_readFactor_112 (by decide) c1i ?_
        refine g_ild f_X2_readFactor_114 rfl ?_
        refine g_const f_X2_readFactor_116 ?_
        refine g_icmp_ne f_X2_readFactor_117 rfl (by omega) (by omega) (fun hn => ?_) (fun hn => ?_)
        · exact absurd hn (by omega)
        refine g_const f_X2_readFactor_120 ?_
        refine g_retz f_X2_readFactor_121 rfl (Or.inl rfl) ?_ (Nat.zero_le _) (Nat.zero_le _)
        have e : pTest tx a cs = (false, a, cs) := if_pos (by omega)
        rw [show pF tx 0 a cs = pTest tx a cs from rfl, e]
        exact ⟨rfl, rfl, k1, f⟩
    · exact absurd (by omega) h00
  · exact absurd (by omega) h0
set_option maxHeartbeats 4000000 in
set_option maxRecDepth 100000 in
theorem c_factS {Ω : Ow} {r : Nat} (hr : r < 4) (hF : FactC Ω r) (hE : EithC Ω r) : FactC Ω (r + 1) := by
  intro S M tx Λ L cs a n hn0 hP
  refine Ct.mk (by decide) (Nat.le_of_ble_eq_true rfl) [some (vr Ω 1), some (vi (n : Int)), none, none, none] (by intro q hq; exact hq) (fun γ hγ hz => ?_)
  obtain ⟨hG, hΛ, hΛ6, gD, hT, ⟨t1, t2⟩, ⟨d1, d2, d3, d4, d5⟩, ha, hal, hcl, hLl⟩ := id hP
  have hT1 := hT.1
  have o1 := obn hG (r := 1) (c := 2) (by decide +kernel)
  have a2 := arn hG (r := 2) (c := 11) (n := 100) (by decide +kernel)
  have g2 : _ = ((2 : Nat) : Int) := grn hG (k := 1) (j := 0) (by decide)
  obtain ⟨oL, aL1, aL2, aL3, aL4, aL5⟩ := obLaw hΛ hΛ6
  obtain ⟨gL1, gL2, gL3, gL4, gL5⟩ := hG.2.2.2 Λ hΛ hΛ6
  have k := hP
  have f : lfr Λ M M := lfr.rf
  refine g_ild f_X2_readFactor_0 rfl ?_
  refine g_const f_X2_readFactor_1 ?_
  refine g_icmp_ge f_X2_readFactor_2 rfl (by omega) (by omega) (fun h0 => ?_) (fun h0 => ?_)
  · exact absurd h0 (by omega)
  refine g_alv f_X2_readFactor_5 rfl ?_
  refine g_const f_X2_readFactor_6 ?_
  refine g_as (show (40 : Int) = ((40 : Nat) : Int) from rfl) ?_
  refine g_cv1 hγ (c_take (a := a) k (c := 40) (by decide)) f_X2_readFactor_8 mo_X2_take mv_X2_take (by assumption) rfl rfl (Nat.le_of_ble_eq_true rfl) ⟨by omega, by decide⟩ ⟨Nat.le_refl _, Nat.le_refl _⟩ (fun x S' M8 hq2 => ?_)
  obtain ⟨rfl, q1, k2, fn⟩ := hq2
  obtain rfl := q1.symm
  replace f := f.tr fn
  clear k fn
  rcases Bool.eq_false_or_eq_true (isC tx (a) 40) with hb8 | hb8
  · have k : PG S M8 tx Λ L cs (a + 1) := by rw [hb8] at k2; exact k2
    clear k2
    rw [hb8]
    refine g_as (show ((true.toNat : Nat) : Int) = 1 from rfl) ?_
    refine g_if_eq f_X2_readFactor_11 rfl (by omega) (fun hx => ?_) (fun hx => ?_)
    · exact absurd hx (by omega)
    refine g_alv f_X2_readFactor_14 rfl ?_
    refine g_ild f_X2_readFactor_15 rfl ?_
    refine g_const f_X2_readFactor_16 ?_
    refine g_iadd f_X2_readFactor_17 ?_
    refine g_as (show ((n : Int) + 1) = ((n + 1 : Nat) : Int) by omega) ?_
    refine g_cv1 hγ (hE (n := n + 1) (by omega) k) f_X2_readFactor_18 mo_X2_readEither mv_X2_readEither (by assumption) rfl rfl (Nat.le_of_ble_eq_true rfl) ⟨by omega, by decide⟩ ⟨Nat.le_refl _, Nat.le_refl _⟩ (fun x S' M13 hq3 => ?_)
    obtain ⟨rfl, q1, k3, fn⟩ := hq3
    obtain rfl := q1.symm
    replace f := f.tr fn
    clear fn
    obtain ⟨g1, g2, ⟨c1, g3, g4, g5⟩, g6⟩ := good_E (good_F tx r) (a + 1) cs (isC_lt hb8).1
    rcases Bool.eq_false_or_eq_true (pEg (pF tx r) tx (a + 1) cs).1 with hb | hb
    · rw [hb]
      refine g_as (show ((true.toNat : Nat) : Int) = 1 from rfl) ?_
      refine g_if_eq f_X2_readFactor_21 rfl (by omega) (fun hx => ?_) (fun hx => ?_)
      · exact absurd hx (by omega)
      refine g_alv f_X2_readFactor_24 rfl ?_
      refine g_const f_X2_readFactor_25 ?_
      refine g_as (show (41 : Int) = ((41 : Nat) : Int) from rfl) ?_
      refine g_cv1 hγ (c_take (a := (pEg (pF tx r) tx (a + 1) cs).2.1) k3 (c := 41) (by decide)) f_X2_readFactor_27 mo_X2_take mv_X2_take (by assumption) rfl rfl (Nat.le_of_ble_eq_true rfl) ⟨by omega, by decide⟩ ⟨Nat.le_refl _, Nat.le_refl _⟩ (fun x S' M27 hq2 => ?_)
      obtain ⟨rfl, q1, k2, fn⟩ := hq2
      obtain rfl := q1.symm
      replace f := f.tr fn
      clear k fn
      rcases Bool.eq_false_or_eq_true (isC tx ((pEg (pF tx r) tx (a + 1) cs).2.1) 41) with hb27 | hb27
      · have k : PG S M27 tx Λ L (pEg (pF tx r) tx (a + 1) cs).2.2 ((pEg (pF tx r) tx (a + 1) cs).2.1 + 1) := by rw [hb27] at k2; exact k2
        clear k2
        rw [hb27]
        refine g_as (show ((true.toNat : Nat) : Int) = 1 from rfl) ?_
        refine g_if_eq f_X2_readFactor_30 rfl (by omega) (fun hx => ?_) (fun hx => ?_)
        · exact absurd hx (by omega)
        refine g_const f_X2_readFactor_33 ?_
        refine g_goto f_X2_readFactor_34 ?_
        refine g_retz f_X2_readFactor_38 rfl (by first | exact Or.inl rfl | exact Or.inr rfl) ?_ (Nat.zero_le _) (Nat.zero_le _)
        rw [pF_open hb8]
        unfold pClose
        rw [if_pos hb]
        rw [if_pos hb27]
        exact ⟨rfl, rfl, k, f⟩
      · have k : PG S M27 tx Λ L (pEg (pF tx r) tx (a + 1) cs).2.2 ((pEg (pF tx r) tx (a + 1) cs).2.1) := by rw [hb27] at k2; exact k2
        clear k2
        rw [hb27]
        refine g_as (show ((false.toNat : Nat) : Int) = 0 from rfl) ?_
        refine g_if_eq f_X2_readFactor_30 rfl (by omega) (fun hx => ?_) (fun hx => ?_)
        · refine g_const f_X2_readFactor_37 ?_
          refine g_retz f_X2_readFactor_38 rfl (by first | exact Or.inl rfl | exact Or.inr rfl) ?_ (Nat.zero_le _) (Nat.zero_le _)
          rw [pF_open hb8]
          unfold pClose
          rw [if_pos hb]
          rw [if_neg (by rw [hb27]; decide)]
          exact ⟨rfl, rfl, k, f⟩
        · exact absurd (by omega) hx
    · rw [hb]
      refine g_as (show ((false.toNat : Nat) : Int) = 0 from rfl) ?_
      refine g_if_eq f_X2_readFactor_21 rfl (by omega) (fun hx => ?_) (fun hx => ?_)
      · refine g_const f_X2_readFactor_37 ?_
        refine g_retz f_X2_readFactor_38 rfl (by first | exact Or.inl rfl | exact Or.inr rfl) ?_ (Nat.zero_le _) (Nat.zero_le _)
        rw [pF_open hb8]
        unfold pClose
        rw [if_neg (by rw [hb]; decide)]
        exact ⟨rfl, rfl, k3, f⟩
      · exact absurd (by omega) hx
  · have k : PG S M8 tx Λ L cs (a) := by rw [hb8] at k2; exact k2
    clear k2
    rw [hb8]
    refine g_as (show ((false.toNat : Nat) : Int) = 0 from rfl) ?_
    refine g_if_eq f_X2_readFactor_11 rfl (by omega) (fun hx => ?_) (fun hx => ?_)
    · refine g_ild f_X2_readFactor_39 rfl ?_
      refine g_const f_X2_readFactor_40 ?_
      refine g_icmp_ge f_X2_readFactor_41 rfl (by omega) (by omega) (fun h00 => ?_) (fun h00 => ?_)
      · exact absurd h00 (by omega)
      refine g_alv f_X2_readFactor_44 rfl ?_
      refine g_const f_X2_readFactor_45 ?_
      refine g_as (show (33 : Int) = ((33 : Nat) : Int) from rfl) ?_
      refine g_cv1 hγ (c_take (a := a) k (c := 33) (by decide)) f_X2_readFactor_47 mo_X2_take mv_X2_take (by assumption) rfl rfl (Nat.le_of_ble_eq_true rfl) ⟨by omega, by decide⟩ ⟨Nat.le_refl _, Nat.le_refl _⟩ (fun x S' M47 hq2 => ?_)
      obtain ⟨rfl, q1, k2, fn⟩ := hq2
      obtain rfl := q1.symm
      replace f := f.tr fn
      clear k fn
      rcases Bool.eq_false_or_eq_true (isC tx (a) 33) with hb47 | hb47
      · have k : PG S M47 tx Λ L cs (a + 1) := by rw [hb47] at k2; exact k2
        clear k2
        rw [hb47]
        refine g_as (show ((true.toNat : Nat) : Int) = 1 from rfl) ?_
        refine g_if_eq f_X2_readFactor_50 rfl (by omega) (fun hx => ?_) (fun hx => ?_)
        · exact absurd hx (by omega)
        refine g_alv f_X2_readFactor_53 rfl ?_
        refine g_ild f_X2_readFactor_54 rfl ?_
        refine g_const f_X2_readFactor_55 ?_
        refine g_iadd f_X2_readFactor_56 ?_
        refine g_as (show ((n : Int) + 1) = ((n + 1 : Nat) : Int) by omega) ?_
        refine g_cv1 hγ (hF (n := n + 1) (by omega) k) f_X2_readFactor_57 mo_X2_readFactor mv_X2_readFactor (by assumption) rfl rfl (Nat.le_of_ble_eq_true rfl) ⟨by omega, by decide⟩ ⟨Nat.le_refl _, Nat.le_refl _⟩ (fun x S' M13 hq3 => ?_)
        obtain ⟨rfl, q1, k3, fn⟩ := hq3
        obtain rfl := q1.symm
        replace f := f.tr fn
        clear fn
        obtain ⟨g1, g2, ⟨c1, g3, g4, g5⟩, g6⟩ := good_F tx r (a + 1) cs (isC_lt hb47).1
        rcases Bool.eq_false_or_eq_true (pF tx r (a + 1) cs).1 with hb | hb
        · rw [hb]
          refine g_as (show ((true.toNat : Nat) : Int) = 1 from rfl) ?_
          refine g_if_ne f_X2_readFactor_60 rfl (by omega) (fun hx => ?_) (fun hx => ?_)
          · refine g_alv f_X2_readFactor_65 rfl ?_
            refine g_getR f_X2_readFactor_66 (by assumption) k3.2.2.2.1 ?_
            refine g_const f_X2_readFactor_69 ?_
            refine g_cv0 hγ (c_code k3 (by rw [g3, List.length_append]; omega) (-3)) f_X2_readFactor_71 mo_X1_addStep mv_X1_addStep oL rfl rfl (Nat.le_of_ble_eq_true rfl) ⟨by omega, by decide⟩ ⟨Nat.le_refl _, Nat.le_refl _⟩ (fun x S' M14 hq4 => ?_)
            obtain ⟨q1, k4, fn⟩ := hq4
            obtain rfl := q1.symm
            replace f := f.tr fn
            clear fn
            refine g_const f_X2_readFactor_74 ?_
            refine g_retz f_X2_readFactor_75 rfl (Or.inr rfl) ?_ (Nat.zero_le _) (Nat.zero_le _)
            rw [pF_not hb8 hb47]
            unfold pNot
            rw [if_pos hb]
            exact ⟨rfl, rfl, k4, f⟩
          · exact absurd (by omega) hx
        · rw [hb]
          refine g_as (show ((false.toNat : Nat) : Int) = 0 from rfl) ?_
          refine g_if_ne f_X2_readFactor_60 rfl (by omega) (fun hx => ?_) (fun hx => ?_)
          · exact absurd hx (by omega)
          refine g_const f_X2_readFactor_63 ?_
          refine g_retz f_X2_readFactor_64 rfl (Or.inl rfl) ?_ (Nat.zero_le _) (Nat.zero_le _)
          rw [pF_not hb8 hb47]
          unfold pNot
          rw [if_neg (by rw [hb]; decide)]
          exact ⟨rfl, rfl, k3, f⟩
      · have k : PG S M47 tx Λ L cs (a) := by rw [hb47] at k2; exact k2
        clear k2
        rw [hb47]
        refine g_as (show ((false.toNat : Nat) : Int) = 0 from rfl) ?_
        refine g_if_eq f_X2_readFactor_50 rfl (by omega) (fun hx => ?_) (fun hx => ?_)
        · refine g_alv f_X2_readFactor_76 rfl ?_
          refine g_ldcS (i := 2) (by decide) f_X2_readFactor_77 rfl ?_
          refine g_cv1 hγ (c_any (a := a) k (i := 2) (by decide)) f_X2_readFactor_79 mo_X2_takeAnyOf mv_X2_takeAnyOf (by assumption) rfl rfl (Nat.le_of_ble_eq_true rfl) ⟨by omega, by decide⟩ ⟨Nat.le_refl _, Nat.le_refl _⟩ (fun x S' M1 hq2 => ?_)
          obtain ⟨rfl, q1, k1, fn⟩ := hq2
          obtain rfl := q1.symm
          replace f := f.tr fn
          clear fn
          have hr1 := pOf_rg tx 2 (a) (by decide)
          refine g_ist_2 f_X2_readFactor_82 (by decide) c1i ?_
          refine g_ild f_X2_readFactor_83 rfl ?_
          refine g_const f_X2_readFactor_84 ?_
          refine g_icmp_ne f_X2_readFactor_85 rfl (by omega) (by omega) (fun hl => ?_) (fun hl => ?_)
          · rw [if_neg (by omega)] at k1
            have hlt := pOf_lt (tx := tx) (i := 2) (a := a) (by omega)
            refine g_alv f_X2_readFactor_92 rfl ?_
            refine g_ldcS (i := 3) (by decide) f_X2_readFactor_93 rfl ?_
            refine g_cv1 hγ (c_any (a := a + 1) k1 (i := 3) (by decide)) f_X2_readFactor_95 mo_X2_takeAnyOf mv_X2_takeAnyOf (by assumption) rfl rfl (Nat.le_of_ble_eq_true rfl) ⟨by omega, by decide⟩ ⟨Nat.le_refl _, Nat.le_refl _⟩ (fun x S' M2 hq2 => ?_)
            obtain ⟨rfl, q1, k2, fn⟩ := hq2
            obtain rfl := q1.symm
            replace f := f.tr fn
            clear fn
            have hr2 := pOf_rg tx 3 (a + 1) (by decide)
            refine g_ist_3 f_X2_readFactor_98 (by decide) c1i ?_
            refine g_ild f_X2_readFactor_99 rfl ?_
            refine g_const f_X2_readFactor_100 ?_
            refine g_icmp_ne f_X2_readFactor_101 rfl (by omega) (by omega) (fun hr => ?_) (fun hr => ?_)
            · rw [if_neg (by omega)] at k2
              have hlt2 := pOf_lt (tx := tx) (i := 3) (a := a + 1) (by omega)
              refine g_alv f_X2_readFactor_108 rfl ?_
              refine g_cv1 hγ (c_num (a := a + 2) k2) f_X2_readFactor_109 mo_X2_readNumber mv_X2_readNumber (by assumption) rfl rfl (Nat.le_of_ble_eq_true rfl) ⟨by omega, by decide⟩ ⟨Nat.le_refl _, Nat.le_refl _⟩ (fun x S' M3 hq3 => ?_)
              obtain ⟨rfl, q1, k3, fn⟩ := hq3
              obtain rfl := q1.symm
              replace f := f.tr fn
              clear fn
              obtain ⟨n1, n2, n3, n4⟩ := pNum_ok tx (a + 2) (by omega)
              refine g_ist_4 f_X2_readFactor_112 (by decide) c1i ?_
              refine g_ild f_X2_readFactor_114 rfl ?_
              refine g_const f_X2_readFactor_116 ?_
              refine g_icmp_ne f_X2_readFactor_117 rfl (by omega) (by omega) (fun hn => ?_) (fun hn => ?_)
              · refine g_alv f_X2_readFactor_122 rfl ?_
                refine g_getR f_X2_readFactor_123 (by assumption) k3.2.2.2.1 ?_
                refine g_ild f_X2_readFactor_126 rfl ?_
                refine g_const f_X2_readFactor_127 ?_
                refine g_imul f_X2_readFactor_130 ?_
                refine g_ild f_X2_readFactor_131 rfl ?_
                refine g_const f_X2_readFactor_132 ?_
                refine g_imul f_X2_readFactor_134 ?_
                refine g_iadd f_X2_readFactor_135 ?_
                refine g_ild f_X2_readFactor_136 rfl ?_
                refine g_iadd f_X2_readFactor_138 ?_
                refine g_cv0 hγ (c_code k3 (by omega) (pOf tx 2 a * 300 + pOf tx 3 (a + 1) * 100 + (pNum tx (a + 2)).1)) f_X2_readFactor_139 mo_X1_addStep mv_X1_addStep oL rfl rfl (Nat.le_of_ble_eq_true rfl) ⟨by omega, by decide⟩ ⟨Nat.le_refl _, Nat.le_refl _⟩ (fun x S' M4 hq4 => ?_)
                obtain ⟨q1, k4, fn⟩ := hq4
                obtain rfl := q1.symm
                replace f := f.tr fn
                clear fn
                refine g_const f_X2_readFactor_142 ?_
                refine g_retz f_X2_readFactor_143 rfl (Or.inr rfl) ?_ (Nat.zero_le _) (Nat.zero_le _)
                have e : pTest tx a cs = (true, (pNum tx (a + 2)).2, cs ++ [pOf tx 2 a * 300 + pOf tx 3 (a + 1) * 100 + (pNum tx (a + 2)).1]) := (if_neg (by omega)).trans ((if_neg (by omega)).trans (if_neg (by omega)))
                rw [pF_test hb8 hb47, e]
                exact ⟨rfl, rfl, k4, f⟩
              · refine g_const f_X2_readFactor_120 ?_
                refine g_retz f_X2_readFactor_121 rfl (Or.inl rfl) ?_ (Nat.zero_le _) (Nat.zero_le _)
                have e : pTest tx a cs = (false, (pNum tx (a + 2)).2, cs) := (if_neg (by omega)).trans ((if_neg (by omega)).trans (if_pos (by omega)))
                rw [pF_test hb8 hb47, e]
                exact ⟨rfl, rfl, k3, f⟩
            · rw [if_pos (by omega)] at k2
              refine g_const f_X2_readFactor_104 ?_
              refine g_goto f_X2_readFactor_105 ?_
              refine g_ist_4 f_X2_readFactor_112 (by decide) c1i ?_
              refine g_ild f_X2_readFactor_114 rfl ?_
              refine g_const f_X2_readFactor_116 ?_
              refine g_icmp_ne f_X2_readFactor_117 rfl (by omega) (by omega) (fun hn => ?_) (fun hn => ?_)
              · exact absurd hn (by omega)
              refine g_const f_X2_readFactor_120 ?_
              refine g_retz f_X2_readFactor_121 rfl (Or.inl rfl) ?_ (Nat.zero_le _) (Nat.zero_le _)
              have e : pTest tx a cs = (false, a + 1, cs) := (if_neg (by omega)).trans (if_pos (by omega))
              rw [pF_test hb8 hb47, e]
              exact ⟨rfl, rfl, k2, f⟩
          · rw [if_pos (by omega)] at k1
            refine g_const f_X2_readFactor_88 ?_
            refine g_goto f_X2_readFactor_89 ?_
            refine g_ist_3 f_X2_readFactor_98 (by decide) c1i ?_
            refine g_ild f_X2_readFactor_99 rfl ?_
            refine g_const f_X2_readFactor_100 ?_
            refine g_icmp_ne f_X2_readFactor_101 rfl (by omega) (by omega) (fun hr => ?_) (fun hr => ?_)
            · exact absurd hr (by omega)
            refine g_const f_X2_readFactor_104 ?_
            refine g_goto f_X2_readFactor_105 ?_
            refine g_ist_4 f_X2_readFactor_112 (by decide) c1i ?_
            refine g_ild f_X2_readFactor_114 rfl ?_
            refine g_const f_X2_readFactor_116 ?_
            refine g_icmp_ne f_X2_readFactor_117 rfl (by omega) (by omega) (fun hn => ?_) (fun hn => ?_)
            · exact absurd hn (by omega)
            refine g_const f_X2_readFactor_120 ?_
            refine g_retz f_X2_readFactor_121 rfl (Or.inl rfl) ?_ (Nat.zero_le _) (Nat.zero_le _)
            have e : pTest tx a cs = (false, a, cs) := if_pos (by omega)
            rw [pF_test hb8 hb47, e]
            exact ⟨rfl, rfl, k1, f⟩
        · exact absurd (by omega) hx
    · exact absurd (by omega) hx
theorem c_fact {Ω : Ow} : ∀ r, r ≤ 4 → FactC Ω r
  | 0, _ => c_fact0
  | r + 1, h => c_factS (by omega) (c_fact r (by omega)) (c_eith (c_both (c_fact r (by omega))))
theorem c_either {Ω : Ow} (r : Nat) (h : r ≤ 4) : EithC Ω r := c_eith (c_both (c_fact r h))