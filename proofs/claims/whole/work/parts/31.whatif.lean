/-! contracts: WhatIf -/
theorem RepX_w0 {S : Sg} {M : Mm} {B : Nat} {z : Ab} (hO : okZ z) (h : RepX S M B z) : RepX S M B (walkZ z 0) := RepX_cut (P1 := zP z) h (fun p hp a => by
  show _ = if a = 2 then walkP (zP z p) 0 else zP z p a
  by_cases q : a = 2
  · rw [if_pos q, q, walkP_0 (hO.2.2.2.1 p hp).2.2.1]
  · rw [if_neg q])
theorem tnat_inj {a b : Bool} (h : a.toNat = b.toNat) : a = b := by cases a <;> cases b <;> simp_all
set_option maxHeartbeats 4000000 in
set_option maxRecDepth 100000 in
theorem c_until {Ω : Ow} {S : Sg} {M : Mm} {B : Nat} {z : Ab} (hG : Gr S) (hB : isB B) (hBn : B ≠ 61) (hX : RepX S M B z) (hO : okZ z) (hD : zd z ≤ 9999) (hN : ∀ p, p < 6 → M (pe 61 p) 0 = (p : Int)) {t : Nat} (ht : t < 12) : Ct Ω mX8_daysUntilUnseen 8 0 0 1 [vr Ω 60, vi (t : Int), vr Ω B] S M (fun x S' M' => x = untilN z t ∧ triF S S' M M') := by
  refine Ct.mk (by decide) (Nat.le_of_ble_eq_true rfl) [some (vr Ω 60), some (vi (t : Int)), some (vr Ω B), none] (by intro q hq; exact hq) (fun γ hγ hz => ?_)
  obtain ⟨z1, z2, z3, z4, z5⟩ := id hO
  have o61 := obn hG (r := 61) (c := 5) (by decide +kernel)
  have o60 := obn hG (r := 60) (c := 8) (by decide +kernel)
  have g60 : _ = ((61 : Nat) : Int) := grn hG (k := 60) (j := 0) (by decide)
  have t0 := triF.rf (M := M) hG hN
  refine g_alv f_X8_daysUntilUnseen_0 rfl ?_
  refine g_getR f_X8_daysUntilUnseen_1 (by assumption) (by assumption) ?_
  refine g_alv f_X8_daysUntilUnseen_4 rfl ?_
  refine g_cv0 hγ (c_slike t0.2.2.1 isB61 hB (Ne.symm hBn) (t0.xx hB hBn hX z1) hO t0.2.2.2.2) f_X8_daysUntilUnseen_5 mo_X5_becomeLike mv_X5_becomeLike (by assumption) rfl rfl (Nat.le_of_ble_eq_true rfl) ⟨by decide, by decide⟩ ⟨Nat.le_refl _, Nat.le_refl _⟩ (fun x S2 M2 hq2 => ?_)
  obtain ⟨q1, b1, y2⟩ := hq2
  have t2 : triF S S2 M M2 := by
    rw [q1] at y2 ⊢
    exact t0.cp hB hBn b1 y2
  have o612 := obn t2.2.2.1 (r := 61) (c := 5) (by decide +kernel)
  have o602 := obn t2.2.2.1 (r := 60) (c := 8) (by decide +kernel)
  have g602 : _ = ((61 : Nat) : Int) := grn t2.2.2.1 (k := 60) (j := 0) (by decide)
  clear q1 b1
  have loop : ∀ (k n : Nat) (M1 : Mm), n + k = 61 → triF S S2 M M1 → RepX S2 M1 61 (walkZ z n) → fstF k n (fun n => decide (seersN (walkZ z n) t = 0)) = untilN z t → Go γ Ω mX8_daysUntilUnseen (Zm γ Ω 1 0 0 (fun x S' M' => x = untilN z t ∧ triF S S' M M')) 0 0 S2 M1 10 [some (vr Ω 60), some (vi (t : Int)), some (vr Ω B), some (vi (n : Int))] [] := by
    intro k
    induction k with
    | zero =>
      intro n M1 hk t1 y1 hi
      have hn : n = 61 := by omega
      subst hn
      refine g_ild f_X8_daysUntilUnseen_10 rfl ?_
      refine g_const f_X8_daysUntilUnseen_11 ?_
      refine g_icmp_gt f_X8_daysUntilUnseen_13 rfl (by omega) (by omega) (fun hc => ?_) (fun hc => ?_)
      · refine g_const f_X8_daysUntilUnseen_43 ?_
        refine g_reti f_X8_daysUntilUnseen_45 rfl ?_ (Nat.zero_le _) (Nat.zero_le _)
        exact ⟨hi, t1⟩
      · exact absurd (by omega) hc
    | succ k ih =>
      intro n M1 hk t1 y1 hi
      have hn : n < 61 := by omega
      have oW := okZ_walk (n := n) hO (by omega)
      refine g_ild f_X8_daysUntilUnseen_10 rfl ?_
      refine g_const f_X8_daysUntilUnseen_11 ?_
      refine g_icmp_gt f_X8_daysUntilUnseen_13 rfl (by omega) (by omega) (fun hc => ?_) (fun hc => ?_)
      · exact absurd hc (by omega)
      refine g_alv f_X8_daysUntilUnseen_16 rfl ?_
      refine g_getR f_X8_daysUntilUnseen_17 (by assumption) (by assumption) ?_
      refine g_ild f_X8_daysUntilUnseen_20 rfl ?_
      refine g_cv1 hγ (c_seers t1.2.2.1 isB61 y1 oW ht) f_X8_daysUntilUnseen_21 mo_X5_seers mv_X5_seers (by assumption) rfl rfl (Nat.le_of_ble_eq_true rfl) ⟨by decide, by decide⟩ ⟨Nat.le_refl _, Nat.le_refl _⟩ (fun x S' M3 hq2 => ?_)
      obtain ⟨rfl, q1, l1, l2, l3⟩ := hq2
      obtain rfl := q1.symm
      have hsl := seersN_lt (t := t) oW
      have t3 := t1.mx l1.blk l3
      refine g_if_ne f_X8_daysUntilUnseen_24 rfl (by omega) (fun hs => ?_) (fun hs => ?_)
      · refine g_alv f_X8_daysUntilUnseen_29 rfl ?_
        refine g_getR f_X8_daysUntilUnseen_30 (by assumption) (by assumption) ?_
        refine g_const f_X8_daysUntilUnseen_33 ?_
        refine g_as (show (1 : Int) = ((1 : Nat) : Int) from rfl) ?_
        refine g_cv0 hγ (c_goOn t3.2.2.1 isB61 l3 oW (by decide)) f_X8_daysUntilUnseen_34 mo_X5_goOn mv_X5_goOn (by assumption) rfl rfl (Nat.le_of_ble_eq_true rfl) ⟨by decide, by decide⟩ ⟨Nat.le_refl _, Nat.le_refl _⟩ (fun x S' M4 hq3 => ?_)
        obtain ⟨q1, b4, l4⟩ := hq3
        obtain rfl := q1.symm
        rw [walkZ_add] at l4
        refine g_inc_3 f_X8_daysUntilUnseen_37 (by decide) c1v ?_
        refine g_goto f_X8_daysUntilUnseen_40 ?_
        exact ih (n + 1) M4 (by omega) (t3.mx b4 l4) l4 (by rw [← hi, fstF, if_neg (by simp; omega)])
      · refine g_ild f_X8_daysUntilUnseen_27 rfl ?_
        refine g_reti f_X8_daysUntilUnseen_28 rfl ?_ (Nat.zero_le _) (Nat.zero_le _)
        exact ⟨by rw [← hi, fstF, if_pos (by simp; omega)], t3⟩
  refine g_const f_X8_daysUntilUnseen_8 ?_
  refine g_ist_3 f_X8_daysUntilUnseen_9 (by decide) c1v ?_
  exact loop 61 0 M2 rfl t2 (RepX_w0 hO y2) rfl

set_option maxHeartbeats 4000000 in
set_option maxRecDepth 100000 in
theorem c_false {Ω : Ow} {S : Sg} {M : Mm} {B : Nat} {z : Ab} (hG : Gr S) (hB : isB B) (hBn : B ≠ 61) (hX : RepX S M B z) (hO : okZ z) (hD : zd z ≤ 9999) (hN : ∀ p, p < 6 → M (pe 61 p) 0 = (p : Int)) {c : Nat} {T : Tb} (hT : isT c 5) (hR : RepT M c 5 T) (hS : okSeen T) : Ct Ω mX8_firstFalse 8 0 0 1 [vr Ω 60, vr Ω c, vr Ω B] S M (fun x S' M' => x = falseN T z ∧ triF S S' M M') := by
  refine Ct.mk (by decide) (Nat.le_of_ble_eq_true rfl) [some (vr Ω 60), some (vr Ω c), some (vr Ω B), none] (by intro q hq; exact hq) (fun γ hγ hz => ?_)
  obtain ⟨z1, z2, z3, z4, z5⟩ := id hO
  have o61 := obn hG (r := 61) (c := 5) (by decide +kernel)
  have o60 := obn hG (r := 60) (c := 8) (by decide +kernel)
  have g60 : _ = ((61 : Nat) : Int) := grn hG (k := 60) (j := 0) (by decide)
  have t0 := triF.rf (M := M) hG hN
  have loop : ∀ (k n : Nat) (S1 : Sg) (M1 : Mm), n + k = T.length → triF S S1 M M1 → fstF k n (fun i => decide (seersN (walkZ z (tg T i 1).toNat) (tg T i 0).toNat ≠ (tg T i 2).toNat)) = falseN T z → Go γ Ω mX8_firstFalse (Zm γ Ω 1 0 0 (fun x S' M' => x = falseN T z ∧ triF S S' M M')) 0 0 S1 M1 2 [some (vr Ω 60), some (vr Ω c), some (vr Ω B), some (vi (n : Int))] [] := by
    intro k
    induction k with
    | zero =>
      intro n S1 M1 hk t1 hi
      have hn : n = T.length := by omega
      subst hn
      obtain ⟨oC, aC, gC⟩ := obT t1.2.2.1 hT
      obtain ⟨r1, r2, r3, r4⟩ := t1.tt hT hR
      refine g_ild f_X8_firstFalse_2 rfl ?_
      refine g_alv f_X8_firstFalse_3 rfl ?_
      refine g_getI f_X8_firstFalse_4 (by assumption) ?_
      rw [r2]
      refine g_icmp_ge f_X8_firstFalse_7 rfl (by omega) (by omega) (fun hc => ?_) (fun hc => ?_)
      · refine g_const f_X8_firstFalse_61 ?_
        refine g_reti f_X8_firstFalse_63 rfl ?_ (Nat.zero_le _) (Nat.zero_le _)
        exact ⟨hi, t1⟩
      · exact absurd (by omega) hc
    | succ k ih =>
      intro n S1 M1 hk t1 hi
      have hn : n < T.length := by omega
      obtain ⟨oC, aC, gC⟩ := obT t1.2.2.1 hT
      obtain ⟨r1, r2, r3, r4⟩ := t1.tt hT hR
      obtain ⟨⟨s1, s2⟩, ⟨s3, s4⟩, s5, s6⟩ := hS n hn
      obtain ⟨a, ha⟩ := Int.eq_ofNat_of_zero_le s1
      obtain ⟨d, hd⟩ := Int.eq_ofNat_of_zero_le s3
      obtain ⟨e, he⟩ := Int.eq_ofNat_of_zero_le s5
      have oW := okZ_walk (n := d) hO (by omega)
      have o611 := obn t1.2.2.1 (r := 61) (c := 5) (by decide +kernel)
      have o601 := obn t1.2.2.1 (r := 60) (c := 8) (by decide +kernel)
      have g601 : _ = ((61 : Nat) : Int) := grn t1.2.2.1 (k := 60) (j := 0) (by decide)
      refine g_ild f_X8_firstFalse_2 rfl ?_
      refine g_alv f_X8_firstFalse_3 rfl ?_
      refine g_getI f_X8_firstFalse_4 (by assumption) ?_
      rw [r2]
      refine g_icmp_ge f_X8_firstFalse_7 rfl (by omega) (by omega) (fun hc => ?_) (fun hc => ?_)
      · exact absurd hc (by omega)
      refine g_alv f_X8_firstFalse_10 rfl ?_
      refine g_getR f_X8_firstFalse_11 (by assumption) (by assumption) ?_
      refine g_alv f_X8_firstFalse_14 rfl ?_
      refine g_cv0 hγ (c_slike t1.2.2.1 isB61 hB (Ne.symm hBn) (t1.xx hB hBn hX z1) hO t1.2.2.2.2) f_X8_firstFalse_15 mo_X5_becomeLike mv_X5_becomeLike (by assumption) rfl rfl (Nat.le_of_ble_eq_true rfl) ⟨by decide, by decide⟩ ⟨Nat.le_refl _, Nat.le_refl _⟩ (fun x S2 M2 hq2 => ?_)
      obtain ⟨q1, b1, y2⟩ := hq2
      have t2 : triF S S2 M M2 := by
        rw [q1] at y2 ⊢
        exact t1.cp hB hBn b1 y2
      have o612 := obn t2.2.2.1 (r := 61) (c := 5) (by decide +kernel)
      have o602 := obn t2.2.2.1 (r := 60) (c := 8) (by decide +kernel)
      have g602 : _ = ((61 : Nat) : Int) := grn t2.2.2.1 (k := 60) (j := 0) (by decide)
      clear q1 b1
      refine g_alv f_X8_firstFalse_18 rfl ?_
      refine g_getR f_X8_firstFalse_19 (by assumption) (by assumption) ?_
      refine g_alv f_X8_firstFalse_22 rfl ?_
      refine g_ild f_X8_firstFalse_23 rfl ?_
      refine g_const f_X8_firstFalse_24 ?_
      refine g_as (show (1 : Int) = ((1 : Nat) : Int) from rfl) ?_
      refine g_cv1 hγ (c_tcell t2.2.2.1 hT (t2.tt hT hR) (i := n) (k := 1) hn (by decide)) f_X8_firstFalse_25 mo_X6_cell mv_X6_cell (obT t2.2.2.1 hT).1 rfl rfl (Nat.le_of_ble_eq_true rfl) ⟨by decide, by decide⟩ ⟨Nat.le_refl _, Nat.le_refl _⟩ (fun x S' M' hq9 => ?_)
      obtain ⟨rfl, q1, q2⟩ := hq9
      obtain rfl := q1.symm
      obtain rfl := q2.symm
      refine g_as hd ?_
      refine g_cv0 hγ (c_goOn t2.2.2.1 isB61 y2 hO (d := d) (by omega)) f_X8_firstFalse_28 mo_X5_goOn mv_X5_goOn (by assumption) rfl rfl (Nat.le_of_ble_eq_true rfl) ⟨by decide, by decide⟩ ⟨Nat.le_refl _, Nat.le_refl _⟩ (fun x S' M4 hq3 => ?_)
      obtain ⟨q1, b4, l4⟩ := hq3
      obtain rfl := q1.symm
      have t4 := t2.mx b4 l4
      refine g_alv f_X8_firstFalse_31 rfl ?_
      refine g_getR f_X8_firstFalse_32 (by assumption) (by assumption) ?_
      refine g_alv f_X8_firstFalse_35 rfl ?_
      refine g_ild f_X8_firstFalse_36 rfl ?_
      refine g_const f_X8_firstFalse_37 ?_
      refine g_as (show (0 : Int) = ((0 : Nat) : Int) from rfl) ?_
      refine g_cv1 hγ (c_tcell t4.2.2.1 hT (t4.tt hT hR) (i := n) (k := 0) hn (by decide)) f_X8_firstFalse_38 mo_X6_cell mv_X6_cell (obT t4.2.2.1 hT).1 rfl rfl (Nat.le_of_ble_eq_true rfl) ⟨by decide, by decide⟩ ⟨Nat.le_refl _, Nat.le_refl _⟩ (fun x S' M' hq9 => ?_)
      obtain ⟨rfl, q1, q2⟩ := hq9
      obtain rfl := q1.symm
      obtain rfl := q2.symm
      refine g_as ha ?_
      refine g_cv1 hγ (c_seers t4.2.2.1 isB61 l4 oW (t := a) (by omega)) f_X8_firstFalse_41 mo_X5_seers mv_X5_seers (by assumption) rfl rfl (Nat.le_of_ble_eq_true rfl) ⟨by decide, by decide⟩ ⟨Nat.le_refl _, Nat.le_refl _⟩ (fun x S' M5 hq4 => ?_)
      obtain ⟨rfl, q1, l1, l2, l3⟩ := hq4
      obtain rfl := q1.symm
      have hsl := seersN_lt (t := a) oW
      have t5 := t4.mx l1.blk l3
      refine g_alv f_X8_firstFalse_44 rfl ?_
      refine g_ild f_X8_firstFalse_45 rfl ?_
      refine g_const f_X8_firstFalse_46 ?_
      refine g_as (show (2 : Int) = ((2 : Nat) : Int) from rfl) ?_
      refine g_cv1 hγ (c_tcell t5.2.2.1 hT (t5.tt hT hR) (i := n) (k := 2) hn (by decide)) f_X8_firstFalse_47 mo_X6_cell mv_X6_cell (obT t5.2.2.1 hT).1 rfl rfl (Nat.le_of_ble_eq_true rfl) ⟨by decide, by decide⟩ ⟨Nat.le_refl _, Nat.le_refl _⟩ (fun x S' M' hq9 => ?_)
      obtain ⟨rfl, q1, q2⟩ := hq9
      obtain rfl := q1.symm
      obtain rfl := q2.symm
      refine g_icmp_eq f_X8_firstFalse_50 rfl (by omega) (by omega) (fun hs => ?_) (fun hs => ?_)
      · refine g_inc_3 f_X8_firstFalse_55 (by decide) c1v ?_
        refine g_goto f_X8_firstFalse_58 ?_
        exact ih (n + 1) _ _ (by omega) t5 (by rw [← hi, fstF, if_neg (by rw [ha, hd, he]; simp; omega)])
      · refine g_ild f_X8_firstFalse_53 rfl ?_
        refine g_reti f_X8_firstFalse_54 rfl ?_ (Nat.zero_le _) (Nat.zero_le _)
        exact ⟨by rw [← hi, fstF, if_pos (by rw [ha, hd, he]; simp; omega)], t5⟩
  refine g_const f_X8_firstFalse_0 ?_
  refine g_ist_3 f_X8_firstFalse_1 (by decide) c1v ?_
  exact loop T.length 0 S M (by omega) t0 rfl

set_option maxHeartbeats 4000000 in
set_option maxRecDepth 100000 in
theorem c_agrees {Ω : Ow} {S : Sg} {M : Mm} {B : Nat} {z : Ab} (hG : Gr S) (hB : isB B) (hBn : B ≠ 61) (hX : RepX S M B z) (hO : okZ z) (hD : zd z ≤ 9999) (hN : ∀ p, p < 6 → M (pe 61 p) 0 = (p : Int)) {c : Nat} {T : Tb} (hT : isT c 5) (hR : RepT M c 5 T) (hS : okSeen T) {p t v : Nat} (hp : p < zc z) (ht : t < 12) (hv : v ≤ 9) : Ct Ω mX8_agrees 7 0 0 1 [vr Ω 60, vi (p : Int), vi (t : Int), vi (v : Int), vr Ω c, vr Ω B] S M (fun x S' M' => x = ((agreeN z p t v T).toNat : Int) ∧ triF S S' M M') := by
  refine Ct.mk (by decide) (Nat.le_of_ble_eq_true rfl) [some (vr Ω 60), some (vi (p : Int)), some (vi (t : Int)), some (vi (v : Int)), some (vr Ω c), some (vr Ω B), none, none, none] (by intro q hq; exact hq) (fun γ hγ hz => ?_)
  obtain ⟨z1, z2, z3, z4, z5⟩ := id hO
  have o61 := obn hG (r := 61) (c := 5) (by decide +kernel)
  have o60 := obn hG (r := 60) (c := 8) (by decide +kernel)
  have g60 : _ = ((61 : Nat) : Int) := grn hG (k := 60) (j := 0) (by decide)
  have t0 := triF.rf (M := M) hG hN
  have loop : ∀ (k n : Nat) (S1 : Sg) (M1 : Mm) (v7 v8 : Option Value), n + k = T.length → cat1 v7 → triF S S1 M M1 → (∀ i, i < n → (fun i => (sightN (walkZ (setP (setP z p 2 t) p 1 v) (tg T i 1).toNat) p).testBit (tg T i 0).toNat == (tg T i 2).toNat.testBit p) i = true) → Go γ Ω mX8_agrees (Zm γ Ω 1 0 0 (fun x S' M' => x = ((agreeN z p t v T).toNat : Int) ∧ triF S S' M M')) 0 0 S1 M1 3 [some (vr Ω 60), some (vi (p : Int)), some (vi (t : Int)), some (vi (v : Int)), some (vr Ω c), some (vr Ω B), some (vi (n : Int)), v7, v8] [] := by
    intro k
    induction k with
    | zero =>
      intro n S1 M1 v7 v8 hk q7 t1 hi
      have hn : n = T.length := by omega
      subst hn
      obtain ⟨oC, aC, gC⟩ := obT t1.2.2.1 hT
      obtain ⟨r1, r2, r3, r4⟩ := t1.tt hT hR
      refine g_ild f_X8_agrees_3 rfl ?_
      refine g_alv f_X8_agrees_5 rfl ?_
      refine g_getI f_X8_agrees_7 (by assumption) ?_
      rw [r2]
      refine g_icmp_ge f_X8_agrees_10 rfl (by omega) (by omega) (fun hc => ?_) (fun hc => ?_)
      · refine g_const f_X8_agrees_113 ?_
        refine g_retz f_X8_agrees_114 rfl (by omega) ?_ (Nat.zero_le _) (Nat.zero_le _)
        exact ⟨by rw [show agreeN z p t v T = true from List.all_eq_true.mpr (fun i hj => hi i (List.mem_range.mp hj))]; rfl, t1⟩
      · exact absurd (by omega) hc
    | succ k ih =>
      intro n S1 M1 v7 v8 hk q7 t1 hi
      have hn : n < T.length := by omega
      obtain ⟨oC, aC, gC⟩ := obT t1.2.2.1 hT
      obtain ⟨r1, r2, r3, r4⟩ := t1.tt hT hR
      obtain ⟨⟨s1, s2⟩, ⟨s3, s4⟩, s5, s6⟩ := hS n hn
      obtain ⟨a, ha⟩ := Int.eq_ofNat_of_zero_le s1
      obtain ⟨d, hd⟩ := Int.eq_ofNat_of_zero_le s3
      obtain ⟨e, he⟩ := Int.eq_ofNat_of_zero_le s5
      have hp6 : p < 6 := by omega
      have o1 : okZ (setP z p 2 t) := okZ_setP hO (by omega)
      have o2 : okZ (setP (setP z p 2 t) p 1 v) := okZ_setP o1 (by omega)
      have oW := okZ_walk (n := d) o2 (by show zd z + d ≤ 20000; omega)
      have hsl := sightN_lt (walkZ (setP (setP z p 2 t) p 1 v) d) p
      have o611 := obn t1.2.2.1 (r := 61) (c := 5) (by decide +kernel)
      have o601 := obn t1.2.2.1 (r := 60) (c := 8) (by decide +kernel)
      have g601 : _ = ((61 : Nat) : Int) := grn t1.2.2.1 (k := 60) (j := 0) (by decide)
      refine g_ild f_X8_agrees_3 rfl ?_
      refine g_alv f_X8_agrees_5 rfl ?_
      refine g_getI f_X8_agrees_7 (by assumption) ?_
      rw [r2]
      refine g_icmp_ge f_X8_agrees_10 rfl (by omega) (by omega) (fun hc => ?_) (fun hc => ?_)
      · exact absurd hc (by omega)
      refine g_alv f_X8_agrees_13 rfl ?_
      refine g_getR f_X8_agrees_14 (by assumption) (by assumption) ?_
      refine g_alv f_X8_agrees_17 rfl ?_
      refine g_cv0 hγ (c_slike t1.2.2.1 isB61 hB (Ne.symm hBn) (t1.xx hB hBn hX z1) hO t1.2.2.2.2) f_X8_agrees_19 mo_X5_becomeLike mv_X5_becomeLike (by assumption) rfl rfl (Nat.le_of_ble_eq_true rfl) ⟨by decide, by decide⟩ ⟨Nat.le_refl _, Nat.le_refl _⟩ (fun x S2 M2 hq2 => ?_)
      obtain ⟨q1, b1, y2⟩ := hq2
      have t2 : triF S S2 M M2 := by
        rw [q1] at y2 ⊢
        exact t1.cp hB hBn b1 y2
      have o612 := obn t2.2.2.1 (r := 61) (c := 5) (by decide +kernel)
      have o602 := obn t2.2.2.1 (r := 60) (c := 8) (by decide +kernel)
      have g602 : _ = ((61 : Nat) : Int) := grn t2.2.2.1 (k := 60) (j := 0) (by decide)
      clear q1 b1
      refine g_alv f_X8_agrees_22 rfl ?_
      refine g_getR f_X8_agrees_23 (by assumption) (by assumption) ?_
      refine g_ild f_X8_agrees_26 rfl ?_
      refine g_cv3 hγ (c_person t2.2.2.1 isB61 y2 hO (p : Int) (by omega)) f_X8_agrees_27 mo_X5_person mv_X5_person (by assumption) rfl rfl (Nat.le_of_ble_eq_true rfl) ⟨by decide, by decide⟩ ⟨Nat.le_refl _, Nat.le_refl _⟩ (fun x S' M' hq5 => ?_)
      obtain ⟨hq5, q1, q2⟩ := hq5
      obtain rfl := q1.symm
      obtain rfl := q2.symm
      obtain ⟨p2, hp2, e1, rfl⟩ : ∃ p2 : Nat, p2 < zc z ∧ (p : Int) = (p2 : Int) ∧ x = (pe 61 p2 : Int) := by
        rcases hq5 with h | h
        · exact h
        · omega
      obtain rfl : p = p2 := by omega
      rw [rv_nat]
      have oN := obP (p := p) t2.2.2.1 isB61 hp6
      have b6 := pe_in (B := 61) hp6
      refine g_ast_7 f_X8_agrees_30 (by decide) c1i ?_
      refine g_alv f_X8_agrees_32 rfl ?_
      refine g_ifnn f_X8_agrees_34 ?_
      refine g_alv f_X8_agrees_39 rfl ?_
      refine g_ild f_X8_agrees_41 rfl ?_
      refine g_putI f_X8_agrees_42 rfl (by assumption) ?_
      have y3 := RepX_setP (a := 2) (v := t) y2 isB61 z1 hp6 (by decide)
      refine g_alv f_X8_agrees_45 rfl ?_
      refine g_ild f_X8_agrees_47 rfl ?_
      refine g_putI f_X8_agrees_48 rfl (by assumption) ?_
      have y4 := RepX_setP (a := 1) (v := v) y3 isB61 z1 hp6 (by decide)
      have t4 := t2.mx (blk_up (blk_upM ⟨b6.1, b6.2.1⟩) ⟨b6.1, b6.2.1⟩) y4
      generalize up (up M2 (pe 61 p) (2 + 1) (t : Int)) (pe 61 p) (1 + 1) (v : Int) = M3 at y4 t4
      clear y3
      refine g_alv f_X8_agrees_51 rfl ?_
      refine g_getR f_X8_agrees_52 (by assumption) (by assumption) ?_
      refine g_alv f_X8_agrees_55 rfl ?_
      refine g_ild f_X8_agrees_57 rfl ?_
      refine g_const f_X8_agrees_59 ?_
      refine g_as (show (1 : Int) = ((1 : Nat) : Int) from rfl) ?_
      refine g_cv1 hγ (c_tcell t4.2.2.1 hT (t4.tt hT hR) (i := n) (k := 1) hn (by decide)) f_X8_agrees_60 mo_X6_cell mv_X6_cell (obT t4.2.2.1 hT).1 rfl rfl (Nat.le_of_ble_eq_true rfl) ⟨by decide, by decide⟩ ⟨Nat.le_refl _, Nat.le_refl _⟩ (fun x S' M' hq9 => ?_)
      obtain ⟨rfl, q1, q2⟩ := hq9
      obtain rfl := q1.symm
      obtain rfl := q2.symm
      refine g_as hd ?_
      refine g_cv0 hγ (c_goOn t4.2.2.1 isB61 y4 o2 (d := d) (by omega)) f_X8_agrees_63 mo_X5_goOn mv_X5_goOn (by assumption) rfl rfl (Nat.le_of_ble_eq_true rfl) ⟨by decide, by decide⟩ ⟨Nat.le_refl _, Nat.le_refl _⟩ (fun x S' M4 hq3 => ?_)
      obtain ⟨q1, b4, l4⟩ := hq3
      obtain rfl := q1.symm
      have t5 := t4.mx b4 l4
      refine g_alv f_X8_agrees_66 rfl ?_
      refine g_getR f_X8_agrees_67 (by assumption) (by assumption) ?_
      refine g_alv f_X8_agrees_70 rfl ?_
      refine g_cv1 hγ (c_sightOf t5.2.2.1 isB61 l4 oW (p := p) hp) f_X8_agrees_72 mo_X5_sightOf mv_X5_sightOf (by assumption) rfl rfl (Nat.le_of_ble_eq_true rfl) ⟨by decide, by decide⟩ ⟨Nat.le_refl _, Nat.le_refl _⟩ (fun x S' M5 hq4 => ?_)
      obtain ⟨rfl, q1, l1, l3⟩ := hq4
      obtain rfl := q1.symm
      have t6 := t5.mx l1.blk l3
      refine g_alv f_X8_agrees_75 rfl ?_
      refine g_ild f_X8_agrees_77 rfl ?_
      refine g_const f_X8_agrees_79 ?_
      refine g_as (show (0 : Int) = ((0 : Nat) : Int) from rfl) ?_
      refine g_cv1 hγ (c_tcell t6.2.2.1 hT (t6.tt hT hR) (i := n) (k := 0) hn (by decide)) f_X8_agrees_80 mo_X6_cell mv_X6_cell (obT t6.2.2.1 hT).1 rfl rfl (Nat.le_of_ble_eq_true rfl) ⟨by decide, by decide⟩ ⟨Nat.le_refl _, Nat.le_refl _⟩ (fun x S' M' hq9 => ?_)
      obtain ⟨rfl, q1, q2⟩ := hq9
      obtain rfl := q1.symm
      obtain rfl := q2.symm
      refine g_as ha ?_
      refine g_ishr f_X8_agrees_83 ?_
      refine g_const f_X8_agrees_84 ?_
      refine g_iand f_X8_agrees_85 ?_
      rw [bit1 (by omega) (by omega)]
      refine g_ist_8 f_X8_agrees_86 (by decide) c1v ?_
      refine g_ild f_X8_agrees_88 rfl ?_
      refine g_alv f_X8_agrees_90 rfl ?_
      refine g_ild f_X8_agrees_92 rfl ?_
      refine g_const f_X8_agrees_94 ?_
      refine g_as (show (2 : Int) = ((2 : Nat) : Int) from rfl) ?_
      refine g_cv1 hγ (c_tcell t6.2.2.1 hT (t6.tt hT hR) (i := n) (k := 2) hn (by decide)) f_X8_agrees_95 mo_X6_cell mv_X6_cell (obT t6.2.2.1 hT).1 rfl rfl (Nat.le_of_ble_eq_true rfl) ⟨by decide, by decide⟩ ⟨Nat.le_refl _, Nat.le_refl _⟩ (fun x S' M' hq9 => ?_)
      obtain ⟨rfl, q1, q2⟩ := hq9
      obtain rfl := q1.symm
      obtain rfl := q2.symm
      refine g_ild f_X8_agrees_98 rfl ?_
      refine g_ishr f_X8_agrees_99 ?_
      refine g_const f_X8_agrees_100 ?_
      refine g_iand f_X8_agrees_101 ?_
      rw [he, bit1 (by omega) (by omega)]
      have bl1 := Bool.toNat_le ((sightN (walkZ (setP (setP z p 2 t) p 1 v) d) p).testBit a)
      have bl2 := Bool.toNat_le (e.testBit p)
      refine g_icmp_eq f_X8_agrees_102 rfl (by omega) (by omega) (fun hs => ?_) (fun hs => ?_)
      · refine g_inc_6 f_X8_agrees_107 (by decide) c1v ?_
        refine g_goto f_X8_agrees_110 ?_
        refine ih (n + 1) _ _ _ _ (by omega) c1v t6 (fun i hj => ?_)
        by_cases hin : i < n
        · exact hi i hin
        · obtain rfl : i = n := by omega
          show (_ == _) = true
          rw [ha, hd, he]
          have h4 : (sightN (walkZ (setP (setP z p 2 t) p 1 v) d) p).testBit a = e.testBit p := tnat_inj (by omega)
          show ((sightN (walkZ (setP (setP z p 2 t) p 1 v) d) p).testBit a == e.testBit p) = true
          rw [h4]; exact beq_self_eq_true _
      · refine g_const f_X8_agrees_105 ?_
        refine g_retz f_X8_agrees_106 rfl (by omega) ?_ (Nat.zero_le _) (Nat.zero_le _)
        refine ⟨?_, t6⟩
        have hf : agreeN z p t v T = false := by
          rw [Bool.eq_false_iff]
          intro h
          have h2 := List.all_eq_true.mp h n (List.mem_range.mpr hn)
          rw [ha, hd, he] at h2
          have h3 := eq_of_beq h2
          exact hs (by show ((Bool.toNat _ : Nat) : Int) = _; rw [show (sightN (walkZ (setP (setP z p 2 t) p 1 v) d) p).testBit a = e.testBit p from h3])
        rw [hf]; rfl
  refine g_const f_X8_agrees_0 ?_
  refine g_ist_6 f_X8_agrees_1 (by decide) c1v ?_
  exact loop T.length 0 S M none none (by omega) c1n t0 (fun i hj => absurd hj (Nat.not_lt_zero _))
