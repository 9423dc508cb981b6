/-! contracts: WhatIf: shunned, the plan; a scene copied -/
theorem minF_le (f : Nat → Nat) : ∀ n, (minF n f).2 ≤ 13
  | 0 => Nat.le_refl _
  | n + 1 => by
    have h := minF_le f n
    rw [minF]
    split
    · show f n ≤ 13; omega
    · exact h
set_option maxHeartbeats 4000000 in
set_option maxRecDepth 100000 in
theorem c_shun {Ω : Ow} {S : Sg} {M : Mm} {B : Nat} {z : Ab} (hG : Gr S) (hB : isB B) (hBn : B ≠ 61) (hX : RepX S M B z) (hO : okZ z) (hD : zd z ≤ 9999) (hN : ∀ p, p < 6 → M (pe 61 p) 0 = (p : Int)) {p : Nat} (hp : p < zc z) : Ct Ω mX8_shunnedBy 7 0 0 1 [vr Ω 60, vi (p : Int), vr Ω B] S M (fun x S' M' => x = (shunN z p : Int) ∧ triF S S' M M') := by
  refine Ct.mk (by decide) (Nat.le_of_ble_eq_true rfl) [some (vr Ω 60), some (vi (p : Int)), some (vr Ω B), none, none, none, none, none] (by intro q hq; exact hq) (fun γ hγ hz => ?_)
  obtain ⟨z1, z2, z3, z4, z5⟩ := id hO
  have o61 := obn hG (r := 61) (c := 5) (by decide +kernel)
  have o60 := obn hG (r := 60) (c := 8) (by decide +kernel)
  have g60 : _ = ((61 : Nat) : Int) := grn hG (k := 60) (j := 0) (by decide)
  have t0 := triF.rf (M := M) hG hN
  refine g_alv f_X8_shunnedBy_0 rfl ?_
  refine g_getR f_X8_shunnedBy_1 (by assumption) (by assumption) ?_
  refine g_alv f_X8_shunnedBy_4 rfl ?_
  refine g_cv0 hγ (c_slike t0.2.2.1 isB61 hB (Ne.symm hBn) (t0.xx hB hBn hX z1) hO t0.2.2.2.2) f_X8_shunnedBy_5 mo_X5_becomeLike mv_X5_becomeLike (by assumption) rfl rfl (Nat.le_of_ble_eq_true rfl) ⟨by decide, by decide⟩ ⟨Nat.le_refl _, Nat.le_refl _⟩ (fun x S2 M2 hq2 => ?_)
  obtain ⟨q1, b1, y2⟩ := hq2
  have t2 : triF S S2 M M2 := by
    rw [q1] at y2 ⊢
    exact t0.cp hB hBn b1 y2
  have o612 := obn t2.2.2.1 (r := 61) (c := 5) (by decide +kernel)
  have o602 := obn t2.2.2.1 (r := 60) (c := 8) (by decide +kernel)
  have g602 : _ = ((61 : Nat) : Int) := grn t2.2.2.1 (k := 60) (j := 0) (by decide)
  clear q1 b1
  refine g_alv f_X8_shunnedBy_8 rfl ?_
  refine g_getR f_X8_shunnedBy_9 (by assumption) (by assumption) ?_
  refine g_ild f_X8_shunnedBy_12 rfl ?_
  refine g_cv3 hγ (c_person t2.2.2.1 isB61 y2 hO (p : Int) (by omega)) f_X8_shunnedBy_13 mo_X5_person mv_X5_person (by assumption) rfl rfl (Nat.le_of_ble_eq_true rfl) ⟨by decide, by decide⟩ ⟨Nat.le_refl _, Nat.le_refl _⟩ (fun x S' M' hq5 => ?_)
  obtain ⟨hq5, q1, q2⟩ := hq5
  obtain rfl := q1.symm
  obtain rfl := q2.symm
  obtain ⟨p2, hp2, e1, rfl⟩ : ∃ p2 : Nat, p2 < zc z ∧ (p : Int) = (p2 : Int) ∧ x = (pe 61 p2 : Int) := by
    rcases hq5 with h | h
    · exact h
    · omega
  obtain rfl : p = p2 := by omega
  rw [rv_nat]
  have hp6 : p < 6 := by omega
  have oN := obP (p := p) t2.2.2.1 isB61 hp6
  have b6 := pe_in (B := 61) hp6
  have zp2 := (z4 p hp).2.2.1
  have loop : ∀ (k n : Nat) (M1 : Mm) (v7 : Option Value) (t0 : Nat), n + k = 12 → t0 ≤ 11 → triF S S2 M M1 → RepX S2 M1 61 (setP z p 2 t0) → Go γ Ω mX8_shunnedBy (Zm γ Ω 1 0 0 (fun x S' M' => x = (shunN z p : Int) ∧ triF S S' M M')) 0 0 S2 M1 27 [some (vr Ω 60), some (vi (p : Int)), some (vr Ω B), some (vr Ω (pe 61 p)), some (vi ((minF n (fun t => bcN (sightN (setP z p 2 t) p))).1 : Int)), some (vi ((minF n (fun t => bcN (sightN (setP z p 2 t) p))).2 : Int)), some (vi (n : Int)), v7] [] := by
    intro k
    induction k with
    | zero =>
      intro n M1 v7 t0 hk ht0 t1 y1
      have hn : n = 12 := by omega
      subst hn
      refine g_alv f_X8_shunnedBy_27 rfl ?_
      refine g_ifnull f_X8_shunnedBy_28 rfl ?_
      refine g_ild f_X8_shunnedBy_31 rfl ?_
      refine g_const f_X8_shunnedBy_33 ?_
      refine g_icmp_ge f_X8_shunnedBy_35 rfl (by omega) (by omega) (fun hc => ?_) (fun hc => ?_)
      · refine g_ild f_X8_shunnedBy_78 rfl ?_
        refine g_reti f_X8_shunnedBy_80 rfl ?_ (Nat.zero_le _) (Nat.zero_le _)
        exact ⟨rfl, t1⟩
      · exact absurd (by omega) hc
    | succ k ih =>
      intro n M1 v7 t0 hk ht0 t1 y1
      have hn : n < 12 := by omega
      have o1 : okZ (setP z p 2 n) := okZ_setP hO (by omega)
      have hsl := sightN_lt (setP z p 2 n) p
      have hmin : (minF n (fun t => bcN (sightN (setP z p 2 t) p))).2 ≤ 13 := minF_le _ _
      have hbc := bcN_le (sightN (setP z p 2 n) p)
      refine g_alv f_X8_shunnedBy_27 rfl ?_
      refine g_ifnull f_X8_shunnedBy_28 rfl ?_
      refine g_ild f_X8_shunnedBy_31 rfl ?_
      refine g_const f_X8_shunnedBy_33 ?_
      refine g_icmp_ge f_X8_shunnedBy_35 rfl (by omega) (by omega) (fun hc => ?_) (fun hc => ?_)
      · exact absurd hc (by omega)
      refine g_alv f_X8_shunnedBy_38 rfl ?_
      refine g_ild f_X8_shunnedBy_39 rfl ?_
      refine g_putI f_X8_shunnedBy_41 rfl (by assumption) ?_
      have y3 := RepX_setP (a := 2) (v := n) y1 isB61 z1 hp6 (by decide)
      rw [setP_two] at y3
      have t3 := t1.mx (blk_upM ⟨b6.1, b6.2.1⟩) y3
      generalize up M1 (pe 61 p) (2 + 1) (n : Int) = M3 at y3 t3
      refine g_alv f_X8_shunnedBy_44 rfl ?_
      refine g_getR f_X8_shunnedBy_45 (by assumption) (by assumption) ?_
      refine g_alv f_X8_shunnedBy_48 rfl ?_
      refine g_cv1 hγ (c_sightOf t3.2.2.1 isB61 y3 o1 (p := p) hp) f_X8_shunnedBy_49 mo_X5_sightOf mv_X5_sightOf (by assumption) rfl rfl (Nat.le_of_ble_eq_true rfl) ⟨by decide, by decide⟩ ⟨Nat.le_refl _, Nat.le_refl _⟩ (fun x S' M5 hq4 => ?_)
      obtain ⟨rfl, q1, l1, l3⟩ := hq4
      obtain rfl := q1.symm
      have t6 := t3.mx l1.blk l3
      refine g_cs1 hγ (c_bitCount hsl) f_X8_shunnedBy_52 mo_J6_bitCount_0f7a4 mt_J6_bitCount_0f7a4 rfl (Nat.le_of_ble_eq_true rfl) ⟨by decide, by decide⟩ ⟨Nat.le_refl _, Nat.le_refl _⟩ (fun x S' M6 hq5 => ?_)
      obtain ⟨rfl, q1, q2⟩ := hq5
      obtain rfl := q1.symm
      obtain rfl := q2.symm
      refine g_ist_7 f_X8_shunnedBy_55 (by decide) c1i ?_
      refine g_ild f_X8_shunnedBy_57 rfl ?_
      refine g_ild f_X8_shunnedBy_59 rfl ?_
      refine g_icmp_ge f_X8_shunnedBy_61 rfl (by omega) (by omega) (fun hs => ?_) (fun hs => ?_)
      · refine g_inc_6 f_X8_shunnedBy_72 (by decide) c1i ?_
        refine g_goto f_X8_shunnedBy_75 ?_
        have e : minF (n + 1) (fun t => bcN (sightN (setP z p 2 t) p)) = _ := rfl
        have h9 := ih (n + 1) _ (some (vi (bcN (sightN (setP z p 2 n) p) : Int))) n (by omega) (by omega) t6 l3
        rw [minF] at h9
        first | (rw [if_pos (by show bcN (sightN (setP z p 2 n) p) < _; omega)] at h9; exact h9) | (rw [if_neg (by show ¬ bcN (sightN (setP z p 2 n) p) < _; omega)] at h9; exact h9)
      · refine g_ild f_X8_shunnedBy_64 rfl ?_
        refine g_ist_5 f_X8_shunnedBy_66 (by decide) c1i ?_
        refine g_ild f_X8_shunnedBy_68 rfl ?_
        refine g_ist_4 f_X8_shunnedBy_70 (by decide) c1v ?_
        refine g_inc_6 f_X8_shunnedBy_72 (by decide) c1i ?_
        refine g_goto f_X8_shunnedBy_75 ?_
        have e : minF (n + 1) (fun t => bcN (sightN (setP z p 2 t) p)) = _ := rfl
        have h9 := ih (n + 1) _ (some (vi (bcN (sightN (setP z p 2 n) p) : Int))) n (by omega) (by omega) t6 l3
        rw [minF] at h9
        first | (rw [if_pos (by show bcN (sightN (setP z p 2 n) p) < _; omega)] at h9; exact h9) | (rw [if_neg (by show ¬ bcN (sightN (setP z p 2 n) p) < _; omega)] at h9; exact h9)
  refine g_ast_3 f_X8_shunnedBy_16 (by decide) c1v ?_
  refine g_const f_X8_shunnedBy_17 ?_
  refine g_ist_4 f_X8_shunnedBy_18 (by decide) c1v ?_
  refine g_const f_X8_shunnedBy_20 ?_
  refine g_ist_5 f_X8_shunnedBy_22 (by decide) c1i ?_
  refine g_const f_X8_shunnedBy_24 ?_
  refine g_ist_6 f_X8_shunnedBy_25 (by decide) c1i ?_
  exact loop 12 0 _ none (zP z p 2) rfl zp2 t2 (by rw [setP_id]; exact y2)

set_option maxHeartbeats 4000000 in
set_option maxRecDepth 100000 in
theorem c_plan {Ω : Ow} {S : Sg} {M : Mm} {B : Nat} {z : Ab} (hG : Gr S) (hB : isB B) (hBn : B ≠ 61) (hX : RepX S M B z) (hO : okZ z) (hD : zd z ≤ 9999) (hN : ∀ p, p < 6 → M (pe 61 p) 0 = (p : Int)) {c : Nat} {T : Tb} (hT : isT c 10) (hR : RepT M c 10 T) (hS : okPlan (zc z) T) : Ct Ω mX8_afterPlan 9 0 0 3 [vr Ω 60, vr Ω c, vr Ω B] S M (fun x S' M' => x = 61 ∧ triF S S' M M' ∧ RepX S' M' 61 (planZ z T T.length)) := by
  refine Ct.mk (by decide) (Nat.le_of_ble_eq_true rfl) [some (vr Ω 60), some (vr Ω c), some (vr Ω B), none, none] (by intro q hq; exact hq) (fun γ hγ hz => ?_)
  obtain ⟨z1, z2, z3, z4, z5⟩ := id hO
  have o61 := obn hG (r := 61) (c := 5) (by decide +kernel)
  have o60 := obn hG (r := 60) (c := 8) (by decide +kernel)
  have g60 : _ = ((61 : Nat) : Int) := grn hG (k := 60) (j := 0) (by decide)
  have t0 := triF.rf (M := M) hG hN
  refine g_alv f_X8_afterPlan_0 rfl ?_
  refine g_getR f_X8_afterPlan_1 (by assumption) (by assumption) ?_
  refine g_alv f_X8_afterPlan_4 rfl ?_
  refine g_cv0 hγ (c_slike t0.2.2.1 isB61 hB (Ne.symm hBn) (t0.xx hB hBn hX z1) hO t0.2.2.2.2) f_X8_afterPlan_5 mo_X5_becomeLike mv_X5_becomeLike (by assumption) rfl rfl (Nat.le_of_ble_eq_true rfl) ⟨by decide, by decide⟩ ⟨Nat.le_refl _, Nat.le_refl _⟩ (fun x S2 M2 hq2 => ?_)
  obtain ⟨q1, b1, y2⟩ := hq2
  have t2 : triF S S2 M M2 := by
    rw [q1] at y2 ⊢
    exact t0.cp hB hBn b1 y2
  have o612 := obn t2.2.2.1 (r := 61) (c := 5) (by decide +kernel)
  have o602 := obn t2.2.2.1 (r := 60) (c := 8) (by decide +kernel)
  have g602 : _ = ((61 : Nat) : Int) := grn t2.2.2.1 (k := 60) (j := 0) (by decide)
  clear q1 b1
  have loop : ∀ (k n : Nat) (M1 : Mm) (v4 : Option Value), n + k = T.length → triF S S2 M M1 → RepX S2 M1 61 (planZ z T n) → Go γ Ω mX8_afterPlan (Zm γ Ω 3 0 0 (fun x S' M' => x = 61 ∧ triF S S' M M' ∧ RepX S' M' 61 (planZ z T T.length))) 0 0 S2 M1 10 [some (vr Ω 60), some (vr Ω c), some (vr Ω B), some (vi (n : Int)), v4] [] := by
    intro k
    induction k with
    | zero =>
      intro n M1 v4 hk t1 y1
      have hn : n = T.length := by omega
      subst hn
      obtain ⟨oC, aC, gC⟩ := obT t1.2.2.1 hT
      obtain ⟨r1, r2, r3, r4⟩ := t1.tt hT hR
      refine g_ild f_X8_afterPlan_10 rfl ?_
      refine g_alv f_X8_afterPlan_11 rfl ?_
      refine g_getI f_X8_afterPlan_12 (by assumption) ?_
      rw [r2]
      refine g_icmp_ge f_X8_afterPlan_15 rfl (by omega) (by omega) (fun hc => ?_) (fun hc => ?_)
      · refine g_alv f_X8_afterPlan_118 rfl ?_
        refine g_getR f_X8_afterPlan_119 (by assumption) (by assumption) ?_
        refine g_reta f_X8_afterPlan_122 rfl (Or.inl ⟨_, rfl⟩) (x := 61) rfl ?_ (Nat.zero_le _) (Nat.zero_le _)
        exact ⟨rfl, t1, y1⟩
      · exact absurd (by omega) hc
    | succ k ih =>
      intro n M1 v4 hk t1 y1
      have hn : n < T.length := by omega
      obtain ⟨oC, aC, gC⟩ := obT t1.2.2.1 hT
      obtain ⟨r1, r2, r3, r4⟩ := t1.tt hT hR
      obtain ⟨oP, cP, dP⟩ := okZ_planZ hO hD hS n (by omega) (by omega)
      obtain ⟨y11, y12, y13, -⟩ := id y1
      obtain ⟨w1, w2, w3, w4, w5⟩ := id oP
      obtain ⟨⟨s1, s2⟩, s3, s4, s5⟩ := hS n hn
      obtain ⟨a, ha⟩ := Int.eq_ofNat_of_zero_le s1
      refine g_ild f_X8_afterPlan_10 rfl ?_
      refine g_alv f_X8_afterPlan_11 rfl ?_
      refine g_getI f_X8_afterPlan_12 (by assumption) ?_
      rw [r2]
      refine g_icmp_ge f_X8_afterPlan_15 rfl (by omega) (by omega) (fun hc => ?_) (fun hc => ?_)
      · exact absurd hc (by omega)
      refine g_alv f_X8_afterPlan_18 rfl ?_
      refine g_ild f_X8_afterPlan_19 rfl ?_
      refine g_const f_X8_afterPlan_20 ?_
      refine g_as (show (1 : Int) = ((1 : Nat) : Int) from rfl) ?_
      refine g_cv1 hγ (c_tcell t1.2.2.1 hT (t1.tt hT hR) (i := n) (k := 1) hn (by decide)) f_X8_afterPlan_21 mo_X6_cell mv_X6_cell (obT t1.2.2.1 hT).1 rfl rfl (Nat.le_of_ble_eq_true rfl) ⟨by decide, by decide⟩ ⟨Nat.le_refl _, Nat.le_refl _⟩ (fun x S' M' hq9 => ?_)
      obtain ⟨rfl, q1, q2⟩ := hq9
      obtain rfl := q1.symm
      obtain rfl := q2.symm
      refine g_ist_4 f_X8_afterPlan_24 (by decide) c1i ?_
      refine g_alv f_X8_afterPlan_26 rfl ?_
      refine g_ild f_X8_afterPlan_27 rfl ?_
      refine g_const f_X8_afterPlan_28 ?_
      refine g_as (show (0 : Int) = ((0 : Nat) : Int) from rfl) ?_
      refine g_cv1 hγ (c_tcell t1.2.2.1 hT (t1.tt hT hR) (i := n) (k := 0) hn (by decide)) f_X8_afterPlan_29 mo_X6_cell mv_X6_cell (obT t1.2.2.1 hT).1 rfl rfl (Nat.le_of_ble_eq_true rfl) ⟨by decide, by decide⟩ ⟨Nat.le_refl _, Nat.le_refl _⟩ (fun x S' M' hq9 => ?_)
      obtain ⟨rfl, q1, q2⟩ := hq9
      obtain rfl := q1.symm
      obtain rfl := q2.symm
      refine g_tab f_X8_afterPlan_32 (by omega) (fun hk2 => ?_) (casC (fun hk2 => ?_) (casC (fun hk2 => ?_) (casC (fun hk2 => ?_) casN)))
      · have n0 : tg T n 0 ≠ 0 := hk2 _ List.mem_cons_self
        have n1 : tg T n 0 ≠ 1 := hk2 _ (List.mem_cons_of_mem _ List.mem_cons_self)
        have n2 : tg T n 0 ≠ 2 := hk2 _ (List.mem_cons_of_mem _ (List.mem_cons_of_mem _ List.mem_cons_self))
        obtain ⟨b, hb⟩ := Int.eq_ofNat_of_zero_le (s5 (by omega)).1
        have hb2 := (s5 (by omega)).2
        refine g_alv f_X8_afterPlan_103 rfl ?_
        refine g_getR f_X8_afterPlan_104 (by assumption) (by assumption) ?_
        refine g_ild f_X8_afterPlan_107 rfl ?_
        refine g_as hb ?_
        refine g_cv0 hγ (c_banish t1.2.2.1 isB61 y1 oP (p := b) (by omega)) f_X8_afterPlan_109 mo_X5_banish mv_X5_banish (by assumption) rfl rfl (Nat.le_of_ble_eq_true rfl) ⟨by decide, by decide⟩ ⟨Nat.le_refl _, Nat.le_refl _⟩ (fun x S' M4 hq3 => ?_)
        obtain ⟨q1, b4, l4⟩ := hq3
        obtain rfl := q1.symm
        refine g_inc_3 f_X8_afterPlan_112 (by decide) c1v ?_
        refine g_goto f_X8_afterPlan_115 ?_
        refine ih (n + 1) _ _ (by omega) (t1.mx b4 l4) ?_
        show RepX S2 _ 61 (planS (planZ z T n) (tg T n 0) (tg T n 1))
        unfold planS
        rw [if_neg (by omega), if_neg (by omega), if_neg (by omega), hb]
        exact l4
      · refine g_alv f_X8_afterPlan_60 rfl ?_
        refine g_getR f_X8_afterPlan_61 (by assumption) (by assumption) ?_
        refine g_const f_X8_afterPlan_64 ?_
        refine g_as (show (1 : Int) = ((1 : Nat) : Int) from rfl) ?_
        refine g_cv0 hγ (c_goOn t1.2.2.1 isB61 y1 oP (by decide)) f_X8_afterPlan_65 mo_X5_goOn mv_X5_goOn (by assumption) rfl rfl (Nat.le_of_ble_eq_true rfl) ⟨by decide, by decide⟩ ⟨Nat.le_refl _, Nat.le_refl _⟩ (fun x S' M4 hq3 => ?_)
        obtain ⟨q1, b4, l4⟩ := hq3
        obtain rfl := q1.symm
        refine g_goto f_X8_afterPlan_68 ?_
        refine g_inc_3 f_X8_afterPlan_112 (by decide) c1v ?_
        refine g_goto f_X8_afterPlan_115 ?_
        refine ih (n + 1) _ _ (by omega) (t1.mx b4 l4) ?_
        show RepX S2 _ 61 (planS (planZ z T n) (tg T n 0) (tg T n 1))
        unfold planS
        rw [if_pos (by omega)]
        exact l4
      · obtain ⟨b, hb⟩ := Int.eq_ofNat_of_zero_le (s4 (Or.inl (by omega))).1
        have hb2 := (s4 (Or.inl (by omega))).2
        refine g_alv f_X8_afterPlan_71 rfl ?_
        refine g_getR f_X8_afterPlan_72 (by assumption) (by assumption) ?_
        refine g_ild f_X8_afterPlan_75 rfl ?_
        refine g_as hb ?_
        refine g_cv1 hγ (c_collect t1.2.2.1 isB61 y1 oP (t := b) (by omega)) f_X8_afterPlan_77 mo_X5_collect mv_X5_collect (by assumption) rfl rfl (Nat.le_of_ble_eq_true rfl) ⟨by decide, by decide⟩ ⟨Nat.le_refl _, Nat.le_refl _⟩ (fun x S' M4 hq3 => ?_)
        obtain ⟨-, q1, b4, l4⟩ := hq3
        obtain rfl := q1.symm
        refine g_pop f_X8_afterPlan_80 rfl ?_
        refine g_goto f_X8_afterPlan_81 ?_
        refine g_inc_3 f_X8_afterPlan_112 (by decide) c1v ?_
        refine g_goto f_X8_afterPlan_115 ?_
        refine ih (n + 1) _ _ (by omega) (t1.mx b4 l4) ?_
        show RepX S2 _ 61 (planS (planZ z T n) (tg T n 0) (tg T n 1))
        unfold planS
        rw [if_neg (by omega), if_pos (by omega), hb]
        exact l4
      · obtain ⟨b, hb⟩ := Int.eq_ofNat_of_zero_le (s4 (Or.inr (by omega))).1
        have hb2 := (s4 (Or.inr (by omega))).2
        have hp2 : 2 ^ b < 4096 := Nat.pow_lt_pow_right (n := 12) (by decide) (by omega)
        refine g_alv f_X8_afterPlan_84 rfl ?_
        refine g_getR f_X8_afterPlan_85 (by assumption) (by assumption) ?_
        refine g_dup f_X8_afterPlan_88 rfl ?_
        refine g_getI f_X8_afterPlan_89 (by assumption) ?_
        rw [y12]
        refine g_const f_X8_afterPlan_92 ?_
        refine g_ild f_X8_afterPlan_93 rfl ?_
        refine g_as hb ?_
        refine g_ishl f_X8_afterPlan_95 ?_
        rw [show (1 : Int) = ((1 : Nat) : Int) from rfl, bshl_n (by omega) (by omega), Nat.one_mul]
        refine g_ixor f_X8_afterPlan_96 ?_
        rw [bxor_n (by omega) (by omega)]
        refine g_putI f_X8_afterPlan_97 rfl (by assumption) ?_
        have y5 := RepX_walls y1 isB61 w1 (zw (planZ z T n) ^^^ 2 ^ b)
        refine g_goto f_X8_afterPlan_100 ?_
        refine g_inc_3 f_X8_afterPlan_112 (by decide) c1v ?_
        refine g_goto f_X8_afterPlan_115 ?_
        refine ih (n + 1) _ _ (by omega) (t1.mx (blk_upM ⟨by decide, by decide⟩) y5) ?_
        show RepX S2 _ 61 (planS (planZ z T n) (tg T n 0) (tg T n 1))
        unfold planS
        rw [if_neg (by omega), if_neg (by omega), if_pos (by omega), hb]
        exact y5
  refine g_const f_X8_afterPlan_8 ?_
  refine g_ist_3 f_X8_afterPlan_9 (by decide) c1v ?_
  exact loop T.length 0 _ none (by omega) t2 y2

theorem sn_g {S : Sg} (hG : Gr S) {C B : Nat} (h : isSn C B) : Ob S C 4 ∧ S.2 C 0 = ((B : Nat) : Int) ∧ S.2 C 1 = ((C + 1 : Nat) : Int) ∧ S.2 C 2 = ((C + 3 : Nat) : Int) ∧ S.2 C 3 = ((C + 5 : Nat) : Int) ∧ B = C + 7 := by
  rcases h with ⟨rfl, rfl⟩ | ⟨rfl, rfl⟩ <;> exact ⟨obn hG (by decide +kernel), grn hG (by decide), grn hG (by decide), grn hG (by decide), grn hG (by decide), rfl⟩
theorem sn_far {C B C2 B2 : Nat} (h : isSn C B) (h2 : isSn C2 B2) (hn : C ≠ C2) : C + 21 ≤ C2 ∨ C2 + 21 ≤ C := by
  rcases h with ⟨rfl, rfl⟩ | ⟨rfl, rfl⟩ <;> rcases h2 with ⟨rfl, rfl⟩ | ⟨rfl, rfl⟩ <;> omega
theorem tfr.xx {S : Sg} {M M' : Mm} {c m B : Nat} {z : Ab} (h : tfr c M M') (hT : isT c m) (hB : isB B) (hX : RepX S M B z) (hc : zc z ≤ 6) : RepX S M' B z := by
  obtain ⟨s0, s1, h116, -⟩ := sh_T hT
  have hm : (12, 3 * m) ≠ (12, 10) ∧ (12, 3 * m) ≠ (12, 100) ∧ (12, 3 * m) ≠ (12, 4) := by rcases hT with ⟨-, rfl⟩ | ⟨-, rfl⟩ | ⟨-, rfl⟩ <;> decide
  have key : ∀ k s, sh k = s → s ≠ (6, 0) → s ≠ (12, 3 * m) → M' k = M k := fun k s hk h1 h2 => h k (fun e => h1 (by rw [← hk, e, s0])) (fun e => h2 (by rw [← hk, e, s1]))
  obtain ⟨x1, x2, x3, x4, x5, Λ, x6, x7, x8, x9⟩ := hX
  have eB := key B _ (sh_pe hB (show 0 < 6 by decide)).2.2 (by decide) (by simp)
  have e0 : ∀ p, p < 6 → M' (pe B p) = M (pe B p) := fun p hp => key _ _ (sh_pe hB hp).1 (by decide) (by simp)
  have e1 : ∀ p, p < 6 → M' (pe B p + 1) = M (pe B p + 1) := fun p hp => key _ _ (sh_pe hB hp).2.1 (by decide) (Ne.symm hm.2.2)
  obtain ⟨l0, l1, l2, l3, l4, -⟩ := sh_law x7
  refine ⟨by rw [eB]; exact x1, by rw [eB]; exact x2, by rw [eB]; exact x3, fun p hp => ?_, fun p hp => by rw [e0 p hp]; exact x5 p hp, Λ, x6, x7, x8, ?_⟩
  · have h4 := x4 p hp
    unfold RepP at h4 ⊢
    rw [e0 p (by omega), e1 p (by omega)]
    exact h4
  · unfold RepLaw at x9 ⊢
    rw [key _ _ l0 (by decide) (by simp), key _ _ l1 (by decide) (Ne.symm hm.1), key _ _ l2 (by decide) (Ne.symm hm.1), key _ _ l3 (by decide) (Ne.symm hm.1), key _ _ l4 (by decide) (Ne.symm hm.2.1)]
    exact x9
set_option maxHeartbeats 4000000 in
set_option maxRecDepth 100000 in
theorem c_snlike {Ω : Ow} {S : Sg} {M : Mm} {C B C2 B2 : Nat} {s : Sn} (hG : Gr S) (hC : isSn C B) (hC2 : isSn C2 B2) (hne : C ≠ C2) (hS : RepS S M C2 B2 s) (hO : okZ s.1) (hN : ∀ p, p < 6 → M (pe B p) 0 = (p : Int)) (e1 : M (C + 1) 1 = 5) (e2 : M (C + 3) 1 = 10) (e3 : M (C + 5) 1 = 8) : Ct Ω mX4_becomeLike 3 0 0 0 [vr Ω C, vr Ω C2] S M (fun _ S' M' => S' = (S.1, up S.2 B 4 (S.2 B2 4)) ∧ (∀ k, ¬ (C ≤ k ∧ k < B + 14) → ¬ subjC k → M' k = M k) ∧ RepS S' M' C B s) := by
  refine Ct.mk (by decide) (Nat.le_of_ble_eq_true rfl) [some (vr Ω C), some (vr Ω C2)] (by intro q hq; exact hq) (fun γ hγ hz => ?_)
  obtain ⟨hX, hT1, hT2, hT3⟩ := id hS
  obtain ⟨o1, h0, h1, h2, h3, hCB⟩ := sn_g hG hC
  obtain ⟨o2, d0, d1, d2, d3, hCB2⟩ := sn_g hG hC2
  have hfar := sn_far hC hC2 hne
  refine g_alv f_X4_becomeLike_0 rfl ?_
  refine g_getR f_X4_becomeLike_1 (by assumption) (by assumption) ?_
  refine g_alv f_X4_becomeLike_4 rfl ?_
  refine g_getR f_X4_becomeLike_5 (by assumption) (by assumption) ?_
  refine g_cv0 hγ (c_slike hG (snT hC).2.2.2 (snT hC2).2.2.2 (by omega) hX hO hN) f_X4_becomeLike_8 mo_X5_becomeLike mv_X5_becomeLike (obB hG (snT hC).2.2.2) rfl rfl (Nat.le_of_ble_eq_true rfl) ⟨by decide, by decide⟩ ⟨Nat.le_refl _, Nat.le_refl _⟩ (fun x S2 M2 hq2 => ?_)
  obtain ⟨q0, b1, y0⟩ := hq2
  have hG2 : Gr S2 := by rw [q0]; exact Gr.upLaw hG (snT hC).2.2.2 _
  have E : ∀ k, k < B → ¬ subjC k → M2 k = M k := fun k a b => b1 k (Or.inl a) b
  have E2 : ∀ k, B + 14 ≤ k → ¬ subjC k → M2 k = M k := fun k a b => b1 k (Or.inr a) b
  obtain ⟨oC, g0, g1, g2, g3, -⟩ := sn_g hG2 hC
  obtain ⟨oC2, k0, k1, k2, k3, -⟩ := sn_g hG2 hC2
  have F : ∀ c m, isT c m → (c + 1 < B ∨ B + 14 ≤ c) → M2 c = M c ∧ M2 (c + 1) = M (c + 1) := fun c m hT h => by
    obtain ⟨s0, s1, -, -⟩ := sh_T hT
    have n1 := b1.at s0 (by decide) (by omega)
    have n2 := b1.at s1 (by rcases hT with ⟨-, rfl⟩ | ⟨-, rfl⟩ | ⟨-, rfl⟩ <;> decide) (by omega)
    exact ⟨n1, n2⟩
  have m1 := F _ _ (snT hC).1 (by omega)
  have m2 := F _ _ (snT hC).2.1 (by omega)
  have m3 := F _ _ (snT hC).2.2.1 (by omega)
  have j1 := F _ _ (snT hC2).1 (by omega)
  have j2 := F _ _ (snT hC2).2.1 (by omega)
  have j3 := F _ _ (snT hC2).2.2.1 (by omega)
  refine g_alv f_X4_becomeLike_11 rfl ?_
  refine g_getR f_X4_becomeLike_12 (by assumption) (by assumption) ?_
  refine g_alv f_X4_becomeLike_15 rfl ?_
  refine g_getR f_X4_becomeLike_16 (by assumption) (by assumption) ?_
  refine g_cv0 hγ (c_tlike hG2 (snT hC).1 (snT hC2).1 (by omega) (by rw [m1.1]; exact e1) (hT1.far j1.1 j1.2)) f_X4_becomeLike_19 mo_X6_becomeLike mv_X6_becomeLike (obT hG2 (snT hC).1).1 rfl rfl (Nat.le_of_ble_eq_true rfl) ⟨by decide, by decide⟩ ⟨Nat.le_refl _, Nat.le_refl _⟩ (fun x S' M3 hq4 => ?_)
  obtain ⟨q1, f1, y1⟩ := hq4
  obtain rfl := q1.symm
  refine g_alv f_X4_becomeLike_22 rfl ?_
  refine g_getR f_X4_becomeLike_23 (by assumption) (by assumption) ?_
  refine g_alv f_X4_becomeLike_26 rfl ?_
  refine g_getR f_X4_becomeLike_27 (by assumption) (by assumption) ?_
  refine g_cv0 hγ (c_tlike hG2 (snT hC).2.1 (snT hC2).2.1 (by omega) (by rw [f1 _ (by omega) (by omega), m2.1]; exact e2) (hT2.far (by rw [f1 _ (by omega) (by omega), j2.1]) (by rw [f1 _ (by omega) (by omega), j2.2]))) f_X4_becomeLike_30 mo_X6_becomeLike mv_X6_becomeLike (obT hG2 (snT hC).2.1).1 rfl rfl (Nat.le_of_ble_eq_true rfl) ⟨by decide, by decide⟩ ⟨Nat.le_refl _, Nat.le_refl _⟩ (fun x S' M4 hq5 => ?_)
  obtain ⟨q1, f2, y2⟩ := hq5
  obtain rfl := q1.symm
  refine g_alv f_X4_becomeLike_33 rfl ?_
  refine g_getR f_X4_becomeLike_34 (by assumption) (by assumption) ?_
  refine g_alv f_X4_becomeLike_37 rfl ?_
  refine g_getR f_X4_becomeLike_38 (by assumption) (by assumption) ?_
  refine g_cv0 hγ (c_tlike hG2 (snT hC).2.2.1 (snT hC2).2.2.1 (by omega) (by rw [f2 _ (by omega) (by omega), f1 _ (by omega) (by omega), m3.1]; exact e3) (hT3.far (by rw [f2 _ (by omega) (by omega), f1 _ (by omega) (by omega), j3.1]) (by rw [f2 _ (by omega) (by omega), f1 _ (by omega) (by omega), j3.2]))) f_X4_becomeLike_41 mo_X6_becomeLike mv_X6_becomeLike (obT hG2 (snT hC).2.2.1).1 rfl rfl (Nat.le_of_ble_eq_true rfl) ⟨by decide, by decide⟩ ⟨Nat.le_refl _, Nat.le_refl _⟩ (fun x S' M5 hq6 => ?_)
  obtain ⟨q1, f3, y3⟩ := hq6
  obtain rfl := q1.symm
  refine g_ret0 (κ := 0) f_X4_becomeLike_44 rfl 0 ?_ (Nat.zero_le _) (Nat.zero_le _)
  refine ⟨q0, fun k a b => ?_, ?_, ?_, ?_, y3⟩
  · rw [f3 k (by omega) (by omega), f2 k (by omega) (by omega), f1 k (by omega) (by omega)]
    exact b1 k (by omega) b
  · exact f3.xx (snT hC).2.2.1 (snT hC).2.2.2 (f2.xx (snT hC).2.1 (snT hC).2.2.2 (f1.xx (snT hC).1 (snT hC).2.2.2 y0 hO.1) hO.1) hO.1
  · exact y1.far (by rw [f3 _ (by omega) (by omega), f2 _ (by omega) (by omega)]) (by rw [f3 _ (by omega) (by omega), f2 _ (by omega) (by omega)])
  · exact y2.far (by rw [f3 _ (by omega) (by omega)]) (by rw [f3 _ (by omega) (by omega)])
