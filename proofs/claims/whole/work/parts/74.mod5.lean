/-! contracts: the model's when, bricks, wrongBy, ends -/
theorem walk_0 {M : Mm} {z : Ab} (hX : MX M z) (hO : okZ z) : MX M (walkZ z 0) := hX.cut rfl rfl rfl rfl (fun p hp a => by
  show (if a = 2 then walkP (zP z p) 0 else zP z p a) = zP z p a
  by_cases h : a = 2
  · subst h; rw [if_pos rfl, walkP_0 (hO.2.2.2.1 p hp).2.2.1]
  · rw [if_neg h])
set_option maxHeartbeats 4000000 in
set_option maxRecDepth 100000 in
theorem c_mwhen {Ω : Ow} {S : Sg} {M : Mm} {z : Ab} (hG : Gr S) (hX : MX M z) (hO : okZ z) (hD : zd z ≤ 9999) {t : Nat} (ht : t < 12) : Ct Ω mX10_when 7 0 0 1 [vr Ω 87, vi (t : Int)] S M (fun x S' M' => x = untilN z t ∧ S' = S ∧ askA M M') := by
  refine Ct.mk (by decide) (Nat.le_of_ble_eq_true rfl) [some (vr Ω 87), some (vi (t : Int)), none, none] (by intro q hq; exact hq) (fun γ hγ hz => ?_)
  obtain ⟨x1, x2, x3, x4, x5⟩ := id hX
  obtain ⟨z1, z2, z3, z4, z5⟩ := id hO
  have o87 := om87 hG
  have gM39 : _ = ((111 : Nat) : Int) := grn hG (k := 87) (j := 39) (by decide)
  have aM111 := arn hG (r := 111) (c := 12) (n := 112) (by decide +kernel)
  refine g_alv f_X10_when_0 rfl ?_
  refine g_alv f_X10_when_1 rfl ?_
  refine g_getR f_X10_when_2 (by assumption) (by assumption) ?_
  refine g_cv0 hγ (c_mkeep hG (r := 111) (Or.inr rfl)) f_X10_when_5 mo_X10_keep mv_X10_keep (by assumption) rfl rfl (Nat.le_of_ble_eq_true rfl) ⟨by decide, by decide⟩ ⟨Nat.le_refl _, Nat.le_refl _⟩ (fun x S' Mk hq2 => ?_)
  obtain ⟨q1, hk1, hk2⟩ := hq2
  obtain rfl := q1.symm
  have hXk : MX Mk z := hX.askA z1 ⟨fun i hi => by have := cel_row i hi; unfold snp; rw [hk1 _ (by omega)], fun k hk => hk1 k (by omega), fun j _ _ _ => by rw [hk1 87 (by decide)]⟩
  have fin : ∀ (M1 : Mm) (f n : Int), stf Mk M1 → f = untilN z t → Go γ Ω mX10_when (Zm γ Ω 1 0 0 (fun x S' M' => x = untilN z t ∧ S' = S ∧ askA M M')) 0 0 S M1 49 [some (vr Ω 87), some (vi (t : Int)), some (vi f), some (vi n)] [] := by
    intro M1 f n ha hf
    refine g_alv f_X10_when_49 rfl ?_
    refine g_alv f_X10_when_50 rfl ?_
    refine g_getR f_X10_when_51 (by assumption) (by assumption) ?_
    refine g_cv0 hγ (c_magain hG (r := 111) (Or.inr rfl)) f_X10_when_54 mo_X10_again mv_X10_again (by assumption) rfl rfl (Nat.le_of_ble_eq_true rfl) ⟨by decide, by decide⟩ ⟨Nat.le_refl _, Nat.le_refl _⟩ (fun x S' M9 hq9 => ?_)
    obtain ⟨q1, hag⟩ := hq9
    obtain rfl := q1.symm
    have hfin := askA.of hk1 hk2 ha hag
    refine g_ild f_X10_when_57 rfl ?_
    refine g_reti f_X10_when_58 rfl ?_ (Nat.zero_le _) (Nat.zero_le _)
    exact ⟨hf, rfl, hfin⟩
  have loop : ∀ (k n : Nat) (M1 : Mm), n + k = 61 → stf Mk M1 → MX M1 (walkZ z (n - 1)) → fstF k n (fun n => decide (seersN (walkZ z n) t = 0)) = untilN z t → Go γ Ω mX10_when (Zm γ Ω 1 0 0 (fun x S' M' => x = untilN z t ∧ S' = S ∧ askA M M')) 0 0 S M1 13 [some (vr Ω 87), some (vi (t : Int)), some (vi (-5)), some (vi (n : Int))] [] := by
    intro k
    induction k with
    | zero =>
      intro n M1 hk ha hX1 hf
      refine g_ild f_X10_when_13 rfl ?_
      refine g_const f_X10_when_14 ?_
      refine g_icmp_ge f_X10_when_16 rfl (by omega) (by omega) (fun hc => ?_) (fun hc => ?_)
      · exact fin M1 _ _ ha hf
      · exact absurd (by omega) hc
    | succ k ih =>
      intro n M1 hk ha hX1 hf
      have hOn : okZ (walkZ z n) := okZ_walk hO (by omega)
      have nx : ∀ M2 : Mm, stf Mk M2 → MX M2 (walkZ z n) → Go γ Ω mX10_when (Zm γ Ω 1 0 0 (fun x S' M' => x = untilN z t ∧ S' = S ∧ askA M M')) 0 0 S M2 33 [some (vr Ω 87), some (vi (t : Int)), some (vi (-5)), some (vi (n : Int))] [] := by
        intro M2 ha2 hX2
        have hsl := seersN_lt (t := t) hOn
        refine g_alv f_X10_when_33 rfl ?_
        refine g_ild f_X10_when_34 rfl ?_
        refine g_cv1 hγ (c_mseers hG hX2 hOn ht) f_X10_when_35 mo_X10_seers mv_X10_seers (by assumption) rfl rfl (Nat.le_of_ble_eq_true rfl) ⟨by decide, by decide⟩ ⟨Nat.le_refl _, Nat.le_refl _⟩ (fun x S' M3 hq3 => ?_)
        obtain ⟨rfl, q1, ha3⟩ := hq3
        obtain rfl := q1.symm
        refine g_if_ne f_X10_when_38 rfl (by omega) (fun hb => ?_) (fun hb => ?_)
        · refine g_inc_3 f_X10_when_43 (by decide) c1i ?_
          refine g_goto f_X10_when_46 ?_
          exact ih (n + 1) M3 (by omega) (ha2.tr ha3.stf) (hX2.ask ha3) (by rw [← hf, fstF, if_neg (by rw [decide_eq_true_eq]; omega)])
        · refine g_ild f_X10_when_41 rfl ?_
          refine g_ist_2 f_X10_when_42 (by decide) c1i ?_
          refine g_inc_3 f_X10_when_43 (by decide) c1i ?_
          refine g_goto f_X10_when_46 ?_
          have hfv : (n : Int) = untilN z t := by rw [← hf, fstF, if_pos (decide_eq_true (by omega))]
          refine g_ild f_X10_when_13 rfl ?_
          refine g_const f_X10_when_14 ?_
          refine g_icmp_ge f_X10_when_16 rfl (by omega) (by omega) (fun hc3 => ?_) (fun hc3 => ?_)
          · exact fin M3 _ _ (ha2.tr ha3.stf) hfv
          · refine g_ild f_X10_when_19 rfl ?_
            refine g_const f_X10_when_20 ?_
            refine g_icmp_ne f_X10_when_22 rfl (by omega) (by omega) (fun hc4 => ?_) (fun hc4 => ?_)
            · exact fin M3 _ _ (ha2.tr ha3.stf) hfv
            · exact absurd (by omega) hc4
      refine g_ild f_X10_when_13 rfl ?_
      refine g_const f_X10_when_14 ?_
      refine g_icmp_ge f_X10_when_16 rfl (by omega) (by omega) (fun hc => ?_) (fun hc => ?_)
      · exact absurd hc (by omega)
      refine g_ild f_X10_when_19 rfl ?_
      refine g_const f_X10_when_20 ?_
      refine g_icmp_ne f_X10_when_22 rfl (by omega) (by omega) (fun hc2 => ?_) (fun hc2 => ?_)
      · exact absurd hc2 (by omega)
      refine g_ild f_X10_when_25 rfl ?_
      refine g_if_le f_X10_when_26 rfl (by omega) (fun hn => ?_) (fun hn => ?_)
      · obtain rfl : n = 0 := by omega
        exact nx M1 ha hX1
      · refine g_alv f_X10_when_29 rfl ?_
        refine g_cv0 hγ (c_mday hG hX1 (okZ_walk hO (by omega))) f_X10_when_30 mo_X10_goesDay mv_X10_goesDay (by assumption) rfl rfl (Nat.le_of_ble_eq_true rfl) ⟨by decide, by decide⟩ ⟨Nat.le_refl _, Nat.le_refl _⟩ (fun x S' M4 hq4 => ?_)
        obtain ⟨q1, ha4, hX4⟩ := hq4
        obtain rfl := q1.symm
        rw [walkZ_add, show n - 1 + 1 = n by omega] at hX4
        exact nx M4 (ha.tr ha4) hX4
  refine g_const f_X10_when_8 ?_
  refine g_ist_2 f_X10_when_10 (by decide) c1i ?_
  refine g_const f_X10_when_11 ?_
  refine g_ist_3 f_X10_when_12 (by decide) c1i ?_
  exact loop 61 0 Mk rfl stf.rf (walk_0 hXk hO) rfl

set_option maxHeartbeats 4000000 in
set_option maxRecDepth 100000 in
theorem c_mbricks {Ω : Ow} {S : Sg} {M : Mm} {z : Ab} (hG : Gr S) (hX : MX M z) (hO : okZ z) {t : Nat} (ht : t < 12) : Ct Ω mX10_bricks 7 0 0 1 [vr Ω 87, vi (t : Int)] S M (fun x S' M' => x = brickC z t ∧ S' = S ∧ ask M M') := by
  refine Ct.mk (by decide) (Nat.le_of_ble_eq_true rfl) [some (vr Ω 87), some (vi (t : Int)), none, none, none] (by intro q hq; exact hq) (fun γ hγ hz => ?_)
  obtain ⟨x1, x2, x3, x4, x5⟩ := id hX
  obtain ⟨z1, z2, z3, z4, z5⟩ := id hO
  have o87 := om87 hG
  have hgr : ∀ n, n ≤ 4096 → -5 ≤ gF z t n ∧ gF z t n < 4096 := fun n hn => by
    rcases gF_inv z t n with ⟨a, -⟩ | ⟨f, a, b, -⟩ <;> omega
  have loop : ∀ (k n : Nat) (M1 : Mm) (y : Int), n + k = 4096 → ask (up M 87 7 y) M1 → Go γ Ω mX10_bricks (Zm γ Ω 1 0 0 (fun x S' M' => x = brickC z t ∧ S' = S ∧ ask M M')) 0 0 S M1 11 [some (vr Ω 87), some (vi (t : Int)), some (vi (zw z : Int)), some (vi (gF z t n)), some (vi (n : Int))] [] := by
    intro k
    induction k with
    | zero =>
      intro n M1 y hk ha
      have hn : n = 4096 := by omega
      subst hn
      have hg := hgr 4096 (Nat.le_refl _)
      refine g_ild f_X10_bricks_11 rfl ?_
      refine g_const f_X10_bricks_13 ?_
      refine g_icmp_ge f_X10_bricks_16 rfl (by omega) (by omega) (fun hc => ?_) (fun hc => ?_)
      · refine g_alv f_X10_bricks_72 rfl ?_
        refine g_ild f_X10_bricks_73 rfl ?_
        refine g_putI f_X10_bricks_74 rfl (by assumption) ?_
        refine g_ild f_X10_bricks_77 rfl ?_
        refine g_reti f_X10_bricks_78 rfl ?_ (Nat.zero_le _) (Nat.zero_le _)
        refine ⟨brick_eq hO ht, rfl, fun k a b => ?_⟩
        by_cases e : k = 87
        · subst e
          have h9 := ha 87 (by decide) (by decide)
          funext j
          by_cases hj : j = 7
          · subst hj; rw [up_s]; exact x2.symm
          · rw [up_n (by omega), h9, up_n (by omega)]
        · rw [up_row e, ha k a b, up_row e]
      · exact absurd (by omega) hc
    | succ k ih =>
      intro n M1 y hk ha
      have hn : n < 4096 := by omega
      have hg := hgr n (by omega)
      have hgs : gF z t (n + 1) = if n &&& zw z = 0 ∧ (gF z t n = -5 ∨ bcN n < bcN (gF z t n).toNat) ∧ hid z t n = true then (n : Int) else gF z t n := rfl
      have hih := fun (M2 : Mm) (y : Int) (h : ask (up M 87 7 y) M2) => ih (n + 1) M2 y (by omega) h
      have hor : zw z ||| n < 4096 := Nat.or_lt_two_pow (n := 12) z2 hn
      have hand : n &&& zw z ≤ n := Nat.and_le_left
      have ha1 : ask (up M 87 7 ((zw z ||| n : Nat) : Int)) (up M1 87 7 ((zw z ||| n : Nat) : Int)) := fun k a b => by
        by_cases e : k = 87
        · subst e
          have h9 := ha 87 (by decide) (by decide)
          funext j
          by_cases hj : j = 7
          · subst hj; rw [up_s, up_s]
          · rw [up_n (by omega), up_n (by omega), h9, up_n (by omega)]
        · rw [up_row e, up_row e, ha k a b, up_row e]
      have hXw : MX (up M1 87 7 ((zw z ||| n : Nat) : Int)) (zc z, zw z ||| n, zd z, zP z, zL z) := (hX.walls (zw z ||| n)).ask ha1
      have hOw : okZ (zc z, zw z ||| n, zd z, zP z, zL z) := ⟨z1, hor, z3, z4, z5⟩
      have hsl := seersN_lt (t := t) hOw
      have hsw : seersN (zc z, zw z ||| n, zd z, zP z, zL z) t = seersW (zw z ||| n) z t := rfl
      have nx : n &&& zw z = 0 → (gF z t n = -5 ∨ bcN n < bcN (gF z t n).toNat) → Go γ Ω mX10_bricks (Zm γ Ω 1 0 0 (fun x S' M' => x = brickC z t ∧ S' = S ∧ ask M M')) 0 0 S M1 47 [some (vr Ω 87), some (vi (t : Int)), some (vi (zw z : Int)), some (vi (gF z t n)), some (vi (n : Int))] [] := by
        intro h1 h2
        refine g_alv f_X10_bricks_47 rfl ?_
        refine g_ild f_X10_bricks_48 rfl ?_
        refine g_ild f_X10_bricks_49 rfl ?_
        refine g_ior f_X10_bricks_51 ?_
        rw [bor_n (by omega) (by omega)]
        refine g_putI f_X10_bricks_52 rfl (by assumption) ?_
        refine g_alv f_X10_bricks_55 rfl ?_
        refine g_ild f_X10_bricks_56 rfl ?_
        refine g_cv1 hγ (c_mseers hG hXw hOw ht) f_X10_bricks_57 mo_X10_seers mv_X10_seers (by assumption) rfl rfl (Nat.le_of_ble_eq_true rfl) ⟨by decide, by decide⟩ ⟨Nat.le_refl _, Nat.le_refl _⟩ (fun x S' M3 hq3 => ?_)
        obtain ⟨rfl, q1, ha3⟩ := hq3
        obtain rfl := q1.symm
        refine g_if_ne f_X10_bricks_60 rfl (by omega) (fun hb => ?_) (fun hb => ?_)
        · refine g_inc_4 f_X10_bricks_66 (by decide) c1i ?_
          refine g_goto f_X10_bricks_69 ?_
          have h9 := hih M3 _ (ha1.tr ha3)
          rw [hgs, if_neg (fun h => hb (by have := of_decide_eq_true h.2.2; omega))] at h9
          exact h9
        · refine g_ild f_X10_bricks_63 rfl ?_
          refine g_ist_3 f_X10_bricks_65 (by decide) c1i ?_
          refine g_inc_4 f_X10_bricks_66 (by decide) c1i ?_
          refine g_goto f_X10_bricks_69 ?_
          have h9 := hih M3 _ (ha1.tr ha3)
          rw [hgs, if_pos ⟨h1, h2, decide_eq_true (by omega)⟩] at h9
          exact h9
      refine g_ild f_X10_bricks_11 rfl ?_
      refine g_const f_X10_bricks_13 ?_
      refine g_icmp_ge f_X10_bricks_16 rfl (by omega) (by omega) (fun hc => ?_) (fun hc => ?_)
      · exact absurd hc (by omega)
      refine g_ild f_X10_bricks_19 rfl ?_
      refine g_ild f_X10_bricks_21 rfl ?_
      refine g_iand f_X10_bricks_22 ?_
      rw [band_n (by omega)]
      refine g_if_ne f_X10_bricks_23 rfl (by omega) (fun h1 => ?_) (fun h1 => ?_)
      · refine g_inc_4 f_X10_bricks_66 (by decide) c1i ?_
        refine g_goto f_X10_bricks_69 ?_
        have h9 := hih M1 y ha
        rw [hgs, if_neg (fun h => absurd h.1 (by omega))] at h9
        exact h9
      · refine g_ild f_X10_bricks_26 rfl ?_
        refine g_const f_X10_bricks_27 ?_
        refine g_icmp_eq f_X10_bricks_29 rfl (by omega) (by omega) (fun h5 => ?_) (fun h5 => ?_)
        · first
          | exact nx (by omega) (Or.inl h5)
          | exact nx (by omega) (Or.inr (by rw [hft]; omega))
        · refine g_ild f_X10_bricks_32 rfl ?_
          refine g_cs1 hγ (c_bitCount (a := n) hn) f_X10_bricks_34 mo_J6_bitCount_0f7a4 mt_J6_bitCount_0f7a4 rfl (Nat.le_of_ble_eq_true rfl) ⟨by decide, by decide⟩ ⟨Nat.le_refl _, Nat.le_refl _⟩ (fun x S' M4 hq4 => ?_)
          obtain ⟨rfl, q1, q2⟩ := hq4
          obtain rfl := q1.symm
          obtain rfl := q2.symm
          have hbn := bcN_le n
          refine g_ild f_X10_bricks_37 rfl ?_
          obtain ⟨f, hf⟩ := Int.eq_ofNat_of_zero_le (show 0 ≤ gF z t n by have := gF_inv z t n; rcases this with ⟨a, -⟩ | ⟨f, -, a, -⟩ <;> omega)
          refine g_as (show gF z t n = (f : Int) from hf) ?_
          refine g_cs1 hγ (c_bitCount (a := f) (by omega)) f_X10_bricks_38 mo_J6_bitCount_0f7a4 mt_J6_bitCount_0f7a4 rfl (Nat.le_of_ble_eq_true rfl) ⟨by decide, by decide⟩ ⟨Nat.le_refl _, Nat.le_refl _⟩ (fun x S' M5 hq5 => ?_)
          obtain ⟨rfl, q1, q2⟩ := hq5
          obtain rfl := q1.symm
          obtain rfl := q2.symm
          have hbf := bcN_le f
          have hft : (gF z t n).toNat = f := by omega
          refine g_icmp_lt f_X10_bricks_41 rfl (by omega) (by omega) (fun h6 => ?_) (fun h6 => ?_)
          · first
            | exact nx (by omega) (Or.inl h5)
            | exact nx (by omega) (Or.inr (by rw [hft]; omega))
          · refine g_goto f_X10_bricks_44 ?_
            refine g_inc_4 f_X10_bricks_66 (by decide) c1i ?_
            refine g_goto f_X10_bricks_69 ?_
            have h9 := hih M1 y ha
            rw [hgs, if_neg (fun h => by rcases h.2.1 with q | q; exact h5 q; rw [hft] at q; omega)] at h9
            exact h9
  refine g_alv f_X10_bricks_0 rfl ?_
  refine g_getI f_X10_bricks_1 (by assumption) ?_
  rw [x2]
  refine g_ist_2 f_X10_bricks_4 (by decide) c1i ?_
  refine g_const f_X10_bricks_5 ?_
  refine g_ist_3 f_X10_bricks_7 (by decide) c1i ?_
  refine g_const f_X10_bricks_8 ?_
  refine g_ist_4 f_X10_bricks_9 (by decide) c1i ?_
  refine loop 4096 0 M (zw z : Int) rfl (fun k a b => ?_)
  by_cases e : k = 87
  · subst e
    funext j
    by_cases hj : j = 7
    · subst hj; rw [up_s]; exact x2
    · rw [up_n (by omega)]
  · rw [up_row e]

set_option maxHeartbeats 4000000 in
set_option maxRecDepth 100000 in
theorem c_mwrongBy {Ω : Ow} {S : Sg} {M : Mm} {z : Ab} (hG : Gr S) (hX : MX M z) (hO : okZ z) (hD : zd z ≤ 9999) {T : Tb} (hT : seenR M T) (hS : okSeen T) (hl : T.length ≤ 5) {bits : Nat} (hbits : bits < 64) : Ct Ω mX10_wrongBy 7 0 0 1 [vr Ω 87, vi (bits : Int)] S M (fun x S' M' => x = wrB z T bits ∧ S' = S ∧ askA M M') := by
  refine Ct.mk (by decide) (Nat.le_of_ble_eq_true rfl) [some (vr Ω 87), some (vi (bits : Int)), none, none, none] (by intro q hq; exact hq) (fun γ hγ hz => ?_)
  obtain ⟨x1, x2, x3, x4, x5⟩ := id hX
  obtain ⟨z1, z2, z3, z4, z5⟩ := id hO
  have o87 := om87 hG
  have gM26 : _ = ((102 : Nat) : Int) := grn hG (k := 87) (j := 26) (by decide)
  have aM102 := arn hG (r := 102) (c := 12) (n := 5) (by decide +kernel)
  have gM27 : _ = ((103 : Nat) : Int) := grn hG (k := 87) (j := 27) (by decide)
  have aM103 := arn hG (r := 103) (c := 12) (n := 5) (by decide +kernel)
  have gM28 : _ = ((104 : Nat) : Int) := grn hG (k := 87) (j := 28) (by decide)
  have aM104 := arn hG (r := 104) (c := 12) (n := 5) (by decide +kernel)
  have gM39 : _ = ((111 : Nat) : Int) := grn hG (k := 87) (j := 39) (by decide)
  have aM111 := arn hG (r := 111) (c := 12) (n := 112) (by decide +kernel)
  refine g_alv f_X10_wrongBy_0 rfl ?_
  refine g_alv f_X10_wrongBy_1 rfl ?_
  refine g_getR f_X10_wrongBy_2 (by assumption) (by assumption) ?_
  refine g_cv0 hγ (c_mkeep hG (r := 111) (Or.inr rfl)) f_X10_wrongBy_5 mo_X10_keep mv_X10_keep (by assumption) rfl rfl (Nat.le_of_ble_eq_true rfl) ⟨by decide, by decide⟩ ⟨Nat.le_refl _, Nat.le_refl _⟩ (fun x S' Mk hq2 => ?_)
  obtain ⟨q1, hk1, hk2⟩ := hq2
  obtain rfl := q1.symm
  have hXk : MX Mk z := hX.askA z1 ⟨fun i hi => by have := cel_row i hi; unfold snp; rw [hk1 _ (by omega)], fun k hk => hk1 k (by omega), fun j _ _ _ => by rw [hk1 87 (by decide)]⟩
  have hsk : ∀ M1 : Mm, stf Mk M1 → seenR M1 T := fun M1 h => ⟨by rw [h.2 25 (by decide) (by decide) (by decide), hk1 87 (by decide)]; exact hT.1, fun i hi => by rw [h.1 102 (by omega) (by decide) (by decide), h.1 103 (by omega) (by decide) (by decide), h.1 104 (by omega) (by decide) (by decide), hk1 102 (by decide), hk1 103 (by decide), hk1 104 (by decide)]; exact hT.2 i hi⟩
  have outer : ∀ (k n : Nat) (M1 : Mm) (v4 : Option Value), n + k = 21 → cat1 v4 → stf Mk M1 → MX M1 (walkZ z (n - 1)) → Go γ Ω mX10_wrongBy (Zm γ Ω 1 0 0 (fun x S' M' => x = wrB z T bits ∧ S' = S ∧ askA M M')) 0 0 S M1 13 [some (vr Ω 87), some (vi (bits : Int)), some (vi (fW z T bits n 0)), some (vi (n : Int)), v4] [] := by
    intro k
    induction k with
    | zero =>
      intro n M1 v4 hk hc4 ha hX1
      have hn : n = 21 := by omega
      subst hn
      refine g_ild f_X10_wrongBy_13 rfl ?_
      refine g_const f_X10_wrongBy_14 ?_
      refine g_icmp_ge f_X10_wrongBy_16 rfl (by omega) (by omega) (fun hc => ?_) (fun hc => ?_)
      · refine g_alv f_X10_wrongBy_101 rfl ?_
        refine g_alv f_X10_wrongBy_102 rfl ?_
        refine g_getR f_X10_wrongBy_103 (by assumption) (by assumption) ?_
        refine g_cv0 hγ (c_magain hG (r := 111) (Or.inr rfl)) f_X10_wrongBy_106 mo_X10_again mv_X10_again (by assumption) rfl rfl (Nat.le_of_ble_eq_true rfl) ⟨by decide, by decide⟩ ⟨Nat.le_refl _, Nat.le_refl _⟩ (fun x S' M9 hq9 => ?_)
        obtain ⟨q1, hag⟩ := hq9
        obtain rfl := q1.symm
        have hfin := askA.of hk1 hk2 ha hag
        refine g_ild f_X10_wrongBy_109 rfl ?_
        refine g_reti f_X10_wrongBy_110 rfl ?_ (Nat.zero_le _) (Nat.zero_le _)
        exact ⟨fW_end hS, rfl, hfin⟩
      · exact absurd (by omega) hc
    | succ k ih =>
      intro n M1 v4 hk hc4 ha hX1
      have hOn : okZ (walkZ z n) := okZ_walk hO (by omega)
      have inner : ∀ (m i : Nat) (M2 : Mm), i + m = T.length → stf Mk M2 → MX M2 (walkZ z n) → Go γ Ω mX10_wrongBy (Zm γ Ω 1 0 0 (fun x S' M' => x = wrB z T bits ∧ S' = S ∧ askA M M')) 0 0 S M2 30 [some (vr Ω 87), some (vi (bits : Int)), some (vi (fW z T bits n i)), some (vi (n : Int)), some (vi (i : Int))] [] := by
        intro m
        induction m with
        | zero =>
          intro i M2 hk2 ha2 hX2
          have hi : i = T.length := by omega
          subst hi
          have y1 := (hsk M2 ha2).1
          refine g_ild f_X10_wrongBy_30 rfl ?_
          refine g_alv f_X10_wrongBy_32 rfl ?_
          refine g_getI f_X10_wrongBy_33 (by assumption) ?_
          rw [y1]
          refine g_icmp_ge f_X10_wrongBy_36 rfl (by omega) (by omega) (fun hc => ?_) (fun hc => ?_)
          · refine g_inc_3 f_X10_wrongBy_95 (by decide) c1i ?_
            refine g_goto f_X10_wrongBy_98 ?_
            rw [fW_next]
            exact ih (n + 1) M2 _ (by omega) c1i ha2 hX2
          · exact absurd (by omega) hc
        | succ m ih2 =>
          intro i M2 hk2 ha2 hX2
          have hi : i < T.length := by omega
          obtain ⟨y1, y2⟩ := hsk M2 ha2
          obtain ⟨u0, u1, u2⟩ := y2 i hi
          obtain ⟨s0, s1, s2⟩ := hS i hi
          obtain ⟨tn, htn⟩ := Int.eq_ofNat_of_zero_le s0.1
          obtain ⟨wn, hwn⟩ := Int.eq_ofNat_of_zero_le s2.1
          have hfr := fW_rg (z := z) (T := T) (bits := bits) (n := n) (i := i)
          have hbd : (tg T i 1).toNat = n → badB z T bits i = decide ((seersN (walkZ z n) tn ^^^ wn) &&& bits ≠ 0) := fun h => by unfold badB; rw [h, htn, hwn]; rfl
          have hsl := seersN_lt (t := tn) hOn
          have hxl : seersN (walkZ z n) tn ^^^ wn < 64 := Nat.xor_lt_two_pow (n := 6) hsl (by omega)
          have hal : (seersN (walkZ z n) tn ^^^ wn) &&& bits ≤ bits := Nat.and_le_right
          refine g_ild f_X10_wrongBy_30 rfl ?_
          refine g_alv f_X10_wrongBy_32 rfl ?_
          refine g_getI f_X10_wrongBy_33 (by assumption) ?_
          rw [y1]
          refine g_icmp_ge f_X10_wrongBy_36 rfl (by omega) (by omega) (fun hc => ?_) (fun hc => ?_)
          · exact absurd hc (by omega)
          refine g_alv f_X10_wrongBy_39 rfl ?_
          refine g_getR f_X10_wrongBy_40 (by assumption) (by assumption) ?_
          refine g_ild f_X10_wrongBy_43 rfl ?_
          refine g_ial f_X10_wrongBy_45 (by assumption) i (by omega) (by omega) ?_
          rw [u1]
          refine g_ild f_X10_wrongBy_46 rfl ?_
          refine g_icmp_ne f_X10_wrongBy_47 rfl (by omega) (by omega) (fun hd => ?_) (fun hd => ?_)
          · refine g_inc_4 f_X10_wrongBy_89 (by decide) c1i ?_
            refine g_goto f_X10_wrongBy_92 ?_
            have h9 := ih2 (i + 1) M2 (by omega) ha2 hX2
            rw [fW_day (by omega)] at h9
            exact h9
          · refine g_alv f_X10_wrongBy_50 rfl ?_
            refine g_alv f_X10_wrongBy_51 rfl ?_
            refine g_getR f_X10_wrongBy_52 (by assumption) (by assumption) ?_
            refine g_ild f_X10_wrongBy_55 rfl ?_
            refine g_ial f_X10_wrongBy_57 (by assumption) i (by omega) (by omega) ?_
            rw [u0, htn]
            refine g_cv1 hγ (c_mseers hG hX2 hOn (t := tn) (by omega)) f_X10_wrongBy_58 mo_X10_seers mv_X10_seers (by assumption) rfl rfl (Nat.le_of_ble_eq_true rfl) ⟨by decide, by decide⟩ ⟨Nat.le_refl _, Nat.le_refl _⟩ (fun x S' M3 hq3 => ?_)
            obtain ⟨rfl, q1, ha3⟩ := hq3
            obtain rfl := q1.symm
            have u2b : M3 104 i = (wn : Int) := by rw [ha3 104 (by decide) (by decide), u2]; exact hwn
            refine g_alv f_X10_wrongBy_61 rfl ?_
            refine g_getR f_X10_wrongBy_62 (by assumption) (by assumption) ?_
            refine g_ild f_X10_wrongBy_65 rfl ?_
            refine g_ial f_X10_wrongBy_67 (by assumption) i (by omega) (by omega) ?_
            rw [u2b]
            refine g_ixor f_X10_wrongBy_68 ?_
            rw [bxor_n (by omega) (by omega)]
            refine g_ild f_X10_wrongBy_69 rfl ?_
            refine g_iand f_X10_wrongBy_70 ?_
            rw [band_n (by omega)]
            refine g_if_eq f_X10_wrongBy_71 rfl (by omega) (fun hb => ?_) (fun hb => ?_)
            · refine g_inc_4 f_X10_wrongBy_89 (by decide) c1i ?_
              refine g_goto f_X10_wrongBy_92 ?_
              have h9 := ih2 (i + 1) M3 (by omega) (ha2.tr ha3.stf) (hX2.ask ha3)
              rw [fW_good (by rw [hbd (by omega)]; exact decide_eq_false (by omega))] at h9
              exact h9
            · refine g_ild f_X10_wrongBy_74 rfl ?_
              refine g_const f_X10_wrongBy_75 ?_
              refine g_icmp_eq f_X10_wrongBy_77 rfl (by omega) (by omega) (fun h5 => ?_) (fun h5 => ?_)
              · refine g_ild f_X10_wrongBy_86 rfl ?_
                refine g_ist_2 f_X10_wrongBy_88 (by decide) c1i ?_
                refine g_inc_4 f_X10_wrongBy_89 (by decide) c1i ?_
                refine g_goto f_X10_wrongBy_92 ?_
                have h9 := ih2 (i + 1) M3 (by omega) (ha2.tr ha3.stf) (hX2.ask ha3)
                rw [fW_bad hi (by omega) (by rw [hbd (by omega)]; exact decide_eq_true (by omega)), if_pos (by omega)] at h9
                exact h9
              · refine g_ild f_X10_wrongBy_80 rfl ?_
                refine g_ild f_X10_wrongBy_82 rfl ?_
                refine g_icmp_ge f_X10_wrongBy_83 rfl (by omega) (by omega) (fun h6 => ?_) (fun h6 => ?_)
                · refine g_inc_4 f_X10_wrongBy_89 (by decide) c1i ?_
                  refine g_goto f_X10_wrongBy_92 ?_
                  have h9 := ih2 (i + 1) M3 (by omega) (ha2.tr ha3.stf) (hX2.ask ha3)
                  rw [fW_bad hi (by omega) (by rw [hbd (by omega)]; exact decide_eq_true (by omega)), if_neg (by omega)] at h9
                  exact h9
                · refine g_ild f_X10_wrongBy_86 rfl ?_
                  refine g_ist_2 f_X10_wrongBy_88 (by decide) c1i ?_
                  refine g_inc_4 f_X10_wrongBy_89 (by decide) c1i ?_
                  refine g_goto f_X10_wrongBy_92 ?_
                  have h9 := ih2 (i + 1) M3 (by omega) (ha2.tr ha3.stf) (hX2.ask ha3)
                  rw [fW_bad hi (by omega) (by rw [hbd (by omega)]; exact decide_eq_true (by omega)), if_pos (by omega)] at h9
                  exact h9
      refine g_ild f_X10_wrongBy_13 rfl ?_
      refine g_const f_X10_wrongBy_14 ?_
      refine g_icmp_ge f_X10_wrongBy_16 rfl (by omega) (by omega) (fun hc => ?_) (fun hc => ?_)
      · exact absurd hc (by omega)
      refine g_ild f_X10_wrongBy_19 rfl ?_
      refine g_if_le f_X10_wrongBy_20 rfl (by omega) (fun hn => ?_) (fun hn => ?_)
      · refine g_const f_X10_wrongBy_27 ?_
        refine g_ist_4 f_X10_wrongBy_28 (by decide) c1i ?_
        obtain rfl : n = 0 := by omega
        exact inner T.length 0 M1 (by omega) ha hX1
      · refine g_alv f_X10_wrongBy_23 rfl ?_
        refine g_cv0 hγ (c_mday hG hX1 (okZ_walk hO (by omega))) f_X10_wrongBy_24 mo_X10_goesDay mv_X10_goesDay (by assumption) rfl rfl (Nat.le_of_ble_eq_true rfl) ⟨by decide, by decide⟩ ⟨Nat.le_refl _, Nat.le_refl _⟩ (fun x S' M4 hq4 => ?_)
        obtain ⟨q1, ha4, hX4⟩ := hq4
        obtain rfl := q1.symm
        rw [walkZ_add, show n - 1 + 1 = n by omega] at hX4
        refine g_const f_X10_wrongBy_27 ?_
        refine g_ist_4 f_X10_wrongBy_28 (by decide) c1i ?_
        exact inner T.length 0 M4 (by omega) (ha.tr ha4) hX4
  refine g_const f_X10_wrongBy_8 ?_
  refine g_ist_2 f_X10_wrongBy_10 (by decide) c1i ?_
  refine g_const f_X10_wrongBy_11 ?_
  refine g_ist_3 f_X10_wrongBy_12 (by decide) c1i ?_
  have h9 := outer 21 0 Mk none rfl c1n stf.rf (walk_0 hXk hO)
  rw [fW_0] at h9
  exact h9

set_option maxHeartbeats 4000000 in
set_option maxRecDepth 100000 in
theorem c_mends {Ω : Ow} {S : Sg} {M : Mm} {z : Ab} (hG : Gr S) (hX : MX M z) (hO : okZ z) (hD : zd z ≤ 9999) {T : Tb} (hT : planR M T) (hS : okPlan (zc z) T) (hl : T.length ≤ 10) {w : Int} (hw : w = 0 ∨ w = 1) : Ct Ω mX10_ends 9 0 0 1 [vr Ω 87, vi w] S M (fun x S' M' => x = (if w = 0 then (pursesN (planZ z T T.length) : Int) else (cntF 12 (fun t => decide (seersN (planZ z T T.length) t = 0)) : Int)) ∧ S' = S ∧ askA M M') := by
  refine Ct.mk (by decide) (Nat.le_of_ble_eq_true rfl) [some (vr Ω 87), some (vi w), none, none] (by intro q hq; exact hq) (fun γ hγ hz => ?_)
  obtain ⟨x1, x2, x3, x4, x5⟩ := id hX
  obtain ⟨z1, z2, z3, z4, z5⟩ := id hO
  have o87 := om87 hG
  have gM5 : _ = ((92 : Nat) : Int) := grn hG (k := 87) (j := 5) (by decide)
  have aM92 := arn hG (r := 92) (c := 12) (n := 6) (by decide +kernel)
  have gM30 : _ = ((105 : Nat) : Int) := grn hG (k := 87) (j := 30) (by decide)
  have aM105 := arn hG (r := 105) (c := 12) (n := 10) (by decide +kernel)
  have gM31 : _ = ((106 : Nat) : Int) := grn hG (k := 87) (j := 31) (by decide)
  have aM106 := arn hG (r := 106) (c := 12) (n := 10) (by decide +kernel)
  have gM39 : _ = ((111 : Nat) : Int) := grn hG (k := 87) (j := 39) (by decide)
  have aM111 := arn hG (r := 111) (c := 12) (n := 112) (by decide +kernel)
  refine g_ild f_X10_ends_0 rfl ?_
  refine g_const f_X10_ends_1 ?_
  refine g_const f_X10_ends_2 ?_
  refine g_cs1 hγ (c_mwithin w 0 1 (by omega) (by omega) (by omega)) f_X10_ends_3 mo_X10_within mt_X10_within rfl (Nat.le_of_ble_eq_true rfl) ⟨by decide, by decide⟩ ⟨Nat.le_refl _, Nat.le_refl _⟩ (fun x S' M' hq9 => ?_)
  obtain ⟨hx, q1, q2⟩ := hq9
  obtain rfl := q1.symm
  obtain rfl := q2.symm
  rw [if_pos (by omega)] at hx
  subst hx
  refine g_if_ne f_X10_ends_6 rfl (by omega) (fun hx0 => ?_) (fun hx0 => ?_)
  · refine g_alv f_X10_ends_11 rfl ?_
    refine g_alv f_X10_ends_12 rfl ?_
    refine g_getR f_X10_ends_13 (by assumption) (by assumption) ?_
    refine g_cv0 hγ (c_mkeep hG (r := 111) (Or.inr rfl)) f_X10_ends_16 mo_X10_keep mv_X10_keep (by assumption) rfl rfl (Nat.le_of_ble_eq_true rfl) ⟨by decide, by decide⟩ ⟨Nat.le_refl _, Nat.le_refl _⟩ (fun x S' Mk hq2 => ?_)
    obtain ⟨q1, hk1, hk2⟩ := hq2
    obtain rfl := q1.symm
    have hXk : MX Mk z := hX.askA z1 ⟨fun i hi => by have := cel_row i hi; unfold snp; rw [hk1 _ (by omega)], fun k hk => hk1 k (by omega), fun j _ _ _ => by rw [hk1 87 (by decide)]⟩
    have hsk : ∀ M1 : Mm, stf Mk M1 → planR M1 T := fun M1 h => ⟨by rw [h.2 29 (by decide) (by decide) (by decide), hk1 87 (by decide)]; exact hT.1, fun i hi => by rw [h.1 105 (by omega) (by decide) (by decide), h.1 106 (by omega) (by decide) (by decide), hk1 105 (by decide), hk1 106 (by decide)]; exact hT.2 i hi⟩
    have fin : ∀ (M1 : Mm) (x : Int) (v3 : Option Value), stf Mk M1 → x = (if w = 0 then (pursesN (planZ z T T.length) : Int) else (cntF 12 (fun t => decide (seersN (planZ z T T.length) t = 0)) : Int)) → Go γ Ω mX10_ends (Zm γ Ω 1 0 0 (fun x S' M' => x = (if w = 0 then (pursesN (planZ z T T.length) : Int) else (cntF 12 (fun t => decide (seersN (planZ z T T.length) t = 0)) : Int)) ∧ S' = S ∧ askA M M')) 0 0 S M1 124 [some (vr Ω 87), some (vi w), some (vi (T.length : Int)), v3] [vi x] := by
      intro M1 x0 v3 ha hx
      refine g_ist_2 f_X10_ends_124 (by decide) c1i ?_
      refine g_alv f_X10_ends_125 rfl ?_
      refine g_alv f_X10_ends_126 rfl ?_
      refine g_getR f_X10_ends_127 (by assumption) (by assumption) ?_
      refine g_cv0 hγ (c_magain hG (r := 111) (Or.inr rfl)) f_X10_ends_130 mo_X10_again mv_X10_again (by assumption) rfl rfl (Nat.le_of_ble_eq_true rfl) ⟨by decide, by decide⟩ ⟨Nat.le_refl _, Nat.le_refl _⟩ (fun x S' M9 hq9 => ?_)
      obtain ⟨q1, hag⟩ := hq9
      obtain rfl := q1.symm
      have hfin := askA.of hk1 hk2 ha hag
      refine g_ild f_X10_ends_133 rfl ?_
      refine g_reti f_X10_ends_134 rfl ?_ (Nat.zero_le _) (Nat.zero_le _)
      exact ⟨hx, rfl, hfin⟩
    have loop : ∀ (k n : Nat) (M1 : Mm) (v3 : Option Value), n + k = T.length → stf Mk M1 → MX M1 (planZ z T n) → Go γ Ω mX10_ends (Zm γ Ω 1 0 0 (fun x S' M' => x = (if w = 0 then (pursesN (planZ z T T.length) : Int) else (cntF 12 (fun t => decide (seersN (planZ z T T.length) t = 0)) : Int)) ∧ S' = S ∧ askA M M')) 0 0 S M1 21 [some (vr Ω 87), some (vi w), some (vi (n : Int)), v3] [] := by
      intro k
      induction k with
      | zero =>
        intro n M1 v3 hk ha hX1
        have hn : n = T.length := by omega
        subst hn
        have y1 := (hsk M1 ha).1
        obtain ⟨oZ, cZ, dZ⟩ := okZ_planZ hO hD hS T.length (Nat.le_refl _) hl
        refine g_ild f_X10_ends_21 rfl ?_
        refine g_alv f_X10_ends_22 rfl ?_
        refine g_getI f_X10_ends_23 (by assumption) ?_
        rw [y1]
        refine g_icmp_ge f_X10_ends_26 rfl (by omega) (by omega) (fun hc => ?_) (fun hc => ?_)
        · refine g_ild f_X10_ends_108 rfl ?_
          refine g_if_ne f_X10_ends_109 rfl (by omega) (fun h0 => ?_) (fun h0 => ?_)
          · refine g_alv f_X10_ends_119 rfl ?_
            refine g_const f_X10_ends_120 ?_
            refine g_cv1 hγ (c_mhidden hG hX1 oZ (w := 1) (Or.inr rfl)) f_X10_ends_121 mo_X10_hidden mv_X10_hidden (by assumption) rfl rfl (Nat.le_of_ble_eq_true rfl) ⟨by decide, by decide⟩ ⟨Nat.le_refl _, Nat.le_refl _⟩ (fun x S' M4 hq4 => ?_)
            obtain ⟨hx4, q1, ha4⟩ := hq4
            obtain rfl := q1.symm
            rw [if_neg (by decide)] at hx4
            subst hx4
            first
            | exact fin M1 _ v3 ha (by rw [if_pos (by omega)])
            | exact fin M4 _ v3 (ha.tr ha4.stf) (by rw [if_neg (by omega)])
          · refine g_alv f_X10_ends_112 rfl ?_
            refine g_cv1 hγ (c_mpurses hG hX1 oZ) f_X10_ends_113 mo_X10_allPurses mv_X10_allPurses (by assumption) rfl rfl (Nat.le_of_ble_eq_true rfl) ⟨by decide, by decide⟩ ⟨Nat.le_refl _, Nat.le_refl _⟩ (fun x S' M4 hq4 => ?_)
            obtain ⟨rfl, q1, q2⟩ := hq4
            obtain rfl := q1.symm
            obtain rfl := q2.symm
            refine g_goto f_X10_ends_116 ?_
            first
            | exact fin M1 _ v3 ha (by rw [if_pos (by omega)])
            | exact fin M4 _ v3 (ha.tr ha4.stf) (by rw [if_neg (by omega)])
        · exact absurd (by omega) hc
      | succ k ih =>
        intro n M1 v3 hk ha hX1
        have hn : n < T.length := by omega
        obtain ⟨y1, y2⟩ := hsk M1 ha
        obtain ⟨u0, u1⟩ := y2 n hn
        obtain ⟨oZ, cZ, dZ⟩ := okZ_planZ hO hD hS n (by omega) (by omega)
        obtain ⟨e1, e2, e3, e4⟩ := hS n hn
        have hps : planZ z T (n + 1) = planS (planZ z T n) (tg T n 0) (tg T n 1) := rfl
        obtain ⟨oS, -, -⟩ := okZ_planZ hO hD hS (n + 1) (by omega) (by omega)
        obtain ⟨W, hW⟩ : ∃ W, W = M1 106 n := ⟨_, rfl⟩
        have p0 : tg T n 0 = 0 → planZ z T (n + 1) = walkZ (planZ z T n) 1 := fun h => by rw [hps]; unfold planS; rw [if_pos h]
        have p1 : tg T n 0 = 1 → planZ z T (n + 1) = paidZ (planZ z T n) (seersN (planZ z T n) (tg T n 1).toNat) := fun h => by rw [hps]; unfold planS; rw [if_neg (by omega), if_pos h]
        have p2 : tg T n 0 = 2 → planZ z T (n + 1) = (zc (planZ z T n), zw (planZ z T n) ^^^ 2 ^ (tg T n 1).toNat, zd (planZ z T n), zP (planZ z T n), zL (planZ z T n)) := fun h => by rw [hps]; unfold planS; rw [if_neg (by omega), if_neg (by omega), if_pos h]
        have p3 : tg T n 0 = 3 → planZ z T (n + 1) = setP (planZ z T n) (tg T n 1).toNat 4 1 := fun h => by rw [hps]; unfold planS; rw [if_neg (by omega), if_neg (by omega), if_neg (by omega)]
        refine g_ild f_X10_ends_21 rfl ?_
        refine g_alv f_X10_ends_22 rfl ?_
        refine g_getI f_X10_ends_23 (by assumption) ?_
        rw [y1]
        refine g_icmp_ge f_X10_ends_26 rfl (by omega) (by omega) (fun hc => ?_) (fun hc => ?_)
        · exact absurd hc (by omega)
        refine g_alv f_X10_ends_29 rfl ?_
        refine g_getR f_X10_ends_30 (by assumption) (by assumption) ?_
        refine g_ild f_X10_ends_33 rfl ?_
        refine g_ial f_X10_ends_34 (by assumption) n (by omega) (by omega) ?_
        rw [← hW]
        refine g_ist_3 f_X10_ends_35 (by decide) c1i ?_
        refine g_alv f_X10_ends_36 rfl ?_
        refine g_getR f_X10_ends_37 (by assumption) (by assumption) ?_
        refine g_ild f_X10_ends_40 rfl ?_
        refine g_ial f_X10_ends_41 (by assumption) n (by omega) (by omega) ?_
        rw [u0]
        refine g_if_ne f_X10_ends_42 rfl (by omega) (fun h0 => ?_) (fun h0 => ?_)
        · refine g_alv f_X10_ends_52 rfl ?_
          refine g_getR f_X10_ends_53 (by assumption) (by assumption) ?_
          refine g_ild f_X10_ends_56 rfl ?_
          refine g_ial f_X10_ends_57 (by assumption) n (by omega) (by omega) ?_
          rw [u0]
          refine g_const f_X10_ends_58 ?_
          refine g_icmp_ne f_X10_ends_59 rfl (by omega) (by omega) (fun h1 => ?_) (fun h1 => ?_)
          · refine g_alv f_X10_ends_70 rfl ?_
            refine g_getR f_X10_ends_71 (by assumption) (by assumption) ?_
            refine g_ild f_X10_ends_74 rfl ?_
            refine g_ial f_X10_ends_75 (by assumption) n (by omega) (by omega) ?_
            rw [u0]
            refine g_const f_X10_ends_76 ?_
            refine g_icmp_ne f_X10_ends_77 rfl (by omega) (by omega) (fun h2 => ?_) (fun h2 => ?_)
            · have hu1 := u1 (by omega)
              rw [← hW] at hu1
              obtain ⟨t, ht⟩ := Int.eq_ofNat_of_zero_le (show 0 ≤ W by omega)
              have htn : (tg T n 1).toNat = t := by omega
              rw [ht]
              have hz6 : zc (planZ z T n) ≤ 6 := oZ.1
              refine g_alv f_X10_ends_95 rfl ?_
              refine g_getR f_X10_ends_96 (by assumption) (by assumption) ?_
              refine g_ild f_X10_ends_99 rfl ?_
              refine g_const f_X10_ends_100 ?_
              refine g_ias f_X10_ends_101 (by assumption) t (by omega) (by omega) ?_
              refine g_inc_2 f_X10_ends_102 (by decide) c1i ?_
              refine g_goto f_X10_ends_105 ?_
              exact ih (n + 1) _ _ (by omega) (ha.upR ⟨by decide, by decide⟩) (by rw [p3 (by omega), htn]; exact MX_set (a := 4) hX1 (by decide))
            · have hu1 := u1 (by omega)
              rw [← hW] at hu1
              obtain ⟨t, ht⟩ := Int.eq_ofNat_of_zero_le (show 0 ≤ W by omega)
              have htn : (tg T n 1).toNat = t := by omega
              rw [ht]
              have hwz : M1 87 7 = (zw (planZ z T n) : Int) := hX1.2.1
              have hwl : zw (planZ z T n) < 4096 := oZ.2.1
              have hp2 : 2 ^ t ≤ 2048 := p2le (by omega)
              refine g_alv f_X10_ends_80 rfl ?_
              refine g_dup f_X10_ends_81 rfl ?_
              refine g_getI f_X10_ends_82 (by assumption) ?_
              rw [hwz]
              refine g_const f_X10_ends_85 ?_
              refine g_ild f_X10_ends_86 rfl ?_
              refine g_ishl f_X10_ends_87 ?_
              rw [show (1 : Int) = ((1 : Nat) : Int) from rfl, bshl_n (by omega) (by omega), Nat.one_mul]
              refine g_ixor f_X10_ends_88 ?_
              rw [bxor_n (by omega) (by omega)]
              refine g_putI f_X10_ends_89 rfl (by assumption) ?_
              refine g_goto f_X10_ends_92 ?_
              refine g_inc_2 f_X10_ends_102 (by decide) c1i ?_
              refine g_goto f_X10_ends_105 ?_
              exact ih (n + 1) _ _ (by omega) (ha.up0 (by omega)) (by rw [p2 (by omega), htn]; exact hX1.walls _)
          · have hu1 := u1 (by omega)
            rw [← hW] at hu1
            obtain ⟨t, ht⟩ := Int.eq_ofNat_of_zero_le (show 0 ≤ W by omega)
            have htn : (tg T n 1).toNat = t := by omega
            rw [ht]
            refine g_alv f_X10_ends_62 rfl ?_
            refine g_ild f_X10_ends_63 rfl ?_
            refine g_cv0 hγ (c_mdone hG hX1 oZ (t := t) (by omega)) f_X10_ends_64 mo_X10_done mv_X10_done (by assumption) rfl rfl (Nat.le_of_ble_eq_true rfl) ⟨by decide, by decide⟩ ⟨Nat.le_refl _, Nat.le_refl _⟩ (fun x S' M4 hq4 => ?_)
            obtain ⟨q1, ha4, hX4⟩ := hq4
            obtain rfl := q1.symm
            refine g_goto f_X10_ends_67 ?_
            refine g_inc_2 f_X10_ends_102 (by decide) c1i ?_
            refine g_goto f_X10_ends_105 ?_
            exact ih (n + 1) M4 _ (by omega) (ha.tr ha4) (by rw [p1 (by omega), htn]; exact hX4)
        · refine g_alv f_X10_ends_45 rfl ?_
          refine g_cv0 hγ (c_mday hG hX1 oZ) f_X10_ends_46 mo_X10_goesDay mv_X10_goesDay (by assumption) rfl rfl (Nat.le_of_ble_eq_true rfl) ⟨by decide, by decide⟩ ⟨Nat.le_refl _, Nat.le_refl _⟩ (fun x S' M4 hq4 => ?_)
          obtain ⟨q1, ha4, hX4⟩ := hq4
          obtain rfl := q1.symm
          refine g_goto f_X10_ends_49 ?_
          refine g_inc_2 f_X10_ends_102 (by decide) c1i ?_
          refine g_goto f_X10_ends_105 ?_
          exact ih (n + 1) M4 _ (by omega) (ha.tr ha4) (by rw [p0 (by omega)]; exact hX4)
    refine g_const f_X10_ends_19 ?_
    refine g_ist_2 f_X10_ends_20 (by decide) c1i ?_
    exact loop T.length 0 Mk none (by omega) stf.rf hXk
  · exact absurd (by omega) hx0
