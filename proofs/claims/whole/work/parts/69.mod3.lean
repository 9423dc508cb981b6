/-! contracts: the model's shun, alone, pays, done, hidden, mostly, allPurses, goesDay -/
set_option maxHeartbeats 4000000 in
set_option maxRecDepth 100000 in
theorem c_malone {Ω : Ow} {S : Sg} {M : Mm} {z : Ab} (hG : Gr S) (hX : MX M z) (hO : okZ z) {p : Nat} (hp : p < zc z) : Ct Ω mX10_alone 7 0 0 1 [vr Ω 87, vi (p : Int)] S M (fun x S' M' => x = fstF 12 0 (fun t => decide (seersN z t = 2 ^ p)) ∧ S' = S ∧ ask M M') := by
  refine Ct.mk (by decide) (Nat.le_of_ble_eq_true rfl) [some (vr Ω 87), some (vi (p : Int)), none] (by intro q hq; exact hq) (fun γ hγ hz => ?_)
  obtain ⟨x1, x2, x3, x4, x5⟩ := id hX
  obtain ⟨z1, z2, z3, z4, z5⟩ := id hO
  have o87 := om87 hG
  have hp2 : 2 ^ p ≤ 2048 := p2le (by omega)
  obtain ⟨P2, hP2⟩ : ∃ q : Nat, q = 2 ^ p := ⟨_, rfl⟩
  rw [← hP2] at hp2
  have loop : ∀ (k n : Nat) (M1 : Mm), n + k = 12 → ask M M1 → fstF k n (fun t => decide (seersN z t = 2 ^ p)) = fstF 12 0 (fun t => decide (seersN z t = 2 ^ p)) → Go γ Ω mX10_alone (Zm γ Ω 1 0 0 (fun x S' M' => x = fstF 12 0 (fun t => decide (seersN z t = 2 ^ p)) ∧ S' = S ∧ ask M M')) 0 0 S M1 2 [some (vr Ω 87), some (vi (p : Int)), some (vi (n : Int))] [] := by
    intro k
    induction k with
    | zero =>
      intro n M1 hk ha hf
      refine g_ild f_X10_alone_2 rfl ?_
      refine g_const f_X10_alone_3 ?_
      refine g_icmp_ge f_X10_alone_5 rfl (by omega) (by omega) (fun hc => ?_) (fun hc => ?_)
      · refine g_const f_X10_alone_27 ?_
        refine g_reti f_X10_alone_29 rfl ?_ (Nat.zero_le _) (Nat.zero_le _)
        exact ⟨hf, rfl, ha⟩
      · exact absurd (by omega) hc
    | succ k ih =>
      intro n M1 hk ha hf
      have hsl := seersN_lt (t := n) hO
      refine g_ild f_X10_alone_2 rfl ?_
      refine g_const f_X10_alone_3 ?_
      refine g_icmp_ge f_X10_alone_5 rfl (by omega) (by omega) (fun hc => ?_) (fun hc => ?_)
      · exact absurd hc (by omega)
      refine g_alv f_X10_alone_8 rfl ?_
      refine g_ild f_X10_alone_9 rfl ?_
      refine g_cv1 hγ (c_mseers hG (hX.ask ha) hO (t := n) (by omega)) f_X10_alone_10 mo_X10_seers mv_X10_seers (by assumption) rfl rfl (Nat.le_of_ble_eq_true rfl) ⟨by decide, by decide⟩ ⟨Nat.le_refl _, Nat.le_refl _⟩ (fun x S' M2 hq2 => ?_)
      obtain ⟨rfl, q1, ha2⟩ := hq2
      obtain rfl := q1.symm
      refine g_const f_X10_alone_13 ?_
      refine g_ild f_X10_alone_14 rfl ?_
      refine g_ishl f_X10_alone_15 ?_
      refine g_as (show bshl (1 : Int) (p : Int) = (P2 : Int) by rw [show (1 : Int) = ((1 : Nat) : Int) from rfl, bshl_n (by omega) (by rw [← hP2]; omega), Nat.one_mul, ← hP2]) ?_
      refine g_icmp_ne f_X10_alone_16 rfl (by omega) (by omega) (fun hb => ?_) (fun hb => ?_)
      · refine g_inc_2 f_X10_alone_21 (by decide) c1i ?_
        refine g_goto f_X10_alone_24 ?_
        exact ih (n + 1) M2 (by omega) (ha.tr ha2) (by rw [← hf, fstF, if_neg (by rw [decide_eq_true_eq, ← hP2]; omega)])
      · refine g_ild f_X10_alone_19 rfl ?_
        refine g_reti f_X10_alone_20 rfl ?_ (Nat.zero_le _) (Nat.zero_le _)
        exact ⟨by rw [← hf, fstF, if_pos (decide_eq_true (by rw [← hP2]; omega))], rfl, ha.tr ha2⟩
  refine g_const f_X10_alone_0 ?_
  refine g_ist_2 f_X10_alone_1 (by decide) c1i ?_
  exact loop 12 0 M rfl ask.rf rfl

set_option maxHeartbeats 4000000 in
set_option maxRecDepth 100000 in
theorem c_mshun {Ω : Ow} {S : Sg} {M : Mm} {z : Ab} (hG : Gr S) (hX : MX M z) (hO : okZ z) {p : Nat} (hp : p < zc z) : Ct Ω mX10_shun 6 0 0 1 [vr Ω 87, vi (p : Int)] S M (fun x S' M' => x = (shunN z p : Int) ∧ S' = S ∧ ask M M') := by
  refine Ct.mk (by decide) (Nat.le_of_ble_eq_true rfl) [some (vr Ω 87), some (vi (p : Int)), none, none, none, none, none] (by intro q hq; exact hq) (fun γ hγ hz => ?_)
  obtain ⟨x1, x2, x3, x4, x5⟩ := id hX
  obtain ⟨z1, z2, z3, z4, z5⟩ := id hO
  have hp6 : p < 6 := by omega
  obtain ⟨r0, r1, r2, r3, r4, r5⟩ := id (x4 p hp)
  obtain ⟨b1, b2, b3, b4, b5, b6⟩ := id (z4 p hp)
  have o87 := om87 hG
  have gM3 : _ = ((90 : Nat) : Int) := grn hG (k := 87) (j := 3) (by decide)
  have aM90 := arn hG (r := 90) (c := 12) (n := 6) (by decide +kernel)
  have gM5 : _ = ((92 : Nat) : Int) := grn hG (k := 87) (j := 5) (by decide)
  have aM92 := arn hG (r := 92) (c := 12) (n := 6) (by decide +kernel)
  have loop : ∀ (k n v : Nat) (M1 : Mm) (fo le : Int) (v6 : Option Value), n + k = 12 → ask (up M 90 p (v : Int)) M1 → ((n = 0 ∧ fo = 0 ∧ le = 99) ∨ (fo = ((minF n (fun t => bcN (sightN (setP z p 2 t) p))).1 : Int) ∧ le = ((minF n (fun t => bcN (sightN (setP z p 2 t) p))).2 : Int))) → Go γ Ω mX10_shun (Zm γ Ω 1 0 0 (fun x S' M' => x = (shunN z p : Int) ∧ S' = S ∧ ask M M')) 0 0 S M1 28 [some (vr Ω 87), some (vi (p : Int)), some (vi (zP z p 2 : Int)), some (vi fo), some (vi le), some (vi (n : Int)), v6] [] := by
    intro k
    induction k with
    | zero =>
      intro n v M1 fo le v6 hk ha hi
      have hn : n = 12 := by omega
      subst hn
      have hml := minF_le2 (fun t => bcN (sightN (setP z p 2 t) p)) 12
      refine g_ild f_X10_shun_28 rfl ?_
      refine g_const f_X10_shun_30 ?_
      refine g_icmp_ge f_X10_shun_32 rfl (by omega) (by omega) (fun hc => ?_) (fun hc => ?_)
      · refine g_alv f_X10_shun_76 rfl ?_
        refine g_getR f_X10_shun_77 (by assumption) (by assumption) ?_
        refine g_ild f_X10_shun_80 rfl ?_
        refine g_ild f_X10_shun_81 rfl ?_
        refine g_ias f_X10_shun_82 (by assumption) _ rfl (by omega) ?_
        refine g_ild f_X10_shun_83 rfl ?_
        refine g_reti f_X10_shun_84 rfl ?_ (Nat.zero_le _) (Nat.zero_le _)
        refine ⟨?_, rfl, fun k a b => ?_⟩
        · rcases hi with ⟨h, -⟩ | ⟨h, -⟩
          · cases h
          · exact h
        · by_cases hk9 : k = 90
          · subst hk9
            have h9 := ha 90 (by decide) (by decide)
            funext j
            by_cases hj : j = p
            · subst hj; rw [up_s]; exact r2.symm
            · rw [up_n (by omega), h9, up_n (by omega)]
          · rw [up_row hk9, ha k a b, up_row hk9]
      · exact absurd (by omega) hc
    | succ k ih =>
      intro n v M1 fo le v6 hk ha hi
      have hml := minF_le2 (fun t => bcN (sightN (setP z p 2 t) p)) n
      have hsn : minF (n + 1) (fun t => bcN (sightN (setP z p 2 t) p)) = if bcN (sightN (setP z p 2 n) p) < (minF n (fun t => bcN (sightN (setP z p 2 t) p))).2 then (n, bcN (sightN (setP z p 2 n) p)) else minF n (fun t => bcN (sightN (setP z p 2 t) p)) := rfl
      have hbl := bcN_le (sightN (setP z p 2 n) p)
      have hsl := sightN_lt (setP z p 2 n) p
      have ha1 : ask (up M 90 p (n : Int)) (up M1 90 p (n : Int)) := fun k a b => by
        by_cases hk9 : k = 90
        · subst hk9
          have h9 := ha 90 (by decide) (by decide)
          funext j
          by_cases hj : j = p
          · subst hj; rw [up_s, up_s]
          · rw [up_n (by omega), up_n (by omega), h9, up_n (by omega)]
        · rw [up_row hk9, up_row hk9, ha k a b, up_row hk9]
      have hX1 : MX (up M1 90 p (n : Int)) (setP z p 2 n) := (MX_set (a := 2) hX (by decide)).ask ha1
      have hO1 : okZ (setP z p 2 n) := okZ_setP hO (by omega)
      have hm0 : n = 0 → (minF n (fun t => bcN (sightN (setP z p 2 t) p))).2 = 13 := fun h => by subst h; rfl
      refine g_ild f_X10_shun_28 rfl ?_
      refine g_const f_X10_shun_30 ?_
      refine g_icmp_ge f_X10_shun_32 rfl (by omega) (by omega) (fun hc => ?_) (fun hc => ?_)
      · exact absurd hc (by omega)
      refine g_alv f_X10_shun_35 rfl ?_
      refine g_getR f_X10_shun_36 (by assumption) (by assumption) ?_
      refine g_ild f_X10_shun_39 rfl ?_
      refine g_ild f_X10_shun_40 rfl ?_
      refine g_ias f_X10_shun_42 (by assumption) p (by omega) (by omega) ?_
      refine g_alv f_X10_shun_43 rfl ?_
      refine g_ild f_X10_shun_44 rfl ?_
      refine g_cv1 hγ (c_msight hG hX1 hO1 (p := p) hp) f_X10_shun_45 mo_X10_sight mv_X10_sight (by assumption) rfl rfl (Nat.le_of_ble_eq_true rfl) ⟨by decide, by decide⟩ ⟨Nat.le_refl _, Nat.le_refl _⟩ (fun x S' M2 hq2 => ?_)
      obtain ⟨rfl, q1, ha2⟩ := hq2
      obtain rfl := q1.symm
      refine g_cs1 hγ (c_bitCount hsl) f_X10_shun_48 mo_J6_bitCount_0f7a4 mt_J6_bitCount_0f7a4 rfl (Nat.le_of_ble_eq_true rfl) ⟨by decide, by decide⟩ ⟨Nat.le_refl _, Nat.le_refl _⟩ (fun x S' M3 hq3 => ?_)
      obtain ⟨rfl, q1, q2⟩ := hq3
      obtain rfl := q1.symm
      obtain rfl := q2.symm
      refine g_ist_6 f_X10_shun_51 (by decide) c1i ?_
      refine g_ild f_X10_shun_53 rfl ?_
      refine g_ild f_X10_shun_55 rfl ?_
      refine g_icmp_lt f_X10_shun_57 rfl (by omega) (by omega) (fun hb => ?_) (fun hb => ?_)
      · refine g_ild f_X10_shun_63 rfl ?_
        refine g_ist_4 f_X10_shun_65 (by decide) c1i ?_
        refine g_ild f_X10_shun_67 rfl ?_
        refine g_ist_3 f_X10_shun_69 (by decide) c1i ?_
        refine g_inc_5 f_X10_shun_70 (by decide) c1i ?_
        refine g_goto f_X10_shun_73 ?_
        exact ih (n + 1) n M2 _ _ _ (by omega) (ha1.tr ha2) (Or.inr (by rw [hsn, if_pos (by omega)]; exact ⟨rfl, rfl⟩))
      · refine g_goto f_X10_shun_60 ?_
        refine g_inc_5 f_X10_shun_70 (by decide) c1i ?_
        refine g_goto f_X10_shun_73 ?_
        exact ih (n + 1) n M2 _ _ _ (by omega) (ha1.tr ha2) (Or.inr (by rw [hsn, if_neg (by omega)]; omega))
  refine g_alv f_X10_shun_0 rfl ?_
  refine g_getR f_X10_shun_1 (by assumption) (by assumption) ?_
  refine g_ild f_X10_shun_4 rfl ?_
  refine g_ial f_X10_shun_5 (by assumption) _ rfl (by omega) ?_
  rw [r4]
  refine g_const f_X10_shun_6 ?_
  refine g_icmp_ne f_X10_shun_7 rfl (by omega) (by omega) (fun hg => ?_) (fun hg => ?_)
  · refine g_alv f_X10_shun_12 rfl ?_
    refine g_getR f_X10_shun_13 (by assumption) (by assumption) ?_
    refine g_ild f_X10_shun_16 rfl ?_
    refine g_ial f_X10_shun_17 (by assumption) _ rfl (by omega) ?_
    rw [r2]
    refine g_ist_2 f_X10_shun_18 (by decide) c1i ?_
    refine g_const f_X10_shun_19 ?_
    refine g_ist_3 f_X10_shun_20 (by decide) c1i ?_
    refine g_const f_X10_shun_21 ?_
    refine g_ist_4 f_X10_shun_23 (by decide) c1i ?_
    refine g_const f_X10_shun_25 ?_
    refine g_ist_5 f_X10_shun_26 (by decide) c1i ?_
    refine loop 12 0 (zP z p 2) M 0 99 none rfl (fun k a b => ?_) (Or.inl ⟨rfl, rfl, rfl⟩)
    by_cases hk9 : k = 90
    · subst hk9
      funext j
      by_cases hj : j = p
      · subst hj; rw [up_s]; exact r2
      · rw [up_n (by omega)]
    · rw [up_row hk9]
  · refine g_const f_X10_shun_10 ?_
    refine g_reti f_X10_shun_11 rfl ?_ (Nat.zero_le _) (Nat.zero_le _)
    exact ⟨by rw [shun_gone (by omega)]; rfl, rfl, ask.rf⟩

set_option maxHeartbeats 4000000 in
set_option maxRecDepth 100000 in
theorem c_mpays {Ω : Ow} {S : Sg} {M : Mm} {z : Ab} (hG : Gr S) (hX : MX M z) (hO : okZ z) {t : Nat} (ht : t < 12) : Ct Ω mX10_pays 7 0 0 1 [vr Ω 87, vi (t : Int)] S M (fun x S' M' => x = (paidN z (seersN z t) : Int) ∧ S' = S ∧ ask M M' ∧ ∀ p, p < zc z → M' 112 p = (payN (zP z p) (fineL (zL z)) (seersN z t) p : Int)) := by
  refine Ct.mk (by decide) (Nat.le_of_ble_eq_true rfl) [some (vr Ω 87), some (vi (t : Int)), none, none, none, none, none, none, none] (by intro q hq; exact hq) (fun γ hγ hz => ?_)
  obtain ⟨x1, x2, x3, x4, x5⟩ := id hX
  obtain ⟨z1, z2, z3, z4, z5⟩ := id hO
  have o87 := om87 hG
  have gM1 : _ = ((88 : Nat) : Int) := grn hG (k := 87) (j := 1) (by decide)
  have aM88 := arn hG (r := 88) (c := 12) (n := 6) (by decide +kernel)
  have gM4 : _ = ((91 : Nat) : Int) := grn hG (k := 87) (j := 4) (by decide)
  have aM91 := arn hG (r := 91) (c := 12) (n := 6) (by decide +kernel)
  have gM40 : _ = ((112 : Nat) : Int) := grn hG (k := 87) (j := 40) (by decide)
  have aM112 := arn hG (r := 112) (c := 12) (n := 6) (by decide +kernel)
  have hfl : fineL (zL z) ≤ 99 := fineL_le (zL z) 20 (by decide) z5.2.1
  have hsl := seersN_lt (t := t) hO
  have hbl := bcN_le (seersN z t)
  have loop : ∀ (k n : Nat) (M1 : Mm) (ff : Int) (v8 : Option Value), n + k = zc z → ask M M1 → (∀ p, p < n → M1 112 p = (payN (zP z p) (fineL (zL z)) (seersN z t) p : Int)) → ((seersN z t % 2 ^ n = 0 ∧ ff = 1) ∨ (seersN z t % 2 ^ n ≠ 0 ∧ ff = 0)) → Go γ Ω mX10_pays (Zm γ Ω 1 0 0 (fun x S' M' => x = (paidN z (seersN z t) : Int) ∧ S' = S ∧ ask M M' ∧ ∀ p, p < zc z → M' 112 p = (payN (zP z p) (fineL (zL z)) (seersN z t) p : Int))) 0 0 S M1 26 [some (vr Ω 87), some (vi (t : Int)), some (vi (seersN z t : Int)), some (vi (bcN (seersN z t) : Int)), some (vi (fineL (zL z) : Int)), some (vi (sumF n (fun p => payN (zP z p) (fineL (zL z)) (seersN z t) p) : Int)), some (vi ff), some (vi (n : Int)), v8] [] := by
    intro k
    induction k with
    | zero =>
      intro n M1 ff v8 hk ha hs hf
      have hn : n = zc z := by omega
      subst hn
      have y1 : M1 87 0 = (zc z : Int) := (hX.ask ha).1
      refine g_ild f_X10_pays_26 rfl ?_
      refine g_alv f_X10_pays_28 rfl ?_
      refine g_getI f_X10_pays_29 (by assumption) ?_
      rw [y1]
      refine g_icmp_ge f_X10_pays_32 rfl (by omega) (by omega) (fun hc => ?_) (fun hc => ?_)
      · refine g_ild f_X10_pays_132 rfl ?_
        refine g_reti f_X10_pays_134 rfl ?_ (Nat.zero_le _) (Nat.zero_le _)
        exact ⟨rfl, rfl, ha, hs⟩
      · exact absurd (by omega) hc
    | succ k ih =>
      intro n M1 ff v8 hk ha hs hf
      have hn : n < zc z := by omega
      have hX1 := hX.ask ha
      obtain ⟨y1, -, -, y4, -⟩ := id hX1
      obtain ⟨r0, -, -, r3, -, -⟩ := y4 n hn
      obtain ⟨b1, b2, b3, b4, b5, b6⟩ := z4 n hn
      have hsum : sumF (n + 1) (fun p => payN (zP z p) (fineL (zL z)) (seersN z t) p) = sumF n (fun p => payN (zP z p) (fineL (zL z)) (seersN z t) p) + payN (zP z n) (fineL (zL z)) (seersN z t) n := rfl
      have hsb : sumF n (fun p => payN (zP z p) (fineL (zL z)) (seersN z t) p) ≤ n * 9999 := sumF_le n (fun i hi => Nat.le_trans (payN_le _ _ _ _) (z4 i (by omega)).2.2.2.1)
      have hpl := payN_le (zP z n) (fineL (zL z)) (seersN z t) n
      have nx : ∀ (M2 : Mm) (ff : Int) (sm : Int) (v8 : Option Value), ask M M2 → (∀ p, p < n + 1 → M2 112 p = (payN (zP z p) (fineL (zL z)) (seersN z t) p : Int)) → ((seersN z t % 2 ^ (n + 1) = 0 ∧ ff = 1) ∨ (seersN z t % 2 ^ (n + 1) ≠ 0 ∧ ff = 0)) → sm = (sumF (n + 1) (fun p => payN (zP z p) (fineL (zL z)) (seersN z t) p) : Int) → Go γ Ω mX10_pays (Zm γ Ω 1 0 0 (fun x S' M' => x = (paidN z (seersN z t) : Int) ∧ S' = S ∧ ask M M' ∧ ∀ p, p < zc z → M' 112 p = (payN (zP z p) (fineL (zL z)) (seersN z t) p : Int))) 0 0 S M2 126 [some (vr Ω 87), some (vi (t : Int)), some (vi (seersN z t : Int)), some (vi (bcN (seersN z t) : Int)), some (vi (fineL (zL z) : Int)), some (vi sm), some (vi ff), some (vi (n : Int)), v8] [] := by
        intro M2 ff sm v8 ha2 hs2 hf2 hsm
        subst hsm
        refine g_inc_7 f_X10_pays_126 (by decide) c1i ?_
        refine g_goto f_X10_pays_129 ?_
        exact ih (n + 1) M2 ff v8 (by omega) ha2 hs2 hf2
      have j95 : ∀ (v : Nat), v ≤ 300 → (seersN z t).testBit n = true → v = (if zP z n 0 = 5 then (fineL (zL z) / bcN (seersN z t) + (if seersN z t % 2 ^ n = 0 then fineL (zL z) % bcN (seersN z t) else 0)) / 2 else fineL (zL z) / bcN (seersN z t) + (if seersN z t % 2 ^ n = 0 then fineL (zL z) % bcN (seersN z t) else 0)) → Go γ Ω mX10_pays (Zm γ Ω 1 0 0 (fun x S' M' => x = (paidN z (seersN z t) : Int) ∧ S' = S ∧ ask M M' ∧ ∀ p, p < zc z → M' 112 p = (payN (zP z p) (fineL (zL z)) (seersN z t) p : Int))) 0 0 S (up M1 112 n 0) 95 [some (vr Ω 87), some (vi (t : Int)), some (vi (seersN z t : Int)), some (vi (bcN (seersN z t) : Int)), some (vi (fineL (zL z) : Int)), some (vi (sumF n (fun p => payN (zP z p) (fineL (zL z)) (seersN z t) p) : Int)), some (vi 0), some (vi (n : Int)), some (vi (v : Int))] [] := by
        intro v hv3 hbit hv
        have hpay : payN (zP z n) (fineL (zL z)) (seersN z t) n = min v (zP z n 3) := by
          have h9 := bc_pos (by omega) hbit
          unfold payN
          rw [if_neg (by rw [hbit]; simp; omega), ← hv]
        refine g_alv f_X10_pays_95 rfl ?_
        refine g_getR f_X10_pays_96 (by assumption) (by assumption) ?_
        refine g_ild f_X10_pays_99 rfl ?_
        refine g_alv f_X10_pays_101 rfl ?_
        refine g_getR f_X10_pays_102 (by assumption) (by assumption) ?_
        refine g_ild f_X10_pays_105 rfl ?_
        refine g_ial f_X10_pays_107 (by assumption) _ rfl (by omega) ?_
        rw [up_row (by decide), r3]
        refine g_ild f_X10_pays_108 rfl ?_
        refine g_mn hγ (by decide) ⟨Nat.le_refl _, Nat.le_refl _⟩ f_X10_pays_110 (by omega) (by omega) (Nat.le_of_ble_eq_true rfl) ?_
        refine g_as (show min (zP z n 3 : Int) (v : Int) = (payN (zP z n) (fineL (zL z)) (seersN z t) n : Int) by rw [hpay]; omega) ?_
        refine g_ias f_X10_pays_113 (by assumption) n (by omega) (by omega) ?_
        refine g_ild f_X10_pays_114 rfl ?_
        refine g_alv f_X10_pays_116 rfl ?_
        refine g_getR f_X10_pays_117 (by assumption) (by assumption) ?_
        refine g_ild f_X10_pays_120 rfl ?_
        refine g_ial f_X10_pays_122 (by assumption) n (by omega) (by omega) ?_
        rw [up_s]
        refine g_iadd f_X10_pays_123 ?_
        refine g_ist_5 f_X10_pays_124 (by decide) c1i ?_
        refine nx _ 0 _ _ (fun k a b => by rw [up_row b, up_row b]; exact ha k a b) (fun p hp => ?_) (Or.inr ⟨low_set hbit, rfl⟩) (by rw [hsum]; push_cast; rfl)
        by_cases e : p = n
        · subst e; rw [up_s]
        · rw [up_n (by omega), up_n (by omega)]; exact hs p (by omega)
      have j72 : ∀ (u v : Nat) (v8 : Option Value), u ≤ 99 → v ≤ 99 → (seersN z t).testBit n = true → u = fineL (zL z) / bcN (seersN z t) → v = (if seersN z t % 2 ^ n = 0 then fineL (zL z) % bcN (seersN z t) else 0) → Go γ Ω mX10_pays (Zm γ Ω 1 0 0 (fun x S' M' => x = (paidN z (seersN z t) : Int) ∧ S' = S ∧ ask M M' ∧ ∀ p, p < zc z → M' 112 p = (payN (zP z p) (fineL (zL z)) (seersN z t) p : Int))) 0 0 S (up M1 112 n 0) 72 [some (vr Ω 87), some (vi (t : Int)), some (vi (seersN z t : Int)), some (vi (bcN (seersN z t) : Int)), some (vi (fineL (zL z) : Int)), some (vi (sumF n (fun p => payN (zP z p) (fineL (zL z)) (seersN z t) p) : Int)), some (vi ff), some (vi (n : Int)), v8] [vi (v : Int), vi (u : Int)] := by
        intro u v v8 hu1 hv1 hbit hu hv
        refine g_iadd f_X10_pays_72 ?_
        refine g_as (show (u : Int) + (v : Int) = ((u + v : Nat) : Int) by omega) ?_
        refine g_ist_8 f_X10_pays_73 (by decide) c1i ?_
        refine g_const f_X10_pays_75 ?_
        refine g_ist_6 f_X10_pays_76 (by decide) c1i ?_
        refine g_alv f_X10_pays_78 rfl ?_
        refine g_getR f_X10_pays_79 (by assumption) (by assumption) ?_
        refine g_ild f_X10_pays_82 rfl ?_
        refine g_ial f_X10_pays_84 (by assumption) _ rfl (by omega) ?_
        rw [up_row (by decide), r0]
        refine g_const f_X10_pays_85 ?_
        refine g_icmp_ne f_X10_pays_86 rfl (by omega) (by omega) (fun hk5 => ?_) (fun hk5 => ?_)
        · exact j95 _ (by omega) hbit (by rw [if_neg (by omega), ← hu, ← hv])
        · refine g_ild f_X10_pays_89 rfl ?_
          refine g_const f_X10_pays_91 ?_
          refine g_idiv f_X10_pays_92 (by omega) (by omega) ?_
          refine g_as (show ((u + v : Nat) : Int) / 2 = (((u + v) / 2 : Nat) : Int) by omega) ?_
          refine g_ist_8 f_X10_pays_93 (by decide) c1i ?_
          exact j95 _ (by omega) hbit (by rw [if_pos (by omega), ← hu, ← hv])
      refine g_ild f_X10_pays_26 rfl ?_
      refine g_alv f_X10_pays_28 rfl ?_
      refine g_getI f_X10_pays_29 (by assumption) ?_
      rw [y1]
      refine g_icmp_ge f_X10_pays_32 rfl (by omega) (by omega) (fun hc => ?_) (fun hc => ?_)
      · exact absurd hc (by omega)
      refine g_alv f_X10_pays_35 rfl ?_
      refine g_getR f_X10_pays_36 (by assumption) (by assumption) ?_
      refine g_ild f_X10_pays_39 rfl ?_
      refine g_const f_X10_pays_41 ?_
      refine g_ias f_X10_pays_42 (by assumption) n (by omega) (by omega) ?_
      refine g_ild f_X10_pays_43 rfl ?_
      refine g_ild f_X10_pays_44 rfl ?_
      refine g_ishr f_X10_pays_46 ?_
      refine g_const f_X10_pays_47 ?_
      refine g_iand f_X10_pays_48 ?_
      rw [bit1 (by omega) (by omega)]
      refine g_if_ne f_X10_pays_49 rfl (by cases (seersN z t).testBit n <;> decide) (fun hb => ?_) (fun hb => ?_)
      · have hbit : (seersN z t).testBit n = true := by revert hb; cases (seersN z t).testBit n <;> simp
        have hbp := bc_pos (by omega) hbit
        have hq1 : fineL (zL z) / bcN (seersN z t) ≤ fineL (zL z) := Nat.div_le_self _ _
        have hq2 : fineL (zL z) % bcN (seersN z t) < bcN (seersN z t) := Nat.mod_lt _ hbp
        refine g_ild f_X10_pays_55 rfl ?_
        refine g_ild f_X10_pays_57 rfl ?_
        refine g_idiv f_X10_pays_58 (by omega) (by omega) ?_
        rw [← Int.natCast_ediv]
        refine g_ild f_X10_pays_59 rfl ?_
        refine g_if_eq f_X10_pays_61 rfl (by omega) (fun hff => ?_) (fun hff => ?_)
        · refine g_const f_X10_pays_71 ?_
          exact j72 _ 0 _ (by omega) (by omega) hbit rfl (by rw [if_neg (by omega)])
        · refine g_ild f_X10_pays_64 rfl ?_
          refine g_ild f_X10_pays_66 rfl ?_
          refine g_irem f_X10_pays_67 (by omega) (by omega) ?_
          rw [← Int.natCast_emod]
          refine g_goto f_X10_pays_68 ?_
          exact j72 _ _ _ (by omega) (by omega) hbit rfl (by rw [if_pos (by omega)])
      · have hbit : (seersN z t).testBit n = false := by revert hb; cases (seersN z t).testBit n <;> simp
        have hp0 : payN (zP z n) (fineL (zL z)) (seersN z t) n = 0 := by unfold payN; rw [if_pos (Or.inl hbit)]
        refine g_goto f_X10_pays_52 ?_
        refine nx _ ff _ _ (fun k a b => by rw [up_row b]; exact ha k a b) (fun p hp => ?_) (by rw [low_skip hbit]; exact hf) (by rw [hsum, hp0]; rfl)
        by_cases e : p = n
        · subst e; rw [up_s, hp0]; rfl
        · rw [up_n (by omega)]; exact hs p (by omega)
  refine g_alv f_X10_pays_0 rfl ?_
  refine g_ild f_X10_pays_1 rfl ?_
  refine g_cv1 hγ (c_mseers hG hX hO ht) f_X10_pays_2 mo_X10_seers mv_X10_seers (by assumption) rfl rfl (Nat.le_of_ble_eq_true rfl) ⟨by decide, by decide⟩ ⟨Nat.le_refl _, Nat.le_refl _⟩ (fun x S' M2 hq2 => ?_)
  obtain ⟨rfl, q1, ha2⟩ := hq2
  obtain rfl := q1.symm
  have hsl0 := seersN_lt (t := t) hO
  refine g_ist_2 f_X10_pays_5 (by decide) c1i ?_
  refine g_ild f_X10_pays_6 rfl ?_
  refine g_cs1 hγ (c_bitCount (a := seersN z t) (by omega)) f_X10_pays_7 mo_J6_bitCount_0f7a4 mt_J6_bitCount_0f7a4 rfl (Nat.le_of_ble_eq_true rfl) ⟨by decide, by decide⟩ ⟨Nat.le_refl _, Nat.le_refl _⟩ (fun x S' M3 hq3 => ?_)
  obtain ⟨rfl, q1, q2⟩ := hq3
  obtain rfl := q1.symm
  obtain rfl := q2.symm
  refine g_ist_3 f_X10_pays_10 (by decide) c1i ?_
  refine g_alv f_X10_pays_11 rfl ?_
  refine g_cv1 hγ (c_mfine hG (hX.ask ha2) hO) f_X10_pays_12 mo_X10_fine mv_X10_fine (by assumption) rfl rfl (Nat.le_of_ble_eq_true rfl) ⟨by decide, by decide⟩ ⟨Nat.le_refl _, Nat.le_refl _⟩ (fun x S' M4 hq4 => ?_)
  obtain ⟨rfl, q1, q2⟩ := hq4
  obtain rfl := q1.symm
  obtain rfl := q2.symm
  refine g_ist_4 f_X10_pays_15 (by decide) c1i ?_
  refine g_const f_X10_pays_17 ?_
  refine g_ist_5 f_X10_pays_18 (by decide) c1i ?_
  refine g_const f_X10_pays_20 ?_
  refine g_ist_6 f_X10_pays_21 (by decide) c1i ?_
  refine g_const f_X10_pays_23 ?_
  refine g_ist_7 f_X10_pays_24 (by decide) c1i ?_
  exact loop (zc z) 0 M2 1 none (by omega) ha2 (fun p hp => absurd hp (Nat.not_lt_zero _)) (Or.inl ⟨by rw [Nat.pow_zero]; exact Nat.mod_one _, rfl⟩)

set_option maxHeartbeats 4000000 in
set_option maxRecDepth 100000 in
theorem c_mdone {Ω : Ow} {S : Sg} {M : Mm} {z : Ab} (hG : Gr S) (hX : MX M z) (hO : okZ z) {t : Nat} (ht : t < 12) : Ct Ω mX10_done 8 0 0 0 [vr Ω 87, vi (t : Int)] S M (fun _ S' M' => S' = S ∧ stf M M' ∧ MX M' (paidZ z (seersN z t))) := by
  refine Ct.mk (by decide) (Nat.le_of_ble_eq_true rfl) [some (vr Ω 87), some (vi (t : Int)), none] (by intro q hq; exact hq) (fun γ hγ hz => ?_)
  obtain ⟨x1, x2, x3, x4, x5⟩ := id hX
  obtain ⟨z1, z2, z3, z4, z5⟩ := id hO
  have o87 := om87 hG
  have gM4 : _ = ((91 : Nat) : Int) := grn hG (k := 87) (j := 4) (by decide)
  have aM91 := arn hG (r := 91) (c := 12) (n := 6) (by decide +kernel)
  have gM40 : _ = ((112 : Nat) : Int) := grn hG (k := 87) (j := 40) (by decide)
  have aM112 := arn hG (r := 112) (c := 12) (n := 6) (by decide +kernel)
  have loop : ∀ (k n : Nat) (M1 : Mm), n + k = zc z → stf M M1 → MX M1 (paidU z (seersN z t) n) → (∀ p, p < zc z → M1 112 p = (payN (zP z p) (fineL (zL z)) (seersN z t) p : Int)) → Go γ Ω mX10_done (Zm γ Ω 0 0 0 (fun _ S' M' => S' = S ∧ stf M M' ∧ MX M' (paidZ z (seersN z t)))) 0 0 S M1 8 [some (vr Ω 87), some (vi (t : Int)), some (vi (n : Int))] [] := by
    intro k
    induction k with
    | zero =>
      intro n M1 hk ha hX1 hs
      have hn : n = zc z := by omega
      subst hn
      have y1 : M1 87 0 = (zc z : Int) := hX1.1
      refine g_ild f_X10_done_8 rfl ?_
      refine g_alv f_X10_done_9 rfl ?_
      refine g_getI f_X10_done_10 (by assumption) ?_
      rw [y1]
      refine g_icmp_ge f_X10_done_13 rfl (by omega) (by omega) (fun hc => ?_) (fun hc => ?_)
      · refine g_ret0 (κ := 0) f_X10_done_37 rfl 0 ?_ (Nat.zero_le _) (Nat.zero_le _)
        refine ⟨rfl, ha, hX1.cut rfl rfl rfl rfl (fun p hp a => ?_)⟩
        have hp1 : p < zc z := hp
        show (if a = 3 then _ else _) = (if p < zc z ∧ a = 3 then _ else _)
        by_cases h : a = 3
        · rw [if_pos h, if_pos ⟨hp1, h⟩]
        · rw [if_neg h, if_neg (fun q => h q.2)]
      · exact absurd (by omega) hc
    | succ k ih =>
      intro n M1 hk ha hX1 hs
      have hn : n < zc z := by omega
      have y1 : M1 87 0 = (zc z : Int) := hX1.1
      have r3 : M1 91 n = (zP z n 3 : Int) := by have := (hX1.2.2.2.1 n hn).2.2.2.1; rw [paidU_n] at this; exact this
      have hpl := payN_le (zP z n) (fineL (zL z)) (seersN z t) n
      have hsn := hs n hn
      refine g_ild f_X10_done_8 rfl ?_
      refine g_alv f_X10_done_9 rfl ?_
      refine g_getI f_X10_done_10 (by assumption) ?_
      rw [y1]
      refine g_icmp_ge f_X10_done_13 rfl (by omega) (by omega) (fun hc => ?_) (fun hc => ?_)
      · exact absurd hc (by omega)
      refine g_alv f_X10_done_16 rfl ?_
      refine g_getR f_X10_done_17 (by assumption) (by assumption) ?_
      refine g_ild f_X10_done_20 rfl ?_
      refine g_dup2 f_X10_done_21 rfl rfl ?_
      refine g_ial f_X10_done_22 (by assumption) _ rfl (by omega) ?_
      rw [r3]
      refine g_alv f_X10_done_23 rfl ?_
      refine g_getR f_X10_done_24 (by assumption) (by assumption) ?_
      refine g_ild f_X10_done_27 rfl ?_
      refine g_ial f_X10_done_28 (by assumption) _ rfl (by omega) ?_
      rw [hsn]
      refine g_isub f_X10_done_29 ?_
      refine g_as (show (zP z n 3 : Int) - (payN (zP z n) (fineL (zL z)) (seersN z t) n : Int) = ((zP z n 3 - payN (zP z n) (fineL (zL z)) (seersN z t) n : Nat) : Int) by omega) ?_
      refine g_ias f_X10_done_30 (by assumption) _ rfl (by omega) ?_
      refine g_inc_2 f_X10_done_31 (by decide) c1i ?_
      refine g_goto f_X10_done_34 ?_
      refine ih (n + 1) _ (by omega) (ha.upR ⟨by decide, by decide⟩) ?_ (fun p hp => by rw [up_row (by decide)]; exact hs p hp)
      rw [paidU_S]
      exact MX_set (a := 3) hX1 (by decide)
  refine g_alv f_X10_done_0 rfl ?_
  refine g_ild f_X10_done_1 rfl ?_
  refine g_cv1 hγ (c_mpays hG hX hO ht) f_X10_done_2 mo_X10_pays mv_X10_pays (by assumption) rfl rfl (Nat.le_of_ble_eq_true rfl) ⟨by decide, by decide⟩ ⟨Nat.le_refl _, Nat.le_refl _⟩ (fun x S' M2 hq2 => ?_)
  obtain ⟨rfl, q1, ha2, hs2⟩ := hq2
  obtain rfl := q1.symm
  refine g_pop f_X10_done_5 rfl ?_
  refine g_const f_X10_done_6 ?_
  refine g_ist_2 f_X10_done_7 (by decide) c1i ?_
  exact loop (zc z) 0 M2 (by omega) ha2.stf (by rw [paidU_0]; exact hX.ask ha2) hs2

set_option maxHeartbeats 4000000 in
set_option maxRecDepth 100000 in
theorem c_mhidden {Ω : Ow} {S : Sg} {M : Mm} {z : Ab} (hG : Gr S) (hX : MX M z) (hO : okZ z) {w : Int} (hw : w = 0 ∨ w = 1) : Ct Ω mX10_hidden 7 0 0 1 [vr Ω 87, vi w] S M (fun x S' M' => x = (if w = 0 then fstF 12 0 (fun t => decide (seersN z t = 0)) else (cntF 12 (fun t => decide (seersN z t = 0)) : Int)) ∧ S' = S ∧ ask M M') := by
  refine Ct.mk (by decide) (Nat.le_of_ble_eq_true rfl) [some (vr Ω 87), some (vi w), none, none, none] (by intro q hq; exact hq) (fun γ hγ hz => ?_)
  obtain ⟨x1, x2, x3, x4, x5⟩ := id hX
  obtain ⟨z1, z2, z3, z4, z5⟩ := id hO
  have o87 := om87 hG
  have loop : ∀ (k mm : Nat) (M1 : Mm), k ≤ 12 → ask M M1 → mm + cntF k (fun t => decide (seersN z t = 0)) = cntF 12 (fun t => decide (seersN z t = 0)) → Go γ Ω mX10_hidden (Zm γ Ω 1 0 0 (fun x S' M' => x = (if w = 0 then fstF 12 0 (fun t => decide (seersN z t = 0)) else (cntF 12 (fun t => decide (seersN z t = 0)) : Int)) ∧ S' = S ∧ ask M M')) 0 0 S M1 9 [some (vr Ω 87), some (vi w), some (vi (fstF (12 - k) k (fun t => decide (seersN z t = 0)))), some (vi (mm : Int)), some (vi ((k : Int) - 1))] [] := by
    intro k
    induction k with
    | zero =>
      intro mm M1 hk ha hm
      have hm2 : mm = cntF 12 (fun t => decide (seersN z t = 0)) := hm
      refine g_ild f_X10_hidden_9 rfl ?_
      refine g_if_lt f_X10_hidden_11 rfl (by omega) (fun hc => ?_) (fun hc => ?_)
      · refine g_ild f_X10_hidden_38 rfl ?_
        refine g_if_ne f_X10_hidden_39 rfl (by omega) (fun h0 => ?_) (fun h0 => ?_)
        · refine g_ild f_X10_hidden_46 rfl ?_
          refine g_reti f_X10_hidden_47 rfl ?_ (Nat.zero_le _) (Nat.zero_le _)
          first
          | exact ⟨by rw [if_pos (by omega)], rfl, ha⟩
          | exact ⟨by rw [if_neg (by omega), hm2], rfl, ha⟩
        · refine g_ild f_X10_hidden_42 rfl ?_
          refine g_goto f_X10_hidden_43 ?_
          refine g_reti f_X10_hidden_47 rfl ?_ (Nat.zero_le _) (Nat.zero_le _)
          first
          | exact ⟨by rw [if_pos (by omega)], rfl, ha⟩
          | exact ⟨by rw [if_neg (by omega), hm2], rfl, ha⟩
      · exact absurd (by omega) hc
    | succ k ih =>
      intro mm M1 hk ha hm
      have hsl := seersN_lt (t := k) hO
      have hcs : cntF (k + 1) (fun t => decide (seersN z t = 0)) = cntF k (fun t => decide (seersN z t = 0)) + (if decide (seersN z k = 0) = true then 1 else 0) := rfl
      have hfs : fstF (12 - k) k (fun t => decide (seersN z t = 0)) = if decide (seersN z k = 0) = true then (k : Int) else fstF (12 - (k + 1)) (k + 1) (fun t => decide (seersN z t = 0)) := by rw [show 12 - k = (12 - (k + 1)) + 1 by omega, fstF]
      have hcl := cntF_le (fun t => decide (seersN z t = 0)) 12
      refine g_ild f_X10_hidden_9 rfl ?_
      refine g_as (show ((k + 1 : Nat) : Int) - 1 = (k : Int) by omega) ?_
      refine g_if_lt f_X10_hidden_11 rfl (by omega) (fun hc => ?_) (fun hc => ?_)
      · exact absurd hc (by omega)
      refine g_alv f_X10_hidden_14 rfl ?_
      refine g_ild f_X10_hidden_15 rfl ?_
      refine g_as (show ((k + 1 : Nat) : Int) - 1 = (k : Int) by omega) ?_
      refine g_cv1 hγ (c_mseers hG (hX.ask ha) hO (t := k) (by omega)) f_X10_hidden_17 mo_X10_seers mv_X10_seers (by assumption) rfl rfl (Nat.le_of_ble_eq_true rfl) ⟨by decide, by decide⟩ ⟨Nat.le_refl _, Nat.le_refl _⟩ (fun x S' M2 hq2 => ?_)
      obtain ⟨rfl, q1, ha2⟩ := hq2
      obtain rfl := q1.symm
      refine g_if_eq f_X10_hidden_20 rfl (by omega) (fun hb => ?_) (fun hb => ?_)
      · refine g_inc_3 f_X10_hidden_26 (by decide) c1i ?_
        refine g_ild f_X10_hidden_29 rfl ?_
        refine g_as (show ((k + 1 : Nat) : Int) - 1 = (k : Int) by omega) ?_
        refine g_ist_2 f_X10_hidden_31 (by decide) c1i ?_
        refine g_inc_4 f_X10_hidden_32 (by decide) c1i ?_
        refine g_goto f_X10_hidden_35 ?_
        have h9 := ih (mm + 1) M2 (by omega) (ha.tr ha2) (by rw [← hm, hcs, if_pos (decide_eq_true (by omega))]; omega)
        rw [if_pos (decide_eq_true (by omega))] at hfs
        rw [hfs] at h9
        rw [show ((k + 1 : Nat) : Int) - 1 + -1 = (k : Int) - 1 by omega]
        exact h9
      · refine g_goto f_X10_hidden_23 ?_
        refine g_inc_4 f_X10_hidden_32 (by decide) c1i ?_
        refine g_goto f_X10_hidden_35 ?_
        have h9 := ih mm M2 (by omega) (ha.tr ha2) (by rw [← hm, hcs, if_neg (by rw [decide_eq_true_eq]; omega)]; rfl)
        rw [if_neg (by rw [decide_eq_true_eq]; omega)] at hfs
        rw [hfs] at h9
        rw [show ((k + 1 : Nat) : Int) - 1 + -1 = (k : Int) - 1 by omega]
        exact h9
  refine g_const f_X10_hidden_0 ?_
  refine g_ist_2 f_X10_hidden_2 (by decide) c1i ?_
  refine g_const f_X10_hidden_3 ?_
  refine g_ist_3 f_X10_hidden_4 (by decide) c1i ?_
  refine g_const f_X10_hidden_5 ?_
  refine g_ist_4 f_X10_hidden_7 (by decide) c1i ?_
  exact loop 12 0 M (Nat.le_refl _) ask.rf (Nat.zero_add _)

set_option maxHeartbeats 4000000 in
set_option maxRecDepth 100000 in
theorem c_mmost {Ω : Ow} {S : Sg} {M : Mm} {z : Ab} (hG : Gr S) (hX : MX M z) (hO : okZ z) {w : Int} (hw : w = 0 ∨ w = 1) : Ct Ω mX10_mostly 8 0 0 1 [vr Ω 87, vi w] S M (fun x S' M' => x = ((maxF 12 (fun t => if w = 0 then bcN (seersN z t) else paidN z (seersN z t))).1 : Int) ∧ S' = S ∧ ask M M') := by
  refine Ct.mk (by decide) (Nat.le_of_ble_eq_true rfl) [some (vr Ω 87), some (vi w), none, none, none, none] (by intro q hq; exact hq) (fun γ hγ hz => ?_)
  obtain ⟨x1, x2, x3, x4, x5⟩ := id hX
  obtain ⟨z1, z2, z3, z4, z5⟩ := id hO
  have o87 := om87 hG
  have hFl : ∀ i, (fun t => if w = 0 then bcN (seersN z t) else paidN z (seersN z t)) i ≤ 60000 := fun i => by
    show (if w = 0 then bcN (seersN z i) else paidN z (seersN z i)) ≤ 60000
    have h1 := bcN_le (seersN z i)
    have h2 := paidN_le (who := seersN z i) hO
    split <;> omega
  have loop : ∀ (k n : Nat) (M1 : Mm) (v5 : Option Value), n + k = 12 → ask M M1 → Go γ Ω mX10_mostly (Zm γ Ω 1 0 0 (fun x S' M' => x = ((maxF 12 (fun t => if w = 0 then bcN (seersN z t) else paidN z (seersN z t))).1 : Int) ∧ S' = S ∧ ask M M')) 0 0 S M1 7 [some (vr Ω 87), some (vi w), some (vi ((maxF n (fun t => if w = 0 then bcN (seersN z t) else paidN z (seersN z t))).1 : Int)), some (vi (maxF n (fun t => if w = 0 then bcN (seersN z t) else paidN z (seersN z t))).2), some (vi (n : Int)), v5] [] := by
    intro k
    induction k with
    | zero =>
      intro n M1 v5 hk ha
      have hn : n = 12 := by omega
      subst hn
      have hr := maxF_rg (f := (fun t => if w = 0 then bcN (seersN z t) else paidN z (seersN z t))) (c := 60000) 12 (fun i _ => hFl i)
      refine g_ild f_X10_mostly_7 rfl ?_
      refine g_const f_X10_mostly_9 ?_
      refine g_icmp_ge f_X10_mostly_11 rfl (by omega) (by omega) (fun hc => ?_) (fun hc => ?_)
      · refine g_ild f_X10_mostly_59 rfl ?_
        refine g_reti f_X10_mostly_60 rfl ?_ (Nat.zero_le _) (Nat.zero_le _)
        exact ⟨rfl, rfl, ha⟩
      · exact absurd (by omega) hc
    | succ k ih =>
      intro n M1 v5 hk ha
      have hr := maxF_rg (f := (fun t => if w = 0 then bcN (seersN z t) else paidN z (seersN z t))) (c := 60000) n (fun i _ => hFl i)
      have hsl := seersN_lt (t := n) hO
      have hms : maxF (n + 1) (fun t => if w = 0 then bcN (seersN z t) else paidN z (seersN z t)) = if (maxF n (fun t => if w = 0 then bcN (seersN z t) else paidN z (seersN z t))).2 < ((if w = 0 then bcN (seersN z n) else paidN z (seersN z n) : Nat) : Int) then (n, ((if w = 0 then bcN (seersN z n) else paidN z (seersN z n) : Nat) : Int)) else maxF n (fun t => if w = 0 then bcN (seersN z t) else paidN z (seersN z t)) := rfl
      have hv := hFl n
      have hih := fun (M2 : Mm) (v5 : Option Value) (h : ask M M2) => ih (n + 1) M2 v5 (by omega) h
      rw [hms] at hih
      change (if w = 0 then bcN (seersN z n) else paidN z (seersN z n)) ≤ 60000 at hv
      have j36 : ∀ (M2 : Mm) (v : Nat), ask M M2 → v = (if w = 0 then bcN (seersN z n) else paidN z (seersN z n)) → Go γ Ω mX10_mostly (Zm γ Ω 1 0 0 (fun x S' M' => x = ((maxF 12 (fun t => if w = 0 then bcN (seersN z t) else paidN z (seersN z t))).1 : Int) ∧ S' = S ∧ ask M M')) 0 0 S M2 36 [some (vr Ω 87), some (vi w), some (vi ((maxF n (fun t => if w = 0 then bcN (seersN z t) else paidN z (seersN z t))).1 : Int)), some (vi (maxF n (fun t => if w = 0 then bcN (seersN z t) else paidN z (seersN z t))).2), some (vi (n : Int)), v5] [vi (v : Int)] := by
        intro M2 v ha2 hv2
        rw [← hv2] at hih hv
        refine g_ist_5 f_X10_mostly_36 (by decide) c1i ?_
        refine g_ild f_X10_mostly_38 rfl ?_
        refine g_ild f_X10_mostly_40 rfl ?_
        refine g_icmp_gt f_X10_mostly_41 rfl (by omega) (by omega) (fun hb => ?_) (fun hb => ?_)
        · refine g_ild f_X10_mostly_47 rfl ?_
          refine g_ist_3 f_X10_mostly_49 (by decide) c1i ?_
          refine g_ild f_X10_mostly_50 rfl ?_
          refine g_ist_2 f_X10_mostly_52 (by decide) c1i ?_
          refine g_inc_4 f_X10_mostly_53 (by decide) c1i ?_
          refine g_goto f_X10_mostly_56 ?_
          rw [if_pos (by omega)] at hih
          exact hih M2 _ ha2
        · refine g_goto f_X10_mostly_44 ?_
          refine g_inc_4 f_X10_mostly_53 (by decide) c1i ?_
          refine g_goto f_X10_mostly_56 ?_
          rw [if_neg (by omega)] at hih
          exact hih M2 _ ha2
      refine g_ild f_X10_mostly_7 rfl ?_
      refine g_const f_X10_mostly_9 ?_
      refine g_icmp_ge f_X10_mostly_11 rfl (by omega) (by omega) (fun hc => ?_) (fun hc => ?_)
      · exact absurd hc (by omega)
      refine g_ild f_X10_mostly_14 rfl ?_
      refine g_if_ne f_X10_mostly_15 rfl (by omega) (fun h0 => ?_) (fun h0 => ?_)
      · refine g_alv f_X10_mostly_30 rfl ?_
        refine g_ild f_X10_mostly_31 rfl ?_
        refine g_cv1 hγ (c_mpays hG (hX.ask ha) hO (t := n) (by omega)) f_X10_mostly_33 mo_X10_pays mv_X10_pays (by assumption) rfl rfl (Nat.le_of_ble_eq_true rfl) ⟨by decide, by decide⟩ ⟨Nat.le_refl _, Nat.le_refl _⟩ (fun x S' M2 hq2 => ?_)
        obtain ⟨rfl, q1, ha2, -⟩ := hq2
        obtain rfl := q1.symm
        first
        | exact j36 M2 _ (ha.tr ha2) (by rw [if_pos (by omega)])
        | exact j36 M2 _ (ha.tr ha2) (by rw [if_neg (by omega)])
      · refine g_alv f_X10_mostly_18 rfl ?_
        refine g_ild f_X10_mostly_19 rfl ?_
        refine g_cv1 hγ (c_mseers hG (hX.ask ha) hO (t := n) (by omega)) f_X10_mostly_21 mo_X10_seers mv_X10_seers (by assumption) rfl rfl (Nat.le_of_ble_eq_true rfl) ⟨by decide, by decide⟩ ⟨Nat.le_refl _, Nat.le_refl _⟩ (fun x S' M2 hq2 => ?_)
        obtain ⟨rfl, q1, ha2⟩ := hq2
        obtain rfl := q1.symm
        refine g_cs1 hγ (c_bitCount (a := seersN z n) (by omega)) f_X10_mostly_24 mo_J6_bitCount_0f7a4 mt_J6_bitCount_0f7a4 rfl (Nat.le_of_ble_eq_true rfl) ⟨by decide, by decide⟩ ⟨Nat.le_refl _, Nat.le_refl _⟩ (fun x S' M3 hq3 => ?_)
        obtain ⟨rfl, q1, q2⟩ := hq3
        obtain rfl := q1.symm
        obtain rfl := q2.symm
        refine g_goto f_X10_mostly_27 ?_
        first
        | exact j36 M2 _ (ha.tr ha2) (by rw [if_pos (by omega)])
        | exact j36 M2 _ (ha.tr ha2) (by rw [if_neg (by omega)])
  refine g_const f_X10_mostly_0 ?_
  refine g_ist_2 f_X10_mostly_1 (by decide) c1i ?_
  refine g_const f_X10_mostly_2 ?_
  refine g_ist_3 f_X10_mostly_3 (by decide) c1i ?_
  refine g_const f_X10_mostly_4 ?_
  refine g_ist_4 f_X10_mostly_5 (by decide) c1i ?_
  exact loop 12 0 M none rfl ask.rf

set_option maxHeartbeats 4000000 in
set_option maxRecDepth 100000 in
theorem c_mpurses {Ω : Ow} {S : Sg} {M : Mm} {z : Ab} (hG : Gr S) (hX : MX M z) (hO : okZ z) : Ct Ω mX10_allPurses 1 0 0 1 [vr Ω 87] S M (fun x S' M' => x = (pursesN z : Int) ∧ S' = S ∧ M' = M) := by
  refine Ct.mk (by decide) (Nat.le_of_ble_eq_true rfl) [some (vr Ω 87), none, none] (by intro q hq; exact hq) (fun γ hγ hz => ?_)
  obtain ⟨x1, x2, x3, x4, x5⟩ := id hX
  obtain ⟨z1, z2, z3, z4, z5⟩ := id hO
  have o87 := om87 hG
  have gM4 : _ = ((91 : Nat) : Int) := grn hG (k := 87) (j := 4) (by decide)
  have aM91 := arn hG (r := 91) (c := 12) (n := 6) (by decide +kernel)
  have loop : ∀ (k n : Nat), n + k = zc z → Go γ Ω mX10_allPurses (Zm γ Ω 1 0 0 (fun x S' M' => x = (pursesN z : Int) ∧ S' = S ∧ M' = M)) 0 0 S M 4 [some (vr Ω 87), some (vi (sumF n (fun p => zP z p 3) : Int)), some (vi (n : Int))] [] := by
    intro k
    induction k with
    | zero =>
      intro n hk
      have hn : n = zc z := by omega
      subst hn
      refine g_ild f_X10_allPurses_4 rfl ?_
      refine g_alv f_X10_allPurses_5 rfl ?_
      refine g_getI f_X10_allPurses_6 (by assumption) ?_
      rw [x1]
      refine g_icmp_ge f_X10_allPurses_9 rfl (by omega) (by omega) (fun hc => ?_) (fun hc => ?_)
      · refine g_ild f_X10_allPurses_27 rfl ?_
        refine g_reti f_X10_allPurses_28 rfl ?_ (Nat.zero_le _) (Nat.zero_le _)
        exact ⟨rfl, rfl, rfl⟩
      · exact absurd (by omega) hc
    | succ k ih =>
      intro n hk
      have hn : n < zc z := by omega
      have r3 := (x4 n hn).2.2.2.1
      have hih := ih (n + 1) (by omega)
      have hs : (sumF (n + 1) (fun p => zP z p 3) : Int) = (sumF n (fun p => zP z p 3) : Int) + (zP z n 3 : Int) := by rw [sumF]; push_cast; rfl
      rw [hs] at hih
      refine g_ild f_X10_allPurses_4 rfl ?_
      refine g_alv f_X10_allPurses_5 rfl ?_
      refine g_getI f_X10_allPurses_6 (by assumption) ?_
      rw [x1]
      refine g_icmp_ge f_X10_allPurses_9 rfl (by omega) (by omega) (fun hc => ?_) (fun hc => ?_)
      · exact absurd hc (by omega)
      refine g_ild f_X10_allPurses_12 rfl ?_
      refine g_alv f_X10_allPurses_13 rfl ?_
      refine g_getR f_X10_allPurses_14 (by assumption) (by assumption) ?_
      refine g_ild f_X10_allPurses_17 rfl ?_
      refine g_ial f_X10_allPurses_18 (by assumption) _ rfl (by omega) ?_
      rw [r3]
      refine g_iadd f_X10_allPurses_19 ?_
      refine g_ist_1 f_X10_allPurses_20 (by decide) c1v ?_
      refine g_inc_2 f_X10_allPurses_21 (by decide) c1i ?_
      refine g_goto f_X10_allPurses_24 ?_
      exact hih
  refine g_const f_X10_allPurses_0 ?_
  refine g_ist_1 f_X10_allPurses_1 (by decide) c1v ?_
  refine g_const f_X10_allPurses_2 ?_
  refine g_ist_2 f_X10_allPurses_3 (by decide) c1i ?_
  exact loop (zc z) 0 (by omega)

set_option maxHeartbeats 4000000 in
set_option maxRecDepth 100000 in
theorem c_mday {Ω : Ow} {S : Sg} {M : Mm} {z : Ab} (hG : Gr S) (hX : MX M z) (hO : okZ z) : Ct Ω mX10_goesDay 1 0 0 0 [vr Ω 87] S M (fun _ S' M' => S' = S ∧ stf M M' ∧ MX M' (walkZ z 1)) := by
  refine Ct.mk (by decide) (Nat.le_of_ble_eq_true rfl) [some (vr Ω 87), none] (by intro q hq; exact hq) (fun γ hγ hz => ?_)
  obtain ⟨x1, x2, x3, x4, x5⟩ := id hX
  obtain ⟨z1, z2, z3, z4, z5⟩ := id hO
  have o87 := om87 hG
  have gM1 : _ = ((88 : Nat) : Int) := grn hG (k := 87) (j := 1) (by decide)
  have aM88 := arn hG (r := 88) (c := 12) (n := 6) (by decide +kernel)
  have gM2 : _ = ((89 : Nat) : Int) := grn hG (k := 87) (j := 2) (by decide)
  have aM89 := arn hG (r := 89) (c := 12) (n := 6) (by decide +kernel)
  have gM3 : _ = ((90 : Nat) : Int) := grn hG (k := 87) (j := 3) (by decide)
  have aM90 := arn hG (r := 90) (c := 12) (n := 6) (by decide +kernel)
  have gM5 : _ = ((92 : Nat) : Int) := grn hG (k := 87) (j := 5) (by decide)
  have aM92 := arn hG (r := 92) (c := 12) (n := 6) (by decide +kernel)
  have loop : ∀ (k n : Nat) (M1 : Mm), n + k = zc z → stf M M1 → MX M1 (walkU z 1 n) → Go γ Ω mX10_goesDay (Zm γ Ω 0 0 0 (fun _ S' M' => S' = S ∧ stf M M' ∧ MX M' (walkZ z 1))) 0 0 S M1 2 [some (vr Ω 87), some (vi (n : Int))] [] := by
    intro k
    induction k with
    | zero =>
      intro n M1 hk ha hX1
      have hn : n = zc z := by omega
      subst hn
      have y1 : M1 87 0 = (zc z : Int) := hX1.1
      have y3 : M1 87 8 = (zd z : Int) := hX1.2.2.1
      refine g_ild f_X10_goesDay_2 rfl ?_
      refine g_alv f_X10_goesDay_3 rfl ?_
      refine g_getI f_X10_goesDay_4 (by assumption) ?_
      rw [y1]
      refine g_icmp_ge f_X10_goesDay_7 rfl (by omega) (by omega) (fun hc => ?_) (fun hc => ?_)
      · refine g_alv f_X10_goesDay_69 rfl ?_
        refine g_dup f_X10_goesDay_70 rfl ?_
        refine g_getI f_X10_goesDay_71 (by assumption) ?_
        rw [y3]
        refine g_const f_X10_goesDay_74 ?_
        refine g_iadd f_X10_goesDay_75 ?_
        refine g_as (show (zd z : Int) + 1 = ((zd z + 1 : Nat) : Int) by omega) ?_
        refine g_putI f_X10_goesDay_76 rfl (by assumption) ?_
        refine g_ret0 (κ := 0) f_X10_goesDay_79 rfl 0 ?_ (Nat.zero_le _) (Nat.zero_le _)
        refine ⟨rfl, ha.up0 (by omega), (hX1.day (zd z + 1)).cut rfl rfl rfl rfl (fun p hp a => ?_)⟩
        have hp1 : p < zc z := hp
        show (if a = 2 then _ else _) = (if p < zc z ∧ a = 2 then _ else _)
        by_cases h : a = 2
        · rw [if_pos h, if_pos ⟨hp1, h⟩]
        · rw [if_neg h, if_neg (fun q => h q.2)]
      · exact absurd (by omega) hc
    | succ k ih =>
      intro n M1 hk ha hX1
      have hn : n < zc z := by omega
      have y1 : M1 87 0 = (zc z : Int) := hX1.1
      obtain ⟨r0, r1, r2, r3, r4, -⟩ := hX1.2.2.2.1 n hn
      rw [walkU_n] at r0 r1 r2 r3 r4
      obtain ⟨b1, b2, b3, b4, b5, b6⟩ := z4 n hn
      have hih := ih (n + 1)
      rw [walkU_S] at hih
      have hst : ¬ (zP z n 4 = 0 ∧ (zP z n 0 = 1 ∨ zP z n 0 = 4)) → MX M1 (setP (walkU z 1 n) n 2 (walkP (zP z n) 1)) := fun h => by
        have e : walkP (zP z n) 1 = zP (walkU z 1 n) n 2 := by rw [walkU_n]; unfold walkP; rw [if_neg h]
        rw [e, setP_id]
        exact hX1
      have hmv : (zP z n 4 = 0 ∧ (zP z n 0 = 1 ∨ zP z n 0 = 4)) → walkP (zP z n) 1 = (zP z n 2 + zP z n 1 % 3) % 12 := fun h => by unfold walkP; rw [if_pos h, Nat.one_mul]
      refine g_ild f_X10_goesDay_2 rfl ?_
      refine g_alv f_X10_goesDay_3 rfl ?_
      refine g_getI f_X10_goesDay_4 (by assumption) ?_
      rw [y1]
      refine g_icmp_ge f_X10_goesDay_7 rfl (by omega) (by omega) (fun hc => ?_) (fun hc => ?_)
      · exact absurd hc (by omega)
      refine g_alv f_X10_goesDay_10 rfl ?_
      refine g_getR f_X10_goesDay_11 (by assumption) (by assumption) ?_
      refine g_ild f_X10_goesDay_14 rfl ?_
      refine g_ial f_X10_goesDay_15 (by assumption) _ rfl (by omega) ?_
      rw [r4]
      refine g_if_ne f_X10_goesDay_16 rfl (by omega) (fun hg => ?_) (fun hg => ?_)
      · refine g_inc_1 f_X10_goesDay_63 (by decide) c1v ?_
        refine g_goto f_X10_goesDay_66 ?_
        exact hih M1 (by omega) ha (hst (by omega))
      · refine g_alv f_X10_goesDay_19 rfl ?_
        refine g_getR f_X10_goesDay_20 (by assumption) (by assumption) ?_
        refine g_ild f_X10_goesDay_23 rfl ?_
        refine g_ial f_X10_goesDay_24 (by assumption) _ rfl (by omega) ?_
        rw [r0]
        refine g_const f_X10_goesDay_25 ?_
        refine g_icmp_eq f_X10_goesDay_26 rfl (by omega) (by omega) (fun hk1 => ?_) (fun hk1 => ?_)
        · refine g_alv f_X10_goesDay_39 rfl ?_
          refine g_getR f_X10_goesDay_40 (by assumption) (by assumption) ?_
          refine g_ild f_X10_goesDay_43 rfl ?_
          refine g_alv f_X10_goesDay_44 rfl ?_
          refine g_getR f_X10_goesDay_45 (by assumption) (by assumption) ?_
          refine g_ild f_X10_goesDay_48 rfl ?_
          refine g_ial f_X10_goesDay_49 (by assumption) _ rfl (by omega) ?_
          rw [r2]
          refine g_alv f_X10_goesDay_50 rfl ?_
          refine g_getR f_X10_goesDay_51 (by assumption) (by assumption) ?_
          refine g_ild f_X10_goesDay_54 rfl ?_
          refine g_ial f_X10_goesDay_55 (by assumption) _ rfl (by omega) ?_
          rw [r1]
          refine g_const f_X10_goesDay_56 ?_
          refine g_irem f_X10_goesDay_57 (by omega) (by omega) ?_
          refine g_iadd f_X10_goesDay_58 ?_
          refine g_const f_X10_goesDay_59 ?_
          refine g_irem f_X10_goesDay_61 (by omega) (by omega) ?_
          refine g_as (show ((zP z n 2 : Int) + (zP z n 1 : Int) % 3) % 12 = ((walkP (zP z n) 1 : Nat) : Int) by rw [hmv (by omega)]; omega) ?_
          refine g_ias f_X10_goesDay_62 (by assumption) _ rfl (by omega) ?_
          refine g_inc_1 f_X10_goesDay_63 (by decide) c1v ?_
          refine g_goto f_X10_goesDay_66 ?_
          exact hih _ (by omega) (ha.upR ⟨by decide, by decide⟩) (MX_set (a := 2) hX1 (by decide))
        · refine g_alv f_X10_goesDay_29 rfl ?_
          refine g_getR f_X10_goesDay_30 (by assumption) (by assumption) ?_
          refine g_ild f_X10_goesDay_33 rfl ?_
          refine g_ial f_X10_goesDay_34 (by assumption) _ rfl (by omega) ?_
          rw [r0]
          refine g_const f_X10_goesDay_35 ?_
          refine g_icmp_ne f_X10_goesDay_36 rfl (by omega) (by omega) (fun hk4 => ?_) (fun hk4 => ?_)
          · refine g_inc_1 f_X10_goesDay_63 (by decide) c1v ?_
            refine g_goto f_X10_goesDay_66 ?_
            exact hih M1 (by omega) ha (hst (by omega))
          · refine g_alv f_X10_goesDay_39 rfl ?_
            refine g_getR f_X10_goesDay_40 (by assumption) (by assumption) ?_
            refine g_ild f_X10_goesDay_43 rfl ?_
            refine g_alv f_X10_goesDay_44 rfl ?_
            refine g_getR f_X10_goesDay_45 (by assumption) (by assumption) ?_
            refine g_ild f_X10_goesDay_48 rfl ?_
            refine g_ial f_X10_goesDay_49 (by assumption) _ rfl (by omega) ?_
            rw [r2]
            refine g_alv f_X10_goesDay_50 rfl ?_
            refine g_getR f_X10_goesDay_51 (by assumption) (by assumption) ?_
            refine g_ild f_X10_goesDay_54 rfl ?_
            refine g_ial f_X10_goesDay_55 (by assumption) _ rfl (by omega) ?_
            rw [r1]
            refine g_const f_X10_goesDay_56 ?_
            refine g_irem f_X10_goesDay_57 (by omega) (by omega) ?_
            refine g_iadd f_X10_goesDay_58 ?_
            refine g_const f_X10_goesDay_59 ?_
            refine g_irem f_X10_goesDay_61 (by omega) (by omega) ?_
            refine g_as (show ((zP z n 2 : Int) + (zP z n 1 : Int) % 3) % 12 = ((walkP (zP z n) 1 : Nat) : Int) by rw [hmv (by omega)]; omega) ?_
            refine g_ias f_X10_goesDay_62 (by assumption) _ rfl (by omega) ?_
            refine g_inc_1 f_X10_goesDay_63 (by decide) c1v ?_
            refine g_goto f_X10_goesDay_66 ?_
            exact hih _ (by omega) (ha.upR ⟨by decide, by decide⟩) (MX_set (a := 2) hX1 (by decide))
  refine g_const f_X10_goesDay_0 ?_
  refine g_ist_1 f_X10_goesDay_1 (by decide) c1v ?_
  exact loop (zc z) 0 M (by omega) stf.rf (by rw [walkU_0]; exact hX)
