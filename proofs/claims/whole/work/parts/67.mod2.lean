/-! contracts: the model's sum, fine, reach, sight, seers -/
set_option maxHeartbeats 4000000 in
set_option maxRecDepth 100000 in
theorem c_msum {Ω : Ow} {S : Sg} {M : Mm} {z : Ab} (hG : Gr S) (hX : MX M z) (hO : okZ z) {p : Nat} (hp : p < zc z) : Ct Ω mX10_sum 3 0 0 1 [vr Ω 87, vi (p : Int)] S M (fun x S' M' => x = sumL (sbj (zP z p) p (zd z)) (zL z) ∧ S' = S ∧ ∀ k, k ≠ 101 → M' k = M k) := by
  refine Ct.mk (by decide) (Nat.le_of_ble_eq_true rfl) [some (vr Ω 87), some (vi (p : Int)), none, none, none] (by intro q hq; exact hq) (fun γ hγ hz => ?_)
  obtain ⟨x1, x2, x3, x4, x5⟩ := id hX
  obtain ⟨z1, z2, z3, z4, z5⟩ := id hO
  have o87 := om87 hG
  have gM17 : _ = ((95 : Nat) : Int) := grn hG (k := 87) (j := 17) (by decide)
  have aM95 := arn hG (r := 95) (c := 12) (n := 6) (by decide +kernel)
  have gM18 : _ = ((96 : Nat) : Int) := grn hG (k := 87) (j := 18) (by decide)
  have aM96 := arn hG (r := 96) (c := 12) (n := 61) (by decide +kernel)
  have gM19 : _ = ((97 : Nat) : Int) := grn hG (k := 87) (j := 19) (by decide)
  have aM97 := arn hG (r := 97) (c := 12) (n := 61) (by decide +kernel)
  rcases x5 with ⟨l1, l2⟩ | ⟨h, K, h6, hK, hh, lt1, lt2⟩
  · refine g_const f_X10_sum_0 ?_
    refine g_ist_2 f_X10_sum_1 (by decide) c1i ?_
    refine g_const f_X10_sum_2 ?_
    refine g_ist_3 f_X10_sum_3 (by decide) c1i ?_
    refine g_alv f_X10_sum_4 rfl ?_
    refine g_getI f_X10_sum_5 (by assumption) ?_
    rw [l1]
    refine g_const f_X10_sum_8 ?_
    refine g_icmp_eq f_X10_sum_9 rfl (by omega) (by omega) (fun hc => ?_) (fun hc => ?_)
    · refine g_ild f_X10_sum_94 rfl ?_
      refine g_reti f_X10_sum_95 rfl ?_ (Nat.zero_le _) (Nat.zero_le _)
      exact ⟨by rw [l2]; rfl, rfl, fun _ _ => rfl⟩
    · exact absurd (by omega) hc
  · have hLl : (zL z).length ≤ 10 := z5.1
    have loop : ∀ (k n : Nat) (M1 : Mm) (sm : Int) (v4 : Option Value), n + k = (zL z).length → sm = ((zL z).take n).foldl (clV (sbj (zP z p) p (zd z))) 2 → (2 - 99 * n ≤ sm ∧ sm ≤ 2 + 99 * n) → (∀ k, k ≠ 101 → M1 k = M k) → Go γ Ω mX10_sum (Zm γ Ω 1 0 0 (fun x S' M' => x = sumL (sbj (zP z p) p (zd z)) (zL z) ∧ S' = S ∧ ∀ k, k ≠ 101 → M' k = M k)) 0 0 S M1 4 [some (vr Ω 87), some (vi (p : Int)), some (vi sm), some (vi (n : Int)), v4] [] := by
      intro k
      induction k with
      | zero =>
        intro n M1 sm v4 hk hsm hb hM
        have hM87 := hM 87 (by decide)
        have hM95 := hM 95 (by decide)
        rw [List.take_of_length_le (by omega)] at hsm
        refine g_alv f_X10_sum_4 rfl ?_
        refine g_getI f_X10_sum_5 (by assumption) ?_
        rw [hM87, hh]
        refine g_const f_X10_sum_8 ?_
        refine g_icmp_eq f_X10_sum_9 rfl (by omega) (by omega) (fun hc => ?_) (fun hc => ?_)
        · exact absurd hc (by omega)
        refine g_ild f_X10_sum_12 rfl ?_
        refine g_alv f_X10_sum_13 rfl ?_
        refine g_getR f_X10_sum_14 (by assumption) (by assumption) ?_
        refine g_alv f_X10_sum_17 rfl ?_
        refine g_getI f_X10_sum_18 (by assumption) ?_
        rw [hM87, hh]
        refine g_ial f_X10_sum_21 (by assumption) h (by omega) (by omega) ?_
        rw [hM95, lt1]
        refine g_icmp_ge f_X10_sum_22 rfl (by omega) (by omega) (fun hc2 => ?_) (fun hc2 => ?_)
        · refine g_ild f_X10_sum_94 rfl ?_
          refine g_reti f_X10_sum_95 rfl ?_ (Nat.zero_le _) (Nat.zero_le _)
          exact ⟨hsm, rfl, hM⟩
        · exact absurd (by omega) hc2
      | succ k ih =>
        intro n M1 sm v4 hk hsm hb hM
        have hn : n < (zL z).length := by omega
        obtain ⟨e1, e2, b, e3, e4, e5, e6⟩ := lt2 n hn
        have hok := z5.2.1 (zL z)[n] (List.getElem_mem hn)
        have hok1 := hok.1
        have hM87 := hM 87 (by decide)
        have hM95 := hM 95 (by decide)
        have hM96 := hM 96 (by decide)
        have hM97 := hM 97 (by decide)
        have hM98 := hM 98 (by decide)
        have hM99 := hM 99 (by decide)
        have hM100 := hM 100 (by decide)
        have nx : ∀ (M2 : Mm) (sm2 : Int) (v4 : Option Value), sm2 = clV (sbj (zP z p) p (zd z)) sm (zL z)[n] → (∀ k, k ≠ 101 → M2 k = M k) → Go γ Ω mX10_sum (Zm γ Ω 1 0 0 (fun x S' M' => x = sumL (sbj (zP z p) p (zd z)) (zL z) ∧ S' = S ∧ ∀ k, k ≠ 101 → M' k = M k)) 0 0 S M2 88 [some (vr Ω 87), some (vi (p : Int)), some (vi sm2), some (vi (n : Int)), v4] [] := by
          intro M2 sm2 v4 hs2 hM2
          refine g_inc_3 f_X10_sum_88 (by decide) c1i ?_
          refine g_goto f_X10_sum_91 ?_
          refine ih (n + 1) M2 sm2 v4 (by omega) (by rw [hs2, hsm, List.take_succ, List.getElem?_eq_getElem hn, List.foldl_append]; rfl) ?_ hM2
          have hq := hok.2.1
          rw [hs2]
          unfold clV
          split <;> (try split) <;> omega
        refine g_alv f_X10_sum_4 rfl ?_
        refine g_getI f_X10_sum_5 (by assumption) ?_
        rw [hM87, hh]
        refine g_const f_X10_sum_8 ?_
        refine g_icmp_eq f_X10_sum_9 rfl (by omega) (by omega) (fun hc => ?_) (fun hc => ?_)
        · exact absurd hc (by omega)
        refine g_ild f_X10_sum_12 rfl ?_
        refine g_alv f_X10_sum_13 rfl ?_
        refine g_getR f_X10_sum_14 (by assumption) (by assumption) ?_
        refine g_alv f_X10_sum_17 rfl ?_
        refine g_getI f_X10_sum_18 (by assumption) ?_
        rw [hM87, hh]
        refine g_ial f_X10_sum_21 (by assumption) h (by omega) (by omega) ?_
        rw [hM95, lt1]
        refine g_icmp_ge f_X10_sum_22 rfl (by omega) (by omega) (fun hc2 => ?_) (fun hc2 => ?_)
        · exact absurd hc2 (by omega)
        refine g_const f_X10_sum_25 ?_
        refine g_alv f_X10_sum_27 rfl ?_
        refine g_getI f_X10_sum_28 (by assumption) ?_
        rw [hM87, hh]
        refine g_imul f_X10_sum_31 ?_
        refine g_ild f_X10_sum_32 rfl ?_
        refine g_iadd f_X10_sum_33 ?_
        refine g_as (show (10 : Int) * (h : Int) + (n : Int) = ((10 * h + n : Nat) : Int) by omega) ?_
        refine g_ist_4 f_X10_sum_34 (by decide) c1i ?_
        refine g_alv f_X10_sum_36 rfl ?_
        refine g_getR f_X10_sum_37 (by assumption) (by assumption) ?_
        refine g_ild f_X10_sum_40 rfl ?_
        refine g_ial f_X10_sum_42 (by assumption) (10 * h + n) (by omega) (by omega) ?_
        rw [hM96, e1]
        refine g_const f_X10_sum_43 ?_
        refine g_icmp_ge f_X10_sum_44 rfl (by have := hok.1; omega) (by have := hok.1; omega) (fun hw => ?_) (fun hw => ?_)
        · exact nx M1 sm _ (by unfold clV; rw [if_neg (by omega)]) hM
        · refine g_alv f_X10_sum_47 rfl ?_
          refine g_ild f_X10_sum_48 rfl ?_
          refine g_ild f_X10_sum_49 rfl ?_
          refine g_cv1 hγ (c_mtrue hG (hX.ask (fun k a _ => hM k a)) hO hp (c := 10 * h + n) (b := b) (cs := (zL z)[n].2.2) (by omega) (by rw [hM98]; exact e3) (by rw [hM99]; exact e4) (by omega) (fun i hi => by rw [hM100]; exact e6 i hi) (hok.2.2 (by omega))) f_X10_sum_51 mo_X10_isTrue mv_X10_isTrue (by assumption) rfl rfl (Nat.le_of_ble_eq_true rfl) ⟨by decide, by decide⟩ ⟨Nat.le_refl _, Nat.le_refl _⟩ (fun x S' M3 hq2 => ?_)
          obtain ⟨rfl, q1, hM3⟩ := hq2
          obtain rfl := q1.symm
          replace hM3 : ∀ k, k ≠ 101 → M3 k = M k := fun k a => (hM3 k a).trans (hM k a)
          have h396 := hM3 96 (by decide)
          have h397 := hM3 97 (by decide)
          have htn : (holdsC (sbj (zP z p) p (zd z)) (zL z)[n].2.2).toNat = if holdsC (sbj (zP z p) p (zd z)) (zL z)[n].2.2 = true then 1 else 0 := by cases holdsC (sbj (zP z p) p (zd z)) (zL z)[n].2.2 <;> rfl
          refine g_if_eq f_X10_sum_54 rfl (by cases holdsC (sbj (zP z p) p (zd z)) (zL z)[n].2.2 <;> decide) (fun hh2 => ?_) (fun hh2 => ?_)
          · refine nx M3 sm _ ?_ hM3
            unfold clV
            rw [if_neg]
            rintro ⟨-, q⟩
            rw [if_pos q] at htn
            omega
          · refine g_ild f_X10_sum_57 rfl ?_
            refine g_alv f_X10_sum_58 rfl ?_
            refine g_getR f_X10_sum_59 (by assumption) (by assumption) ?_
            refine g_ild f_X10_sum_62 rfl ?_
            refine g_ial f_X10_sum_64 (by assumption) (10 * h + n) (by omega) (by omega) ?_
            rw [h396, e1]
            refine g_if_ne f_X10_sum_65 rfl (by have := hok.1; omega) (fun hz1 => ?_) (fun hz1 => ?_)
            · refine g_alv f_X10_sum_78 rfl ?_
              refine g_getR f_X10_sum_79 (by assumption) (by assumption) ?_
              refine g_ild f_X10_sum_82 rfl ?_
              refine g_ial f_X10_sum_84 (by assumption) (10 * h + n) (by omega) (by omega) ?_
              rw [h397, e2]
              refine g_ineg f_X10_sum_85 ?_
              refine g_iadd f_X10_sum_86 ?_
              refine g_ist_2 f_X10_sum_87 (by decide) c1i ?_
              refine nx M3 _ _ ?_ hM3
              have hy : holdsC (sbj (zP z p) p (zd z)) (zL z)[n].2.2 = true := by
                by_cases q : holdsC (sbj (zP z p) p (zd z)) (zL z)[n].2.2 = true
                · exact q
                · rw [if_neg q] at htn; omega
              unfold clV
              rw [if_pos ⟨by omega, hy⟩]
              rw [if_neg (by omega)]
              omega
            · refine g_alv f_X10_sum_68 rfl ?_
              refine g_getR f_X10_sum_69 (by assumption) (by assumption) ?_
              refine g_ild f_X10_sum_72 rfl ?_
              refine g_ial f_X10_sum_74 (by assumption) (10 * h + n) (by omega) (by omega) ?_
              rw [h397, e2]
              refine g_goto f_X10_sum_75 ?_
              refine g_iadd f_X10_sum_86 ?_
              refine g_ist_2 f_X10_sum_87 (by decide) c1i ?_
              refine nx M3 _ _ ?_ hM3
              have hy : holdsC (sbj (zP z p) p (zd z)) (zL z)[n].2.2 = true := by
                by_cases q : holdsC (sbj (zP z p) p (zd z)) (zL z)[n].2.2 = true
                · exact q
                · rw [if_neg q] at htn; omega
              unfold clV
              rw [if_pos ⟨by omega, hy⟩]
              rw [if_pos (by omega)]
    refine g_const f_X10_sum_0 ?_
    refine g_ist_2 f_X10_sum_1 (by decide) c1i ?_
    refine g_const f_X10_sum_2 ?_
    refine g_ist_3 f_X10_sum_3 (by decide) c1i ?_
    exact loop (zL z).length 0 M 2 none (by omega) rfl (by omega) (fun _ _ => rfl)

set_option maxHeartbeats 4000000 in
set_option maxRecDepth 100000 in
theorem c_mfine {Ω : Ow} {S : Sg} {M : Mm} {z : Ab} (hG : Gr S) (hX : MX M z) (hO : okZ z) : Ct Ω mX10_fine 1 0 0 1 [vr Ω 87] S M (fun x S' M' => x = (fineL (zL z) : Int) ∧ S' = S ∧ M' = M) := by
  refine Ct.mk (by decide) (Nat.le_of_ble_eq_true rfl) [some (vr Ω 87), none, none] (by intro q hq; exact hq) (fun γ hγ hz => ?_)
  obtain ⟨x1, x2, x3, x4, x5⟩ := id hX
  obtain ⟨z1, z2, z3, z4, z5⟩ := id hO
  have o87 := om87 hG
  have gM17 : _ = ((95 : Nat) : Int) := grn hG (k := 87) (j := 17) (by decide)
  have aM95 := arn hG (r := 95) (c := 12) (n := 6) (by decide +kernel)
  have gM18 : _ = ((96 : Nat) : Int) := grn hG (k := 87) (j := 18) (by decide)
  have aM96 := arn hG (r := 96) (c := 12) (n := 61) (by decide +kernel)
  have gM19 : _ = ((97 : Nat) : Int) := grn hG (k := 87) (j := 19) (by decide)
  have aM97 := arn hG (r := 97) (c := 12) (n := 61) (by decide +kernel)
  rcases x5 with ⟨l1, l2⟩ | ⟨h, K, h6, hK, hh, lt1, lt2⟩
  · refine g_const f_X10_fine_0 ?_
    refine g_ist_1 f_X10_fine_2 (by decide) c1v ?_
    refine g_const f_X10_fine_3 ?_
    refine g_ist_2 f_X10_fine_4 (by decide) c1i ?_
    refine g_alv f_X10_fine_5 rfl ?_
    refine g_getI f_X10_fine_6 (by assumption) ?_
    rw [l1]
    refine g_const f_X10_fine_9 ?_
    refine g_icmp_eq f_X10_fine_10 rfl (by omega) (by omega) (fun hc => ?_) (fun hc => ?_)
    · refine g_ild f_X10_fine_65 rfl ?_
      refine g_reti f_X10_fine_66 rfl ?_ (Nat.zero_le _) (Nat.zero_le _)
      exact ⟨by rw [l2]; rfl, rfl, rfl⟩
    · exact absurd (by omega) hc
  · have hLl : (zL z).length ≤ 10 := z5.1
    have loop : ∀ (k n f : Nat), n + k = (zL z).length → f = ((zL z).take n).foldl (fun (acc : Nat) (q : Nat × Nat × List Int) => if q.1 = 2 then q.2.1 else acc) 20 → Go γ Ω mX10_fine (Zm γ Ω 1 0 0 (fun x S' M' => x = (fineL (zL z) : Int) ∧ S' = S ∧ M' = M)) 0 0 S M 5 [some (vr Ω 87), some (vi (f : Int)), some (vi (n : Int))] [] := by
      intro k
      induction k with
      | zero =>
        intro n f hk hf
        rw [List.take_of_length_le (by omega)] at hf
        refine g_alv f_X10_fine_5 rfl ?_
        refine g_getI f_X10_fine_6 (by assumption) ?_
        rw [hh]
        refine g_const f_X10_fine_9 ?_
        refine g_icmp_eq f_X10_fine_10 rfl (by omega) (by omega) (fun hc => ?_) (fun hc => ?_)
        · exact absurd hc (by omega)
        refine g_ild f_X10_fine_13 rfl ?_
        refine g_alv f_X10_fine_14 rfl ?_
        refine g_getR f_X10_fine_15 (by assumption) (by assumption) ?_
        refine g_alv f_X10_fine_18 rfl ?_
        refine g_getI f_X10_fine_19 (by assumption) ?_
        rw [hh]
        refine g_ial f_X10_fine_22 (by assumption) h (by omega) (by omega) ?_
        rw [lt1]
        refine g_icmp_ge f_X10_fine_23 rfl (by omega) (by omega) (fun hc2 => ?_) (fun hc2 => ?_)
        · refine g_ild f_X10_fine_65 rfl ?_
          refine g_reti f_X10_fine_66 rfl ?_ (Nat.zero_le _) (Nat.zero_le _)
          exact ⟨by rw [hf]; rfl, rfl, rfl⟩
        · exact absurd (by omega) hc2
      | succ k ih =>
        intro n f hk hf
        have hn : n < (zL z).length := by omega
        obtain ⟨e1, e2, -⟩ := lt2 n hn
        have hok := z5.2.1 (zL z)[n] (List.getElem_mem hn)
        have hs : ((zL z).take (n + 1)).foldl (fun (acc : Nat) (q : Nat × Nat × List Int) => if q.1 = 2 then q.2.1 else acc) 20 = (if (zL z)[n].1 = 2 then (zL z)[n].2.1 else f) := by rw [hf, List.take_succ, List.getElem?_eq_getElem hn, List.foldl_append]; rfl
        have hok1 := hok.1
        refine g_alv f_X10_fine_5 rfl ?_
        refine g_getI f_X10_fine_6 (by assumption) ?_
        rw [hh]
        refine g_const f_X10_fine_9 ?_
        refine g_icmp_eq f_X10_fine_10 rfl (by omega) (by omega) (fun hc => ?_) (fun hc => ?_)
        · exact absurd hc (by omega)
        refine g_ild f_X10_fine_13 rfl ?_
        refine g_alv f_X10_fine_14 rfl ?_
        refine g_getR f_X10_fine_15 (by assumption) (by assumption) ?_
        refine g_alv f_X10_fine_18 rfl ?_
        refine g_getI f_X10_fine_19 (by assumption) ?_
        rw [hh]
        refine g_ial f_X10_fine_22 (by assumption) h (by omega) (by omega) ?_
        rw [lt1]
        refine g_icmp_ge f_X10_fine_23 rfl (by omega) (by omega) (fun hc2 => ?_) (fun hc2 => ?_)
        · exact absurd hc2 (by omega)
        refine g_alv f_X10_fine_26 rfl ?_
        refine g_getR f_X10_fine_27 (by assumption) (by assumption) ?_
        refine g_const f_X10_fine_30 ?_
        refine g_alv f_X10_fine_32 rfl ?_
        refine g_getI f_X10_fine_33 (by assumption) ?_
        rw [hh]
        refine g_imul f_X10_fine_36 ?_
        refine g_ild f_X10_fine_37 rfl ?_
        refine g_iadd f_X10_fine_38 ?_
        refine g_as (show (10 : Int) * (h : Int) + (n : Int) = ((10 * h + n : Nat) : Int) by omega) ?_
        refine g_ial f_X10_fine_39 (by assumption) (10 * h + n) (by omega) (by omega) ?_
        rw [e1]
        refine g_const f_X10_fine_40 ?_
        refine g_icmp_ne f_X10_fine_41 rfl (by have := hok.1; omega) (by have := hok.1; omega) (fun hw => ?_) (fun hw => ?_)
        · refine g_inc_2 f_X10_fine_59 (by decide) c1i ?_
          refine g_goto f_X10_fine_62 ?_
          exact ih (n + 1) _ (by omega) (by rw [hs, if_neg (by omega)])
        · refine g_alv f_X10_fine_44 rfl ?_
          refine g_getR f_X10_fine_45 (by assumption) (by assumption) ?_
          refine g_const f_X10_fine_48 ?_
          refine g_alv f_X10_fine_50 rfl ?_
          refine g_getI f_X10_fine_51 (by assumption) ?_
          rw [hh]
          refine g_imul f_X10_fine_54 ?_
          refine g_ild f_X10_fine_55 rfl ?_
          refine g_iadd f_X10_fine_56 ?_
          refine g_as (show (10 : Int) * (h : Int) + (n : Int) = ((10 * h + n : Nat) : Int) by omega) ?_
          refine g_ial f_X10_fine_57 (by assumption) (10 * h + n) (by omega) (by omega) ?_
          rw [e2]
          refine g_ist_1 f_X10_fine_58 (by decide) c1v ?_
          refine g_inc_2 f_X10_fine_59 (by decide) c1i ?_
          refine g_goto f_X10_fine_62 ?_
          exact ih (n + 1) _ (by omega) (by rw [hs, if_pos (by omega)])
    refine g_const f_X10_fine_0 ?_
    refine g_ist_1 f_X10_fine_2 (by decide) c1v ?_
    refine g_const f_X10_fine_3 ?_
    refine g_ist_2 f_X10_fine_4 (by decide) c1i ?_
    exact loop (zL z).length 0 20 (by omega) rfl

set_option maxHeartbeats 4000000 in
set_option maxRecDepth 100000 in
theorem c_mreach {Ω : Ow} {S : Sg} {M : Mm} {z : Ab} (hG : Gr S) (hX : MX M z) (hO : okZ z) {p : Nat} (hp : p < zc z) : Ct Ω mX10_reach 4 0 0 1 [vr Ω 87, vi (p : Int)] S M (fun x S' M' => x = reachN z p ∧ S' = S ∧ ∀ k, k ≠ 101 → M' k = M k) := by
  refine Ct.mk (by decide) (Nat.le_of_ble_eq_true rfl) [some (vr Ω 87), some (vi (p : Int)), none] (by intro q hq; exact hq) (fun γ hγ hz => ?_)
  obtain ⟨x1, x2, x3, x4, x5⟩ := id hX
  obtain ⟨z1, z2, z3, z4, z5⟩ := id hO
  have hp6 : p < 6 := by omega
  obtain ⟨r0, r1, r2, r3, r4, r5⟩ := id (x4 p hp)
  obtain ⟨b1, b2, b3, b4, b5, b6⟩ := id (z4 p hp)
  have o87 := om87 hG
  have gM1 : _ = ((88 : Nat) : Int) := grn hG (k := 87) (j := 1) (by decide)
  have aM88 := arn hG (r := 88) (c := 12) (n := 6) (by decide +kernel)
  have gM6 : _ = ((93 : Nat) : Int) := grn hG (k := 87) (j := 6) (by decide)
  have aM93 := arn hG (r := 93) (c := 12) (n := 24) (by decide +kernel)
  have hsr : -1000 ≤ sumL (sbj (zP z p) p (zd z)) (zL z) ∧ sumL (sbj (zP z p) p (zd z)) (zL z) ≤ 1000 := by have h1 := sumL_rg (s := (sbj (zP z p) p (zd z))) (zL z) 2 z5.2.1; have h2 := z5.1; unfold sumL; omega
  refine g_alv f_X10_reach_0 rfl ?_
  refine g_ild f_X10_reach_1 rfl ?_
  refine g_cv1 hγ (c_msum hG hX hO hp) f_X10_reach_2 mo_X10_sum mv_X10_sum (by assumption) rfl rfl (Nat.le_of_ble_eq_true rfl) ⟨by decide, by decide⟩ ⟨Nat.le_refl _, Nat.le_refl _⟩ (fun sm S' M3 hq2 => ?_)
  obtain ⟨hsm, q1, hM⟩ := hq2
  obtain rfl := q1.symm
  rw [← hsm] at hsr
  have htd := tdiv2 sm hsr
  have hM87 := hM 87 (by decide)
  have hM88 := hM 88 (by decide)
  have hM93 := hM 93 (by decide)
  have j96 : ∀ v : Int, -10000 ≤ v ∧ v ≤ 10000 → v = (if zP z p 0 = 3 then 2 * sm else if zP z p 0 = 6 then 2 * sm + ((zP z p (5 + zd z % 4) : Nat) : Int) else if zP z p 0 = 5 then Int.tdiv sm 2 else if zP z p 0 = 4 ∧ zd z % 2 = 1 then 0 else sm) → Go γ Ω mX10_reach (Zm γ Ω 1 0 0 (fun x S' M' => x = reachN z p ∧ S' = S ∧ ∀ k, k ≠ 101 → M' k = M k)) 0 0 S M3 96 [some (vr Ω 87), some (vi (p : Int)), some (vi v)] [] := by
    intro v hv1 hv2
    refine g_const f_X10_reach_96 ?_
    refine g_const f_X10_reach_97 ?_
    refine g_ild f_X10_reach_99 rfl ?_
    refine g_mn hγ (by decide) ⟨Nat.le_refl _, Nat.le_refl _⟩ f_X10_reach_100 (by omega) (by omega) (Nat.le_of_ble_eq_true rfl) ?_
    refine g_mx hγ (by decide) ⟨Nat.le_refl _, Nat.le_refl _⟩ f_X10_reach_103 (by omega) (by omega) (Nat.le_of_ble_eq_true rfl) ?_
    refine g_reti f_X10_reach_106 rfl ?_ (Nat.zero_le _) (Nat.zero_le _)
    exact ⟨by unfold reachN reachI; rw [← hsm, ← hv2], rfl, hM⟩
  refine g_ist_2 f_X10_reach_5 (by decide) c1i ?_
  refine g_alv f_X10_reach_6 rfl ?_
  refine g_getR f_X10_reach_7 (by assumption) (by assumption) ?_
  refine g_ild f_X10_reach_10 rfl ?_
  refine g_ial f_X10_reach_11 (by assumption) p (by omega) (by omega) ?_
  rw [hM88, r0]
  refine g_tab f_X10_reach_12 (by omega) (fun ck => ?_) (casC (fun ck => ?_) (casC (fun ck => ?_) (casC (fun ck => ?_) (casC (fun ck => ?_) casN))))
  · have hq9 := b6 (zd z % 4) (by omega)
    refine j96 _ (by omega) ?_
    have d3 := ck (3, 44) (by simp)
    have d4 := ck (4, 51) (by simp)
    have d5 := ck (5, 66) (by simp)
    have d6 := ck (6, 73) (by simp)
    dsimp only at d3 d4 d5 d6
    repeat (first | (rw [if_pos (by omega)]; done) | (rw [if_pos (by omega)]; omega) | rw [if_neg (by omega)])
  · refine g_ild f_X10_reach_44 rfl ?_
    refine g_const f_X10_reach_45 ?_
    refine g_imul f_X10_reach_46 ?_
    refine g_ist_2 f_X10_reach_47 (by decide) c1i ?_
    refine g_goto f_X10_reach_48 ?_
    have hq9 := b6 (zd z % 4) (by omega)
    refine j96 _ (by omega) ?_
    repeat (first | (rw [if_pos (by omega)]; done) | (rw [if_pos (by omega)]; omega) | rw [if_neg (by omega)])
  · refine g_alv f_X10_reach_51 rfl ?_
    refine g_getI f_X10_reach_52 (by assumption) ?_
    rw [hM87, x3]
    refine g_const f_X10_reach_55 ?_
    refine g_irem f_X10_reach_56 (by omega) (by omega) ?_
    refine g_const f_X10_reach_57 ?_
    refine g_icmp_ne f_X10_reach_58 rfl (by omega) (by omega) (fun hd => ?_) (fun hd => ?_)
    · have hq9 := b6 (zd z % 4) (by omega)
      refine j96 _ (by omega) ?_
      repeat (first | (rw [if_pos (by omega)]; done) | (rw [if_pos (by omega)]; omega) | rw [if_neg (by omega)])
    · refine g_const f_X10_reach_61 ?_
      refine g_ist_2 f_X10_reach_62 (by decide) c1i ?_
      refine g_goto f_X10_reach_63 ?_
      have hq9 := b6 (zd z % 4) (by omega)
      refine j96 _ (by omega) ?_
      repeat (first | (rw [if_pos (by omega)]; done) | (rw [if_pos (by omega)]; omega) | rw [if_neg (by omega)])
  · refine g_ild f_X10_reach_66 rfl ?_
    refine g_const f_X10_reach_67 ?_
    refine g_idivT f_X10_reach_68 (by omega) (by omega) (by decide) (Or.inl (by decide)) ?_
    refine g_ist_2 f_X10_reach_69 (by decide) c1i ?_
    refine g_goto f_X10_reach_70 ?_
    have hq9 := b6 (zd z % 4) (by omega)
    refine j96 _ (by omega) ?_
    repeat (first | (rw [if_pos (by omega)]; done) | (rw [if_pos (by omega)]; omega) | rw [if_neg (by omega)])
  · refine g_const f_X10_reach_73 ?_
    refine g_ild f_X10_reach_74 rfl ?_
    refine g_imul f_X10_reach_75 ?_
    refine g_alv f_X10_reach_76 rfl ?_
    refine g_getR f_X10_reach_77 (by assumption) (by assumption) ?_
    refine g_const f_X10_reach_80 ?_
    refine g_ild f_X10_reach_81 rfl ?_
    refine g_imul f_X10_reach_82 ?_
    refine g_alv f_X10_reach_83 rfl ?_
    refine g_getI f_X10_reach_84 (by assumption) ?_
    rw [hM87, x3]
    refine g_const f_X10_reach_87 ?_
    refine g_irem f_X10_reach_88 (by omega) (by omega) ?_
    refine g_iadd f_X10_reach_89 ?_
    refine g_as (show (4 : Int) * (p : Int) + (zd z : Int) % 4 = ((4 * p + zd z % 4 : Nat) : Int) by omega) ?_
    refine g_ial f_X10_reach_90 (by assumption) (4 * p + zd z % 4) (by omega) (by omega) ?_
    rw [hM93, r5 (zd z % 4) (by omega)]
    refine g_iadd f_X10_reach_91 ?_
    refine g_ist_2 f_X10_reach_92 (by decide) c1i ?_
    refine g_goto f_X10_reach_93 ?_
    have hq9 := b6 (zd z % 4) (by omega)
    refine j96 _ (by omega) ?_
    repeat (first | (rw [if_pos (by omega)]; done) | (rw [if_pos (by omega)]; omega) | rw [if_neg (by omega)])

set_option maxHeartbeats 4000000 in
set_option maxRecDepth 100000 in
theorem c_mwall {Ω : Ow} {S : Sg} {M : Mm} {z : Ab} (hG : Gr S) (hX : MX M z) (hO : okZ z) {c : Nat} (hc : c < 12) : Ct Ω mX10_isWall 1 0 0 1 [vr Ω 87, vi (c : Int)] S M (fun x S' M' => x = (((zw z).testBit c).toNat : Int) ∧ S' = S ∧ M' = M) := by
  refine Ct.mk (by decide) (Nat.le_of_ble_eq_true rfl) [some (vr Ω 87), some (vi (c : Int))] (by intro q hq; exact hq) (fun γ hγ hz => ?_)
  obtain ⟨x1, x2, x3, x4, x5⟩ := id hX
  obtain ⟨z1, z2, z3, z4, z5⟩ := id hO
  have o87 := om87 hG
  refine g_alv f_X10_isWall_0 rfl ?_
  refine g_getI f_X10_isWall_1 (by assumption) ?_
  rw [x2]
  refine g_ild f_X10_isWall_4 rfl ?_
  refine g_ishr f_X10_isWall_5 ?_
  refine g_const f_X10_isWall_6 ?_
  refine g_iand f_X10_isWall_7 ?_
  rw [bit1 (by omega) (by omega)]
  refine g_const f_X10_isWall_8 ?_
  refine g_icmp_ne f_X10_isWall_9 rfl (by cases (zw z).testBit c <;> decide) (by cases (zw z).testBit c <;> decide) (fun hb => ?_) (fun hb => ?_)
  · refine g_const f_X10_isWall_16 ?_
    refine g_retz f_X10_isWall_17 rfl (by first | exact Or.inl rfl | exact Or.inr rfl) ?_ (Nat.zero_le _) (Nat.zero_le _)
    refine ⟨?_, rfl, rfl⟩
    revert hb
    cases (zw z).testBit c <;> simp
  · refine g_const f_X10_isWall_12 ?_
    refine g_goto f_X10_isWall_13 ?_
    refine g_retz f_X10_isWall_17 rfl (by first | exact Or.inl rfl | exact Or.inr rfl) ?_ (Nat.zero_le _) (Nat.zero_le _)
    refine ⟨?_, rfl, rfl⟩
    revert hb
    cases (zw z).testBit c <;> simp

set_option maxHeartbeats 4000000 in
set_option maxRecDepth 100000 in
theorem c_msight {Ω : Ow} {S : Sg} {M : Mm} {z : Ab} (hG : Gr S) (hX : MX M z) (hO : okZ z) {p : Nat} (hp : p < zc z) : Ct Ω mX10_sight 5 0 0 1 [vr Ω 87, vi (p : Int)] S M (fun x S' M' => x = (sightN z p : Int) ∧ S' = S ∧ ask M M') := by
  refine Ct.mk (by decide) (Nat.le_of_ble_eq_true rfl) [some (vr Ω 87), some (vi (p : Int)), none, none, none, none] (by intro q hq; exact hq) (fun γ hγ hz => ?_)
  obtain ⟨x1, x2, x3, x4, x5⟩ := id hX
  obtain ⟨z1, z2, z3, z4, z5⟩ := id hO
  have hp6 : p < 6 := by omega
  obtain ⟨r0, r1, r2, r3, r4, r5⟩ := id (x4 p hp)
  obtain ⟨b1, b2, b3, b4, b5, b6⟩ := id (z4 p hp)
  have o87 := om87 hG
  have gM1 : _ = ((88 : Nat) : Int) := grn hG (k := 87) (j := 1) (by decide)
  have aM88 := arn hG (r := 88) (c := 12) (n := 6) (by decide +kernel)
  have gM3 : _ = ((90 : Nat) : Int) := grn hG (k := 87) (j := 3) (by decide)
  have aM90 := arn hG (r := 90) (c := 12) (n := 6) (by decide +kernel)
  have gM5 : _ = ((92 : Nat) : Int) := grn hG (k := 87) (j := 5) (by decide)
  have aM92 := arn hG (r := 92) (c := 12) (n := 6) (by decide +kernel)
  refine g_alv f_X10_sight_0 rfl ?_
  refine g_getR f_X10_sight_1 (by assumption) (by assumption) ?_
  refine g_ild f_X10_sight_4 rfl ?_
  refine g_ial f_X10_sight_5 (by assumption) _ rfl (by omega) ?_
  rw [r4]
  refine g_const f_X10_sight_6 ?_
  refine g_icmp_ne f_X10_sight_7 rfl (by omega) (by omega) (fun hg => ?_) (fun hg => ?_)
  · refine g_alv f_X10_sight_12 rfl ?_
    refine g_ild f_X10_sight_13 rfl ?_
    refine g_cv1 hγ (c_mreach hG hX hO hp) f_X10_sight_14 mo_X10_reach mv_X10_reach (by assumption) rfl rfl (Nat.le_of_ble_eq_true rfl) ⟨by decide, by decide⟩ ⟨Nat.le_refl _, Nat.le_refl _⟩ (fun x S' M1 hq2 => ?_)
    obtain ⟨hfx, q1, hM⟩ := hq2
    obtain rfl := q1.symm
    have hfr := reachI_rg (zP z p 0) (sumL (sbj (zP z p) p (zd z)) (zL z)) (zP z p (5 + zd z % 4)) (zd z)
    change 0 ≤ reachN z p ∧ reachN z p ≤ 11 at hfr
    obtain ⟨far, hfar⟩ := Int.eq_ofNat_of_zero_le hfr.1
    rw [hfx, hfar]
    have hf11 : far ≤ 11 := by omega
    have es : sightN z p = bitsP 12 (fun t => seesB (zw z) (zP z p 0) (zP z p 2) (far : Int) t) := by unfold sightN seeW; rw [eye_not (by omega), hfar]
    have hX1 : MX M1 z := hX.ask (fun k a _ => hM k a)
    have hpl : zP z p 2 < 12 := by omega
    have hM88 := hM 88 (by decide)
    have hM90 := hM 90 (by decide)
    have aft : ∀ i : Nat, i ≤ far → (∀ k, k < i → (zw z).testBit ((zP z p 2 + k) % 12) = false) → (i = far ∨ (i < far ∧ (zw z).testBit ((zP z p 2 + i) % 12) = true)) → Go γ Ω mX10_sight (Zm γ Ω 1 0 0 (fun x S' M' => x = (sightN z p : Int) ∧ S' = S ∧ ask M M')) 0 0 S M1 75 [some (vr Ω 87), some (vi (p : Int)), some (vi (far : Int)), some (vi ((rB (zP z p 2) i : Nat) : Int)), some (vi (((zP z p 2 + i) % 12 : Nat) : Int)), some (vi (i : Int))] [] := by
      intro i hif h1 h2
      have hrl := rB_lt (zP z p 2) i
      have fin : ∀ j : Nat, ¬ (zP z p 0 = 2 ∨ zP z p 0 = 5) → (∀ k, k < j → (zw z).testBit ((zP z p 2 + 11 * (k + 1)) % 12) = false) → (j = far ∨ (j < far ∧ (zw z).testBit ((zP z p 2 + 11 * (j + 1)) % 12) = true)) → Go γ Ω mX10_sight (Zm γ Ω 1 0 0 (fun x S' M' => x = (sightN z p : Int) ∧ S' = S ∧ ask M M')) 0 0 S M1 156 [some (vr Ω 87), some (vi (p : Int)), some (vi (far : Int)), some (vi ((rB (zP z p 2) i ||| lB (zP z p 2) j : Nat) : Int)), some (vi (((zP z p 2 + 11 * (j + 1)) % 12 : Nat) : Int)), some (vi (j : Int))] [] := by
        intro j hK h3 h4
        refine g_ild f_X10_sight_156 rfl ?_
        refine g_reti f_X10_sight_157 rfl ?_ (Nat.zero_le _) (Nat.zero_le _)
        exact ⟨by rw [es, sight_L hpl hK h1 h2 h3 h4], rfl, fun k a _ => hM k a⟩
      have loopL : ∀ (m j : Nat), j + m = far → ¬ (zP z p 0 = 2 ∨ zP z p 0 = 5) → (∀ k, k < j → (zw z).testBit ((zP z p 2 + 11 * (k + 1)) % 12) = false) → Go γ Ω mX10_sight (Zm γ Ω 1 0 0 (fun x S' M' => x = (sightN z p : Int) ∧ S' = S ∧ ask M M')) 0 0 S M1 116 [some (vr Ω 87), some (vi (p : Int)), some (vi (far : Int)), some (vi ((rB (zP z p 2) i ||| lB (zP z p 2) j : Nat) : Int)), some (vi (((zP z p 2 + 11 * (j + 1)) % 12 : Nat) : Int)), some (vi (j : Int))] [] := by
        intro m
        induction m with
        | zero =>
          intro j hk hK h3
          refine g_ild f_X10_sight_116 rfl ?_
          refine g_ild f_X10_sight_118 rfl ?_
          refine g_icmp_ge f_X10_sight_119 rfl (by omega) (by omega) (fun hc => ?_) (fun hc => ?_)
          · exact fin j hK h3 (Or.inl (by omega))
          · exact absurd (by omega) hc
        | succ m ih =>
          intro j hk hK h3
          have hj : j < far := by omega
          have hll := lB_lt (zP z p 2) j
          have hor : rB (zP z p 2) i ||| lB (zP z p 2) j < 4096 := Nat.or_lt_two_pow (n := 12) hrl hll
          have hcl : (zP z p 2 + 11 * (j + 1)) % 12 < 12 := Nat.mod_lt _ (by decide)
          have hp2 : 2 ^ ((zP z p 2 + 11 * (j + 1)) % 12) ≤ 2048 := p2le (by omega)
          have ec : ((zP z p 2 + 11 * (j + 1)) % 12 + 12 - 1) % 12 = (zP z p 2 + 11 * (j + 1 + 1)) % 12 := by omega
          have eb := lB_S (zP z p 2) hpl j (by omega)
          have ih2 := fun hz => ih (j + 1) (by omega) hK hz
          generalize hcc : (zP z p 2 + 11 * (j + 1)) % 12 = cc at *
          refine g_ild f_X10_sight_116 rfl ?_
          refine g_ild f_X10_sight_118 rfl ?_
          refine g_icmp_ge f_X10_sight_119 rfl (by omega) (by omega) (fun hc => ?_) (fun hc => ?_)
          · exact absurd hc (by omega)
          refine g_alv f_X10_sight_122 rfl ?_
          refine g_ild f_X10_sight_123 rfl ?_
          refine g_cv1 hγ (c_mwall hG hX1 hO (c := cc) hcl) f_X10_sight_125 mo_X10_isWall mv_X10_isWall (by assumption) rfl rfl (Nat.le_of_ble_eq_true rfl) ⟨by decide, by decide⟩ ⟨Nat.le_refl _, Nat.le_refl _⟩ (fun x S' M' hq3 => ?_)
          obtain ⟨rfl, q1, q2⟩ := hq3
          obtain rfl := q1.symm
          obtain rfl := q2.symm
          rcases Bool.eq_false_or_eq_true ((zw z).testBit cc) with hb | hb
          · rw [hb]
            refine g_as (show ((true.toNat : Nat) : Int) = 1 from rfl) ?_
            refine g_if_ne f_X10_sight_128 rfl (by omega) (fun hx => ?_) (fun hx => ?_)
            · rw [← hcc] at hb ⊢
              exact fin j hK h3 (Or.inr ⟨hj, hb⟩)
            · exact absurd (by omega) hx
          · rw [hb]
            refine g_as (show ((false.toNat : Nat) : Int) = 0 from rfl) ?_
            refine g_if_ne f_X10_sight_128 rfl (by omega) (fun hx => ?_) (fun hx => ?_)
            · exact absurd hx (by omega)
            refine g_ild f_X10_sight_131 rfl ?_
            refine g_const f_X10_sight_132 ?_
            refine g_ild f_X10_sight_133 rfl ?_
            refine g_ishl f_X10_sight_135 ?_
            rw [show (1 : Int) = ((1 : Nat) : Int) from rfl, bshl_n (by omega) (by omega), Nat.one_mul]
            refine g_ior f_X10_sight_136 ?_
            rw [bor_n (by omega) (by omega), or_asc, eb]
            refine g_ist_3 f_X10_sight_137 (by decide) c1i ?_
            refine g_ild f_X10_sight_138 rfl ?_
            refine g_const f_X10_sight_140 ?_
            refine g_iadd f_X10_sight_142 ?_
            refine g_const f_X10_sight_143 ?_
            refine g_isub f_X10_sight_144 ?_
            refine g_const f_X10_sight_145 ?_
            refine g_irem f_X10_sight_147 (by omega) (by omega) ?_
            refine g_as (show ((cc : Int) + 12 - 1) % 12 = (((zP z p 2 + 11 * (j + 1 + 1)) % 12 : Nat) : Int) by omega) ?_
            refine g_ist_4 f_X10_sight_148 (by decide) c1i ?_
            refine g_inc_5 f_X10_sight_150 (by decide) c1i ?_
            refine g_goto f_X10_sight_153 ?_
            refine ih2 (fun k hk2 => ?_)
            by_cases hkj : k < j
            · exact h3 k hkj
            · rw [show k = j by omega, hcc]; exact hb
      refine g_alv f_X10_sight_75 rfl ?_
      refine g_getR f_X10_sight_76 (by assumption) (by assumption) ?_
      refine g_ild f_X10_sight_79 rfl ?_
      refine g_ial f_X10_sight_80 (by assumption) _ rfl (by omega) ?_
      rw [hM88, r0]
      refine g_const f_X10_sight_81 ?_
      refine g_icmp_eq f_X10_sight_82 rfl (by omega) (by omega) (fun hk2 => ?_) (fun hk2 => ?_)
      · refine g_ild f_X10_sight_95 rfl ?_
        refine g_reti f_X10_sight_96 rfl ?_ (Nat.zero_le _) (Nat.zero_le _)
        exact ⟨by rw [es, sight_R (K := zP z p 0) (by omega) h1 h2], rfl, fun k a _ => hM k a⟩
      · refine g_alv f_X10_sight_85 rfl ?_
        refine g_getR f_X10_sight_86 (by assumption) (by assumption) ?_
        refine g_ild f_X10_sight_89 rfl ?_
        refine g_ial f_X10_sight_90 (by assumption) _ rfl (by omega) ?_
        rw [hM88, r0]
        refine g_const f_X10_sight_91 ?_
        refine g_icmp_ne f_X10_sight_92 rfl (by omega) (by omega) (fun hk5 => ?_) (fun hk5 => ?_)
        · refine g_alv f_X10_sight_97 rfl ?_
          refine g_getR f_X10_sight_98 (by assumption) (by assumption) ?_
          refine g_ild f_X10_sight_101 rfl ?_
          refine g_ial f_X10_sight_102 (by assumption) _ rfl (by omega) ?_
          rw [hM90, r2]
          refine g_const f_X10_sight_103 ?_
          refine g_iadd f_X10_sight_105 ?_
          refine g_const f_X10_sight_106 ?_
          refine g_isub f_X10_sight_107 ?_
          refine g_const f_X10_sight_108 ?_
          refine g_irem f_X10_sight_110 (by omega) (by omega) ?_
          refine g_as (show ((zP z p 2 : Int) + 12 - 1) % 12 = (((zP z p 2 + 11 * (0 + 1)) % 12 : Nat) : Int) by omega) ?_
          refine g_ist_4 f_X10_sight_111 (by decide) c1i ?_
          refine g_const f_X10_sight_113 ?_
          refine g_ist_5 f_X10_sight_114 (by decide) c1i ?_
          have h9 := loopL far 0 (by omega) (by omega) (fun k hk => absurd hk (Nat.not_lt_zero _))
          rw [lB_0 _ hpl, Nat.or_zero] at h9
          exact h9
        · refine g_ild f_X10_sight_95 rfl ?_
          refine g_reti f_X10_sight_96 rfl ?_ (Nat.zero_le _) (Nat.zero_le _)
          exact ⟨by rw [es, sight_R (K := zP z p 0) (by omega) h1 h2], rfl, fun k a _ => hM k a⟩
    have loopR : ∀ (m i : Nat), i + m = far → (∀ k, k < i → (zw z).testBit ((zP z p 2 + k) % 12) = false) → Go γ Ω mX10_sight (Zm γ Ω 1 0 0 (fun x S' M' => x = (sightN z p : Int) ∧ S' = S ∧ ask M M')) 0 0 S M1 38 [some (vr Ω 87), some (vi (p : Int)), some (vi (far : Int)), some (vi ((rB (zP z p 2) i : Nat) : Int)), some (vi (((zP z p 2 + i) % 12 : Nat) : Int)), some (vi (i : Int))] [] := by
      intro m
      induction m with
      | zero =>
        intro i hk h1
        refine g_ild f_X10_sight_38 rfl ?_
        refine g_ild f_X10_sight_40 rfl ?_
        refine g_icmp_ge f_X10_sight_41 rfl (by omega) (by omega) (fun hc => ?_) (fun hc => ?_)
        · exact aft i (by omega) h1 (Or.inl (by omega))
        · exact absurd (by omega) hc
      | succ m ih =>
        intro i hk h1
        have hi : i < far := by omega
        have hrl := rB_lt (zP z p 2) i
        have hcl : (zP z p 2 + i) % 12 < 12 := Nat.mod_lt _ (by decide)
        have ec : ((zP z p 2 + i) % 12 + 1) % 12 = (zP z p 2 + (i + 1)) % 12 := by omega
        have eb := rB_S (zP z p 2) hpl i (by omega)
        rw [ec] at eb
        have hp2 : 2 ^ ((zP z p 2 + (i + 1)) % 12) ≤ 2048 := p2le (by omega)
        have ih2 := fun hz => ih (i + 1) (by omega) hz
        have aft2 := aft i (by omega) h1
        generalize hcc : (zP z p 2 + i) % 12 = cc at *
        generalize hcd : (zP z p 2 + (i + 1)) % 12 = cd at *
        refine g_ild f_X10_sight_38 rfl ?_
        refine g_ild f_X10_sight_40 rfl ?_
        refine g_icmp_ge f_X10_sight_41 rfl (by omega) (by omega) (fun hc => ?_) (fun hc => ?_)
        · exact absurd hc (by omega)
        refine g_alv f_X10_sight_44 rfl ?_
        refine g_ild f_X10_sight_45 rfl ?_
        refine g_cv1 hγ (c_mwall hG hX1 hO (c := cc) hcl) f_X10_sight_47 mo_X10_isWall mv_X10_isWall (by assumption) rfl rfl (Nat.le_of_ble_eq_true rfl) ⟨by decide, by decide⟩ ⟨Nat.le_refl _, Nat.le_refl _⟩ (fun x S' M' hq3 => ?_)
        obtain ⟨rfl, q1, q2⟩ := hq3
        obtain rfl := q1.symm
        obtain rfl := q2.symm
        rcases Bool.eq_false_or_eq_true ((zw z).testBit cc) with hb | hb
        · rw [hb]
          refine g_as (show ((true.toNat : Nat) : Int) = 1 from rfl) ?_
          refine g_if_ne f_X10_sight_50 rfl (by omega) (fun hx => ?_) (fun hx => ?_)
          · exact aft2 (Or.inr ⟨hi, hb⟩)
          · exact absurd (by omega) hx
        · rw [hb]
          refine g_as (show ((false.toNat : Nat) : Int) = 0 from rfl) ?_
          refine g_if_ne f_X10_sight_50 rfl (by omega) (fun hx => ?_) (fun hx => ?_)
          · exact absurd hx (by omega)
          refine g_ild f_X10_sight_53 rfl ?_
          refine g_const f_X10_sight_55 ?_
          refine g_iadd f_X10_sight_56 ?_
          refine g_const f_X10_sight_57 ?_
          refine g_irem f_X10_sight_59 (by omega) (by omega) ?_
          refine g_as (show ((cc : Int) + 1) % 12 = (cd : Int) by omega) ?_
          refine g_ist_4 f_X10_sight_60 (by decide) c1i ?_
          refine g_ild f_X10_sight_62 rfl ?_
          refine g_const f_X10_sight_63 ?_
          refine g_ild f_X10_sight_64 rfl ?_
          refine g_ishl f_X10_sight_66 ?_
          rw [show (1 : Int) = ((1 : Nat) : Int) from rfl, bshl_n (by omega) (by omega), Nat.one_mul]
          refine g_ior f_X10_sight_67 ?_
          rw [bor_n (by omega) (by omega), eb]
          refine g_ist_3 f_X10_sight_68 (by decide) c1i ?_
          refine g_inc_5 f_X10_sight_69 (by decide) c1i ?_
          refine g_goto f_X10_sight_72 ?_
          refine ih2 (fun k hk2 => ?_)
          by_cases hkj : k < i
          · exact h1 k hkj
          · rw [show k = i by omega, hcc]; exact hb
    refine g_ist_2 f_X10_sight_17 (by decide) c1i ?_
    refine g_const f_X10_sight_18 ?_
    refine g_alv f_X10_sight_19 rfl ?_
    refine g_getR f_X10_sight_20 (by assumption) (by assumption) ?_
    refine g_ild f_X10_sight_23 rfl ?_
    refine g_ial f_X10_sight_24 (by assumption) _ rfl (by omega) ?_
    rw [hM90, r2]
    refine g_ishl f_X10_sight_25 ?_
    have hp2 : 2 ^ (zP z p 2) ≤ 2048 := p2le (by omega)
    rw [show (1 : Int) = ((1 : Nat) : Int) from rfl, bshl_n (by omega) (by omega), Nat.one_mul]
    refine g_ist_3 f_X10_sight_26 (by decide) c1i ?_
    refine g_alv f_X10_sight_27 rfl ?_
    refine g_getR f_X10_sight_28 (by assumption) (by assumption) ?_
    refine g_ild f_X10_sight_31 rfl ?_
    refine g_ial f_X10_sight_32 (by assumption) _ rfl (by omega) ?_
    rw [hM90, r2]
    refine g_ist_4 f_X10_sight_33 (by decide) c1i ?_
    refine g_const f_X10_sight_35 ?_
    refine g_ist_5 f_X10_sight_36 (by decide) c1i ?_
    have h9 := loopR far 0 (by omega) (fun k hk => absurd hk (Nat.not_lt_zero _))
    rw [rB_0 _ hpl, Nat.add_zero, Nat.mod_eq_of_lt hpl] at h9
    exact h9
  · refine g_const f_X10_sight_10 ?_
    refine g_reti f_X10_sight_11 rfl ?_ (Nat.zero_le _) (Nat.zero_le _)
    exact ⟨by unfold sightN seeW; rw [eye_gone (by omega), sight_0]; rfl, rfl, ask.rf⟩

set_option maxHeartbeats 4000000 in
set_option maxRecDepth 100000 in
theorem c_mseers {Ω : Ow} {S : Sg} {M : Mm} {z : Ab} (hG : Gr S) (hX : MX M z) (hO : okZ z) {t : Nat} (ht : t < 12) : Ct Ω mX10_seers 6 0 0 1 [vr Ω 87, vi (t : Int)] S M (fun x S' M' => x = (seersN z t : Int) ∧ S' = S ∧ ask M M') := by
  refine Ct.mk (by decide) (Nat.le_of_ble_eq_true rfl) [some (vr Ω 87), some (vi (t : Int)), none, none] (by intro q hq; exact hq) (fun γ hγ hz => ?_)
  obtain ⟨x1, x2, x3, x4, x5⟩ := id hX
  obtain ⟨z1, z2, z3, z4, z5⟩ := id hO
  have o87 := om87 hG
  have loop : ∀ (k n : Nat) (M1 : Mm), n + k = zc z → ask M M1 → Go γ Ω mX10_seers (Zm γ Ω 1 0 0 (fun x S' M' => x = (seersN z t : Int) ∧ S' = S ∧ ask M M')) 0 0 S M1 4 [some (vr Ω 87), some (vi (t : Int)), some (vi (bitsP n (fun p => (sightN z p).testBit t) : Int)), some (vi (n : Int))] [] := by
    intro k
    induction k with
    | zero =>
      intro n M1 hk ha
      have hn : n = zc z := by omega
      subst hn
      have y1 : M1 87 0 = (zc z : Int) := (hX.ask ha).1
      refine g_ild f_X10_seers_4 rfl ?_
      refine g_alv f_X10_seers_5 rfl ?_
      refine g_getI f_X10_seers_6 (by assumption) ?_
      rw [y1]
      refine g_icmp_ge f_X10_seers_9 rfl (by omega) (by omega) (fun hc => ?_) (fun hc => ?_)
      · refine g_ild f_X10_seers_37 rfl ?_
        refine g_reti f_X10_seers_38 rfl ?_ (Nat.zero_le _) (Nat.zero_le _)
        exact ⟨by rw [seers_of z ht], rfl, ha⟩
      · exact absurd (by omega) hc
    | succ k ih =>
      intro n M1 hk ha
      have hn : n < zc z := by omega
      have hX1 := hX.ask ha
      have y1 : M1 87 0 = (zc z : Int) := hX1.1
      have hsl := sightN_lt z n
      have hbl := bitsP_lt (fun p => (sightN z p).testBit t) n
      have hp2 : 2 ^ n ≤ 2048 := p2le (by omega)
      refine g_ild f_X10_seers_4 rfl ?_
      refine g_alv f_X10_seers_5 rfl ?_
      refine g_getI f_X10_seers_6 (by assumption) ?_
      rw [y1]
      refine g_icmp_ge f_X10_seers_9 rfl (by omega) (by omega) (fun hc => ?_) (fun hc => ?_)
      · exact absurd hc (by omega)
      refine g_alv f_X10_seers_12 rfl ?_
      refine g_ild f_X10_seers_13 rfl ?_
      refine g_cv1 hγ (c_msight hG hX1 hO hn) f_X10_seers_14 mo_X10_sight mv_X10_sight (by assumption) rfl rfl (Nat.le_of_ble_eq_true rfl) ⟨by decide, by decide⟩ ⟨Nat.le_refl _, Nat.le_refl _⟩ (fun x S' M2 hq2 => ?_)
      obtain ⟨rfl, q1, ha2⟩ := hq2
      obtain rfl := q1.symm
      refine g_ild f_X10_seers_17 rfl ?_
      refine g_ishr f_X10_seers_18 ?_
      refine g_const f_X10_seers_19 ?_
      refine g_iand f_X10_seers_20 ?_
      rw [bit1 (by omega) (by omega)]
      refine g_const f_X10_seers_21 ?_
      refine g_icmp_ne f_X10_seers_22 rfl (by cases (sightN z n).testBit t <;> decide) (by cases (sightN z n).testBit t <;> decide) (fun hb => ?_) (fun hb => ?_)
      · refine g_inc_3 f_X10_seers_31 (by decide) c1i ?_
        refine g_goto f_X10_seers_34 ?_
        rw [bitsP_skip (fun p => (sightN z p).testBit t) n (show ¬ (sightN z n).testBit t = true by revert hb; cases (sightN z n).testBit t <;> simp)]
        exact ih (n + 1) M2 (by omega) (ha.tr ha2)
      · refine g_ild f_X10_seers_25 rfl ?_
        refine g_const f_X10_seers_26 ?_
        refine g_ild f_X10_seers_27 rfl ?_
        refine g_ishl f_X10_seers_28 ?_
        rw [show (1 : Int) = ((1 : Nat) : Int) from rfl, bshl_n (by omega) (by omega), Nat.one_mul]
        refine g_ior f_X10_seers_29 ?_
        rw [bor_n (by omega) (by omega), bitsP_or (fun p => (sightN z p).testBit t) n (show (sightN z n).testBit t = true by revert hb; cases (sightN z n).testBit t <;> simp)]
        refine g_ist_2 f_X10_seers_30 (by decide) c1i ?_
        refine g_inc_3 f_X10_seers_31 (by decide) c1i ?_
        refine g_goto f_X10_seers_34 ?_
        exact ih (n + 1) M2 (by omega) (ha.tr ha2)
  refine g_const f_X10_seers_0 ?_
  refine g_ist_2 f_X10_seers_1 (by decide) c1i ?_
  refine g_const f_X10_seers_2 ?_
  refine g_ist_3 f_X10_seers_3 (by decide) c1i ?_
  exact loop (zc z) 0 M (by omega) ask.rf
