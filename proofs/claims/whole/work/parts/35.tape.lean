/-! contracts: tapes -/
set_option maxHeartbeats 4000000 in
set_option maxRecDepth 100000 in
theorem c_become {Ω : Ow} {S : Sg} {M : Mm} (hG : Gr S) {i : Nat} (hi : i < 6) (s : Int) (n : Nat) : Ct Ω mX7_become 1 0 0 0 [vr Ω (75 + 2 * i), vi s, vi (n : Int)] S M (fun _ S' M' => S' = S ∧ RepK M' i (s, n, fun _ => 0) ∧ kfr i M M') := by
  refine Ct.mk (by decide) (Nat.le_of_ble_eq_true rfl) [some (vr Ω (75 + 2 * i)), some (vi s), some (vi (n : Int)), none] (by intro q hq; exact hq) (fun γ hγ hz => ?_)
  obtain ⟨oK, aK, gK, gT⟩ := obK hG hi
  have loop : ∀ (k j : Nat) (M1 : Mm), j + k = 60 → M1 (75 + 2 * i) 0 = s → M1 (75 + 2 * i) 1 = (n : Int) → (∀ l, l < j → M1 (76 + 2 * i) l = 0) → kfr i M M1 → Go γ Ω mX7_become (Zm γ Ω 0 0 0 (fun _ S' M' => S' = S ∧ RepK M' i (s, n, fun _ => 0) ∧ kfr i M M')) 0 0 S M1 12 [some (vr Ω (75 + 2 * i)), some (vi s), some (vi (n : Int)), some (vi (j : Int))] [] := by
    intro k
    induction k with
    | zero =>
      intro j M1 hk h1 h2 h3 hf
      have hn : j = 60 := by omega
      subst hn
      refine g_ild f_X7_become_12 rfl ?_
      refine g_const f_X7_become_13 ?_
      refine g_icmp_ge f_X7_become_15 rfl (by omega) (by omega) (fun hc => ?_) (fun hc => ?_)
      · refine g_ret0 (κ := 0) f_X7_become_31 rfl 0 ?_ (Nat.zero_le _) (Nat.zero_le _)
        exact ⟨rfl, ⟨h1, h2, fun l hl => h3 l hl⟩, hf⟩
      · exact absurd (by omega) hc
    | succ k ih =>
      intro j M1 hk h1 h2 h3 hf
      have hn : j < 60 := by omega
      refine g_ild f_X7_become_12 rfl ?_
      refine g_const f_X7_become_13 ?_
      refine g_icmp_ge f_X7_become_15 rfl (by omega) (by omega) (fun hc => ?_) (fun hc => ?_)
      · exact absurd hc (by omega)
      refine g_alv f_X7_become_18 rfl ?_
      refine g_getR f_X7_become_19 (by assumption) (by assumption) ?_
      refine g_ild f_X7_become_22 rfl ?_
      refine g_lconst (z := 0) f_X7_become_23 rfl ?_
      refine g_las f_X7_become_24 (by assumption) _ rfl (by omega) ?_
      refine g_inc_3 f_X7_become_25 (by decide) c1i ?_
      refine g_goto f_X7_become_28 ?_
      refine ih (j + 1) _ (by omega) (by rw [up_row (by omega)]; exact h1) (by rw [up_row (by omega)]; exact h2) (fun l hl => ?_) (fun k2 a b => by rw [up_row b]; exact hf k2 a b)
      by_cases e : l = j
      · subst e; exact up_s _ _ _ _
      · rw [up_n (by omega)]; exact h3 l (by omega)
  refine g_alv f_X7_become_0 rfl ?_
  refine g_ild f_X7_become_1 rfl ?_
  refine g_putI f_X7_become_2 rfl (by assumption) ?_
  refine g_alv f_X7_become_5 rfl ?_
  refine g_ild f_X7_become_6 rfl ?_
  refine g_putI f_X7_become_7 rfl (by assumption) ?_
  refine g_const f_X7_become_10 ?_
  refine g_ist_3 f_X7_become_11 (by decide) c1i ?_
  refine loop 60 0 _ rfl ?_ ?_ (fun l hl => absurd hl (Nat.not_lt_zero _)) (fun k2 a b => by rw [up_row a, up_row a])
  · rw [up_n (by omega)]; exact up_s _ _ _ _
  · exact up_s _ _ _ _

set_option maxHeartbeats 4000000 in
set_option maxRecDepth 100000 in
theorem c_reaches {Ω : Ow} {S : Sg} {M : Mm} (hG : Gr S) {i : Nat} (hi : i < 6) {q : Tp} (hR : RepK M i q) (hq : q.2.1 ≤ 60) (a b : Int) (ha : rg a) (hb : rg b) : Ct Ω mX7_reaches 1 0 0 1 [vr Ω (75 + 2 * i), vi a, vi b] S M (fun x S' M' => (x = if 0 ≤ a ∧ 0 ≤ b ∧ b ≤ (q.2.1 : Int) - a then 1 else 0) ∧ S' = S ∧ M' = M) := by
  refine Ct.mk (by decide) (Nat.le_of_ble_eq_true rfl) [some (vr Ω (75 + 2 * i)), some (vi a), some (vi b)] (by intro q hq; exact hq) (fun γ hγ hz => ?_)
  obtain ⟨oK, aK, gK, gT⟩ := obK hG hi
  refine g_ild f_X7_reaches_0 rfl ?_
  refine g_if_lt f_X7_reaches_1 rfl (by omega) (fun c1 => ?_) (fun c1 => ?_)
  · refine g_const f_X7_reaches_22 ?_
    refine g_retz f_X7_reaches_23 rfl (by first | exact Or.inl rfl | exact Or.inr rfl) ?_ (Nat.zero_le _) (Nat.zero_le _)
    exact ⟨by split <;> omega, rfl, rfl⟩
  · refine g_ild f_X7_reaches_4 rfl ?_
    refine g_if_lt f_X7_reaches_5 rfl (by omega) (fun c2 => ?_) (fun c2 => ?_)
    · refine g_const f_X7_reaches_22 ?_
      refine g_retz f_X7_reaches_23 rfl (by first | exact Or.inl rfl | exact Or.inr rfl) ?_ (Nat.zero_le _) (Nat.zero_le _)
      exact ⟨by split <;> omega, rfl, rfl⟩
    · refine g_ild f_X7_reaches_8 rfl ?_
      refine g_alv f_X7_reaches_9 rfl ?_
      refine g_getI f_X7_reaches_10 (by assumption) ?_
      rw [hR.2.1]
      refine g_ild f_X7_reaches_13 rfl ?_
      refine g_isub f_X7_reaches_14 ?_
      refine g_icmp_gt f_X7_reaches_15 rfl (by omega) (by omega) (fun c3 => ?_) (fun c3 => ?_)
      · refine g_const f_X7_reaches_22 ?_
        refine g_retz f_X7_reaches_23 rfl (by first | exact Or.inl rfl | exact Or.inr rfl) ?_ (Nat.zero_le _) (Nat.zero_le _)
        exact ⟨by split <;> omega, rfl, rfl⟩
      · refine g_const f_X7_reaches_18 ?_
        refine g_goto f_X7_reaches_19 ?_
        refine g_retz f_X7_reaches_23 rfl (by first | exact Or.inl rfl | exact Or.inr rfl) ?_ (Nat.zero_le _) (Nat.zero_le _)
        exact ⟨by split <;> omega, rfl, rfl⟩

set_option maxHeartbeats 4000000 in
set_option maxRecDepth 100000 in
theorem c_narrowed {Ω : Ow} {S : Sg} {M : Mm} (hG : Gr S) {i : Nat} (hi : i < 6) {q : Tp} (hR : RepK M i q) (hq : -1 ≤ q.1 ∧ q.1 ≤ 4) (v : Int) (hv : rgL v) : Ct Ω mX7_narrowed 1 0 0 2 [vr Ω (75 + 2 * i), vl v] S M (fun x S' M' => x = narK q.1 v ∧ S' = S ∧ M' = M) := by
  refine Ct.mk (by decide) (Nat.le_of_ble_eq_true rfl) [some (vr Ω (75 + 2 * i)), some (vl v), none] (by intro q hq; exact hq) (fun γ hγ hz => ?_)
  obtain ⟨oK, aK, gK, gT⟩ := obK hG hi
  refine g_alv f_X7_narrowed_0 rfl ?_
  refine g_getI f_X7_narrowed_1 (by assumption) ?_
  rw [hR.1]
  refine g_tab f_X7_narrowed_4 (by omega) (fun h0 => ?_) (casC (fun h0 => ?_) (casC (fun h0 => ?_) (casC (fun h0 => ?_) (casC (fun h0 => ?_) (casC (fun h0 => ?_) casN)))))
  · refine g_lld f_X7_narrowed_66 rfl ?_
    refine g_retl f_X7_narrowed_67 rfl ?_ (Nat.zero_le _) (Nat.zero_le _)
    refine ⟨?_, rfl, rfl⟩
    unfold narK
    first
    | (rw [if_neg (by omega), if_neg (by omega), if_neg (by omega), if_neg (by omega)])
    | (have n0 : q.1 ≠ 0 := h0 _ List.mem_cons_self
       have n1 : q.1 ≠ 1 := h0 _ (List.mem_cons_of_mem _ List.mem_cons_self)
       have n2 : q.1 ≠ 2 := h0 _ (List.mem_cons_of_mem _ (List.mem_cons_of_mem _ List.mem_cons_self))
       have n4 : q.1 ≠ 4 := h0 _ (List.mem_cons_of_mem _ (List.mem_cons_of_mem _ (List.mem_cons_of_mem _ (List.mem_cons_of_mem _ List.mem_cons_self))))
       rw [if_neg n0, if_neg n1, if_neg n2, if_neg n4])
  · have hb := i2bI_rg v
    refine g_lld f_X7_narrowed_40 rfl ?_
    refine g_l2i f_X7_narrowed_41 ?_
    refine g_i2b f_X7_narrowed_42 ?_
    refine g_i2l f_X7_narrowed_43 (by omega) ?_
    refine g_retl f_X7_narrowed_44 rfl ?_ (Nat.zero_le _) (Nat.zero_le _)
    refine ⟨?_, rfl, rfl⟩
    unfold narK
    rw [if_pos (by omega)]
  · have hb := i2sI_rg v
    refine g_lld f_X7_narrowed_45 rfl ?_
    refine g_l2i f_X7_narrowed_46 ?_
    refine g_i2s f_X7_narrowed_47 ?_
    refine g_i2l f_X7_narrowed_48 (by omega) ?_
    refine g_retl f_X7_narrowed_49 rfl ?_ (Nat.zero_le _) (Nat.zero_le _)
    refine ⟨?_, rfl, rfl⟩
    unfold narK
    rw [if_neg (by omega), if_pos (by omega)]
  · have hb := wI_rg v
    refine g_lld f_X7_narrowed_50 rfl ?_
    refine g_l2i f_X7_narrowed_51 ?_
    refine g_asv (vi_wI v) ?_
    refine g_i2l f_X7_narrowed_52 (by omega) ?_
    refine g_retl f_X7_narrowed_53 rfl ?_ (Nat.zero_le _) (Nat.zero_le _)
    refine ⟨?_, rfl, rfl⟩
    unfold narK
    rw [if_neg (by omega), if_neg (by omega), if_pos (by omega)]
  · refine g_lld f_X7_narrowed_66 rfl ?_
    refine g_retl f_X7_narrowed_67 rfl ?_ (Nat.zero_le _) (Nat.zero_le _)
    refine ⟨?_, rfl, rfl⟩
    unfold narK
    first
    | (rw [if_neg (by omega), if_neg (by omega), if_neg (by omega), if_neg (by omega)])
    | (have n0 : q.1 ≠ 0 := h0 _ List.mem_cons_self
       have n1 : q.1 ≠ 1 := h0 _ (List.mem_cons_of_mem _ List.mem_cons_self)
       have n2 : q.1 ≠ 2 := h0 _ (List.mem_cons_of_mem _ (List.mem_cons_of_mem _ List.mem_cons_self))
       have n4 : q.1 ≠ 4 := h0 _ (List.mem_cons_of_mem _ (List.mem_cons_of_mem _ (List.mem_cons_of_mem _ (List.mem_cons_of_mem _ List.mem_cons_self))))
       rw [if_neg n0, if_neg n1, if_neg n2, if_neg n4])
  · have hl : lcm v 0 = 0 ↔ v = 0 := by unfold lcm; split <;> (try split) <;> omega
    have hl2 : -1 ≤ lcm v 0 ∧ lcm v 0 ≤ 1 := by unfold lcm; split <;> (try split) <;> omega
    refine g_lld f_X7_narrowed_54 rfl ?_
    refine g_lconst (z := 0) f_X7_narrowed_55 rfl ?_
    refine g_lcmp f_X7_narrowed_56 (by omega) (by omega) ?_
    refine g_if_ne f_X7_narrowed_57 rfl (by omega) (fun hz0 => ?_) (fun hz0 => ?_)
    · refine g_lconst (z := 1) f_X7_narrowed_64 rfl ?_
      refine g_retl f_X7_narrowed_65 rfl ?_ (Nat.zero_le _) (Nat.zero_le _)
      refine ⟨?_, rfl, rfl⟩
      unfold narK
      rw [if_neg (by omega), if_neg (by omega), if_neg (by omega), if_pos (by omega)]
      first
      | (rw [if_pos (by omega)])
      | (rw [if_neg (by omega)])
    · refine g_lconst (z := 0) f_X7_narrowed_60 rfl ?_
      refine g_goto f_X7_narrowed_61 ?_
      refine g_retl f_X7_narrowed_65 rfl ?_ (Nat.zero_le _) (Nat.zero_le _)
      refine ⟨?_, rfl, rfl⟩
      unfold narK
      rw [if_neg (by omega), if_neg (by omega), if_neg (by omega), if_pos (by omega)]
      first
      | (rw [if_pos (by omega)])
      | (rw [if_neg (by omega)])

set_option maxHeartbeats 4000000 in
set_option maxRecDepth 100000 in
theorem c_tapeOf {Ω : Ow} {S : Sg} {M : Mm} (hG : Gr S) (n : Int) (hn : rg n) : Ct Ω mX9_tapeOf 2 0 0 3 [vr Ω 0, vi n] S M (fun x S' M' => ((∃ i : Nat, i < 6 ∧ n = (i : Int) ∧ x = ((75 + 2 * i : Nat) : Int)) ∨ (¬ (0 ≤ n ∧ n ≤ 5) ∧ x = -1)) ∧ S' = S ∧ M' = M) := by
  refine Ct.mk (by decide) (Nat.le_of_ble_eq_true rfl) [some (vr Ω 0), some (vi n)] (by intro q hq; exact hq) (fun γ hγ hz => ?_)
  have o0 := obn hG (r := 0) (c := 9) (by decide +kernel)
  have a11 := arn hG (r := 11) (c := 16) (n := 6) (by decide +kernel)
  have g0 : _ = ((11 : Nat) : Int) := grn hG (k := 0) (j := 7) (by decide)
  refine g_ild f_X9_tapeOf_0 rfl ?_
  refine g_const f_X9_tapeOf_1 ?_
  refine g_cs1 hγ (c_within n 5 (by omega) (by omega)) f_X9_tapeOf_2 mo_X9_isWithin mt_X9_isWithin rfl (Nat.le_of_ble_eq_true rfl) ⟨by decide, by decide⟩ ⟨Nat.le_refl _, Nat.le_refl _⟩ (fun x S' M' hq2 => ?_)
  obtain ⟨hx, q1, q2⟩ := hq2
  obtain rfl := q1.symm
  obtain rfl := q2.symm
  subst hx
  refine g_if_eq f_X9_tapeOf_5 rfl (by split <;> omega) (fun h0 => ?_) (fun h0 => ?_)
  · refine g_null f_X9_tapeOf_17 ?_
    refine g_reta f_X9_tapeOf_18 rfl (Or.inl ⟨_, rfl⟩) (x := -1) rfl ?_ (Nat.zero_le _) (Nat.zero_le _)
    exact ⟨Or.inr ⟨fun h => by rw [if_pos h] at h0; omega, rfl⟩, rfl, rfl⟩
  · have hn5 : 0 ≤ n ∧ n ≤ 5 := by split at h0 <;> omega
    obtain ⟨i, rfl⟩ := Int.eq_ofNat_of_zero_le hn5.1
    have hi : i < 6 := by omega
    obtain ⟨oK, aK, gK, gT⟩ := obK hG hi
    refine g_alv f_X9_tapeOf_8 rfl ?_
    refine g_getR f_X9_tapeOf_9 (by assumption) (by assumption) ?_
    refine g_ild f_X9_tapeOf_12 rfl ?_
    refine g_aal f_X9_tapeOf_13 (by assumption) (Or.inr rfl) _ rfl (by omega) (by assumption) ?_
    refine g_goto f_X9_tapeOf_14 ?_
    refine g_reta f_X9_tapeOf_18 rfl (Or.inl ⟨_, rfl⟩) (x := ((75 + 2 * i : Nat) : Int)) rfl ?_ (Nat.zero_le _) (Nat.zero_le _)
    exact ⟨Or.inl ⟨i, hi, rfl, rfl⟩, rfl, rfl⟩
