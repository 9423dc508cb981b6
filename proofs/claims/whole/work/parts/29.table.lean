/-! contracts: within, tables, scenes -/
set_option maxHeartbeats 4000000 in
set_option maxRecDepth 100000 in
theorem c_within {Ω : Ow} {S : Sg} {M : Mm} (a b : Int) (ha : rg a) (hb : rg b) : Ct Ω mX9_isWithin 1 0 0 1 [vi a, vi b] S M (fun x S' M' => (x = if 0 ≤ a ∧ a ≤ b then 1 else 0) ∧ S' = S ∧ M' = M) := by
  refine Ct.mk (by decide) (Nat.le_of_ble_eq_true rfl) [some (vi a), some (vi b)] (by intro q hq; exact hq) (fun γ hγ hz => ?_)
  refine g_ild f_X9_isWithin_0 rfl ?_
  refine g_if_lt f_X9_isWithin_1 rfl (by omega) (fun c1 => ?_) (fun c1 => ?_)
  · refine g_const f_X9_isWithin_13 ?_
    refine g_retz f_X9_isWithin_14 rfl (by first | exact Or.inl rfl | exact Or.inr rfl) ?_ (Nat.zero_le _) (Nat.zero_le _)
    exact ⟨by split <;> omega, rfl, rfl⟩
  · refine g_ild f_X9_isWithin_4 rfl ?_
    refine g_ild f_X9_isWithin_5 rfl ?_
    refine g_icmp_gt f_X9_isWithin_6 rfl (by omega) (by omega) (fun c2 => ?_) (fun c2 => ?_)
    · refine g_const f_X9_isWithin_13 ?_
      refine g_retz f_X9_isWithin_14 rfl (by first | exact Or.inl rfl | exact Or.inr rfl) ?_ (Nat.zero_le _) (Nat.zero_le _)
      exact ⟨by split <;> omega, rfl, rfl⟩
    · refine g_const f_X9_isWithin_9 ?_
      refine g_goto f_X9_isWithin_10 ?_
      refine g_retz f_X9_isWithin_14 rfl (by first | exact Or.inl rfl | exact Or.inr rfl) ?_ (Nat.zero_le _) (Nat.zero_le _)
      exact ⟨by split <;> omega, rfl, rfl⟩

set_option maxHeartbeats 4000000 in
set_option maxRecDepth 100000 in
theorem c_isPlace {Ω : Ow} {S : Sg} {M : Mm} (a : Int) (ha : rg a) : Ct Ω mX9_isPlace 2 0 0 1 [vi a] S M (fun x S' M' => (x = if 0 ≤ a ∧ a ≤ 11 then 1 else 0) ∧ S' = S ∧ M' = M) := by
  refine Ct.mk (by decide) (Nat.le_of_ble_eq_true rfl) [some (vi a)] (by intro q hq; exact hq) (fun γ hγ hz => ?_)
  refine g_ild f_X9_isPlace_0 rfl ?_
  refine g_const f_X9_isPlace_1 ?_
  refine g_cs1 hγ (c_within a 11 (by omega) (by omega)) f_X9_isPlace_3 mo_X9_isWithin mt_X9_isWithin rfl (Nat.le_of_ble_eq_true rfl) ⟨by decide, by decide⟩ ⟨Nat.le_refl _, Nat.le_refl _⟩ (fun x S' M' hq2 => ?_)
  obtain ⟨hx, q1, q2⟩ := hq2
  obtain rfl := q1.symm
  obtain rfl := q2.symm
  subst hx
  refine g_retz f_X9_isPlace_6 rfl (by split; exact Or.inr rfl; exact Or.inl rfl) ?_ (Nat.zero_le _) (Nat.zero_le _)
  exact ⟨rfl, rfl, rfl⟩

set_option maxHeartbeats 4000000 in
set_option maxRecDepth 100000 in
theorem c_tempty {Ω : Ow} {S : Sg} {M : Mm} {c m : Nat} {T : Tb} (hG : Gr S) (hT : isT c m) (hR : RepT M c m T) : Ct Ω mX6_empty 1 0 0 1 [vr Ω c] S M (fun x S' M' => x = 0 ∧ S' = S ∧ tfr c M M' ∧ RepT M' c m []) := by
  refine Ct.mk (by decide) (Nat.le_of_ble_eq_true rfl) [some (vr Ω c)] (by intro q hq; exact hq) (fun γ hγ hz => ?_)
  obtain ⟨oC, aC, gC⟩ := obT hG hT
  obtain ⟨r1, r2, r3, r4⟩ := id hR
  have hm := (sh_T hT).2.2.2
  refine g_alv f_X6_empty_0 rfl ?_
  refine g_const f_X6_empty_1 ?_
  refine g_putI f_X6_empty_2 rfl (by assumption) ?_
  refine g_const f_X6_empty_5 ?_
  refine g_reti f_X6_empty_6 rfl ?_ (Nat.zero_le _) (Nat.zero_le _)
  exact ⟨rfl, rfl, fun k a _ => up_row a, by rw [up_n (by omega)]; exact r1, by rw [up_s]; rfl, Nat.zero_le _, fun i hi => absurd hi (Nat.not_lt_zero _)⟩

theorem tadd {M : Mm} {c m : Nat} {T : Tb} {a b d : Int} (hlt : T.length < m) (hR : RepT M c m T) : RepT (up (up (up (up M (c + 1) (3 * T.length) a) (c + 1) (3 * T.length + 1) b) (c + 1) (3 * T.length + 2) d) c 2 ((T.length : Int) + 1)) c m (T ++ [(a, b, d)]) := by
  obtain ⟨r1, r2, r3, r4⟩ := hR
  refine ⟨?_, ?_, ?_, fun i hi k hk => ?_⟩
  · rw [up_n (by omega), up_row (by omega), up_row (by omega), up_row (by omega)]; exact r1
  · rw [up_s, List.length_append]; simp
  · rw [List.length_append]; simp; omega
  · rw [List.length_append] at hi
    simp only [List.length_cons, List.length_nil] at hi
    rw [up_row (by omega), tg_app]
    by_cases h : i < T.length
    · rw [if_pos h, up_n (by omega), up_n (by omega), up_n (by omega)]
      exact r4 i h k hk
    · have e : i = T.length := by omega
      subst e
      rw [if_neg h, if_pos rfl]
      rcases (show k = 0 ∨ k = 1 ∨ k = 2 by omega) with rfl | rfl | rfl
      · rw [up_n (by omega), up_n (by omega)]; exact up_s _ _ _ _
      · rw [up_n (by omega)]; exact up_s _ _ _ _
      · exact up_s _ _ _ _
set_option maxHeartbeats 4000000 in
set_option maxRecDepth 100000 in
theorem c_tadd {Ω : Ow} {S : Sg} {M : Mm} {c m : Nat} {T : Tb} (hG : Gr S) (hT : isT c m) (hR : RepT M c m T) (a b d : Int) : Ct Ω mX6_add 1 0 0 1 [vr Ω c, vi a, vi b, vi d] S M (fun x S' M' => S' = S ∧ ((T.length = m ∧ x = -4 ∧ M' = M) ∨ (T.length < m ∧ x = (T.length : Int) + 1 ∧ tfr c M M' ∧ RepT M' c m (T ++ [(a, b, d)])))) := by
  refine Ct.mk (by decide) (Nat.le_of_ble_eq_true rfl) [some (vr Ω c), some (vi a), some (vi b), some (vi d), none] (by intro q hq; exact hq) (fun γ hγ hz => ?_)
  obtain ⟨oC, aC, gC⟩ := obT hG hT
  obtain ⟨r1, r2, r3, r4⟩ := id hR
  have hm := (sh_T hT).2.2.2
  refine g_alv f_X6_add_0 rfl ?_
  refine g_getI f_X6_add_1 (by assumption) ?_
  rw [r2]
  refine g_alv f_X6_add_4 rfl ?_
  refine g_getI f_X6_add_5 (by assumption) ?_
  rw [r1]
  refine g_icmp_lt f_X6_add_8 rfl (by omega) (by omega) (fun h0 => ?_) (fun h0 => ?_)
  · have hlt : T.length < m := by omega
    refine g_alv f_X6_add_14 rfl ?_
    refine g_getI f_X6_add_15 (by assumption) ?_
    rw [r2]
    refine g_const f_X6_add_18 ?_
    refine g_imul f_X6_add_19 ?_
    refine g_ist_4 f_X6_add_20 (by decide) c1i ?_
    refine g_alv f_X6_add_22 rfl ?_
    refine g_getR f_X6_add_23 (by assumption) (by assumption) ?_
    refine g_ild f_X6_add_26 rfl ?_
    refine g_ild f_X6_add_28 rfl ?_
    refine g_ias f_X6_add_29 (by assumption) (3 * T.length) (by omega) (by omega) ?_
    refine g_alv f_X6_add_30 rfl ?_
    refine g_getR f_X6_add_31 (by assumption) (by assumption) ?_
    refine g_ild f_X6_add_34 rfl ?_
    refine g_const f_X6_add_36 ?_
    refine g_iadd f_X6_add_37 ?_
    refine g_ild f_X6_add_38 rfl ?_
    refine g_ias f_X6_add_39 (by assumption) (3 * T.length + 1) (by omega) (by omega) ?_
    refine g_alv f_X6_add_40 rfl ?_
    refine g_getR f_X6_add_41 (by assumption) (by assumption) ?_
    refine g_ild f_X6_add_44 rfl ?_
    refine g_const f_X6_add_46 ?_
    refine g_iadd f_X6_add_47 ?_
    refine g_ild f_X6_add_48 rfl ?_
    refine g_ias f_X6_add_49 (by assumption) (3 * T.length + 2) (by omega) (by omega) ?_
    refine g_alv f_X6_add_50 rfl ?_
    refine g_dup f_X6_add_51 rfl ?_
    refine g_getI f_X6_add_52 (by assumption) ?_
    rw [up_row (by omega), up_row (by omega), up_row (by omega), r2]
    refine g_const f_X6_add_55 ?_
    refine g_iadd f_X6_add_56 ?_
    refine g_putI f_X6_add_57 rfl (by assumption) ?_
    refine g_alv f_X6_add_60 rfl ?_
    refine g_getI f_X6_add_61 (by assumption) ?_
    rw [up_s]
    refine g_reti f_X6_add_64 rfl ?_ (Nat.zero_le _) (Nat.zero_le _)
    refine ⟨rfl, Or.inr ⟨hlt, rfl, fun k2 h1 h2 => by rw [up_row h1, up_row h2, up_row h2, up_row h2], ?_⟩⟩
    exact tadd hlt hR
  · refine g_const f_X6_add_11 ?_
    refine g_reti f_X6_add_13 rfl ?_ (Nat.zero_le _) (Nat.zero_le _)
    exact ⟨rfl, Or.inl ⟨by omega, rfl, rfl⟩⟩

set_option maxHeartbeats 4000000 in
set_option maxRecDepth 100000 in
theorem c_tcell {Ω : Ow} {S : Sg} {M : Mm} {c m : Nat} {T : Tb} (hG : Gr S) (hT : isT c m) (hR : RepT M c m T) {i k : Nat} (hi : i < T.length) (hk : k < 3) : Ct Ω mX6_cell 2 0 0 1 [vr Ω c, vi (i : Int), vi (k : Int)] S M (fun x S' M' => x = tg T i k ∧ S' = S ∧ M' = M) := by
  refine Ct.mk (by decide) (Nat.le_of_ble_eq_true rfl) [some (vr Ω c), some (vi (i : Int)), some (vi (k : Int)), none] (by intro q hq; exact hq) (fun γ hγ hz => ?_)
  obtain ⟨oC, aC, gC⟩ := obT hG hT
  obtain ⟨r1, r2, r3, r4⟩ := id hR
  have hm := (sh_T hT).2.2.2
  refine g_ild f_X6_cell_0 rfl ?_
  refine g_const f_X6_cell_1 ?_
  refine g_imul f_X6_cell_2 ?_
  refine g_ild f_X6_cell_3 rfl ?_
  refine g_iadd f_X6_cell_4 ?_
  refine g_ist_3 f_X6_cell_5 (by decide) c1i ?_
  refine g_ild f_X6_cell_6 rfl ?_
  refine g_alv f_X6_cell_7 rfl ?_
  refine g_getR f_X6_cell_8 (by assumption) (by assumption) ?_
  refine g_alen f_X6_cell_11 (by assumption) (by decide) ?_
  refine g_const f_X6_cell_12 ?_
  refine g_isub f_X6_cell_13 ?_
  refine g_cs1 hγ (c_within ((i : Int) * 3 + (k : Int)) ((3 * m : Nat) - 1 : Int) (by omega) (by omega)) f_X6_cell_14 mo_X9_isWithin mt_X9_isWithin rfl (Nat.le_of_ble_eq_true rfl) ⟨by decide, by decide⟩ ⟨Nat.le_refl _, Nat.le_refl _⟩ (fun x S' M' hq2 => ?_)
  obtain ⟨hx, q1, q2⟩ := hq2
  obtain rfl := q1.symm
  obtain rfl := q2.symm
  rw [if_pos (by omega)] at hx
  subst hx
  refine g_if_eq f_X6_cell_17 rfl (by omega) (fun h0 => ?_) (fun h0 => ?_)
  · exact absurd h0 (by omega)
  refine g_alv f_X6_cell_20 rfl ?_
  refine g_getR f_X6_cell_21 (by assumption) (by assumption) ?_
  refine g_ild f_X6_cell_24 rfl ?_
  refine g_ial f_X6_cell_25 (by assumption) (3 * i + k) (by omega) (by omega) ?_
  rw [r4 i hi k hk]
  refine g_goto f_X6_cell_26 ?_
  refine g_reti f_X6_cell_30 rfl ?_ (Nat.zero_le _) (Nat.zero_le _)
  exact ⟨rfl, rfl, rfl⟩

set_option maxHeartbeats 4000000 in
set_option maxRecDepth 100000 in
theorem c_tlike {Ω : Ow} {S : Sg} {M : Mm} {c c2 m : Nat} {T : Tb} (hG : Gr S) (hT : isT c m) (hT2 : isT c2 m) (hne : c2 + 1 ≠ c ∧ c2 ≠ c) (e1 : M c 1 = (m : Int)) (hR : RepT M c2 m T) : Ct Ω mX6_becomeLike 1 0 0 0 [vr Ω c, vr Ω c2] S M (fun _ S' M' => S' = S ∧ tfr c M M' ∧ RepT M' c m T) := by
  refine Ct.mk (by decide) (Nat.le_of_ble_eq_true rfl) [some (vr Ω c), some (vr Ω c2)] (by intro q hq; exact hq) (fun γ hγ hz => ?_)
  obtain ⟨oC, aC, gC⟩ := obT hG hT
  obtain ⟨oC2, aC2, gC2⟩ := obT hG hT2
  obtain ⟨r1, r2, r3, r4⟩ := id hR
  have hm := (sh_T hT).2.2.2
  refine g_alv f_X6_becomeLike_0 rfl ?_
  refine g_alv f_X6_becomeLike_1 rfl ?_
  refine g_getI f_X6_becomeLike_2 (by assumption) ?_
  rw [r2]
  refine g_putI f_X6_becomeLike_5 rfl (by assumption) ?_
  refine g_alv f_X6_becomeLike_8 rfl ?_
  refine g_getR f_X6_becomeLike_9 (by assumption) (by assumption) ?_
  refine g_const f_X6_becomeLike_12 ?_
  refine g_alv f_X6_becomeLike_13 rfl ?_
  refine g_getR f_X6_becomeLike_14 (by assumption) (by assumption) ?_
  refine g_const f_X6_becomeLike_17 ?_
  refine g_alv f_X6_becomeLike_18 rfl ?_
  refine g_getR f_X6_becomeLike_19 (by assumption) (by assumption) ?_
  refine g_alen f_X6_becomeLike_22 (by assumption) (by decide) ?_
  refine g_alv f_X6_becomeLike_23 rfl ?_
  refine g_getR f_X6_becomeLike_24 (by assumption) (by assumption) ?_
  refine g_alen f_X6_becomeLike_27 (by assumption) (by decide) ?_
  refine g_mn hγ (by decide) ⟨Nat.le_refl _, Nat.le_refl _⟩ f_X6_becomeLike_28 (by omega) (by omega) (Nat.le_of_ble_eq_true rfl) ?_
  rw [Int.min_self]
  refine g_acopyI (sp := 0) (dp := 0) (n := 3 * m) f_X6_becomeLike_31 (by assumption) (by assumption) (by omega) (by omega) (by rw [hγ]; exact ⟨by decide, by decide⟩) (by omega) ?_
  refine g_ret0 (κ := 0) f_X6_becomeLike_34 rfl 0 ?_ (Nat.zero_le _) (Nat.zero_le _)
  refine ⟨rfl, fun k2 h1 h2 => by rw [cpM_row h2, up_row h1], ?_, ?_, r3, fun i hi k hk => ?_⟩
  · rw [cpM_row (by omega), up_n (by omega), e1]
  · rw [cpM_row (by omega), up_s]
  · unfold cpM
    rw [if_pos ⟨rfl, by omega, by omega⟩, show 0 + (3 * i + k - 0) = 3 * i + k by omega, up_row (by omega)]
    exact r4 i hi k hk
