/-! contracts: the constructors -/
set_option maxHeartbeats 4000000 in
set_option maxRecDepth 100000 in
theorem c_pInit {Ω : Ow} {S : Sg} {M : Mm} {q : Nat} (n : Int) (s0 : sh q = (3, 0)) (s1 : sh (q + 1) = (12, 4)) (hS : S.1 = q + 1) : Ct Ω mX3_init 1 1 4 0 [vr Ω q, vi n] S M (fun _ S' M' => S' = (q + 2, up S.2 q 6 ((q + 1 : Nat) : Int)) ∧ M' = up M q 0 n) := by
  refine Ct.mk (by decide) (Nat.le_of_ble_eq_true rfl) [some (vr Ω q), some (vi n)] (by intro q hq; exact hq) (fun γ hγ hz => ?_)
  refine g_alv f_X3_init_0 rfl ?_
  refine g_oi hγ (by decide) f_X3_init_1 (Nat.le_of_ble_eq_true rfl) ?_
  refine g_alv f_X3_init_4 rfl ?_
  refine g_const f_X3_init_5 ?_
  refine g_newa (c := 12) (n := 4) f_X3_init_6 ac_int (by first | exact Or.inl ⟨rfl, rfl⟩ | exact Or.inr (Or.inl ⟨rfl, rfl⟩) | exact Or.inr (Or.inr (Or.inl ⟨rfl, rfl⟩)) | exact Or.inr (Or.inr (Or.inr ⟨rfl, rfl⟩))) (by decide) hS s1 (by rw [hγ]; show _ ≤ 1; omega) (by rw [hγ]; show _ ≤ 4; omega) ?_
  refine g_putqR f_X3_init_8 rfl (by first | exact Or.inl ⟨_, rfl⟩ | exact Or.inr ⟨_, rfl⟩) (by exact ⟨by assumption, by (try dsimp only); omega, by decide⟩) ?_
  refine g_alv f_X3_init_11 rfl ?_
  refine g_ild f_X3_init_12 rfl ?_
  refine g_putqI f_X3_init_13 rfl rfl (by exact ⟨by assumption, by (try dsimp only); omega, by decide⟩) ?_
  refine g_ret0 (κ := 0) f_X3_init_16 rfl 0 ?_ (by omega) (by omega)
  exact ⟨rfl, rfl⟩

set_option maxHeartbeats 4000000 in
set_option maxRecDepth 100000 in
theorem c_tInit {Ω : Ow} {S : Sg} {M : Mm} {q m : Nat} (hm : m ≤ 10) (s0 : sh q = (6, 0)) (s1 : sh (q + 1) = (12, 3 * m)) (hS : S.1 = q + 1) : Ct Ω mX6_init 1 1 30 0 [vr Ω q, vi (m : Int)] S M (fun _ S' M' => S' = (q + 2, up S.2 q 0 ((q + 1 : Nat) : Int)) ∧ M' = up M q 1 (m : Int)) := by
  refine Ct.mk (by decide) (Nat.le_of_ble_eq_true rfl) [some (vr Ω q), some (vi (m : Int))] (by intro q hq; exact hq) (fun γ hγ hz => ?_)
  refine g_alv f_X6_init_0 rfl ?_
  refine g_oi hγ (by decide) f_X6_init_1 (Nat.le_of_ble_eq_true rfl) ?_
  refine g_alv f_X6_init_4 rfl ?_
  refine g_ild f_X6_init_5 rfl ?_
  refine g_putqI f_X6_init_6 rfl rfl (by exact ⟨by assumption, by (try dsimp only); omega, by decide⟩) ?_
  refine g_alv f_X6_init_9 rfl ?_
  refine g_ild f_X6_init_10 rfl ?_
  refine g_const f_X6_init_11 ?_
  refine g_imul f_X6_init_12 ?_
  refine g_as (show (m : Int) * 3 = ((3 * m : Nat) : Int) by omega) ?_
  refine g_newa (c := 12) (n := 3 * m) f_X6_init_13 ac_int (by first | exact Or.inl ⟨rfl, rfl⟩ | exact Or.inr (Or.inl ⟨rfl, rfl⟩) | exact Or.inr (Or.inr (Or.inl ⟨rfl, rfl⟩)) | exact Or.inr (Or.inr (Or.inr ⟨rfl, rfl⟩))) (by omega) hS s1 (by rw [hγ]; show _ ≤ 1; omega) (by rw [hγ]; show _ ≤ 30; omega) ?_
  refine g_putqR f_X6_init_15 rfl (by first | exact Or.inl ⟨_, rfl⟩ | exact Or.inr ⟨_, rfl⟩) (by exact ⟨by assumption, by (try dsimp only); omega, by decide⟩) ?_
  refine g_ret0 (κ := 0) f_X6_init_18 rfl 0 ?_ (by omega) (by omega)
  exact ⟨rfl, rfl⟩

set_option maxHeartbeats 4000000 in
set_option maxRecDepth 100000 in
theorem c_kInit {Ω : Ow} {S : Sg} {M : Mm} {q : Nat} (s0 : sh q = (7, 0)) (s1 : sh (q + 1) = (13, 60)) (hS : S.1 = q + 1) : Ct Ω mX7_init 1 1 60 0 [vr Ω q] S M (fun _ S' M' => S' = (q + 2, up S.2 q 2 ((q + 1 : Nat) : Int)) ∧ M' = up M q 0 (-1)) := by
  refine Ct.mk (by decide) (Nat.le_of_ble_eq_true rfl) [some (vr Ω q)] (by intro q hq; exact hq) (fun γ hγ hz => ?_)
  refine g_alv f_X7_init_0 rfl ?_
  refine g_oi hγ (by decide) f_X7_init_1 (Nat.le_of_ble_eq_true rfl) ?_
  refine g_alv f_X7_init_4 rfl ?_
  refine g_const f_X7_init_5 ?_
  refine g_putI f_X7_init_6 rfl (by exact ⟨by assumption, by (try dsimp only); omega, by decide⟩) ?_
  refine g_alv f_X7_init_9 rfl ?_
  refine g_const f_X7_init_10 ?_
  refine g_newa (c := 13) (n := 60) f_X7_init_12 ac_long (by first | exact Or.inl ⟨rfl, rfl⟩ | exact Or.inr (Or.inl ⟨rfl, rfl⟩) | exact Or.inr (Or.inr (Or.inl ⟨rfl, rfl⟩)) | exact Or.inr (Or.inr (Or.inr ⟨rfl, rfl⟩))) (by decide) hS s1 (by rw [hγ]; show _ ≤ 1; omega) (by rw [hγ]; show _ ≤ 60; omega) ?_
  refine g_putqR f_X7_init_14 rfl (by first | exact Or.inl ⟨_, rfl⟩ | exact Or.inr ⟨_, rfl⟩) (by exact ⟨by assumption, by (try dsimp only); omega, by decide⟩) ?_
  refine g_ret0 (κ := 0) f_X7_init_17 rfl 0 ?_ (by omega) (by omega)
  exact ⟨rfl, rfl⟩

set_option maxHeartbeats 4000000 in
set_option maxRecDepth 100000 in
theorem c_aInit {Ω : Ow} {S : Sg} {M : Mm} {q : Nat} (s0 : sh q = (0, 0)) (s1 : sh (q + 1) = (12, 20)) (hS : S.1 = q + 1) : Ct Ω mX0_init 1 1 20 0 [vr Ω q] S M (fun _ S' M' => S' = (q + 2, up S.2 q 0 ((q + 1 : Nat) : Int)) ∧ M' = M) := by
  refine Ct.mk (by decide) (Nat.le_of_ble_eq_true rfl) [some (vr Ω q)] (by intro q hq; exact hq) (fun γ hγ hz => ?_)
  refine g_alv f_X0_init_0 rfl ?_
  refine g_oi hγ (by decide) f_X0_init_1 (Nat.le_of_ble_eq_true rfl) ?_
  refine g_alv f_X0_init_4 rfl ?_
  refine g_const f_X0_init_5 ?_
  refine g_newa (c := 12) (n := 20) f_X0_init_7 ac_int (by first | exact Or.inl ⟨rfl, rfl⟩ | exact Or.inr (Or.inl ⟨rfl, rfl⟩) | exact Or.inr (Or.inr (Or.inl ⟨rfl, rfl⟩)) | exact Or.inr (Or.inr (Or.inr ⟨rfl, rfl⟩))) (by decide) hS s1 (by rw [hγ]; show _ ≤ 1; omega) (by rw [hγ]; show _ ≤ 20; omega) ?_
  refine g_putqR f_X0_init_9 rfl (by first | exact Or.inl ⟨_, rfl⟩ | exact Or.inr ⟨_, rfl⟩) (by exact ⟨by assumption, by (try dsimp only); omega, by decide⟩) ?_
  refine g_ret0 (κ := 0) f_X0_init_12 rfl 0 ?_ (by omega) (by omega)
  exact ⟨rfl, rfl⟩

set_option maxHeartbeats 4000000 in
set_option maxRecDepth 100000 in
theorem c_lwInit {Ω : Ow} {S : Sg} {M : Mm} {q : Nat} (hΛ : isLaw q) (hS : S.1 = q + 1) : Ct Ω mX1_init 3 5 136 0 [vr Ω q] S M (fun _ S' M' => S' = (q + 6, newS S q) ∧ M' = up M q 0 20) := by
  refine Ct.mk (by decide) (Nat.le_of_ble_eq_true rfl) [some (vr Ω q)] (by intro q hq; exact hq) (fun γ hγ hz => ?_)
  obtain ⟨s0, s1, s2, s3, s4, s5⟩ := sh_law hΛ
  refine g_alv f_X1_init_0 rfl ?_
  refine g_oi hγ (by decide) f_X1_init_1 (Nat.le_of_ble_eq_true rfl) ?_
  refine g_alv f_X1_init_4 rfl ?_
  refine g_const f_X1_init_5 ?_
  refine g_putI f_X1_init_7 rfl (by exact ⟨s0, by (try dsimp only); omega, by decide⟩) ?_
  refine g_alv f_X1_init_10 rfl ?_
  refine g_const f_X1_init_11 ?_
  refine g_newa (c := 12) (n := 10) f_X1_init_13 ac_int (by first | exact Or.inl ⟨rfl, rfl⟩ | exact Or.inr (Or.inl ⟨rfl, rfl⟩) | exact Or.inr (Or.inr (Or.inl ⟨rfl, rfl⟩)) | exact Or.inr (Or.inr (Or.inr ⟨rfl, rfl⟩))) (by decide) (show _ = q + 1 from hS) s1 (by rw [hγ]; decide) (by rw [hγ]; decide) ?_
  refine g_putqR f_X1_init_15 rfl (by first | exact Or.inl ⟨_, rfl⟩ | exact Or.inr ⟨_, rfl⟩) (by exact ⟨s0, by (try dsimp only); omega, by decide⟩) ?_
  refine g_alv f_X1_init_18 rfl ?_
  refine g_const f_X1_init_19 ?_
  refine g_newa (c := 12) (n := 10) f_X1_init_21 ac_int (by first | exact Or.inl ⟨rfl, rfl⟩ | exact Or.inr (Or.inl ⟨rfl, rfl⟩) | exact Or.inr (Or.inr (Or.inl ⟨rfl, rfl⟩)) | exact Or.inr (Or.inr (Or.inr ⟨rfl, rfl⟩))) (by decide) (show _ = q + 2 from rfl) s2 (by rw [hγ]; decide) (by rw [hγ]; decide) ?_
  refine g_putqR f_X1_init_23 rfl (by first | exact Or.inl ⟨_, rfl⟩ | exact Or.inr ⟨_, rfl⟩) (by exact ⟨s0, by (try dsimp only); omega, by decide⟩) ?_
  refine g_alv f_X1_init_26 rfl ?_
  refine g_const f_X1_init_27 ?_
  refine g_newa (c := 12) (n := 10) f_X1_init_29 ac_int (by first | exact Or.inl ⟨rfl, rfl⟩ | exact Or.inr (Or.inl ⟨rfl, rfl⟩) | exact Or.inr (Or.inr (Or.inl ⟨rfl, rfl⟩)) | exact Or.inr (Or.inr (Or.inr ⟨rfl, rfl⟩))) (by decide) (show _ = q + 3 from rfl) s3 (by rw [hγ]; decide) (by rw [hγ]; decide) ?_
  refine g_putqR f_X1_init_31 rfl (by first | exact Or.inl ⟨_, rfl⟩ | exact Or.inr ⟨_, rfl⟩) (by exact ⟨s0, by (try dsimp only); omega, by decide⟩) ?_
  refine g_alv f_X1_init_34 rfl ?_
  refine g_const f_X1_init_35 ?_
  refine g_newa (c := 12) (n := 100) f_X1_init_37 ac_int (by first | exact Or.inl ⟨rfl, rfl⟩ | exact Or.inr (Or.inl ⟨rfl, rfl⟩) | exact Or.inr (Or.inr (Or.inl ⟨rfl, rfl⟩)) | exact Or.inr (Or.inr (Or.inr ⟨rfl, rfl⟩))) (by decide) (show _ = q + 4 from rfl) s4 (by rw [hγ]; decide) (by rw [hγ]; decide) ?_
  refine g_putqR f_X1_init_39 rfl (by first | exact Or.inl ⟨_, rfl⟩ | exact Or.inr ⟨_, rfl⟩) (by exact ⟨s0, by (try dsimp only); omega, by decide⟩) ?_
  refine g_alv f_X1_init_42 rfl ?_
  refine g_ldcS (i := 0) (by decide) f_X1_init_43 rfl ?_
  refine g_ct1 hγ (by decide) (c_slen (i := 0) (by decide)) f_X1_init_45 mo_J0_length_8abf5 mv_J0_length_8abf5 rfl rfl (Nat.le_of_ble_eq_true rfl) ⟨by decide, by decide⟩ ⟨by decide, by decide⟩ (fun x S' M3 hq2 => ?_)
  obtain ⟨rfl, q1, q2⟩ := hq2
  obtain rfl := q1.symm
  obtain rfl := q2.symm
  refine g_as (show ((sL 0).length : Int) = ((6 : Nat) : Int) from rfl) ?_
  refine g_newa (c := 12) (n := 6) f_X1_init_48 ac_int (by first | exact Or.inl ⟨rfl, rfl⟩ | exact Or.inr (Or.inl ⟨rfl, rfl⟩) | exact Or.inr (Or.inr (Or.inl ⟨rfl, rfl⟩)) | exact Or.inr (Or.inr (Or.inr ⟨rfl, rfl⟩))) (by decide) (show _ = q + 5 from rfl) s5 (by rw [hγ]; decide) (by rw [hγ]; decide) ?_
  refine g_putqR f_X1_init_50 rfl (by first | exact Or.inl ⟨_, rfl⟩ | exact Or.inr ⟨_, rfl⟩) (by exact ⟨s0, by (try dsimp only); omega, by decide⟩) ?_
  refine g_ret0 (κ := 0) f_X1_init_53 rfl 0 ?_ (Nat.le_of_ble_eq_true rfl) (Nat.le_of_ble_eq_true rfl)
  exact ⟨rfl, rfl⟩

set_option maxHeartbeats 4000000 in
set_option maxRecDepth 100000 in
theorem c_xInit {Ω : Ow} {S : Sg} {M : Mm} (hS : S.1 = 2) (hZ : ∀ k, 1 ≤ k → ∀ j, M k j = 0) : Ct Ω mX2_init 4 7 244 0 [vr Ω 1] S M (fun _ S' M' => nfr 1 8 S S' M M' ∧ S'.2 1 0 = 2 ∧ S'.2 1 3 = 3 ∧ M' 1 = M 1 ∧ LawF S' M' 3) := by
  refine Ct.mk (by decide) (Nat.le_of_ble_eq_true rfl) [some (vr Ω 1)] (by intro q hq; exact hq) (fun γ hγ hz => ?_)
  obtain ⟨L0, L1, L2, L3, L4, L5, L6, L7, L8, L9, L10⟩ := cLs
  refine g_alv f_X2_init_0 rfl ?_
  refine g_oi hγ (by decide) f_X2_init_1 (Nat.le_of_ble_eq_true rfl) ?_
  refine g_alv f_X2_init_4 rfl ?_
  refine g_const f_X2_init_5 ?_
  refine g_newa (c := 11) (n := 100) f_X2_init_7 ac_byte (by first | exact Or.inl ⟨rfl, rfl⟩ | exact Or.inr (Or.inl ⟨rfl, rfl⟩) | exact Or.inr (Or.inr (Or.inl ⟨rfl, rfl⟩)) | exact Or.inr (Or.inr (Or.inr ⟨rfl, rfl⟩))) (by decide) (show _ = 2 from hS) (by decide +kernel) (by rw [hγ]; show _ ≤ 7; omega) (by rw [hγ]; show _ ≤ 244; omega) ?_
  refine g_putqR f_X2_init_9 rfl (by first | exact Or.inl ⟨_, rfl⟩ | exact Or.inr ⟨_, rfl⟩) (by exact ⟨by decide +kernel, by (try dsimp only); omega, by decide⟩) ?_
  refine g_alv f_X2_init_12 rfl ?_
  refine g_new f_X2_init_13 ins_1 ini_1 (by decide) (show _ = 3 from rfl) (by decide +kernel) (by rw [hγ]; show _ ≤ 7; omega) (by rw [hγ]; show _ ≤ 244; omega) ?_
  refine g_dup f_X2_init_16 rfl ?_
  refine g_ci hγ (c_lwInit (q := 3) (Or.inl rfl) rfl) f_X2_init_17 mo_X1_init rfl rfl mi_X1_init rfl (Nat.le_of_ble_eq_true rfl) ⟨by decide, by decide⟩ ⟨by omega, by omega⟩ (fun x S3 M3 hq2 => ?_)
  obtain ⟨q1, rfl⟩ := hq2
  subst q1
  refine g_putR f_X2_init_20 (by first | exact Or.inl ⟨_, rfl⟩ | exact Or.inr ⟨_, rfl⟩) (by exact ⟨by decide +kernel, by (try dsimp only); omega, by decide⟩) ?_
  refine g_ret0 (κ := 0) f_X2_init_23 rfl 0 ?_ (by omega) (by omega)
  refine ⟨⟨rfl, fun k hk => ⟨?_, ?_⟩⟩, ?_, ?_, ?_, ⟨⟨?_, ?_, ?_, ?_, ?_⟩, ?_, ?_⟩⟩
  · exact (up_row (show k ≠ 1 by omega)).trans ((newS_row (show k ≠ 3 by omega)).trans (up_row (show k ≠ 1 by omega)))
  · exact up_row (by omega)
  · simp [newS, up]
  · simp [up]
  · exact up_row (by omega)
  · simp [newS, up]
  · simp [newS, up]
  · simp [newS, up]
  · simp [newS, up]
  · simp [newS, up]
  · exact up_s _ _ _ _
  · rw [up_n (by omega)]; exact hZ 3 (by omega) 1

set_option maxHeartbeats 4000000 in
set_option maxRecDepth 100000 in
theorem c_strInit {Ω : Ow} {S : Sg} {M : Mm} {B Λ : Nat} (hB : isB B) (hS : S.1 = B + 1) (hZ : ∀ k, B ≤ k → ∀ j, M k j = 0) : Ct Ω mX5_init 2 13 78 0 [vr Ω B, vr Ω Λ] S M (fun _ S' M' => nfr B 14 S S' M M' ∧ StrF S' M' B Λ) := by
  refine Ct.mk (by decide) (Nat.le_of_ble_eq_true rfl) [some (vr Ω B), some (vr Ω Λ), none] (by intro q hq; exact hq) (fun γ hγ hz => ?_)
  obtain ⟨L0, L1, L2, L3, L4, L5, L6, L7, L8, L9, L10⟩ := cLs
  have s0 := (sh_pe hB (show 0 < 6 by decide)).2.2
  have sB1 := sh_B1 hB
  have loop : ∀ (m p : Nat) (S1 : Sg) (M1 : Mm), p + m = 6 → (S1.1 = B + 2 + 2 * p ∧ (∀ k, (k < B ∨ B + 2 + 2 * p ≤ k) → row2 S S1 M M1 k) ∧ M1 B = M B ∧ S1.2 B 0 = ((B + 1 : Nat) : Int) ∧ S1.2 B 4 = (Λ : Int) ∧ ∀ n, n < p → S1.2 (B + 1) n = (pe B n : Int) ∧ S1.2 (pe B n) 6 = ((pe B n + 1 : Nat) : Int) ∧ M1 (pe B n) 0 = (n : Int)) → Go γ Ω mX5_init (Zm γ Ω 0 13 78 (fun _ S' M' => nfr B 14 S S' M M' ∧ StrF S' M' B Λ)) (1 + 2 * p) (6 + 12 * p) S1 M1 20 [some (vr Ω B), some (vr Ω Λ), some (vi (p : Int))] [] := by
    intro m
    induction m with
    | zero =>
      intro p S1 M1 hm hj
      have hp : p = 6 := by omega
      subst hp
      obtain ⟨j1, j2, j3, j4, j5, j6⟩ := hj
      refine g_ild f_X5_init_20 rfl ?_
      refine g_const f_X5_init_21 ?_
      refine g_icmp_ge f_X5_init_23 rfl (by omega) (by omega) (fun hc => ?_) (fun hc => ?_)
      · refine g_ret0 (κ := 0) f_X5_init_46 rfl 0 ?_ (by omega) (by omega)
        exact ⟨⟨j1, fun k hk => j2 k (by omega)⟩, j4, j5, ⟨by rw [j3]; exact hZ B (Nat.le_refl _) 1, by rw [j3]; exact hZ B (Nat.le_refl _) 2, by rw [j3]; exact hZ B (Nat.le_refl _) 3⟩, j6⟩
      · exact absurd (by omega) hc
    | succ m ih =>
      intro p S1 M1 hm hj
      obtain ⟨j1, j2, j3, j4, j5, j6⟩ := hj
      have hp : p < 6 := by omega
      obtain ⟨sp, sp1, -⟩ := sh_pe hB hp
      have hpe : pe B p = B + 2 + 2 * p := rfl
      refine g_ild f_X5_init_20 rfl ?_
      refine g_const f_X5_init_21 ?_
      refine g_icmp_ge f_X5_init_23 rfl (by omega) (by omega) (fun hc => ?_) (fun hc => ?_)
      · exact absurd hc (by omega)
      refine g_alv f_X5_init_26 rfl ?_
      refine g_getR f_X5_init_27 (by exact ⟨by assumption, by (try dsimp only); omega, by decide⟩) j4 ?_
      refine g_ild f_X5_init_30 rfl ?_
      refine g_new f_X5_init_31 ins_3 ini_3 (by decide) (show _ = pe B p from j1) sp (by rw [hγ]; show _ ≤ 13; omega) (by rw [hγ]; show _ ≤ 78; omega) ?_
      refine g_dup f_X5_init_34 rfl ?_
      refine g_ild f_X5_init_35 rfl ?_
      refine g_ci hγ (c_pInit (q := pe B p) (p : Int) sp sp1 rfl) f_X5_init_36 mo_X3_init rfl rfl mi_X3_init rfl (Nat.le_of_ble_eq_true rfl) ⟨by decide, by decide⟩ ⟨by omega, by omega⟩ (fun x S3 M3 hq2 => ?_)
      obtain ⟨rfl, rfl⟩ := hq2
      refine g_aas f_X5_init_39 (by exact ⟨by assumption, by (try dsimp only); omega, by decide⟩) (Or.inl ⟨rfl, rfl⟩) p rfl (by omega) (by exact ⟨by assumption, by (try dsimp only); omega, by decide⟩) ?_
      refine g_inc_2 f_X5_init_40 (by decide) c1v ?_
      refine g_goto f_X5_init_43 ?_
      refine Go.wide (ih (p + 1) _ _ (by omega) ⟨by show pe B p + 2 = _; omega, fun k hk => ⟨?_, ?_⟩, ?_, ?_, ?_, fun n hn => ?_⟩) (by omega) (by omega)
      · show up (up S1.2 (pe B p) 6 ((pe B p + 1 : Nat) : Int)) (B + 1) p ((pe B p : Nat) : Int) k = _; rw [up_row (by omega), up_row (by omega)]; exact (j2 k (by omega)).1
      · rw [up_row (by omega)]; exact (j2 k (by omega)).2
      · rw [up_row (by omega)]; exact j3
      · show up (up S1.2 (pe B p) 6 ((pe B p + 1 : Nat) : Int)) (B + 1) p ((pe B p : Nat) : Int) B 0 = _; rw [up_row (by omega), up_row (by omega)]; exact j4
      · show up (up S1.2 (pe B p) 6 ((pe B p + 1 : Nat) : Int)) (B + 1) p ((pe B p : Nat) : Int) B 4 = _; rw [up_row (by omega), up_row (by omega)]; exact j5
      · have hpn : pe B n = B + 2 + 2 * n := rfl
        show up (up S1.2 (pe B p) 6 ((pe B p + 1 : Nat) : Int)) (B + 1) p ((pe B p : Nat) : Int) (B + 1) n = _ ∧ up (up S1.2 (pe B p) 6 ((pe B p + 1 : Nat) : Int)) (B + 1) p ((pe B p : Nat) : Int) (pe B n) 6 = _ ∧ _
        by_cases q : n = p
        · subst q; exact ⟨up_s _ _ _ _, by rw [up_row (by omega)]; exact up_s _ _ _ _, up_s _ _ _ _⟩
        · obtain ⟨u1, u2, u3⟩ := j6 n (by omega)
          exact ⟨by rw [up_n (by omega), up_row (by omega)]; exact u1, by rw [up_row (by omega), up_row (by omega)]; exact u2, by rw [up_row (by omega)]; exact u3⟩
  refine g_alv f_X5_init_0 rfl ?_
  refine g_oi hγ (by decide) f_X5_init_1 (Nat.le_of_ble_eq_true rfl) ?_
  refine g_alv f_X5_init_4 rfl ?_
  refine g_const f_X5_init_5 ?_
  refine g_newq (c := 15) (n := 6) f_X5_init_7 (Or.inl ⟨rfl, rfl⟩) (by decide) hS sB1 (by rw [hγ]; show _ ≤ 13; omega) (by rw [hγ]; show _ ≤ 78; omega) ?_
  refine g_putqR f_X5_init_10 rfl (by first | exact Or.inl ⟨_, rfl⟩ | exact Or.inr ⟨_, rfl⟩) (by exact ⟨by assumption, by (try dsimp only); omega, by decide⟩) ?_
  refine g_alv f_X5_init_13 rfl ?_
  refine g_alv f_X5_init_14 rfl ?_
  refine g_putR f_X5_init_15 (by first | exact Or.inl ⟨_, rfl⟩ | exact Or.inr ⟨_, rfl⟩) (by exact ⟨by assumption, by (try dsimp only); omega, by decide⟩) ?_
  refine g_const f_X5_init_18 ?_
  refine g_ist_2 f_X5_init_19 (by decide) c1v ?_
  refine Go.wide (loop 6 0 _ M (by decide) ⟨rfl, fun k hk => ⟨?_, rfl⟩, rfl, ?_, ?_, fun n hn => absurd hn (Nat.not_lt_zero _)⟩) (by omega) (by omega)
  · show up (up S.2 B 0 ((B + 1 : Nat) : Int)) B 4 (Λ : Int) k = _; rw [up_row (by omega), up_row (by omega)]
  · show up (up S.2 B 0 ((B + 1 : Nat) : Int)) B 4 (Λ : Int) B 0 = _; rw [up_n (by omega)]; exact up_s _ _ _ _
  · exact up_s _ _ _ _

set_option maxHeartbeats 4000000 in
set_option maxRecDepth 100000 in
theorem c_scInit {Ω : Ow} {S : Sg} {M : Mm} {C Λ : Nat} (hC : C = 18 ∨ C = 39) (hS : S.1 = C + 1) (hZ : ∀ k, C ≤ k → ∀ j, M k j = 0) : Ct Ω mX4_init 3 20 182 0 [vr Ω C, vr Ω Λ] S M (fun _ S' M' => nfr C 21 S S' M M' ∧ ScnF S' M' C Λ) := by
  refine Ct.mk (by decide) (Nat.le_of_ble_eq_true rfl) [some (vr Ω C), some (vr Ω Λ)] (by intro q hq; exact hq) (fun γ hγ hz => ?_)
  obtain ⟨L0, L1, L2, L3, L4, L5, L6, L7, L8, L9, L10⟩ := cLs
  have sC : sh C = (4, 0) ∧ sh (C + 1) = (6, 0) ∧ sh (C + 2) = (12, 3 * 5) ∧ sh (C + 3) = (6, 0) ∧ sh (C + 4) = (12, 3 * 10) ∧ sh (C + 5) = (6, 0) ∧ sh (C + 6) = (12, 3 * 8) ∧ sh (C + 7) = (5, 0) := by rcases hC with rfl | rfl <;> decide +kernel
  obtain ⟨t0, t1, t2, t3, t4, t5, t6, t7⟩ := sC
  have hB : isB (C + 7) := by rcases hC with rfl | rfl; exact Or.inl rfl; exact Or.inr (Or.inl rfl)
  refine g_alv f_X4_init_0 rfl ?_
  refine g_oi hγ (by decide) f_X4_init_1 (Nat.le_of_ble_eq_true rfl) ?_
  refine g_alv f_X4_init_4 rfl ?_
  refine g_new f_X4_init_5 ins_6 ini_6 (by decide) (show _ = C + 1 from hS) t1 (by rw [hγ]; show _ ≤ 20; omega) (by rw [hγ]; show _ ≤ 182; omega) ?_
  refine g_dup f_X4_init_8 rfl ?_
  refine g_const f_X4_init_9 ?_
  refine g_as (show (5 : Int) = ((5 : Nat) : Int) from rfl) ?_
  refine g_ci hγ (c_tInit (q := C + 1) (m := 5) (by decide) t1 t2 rfl) f_X4_init_10 mo_X6_init rfl rfl mi_X6_init rfl (Nat.le_of_ble_eq_true rfl) ⟨by decide, by decide⟩ ⟨by omega, by omega⟩ (fun x S2 M2 hq2 => ?_)
  obtain ⟨rfl, rfl⟩ := hq2
  refine g_putqR f_X4_init_13 rfl (by first | exact Or.inl ⟨_, rfl⟩ | exact Or.inr ⟨_, rfl⟩) (by exact ⟨by assumption, by (try dsimp only); omega, by decide⟩) ?_
  refine g_alv f_X4_init_16 rfl ?_
  refine g_new f_X4_init_17 ins_6 ini_6 (by decide) (show _ = C + 3 from rfl) t3 (by rw [hγ]; show _ ≤ 20; omega) (by rw [hγ]; show _ ≤ 182; omega) ?_
  refine g_dup f_X4_init_20 rfl ?_
  refine g_const f_X4_init_21 ?_
  refine g_as (show (10 : Int) = ((10 : Nat) : Int) from rfl) ?_
  refine g_ci hγ (c_tInit (q := C + 3) (m := 10) (by decide) t3 t4 rfl) f_X4_init_23 mo_X6_init rfl rfl mi_X6_init rfl (Nat.le_of_ble_eq_true rfl) ⟨by decide, by decide⟩ ⟨by omega, by omega⟩ (fun x S2 M2 hq2 => ?_)
  obtain ⟨rfl, rfl⟩ := hq2
  refine g_putqR f_X4_init_26 rfl (by first | exact Or.inl ⟨_, rfl⟩ | exact Or.inr ⟨_, rfl⟩) (by exact ⟨by assumption, by (try dsimp only); omega, by decide⟩) ?_
  refine g_alv f_X4_init_29 rfl ?_
  refine g_new f_X4_init_30 ins_6 ini_6 (by decide) (show _ = C + 5 from rfl) t5 (by rw [hγ]; show _ ≤ 20; omega) (by rw [hγ]; show _ ≤ 182; omega) ?_
  refine g_dup f_X4_init_33 rfl ?_
  refine g_const f_X4_init_34 ?_
  refine g_as (show (8 : Int) = ((8 : Nat) : Int) from rfl) ?_
  refine g_ci hγ (c_tInit (q := C + 5) (m := 8) (by decide) t5 t6 rfl) f_X4_init_36 mo_X6_init rfl rfl mi_X6_init rfl (Nat.le_of_ble_eq_true rfl) ⟨by decide, by decide⟩ ⟨by omega, by omega⟩ (fun x S2 M2 hq2 => ?_)
  obtain ⟨rfl, rfl⟩ := hq2
  refine g_putqR f_X4_init_39 rfl (by first | exact Or.inl ⟨_, rfl⟩ | exact Or.inr ⟨_, rfl⟩) (by exact ⟨by assumption, by (try dsimp only); omega, by decide⟩) ?_
  refine g_alv f_X4_init_42 rfl ?_
  refine g_new f_X4_init_43 ins_5 ini_5 (by decide) (show _ = C + 7 from rfl) t7 (by rw [hγ]; show _ ≤ 20; omega) (by rw [hγ]; show _ ≤ 182; omega) ?_
  refine g_dup f_X4_init_46 rfl ?_
  refine g_alv f_X4_init_47 rfl ?_
  refine g_ci hγ (c_strInit (B := C + 7) (Λ := Λ) hB rfl (fun k hk j => by rw [up_row (by omega), up_row (by omega), up_row (by omega)]; exact hZ k (by omega) j)) f_X4_init_48 mo_X5_init rfl rfl mi_X5_init rfl (Nat.le_of_ble_eq_true rfl) ⟨by decide, by decide⟩ ⟨by omega, by omega⟩ (fun x S3 M3 hq2 => ?_)
  obtain ⟨⟨n1, n2⟩, hst⟩ := hq2
  refine g_putqR f_X4_init_51 rfl (by first | exact Or.inl ⟨_, rfl⟩ | exact Or.inr ⟨_, rfl⟩) (by exact ⟨by assumption, by (try dsimp only); omega, by decide⟩) ?_
  refine g_ret0 (κ := 0) f_X4_init_54 rfl 0 ?_ (by omega) (by omega)
  have r9 : ∀ k, k < C + 7 → S3.2 k = (up (up (up (up (up (up S.2 (C + 1) 0 ((C + 1 + 1 : Nat) : Int)) C 1 ((C + 1 : Nat) : Int)) (C + 3) 0 ((C + 3 + 1 : Nat) : Int)) C 2 ((C + 3 : Nat) : Int)) (C + 5) 0 ((C + 5 + 1 : Nat) : Int)) C 3 ((C + 5 : Nat) : Int)) k ∧ M3 k = (up (up (up M (C + 1) 1 ((5 : Nat) : Int)) (C + 3) 1 ((10 : Nat) : Int)) (C + 5) 1 ((8 : Nat) : Int)) k := fun k hk => n2 k (Or.inl hk)
  have rC : ∀ j, j ≠ 0 → up S3.2 C 0 ((C + 7 : Nat) : Int) C j = (up (up (up (up (up (up S.2 (C + 1) 0 ((C + 1 + 1 : Nat) : Int)) C 1 ((C + 1 : Nat) : Int)) (C + 3) 0 ((C + 3 + 1 : Nat) : Int)) C 2 ((C + 3 : Nat) : Int)) (C + 5) 0 ((C + 5 + 1 : Nat) : Int)) C 3 ((C + 5 : Nat) : Int)) C j := fun j hj => by rw [up_n (by omega), (r9 C (by omega)).1]
  have rk : ∀ k, k ≠ C → up S3.2 C 0 ((C + 7 : Nat) : Int) k = S3.2 k := fun k hk => up_row hk
  refine ⟨⟨n1, fun k hk => ⟨?_, ?_⟩⟩, ⟨up_s _ _ _ _, ?_, ?_, ?_⟩, ⟨?_, ?_, ?_⟩, ⟨?_, ?_, ?_⟩, ⟨?_, ?_, ?_⟩, hst.cong (fun k a b => ⟨rk k (by omega), rfl⟩)⟩
  · show up S3.2 C 0 ((C + 7 : Nat) : Int) k = _
    rw [rk k (by omega), (n2 k (by omega)).1]
    show (up (up (up (up (up (up S.2 (C + 1) 0 ((C + 1 + 1 : Nat) : Int)) C 1 ((C + 1 : Nat) : Int)) (C + 3) 0 ((C + 3 + 1 : Nat) : Int)) C 2 ((C + 3 : Nat) : Int)) (C + 5) 0 ((C + 5 + 1 : Nat) : Int)) C 3 ((C + 5 : Nat) : Int)) k = _
    rw [up_row (by omega), up_row (by omega), up_row (by omega), up_row (by omega), up_row (by omega), up_row (by omega)]
  · rw [(n2 k (by omega)).2]
    rw [up_row (by omega), up_row (by omega), up_row (by omega)]
  · refine (rC 1 (by decide)).trans ?_
    rw [up_n (by omega), up_n (by omega), up_n (by omega), up_n (by omega), up_s]
  · refine (rC 2 (by decide)).trans ?_
    rw [up_n (by omega), up_n (by omega), up_s]
  · refine (rC 3 (by decide)).trans ?_
    rw [up_s]
  · refine (congrFun (rk (C + 1) (by omega)) 0).trans ?_
    rw [(r9 (C + 1) (by omega)).1, up_n (by omega), up_n (by omega), up_n (by omega), up_n (by omega), up_n (by omega), up_s]
  · rw [(r9 (C + 1) (by omega)).2, up_n (by omega), up_n (by omega), up_s]
  · rw [(r9 (C + 1) (by omega)).2, up_n (by omega), up_n (by omega), up_n (by omega)]; exact hZ _ (by omega) 2
  · refine (congrFun (rk (C + 3) (by omega)) 0).trans ?_
    rw [(r9 (C + 3) (by omega)).1, up_n (by omega), up_n (by omega), up_n (by omega), up_s]
  · rw [(r9 (C + 3) (by omega)).2, up_n (by omega), up_s]
  · rw [(r9 (C + 3) (by omega)).2, up_n (by omega), up_n (by omega), up_n (by omega)]; exact hZ _ (by omega) 2
  · refine (congrFun (rk (C + 5) (by omega)) 0).trans ?_
    rw [(r9 (C + 5) (by omega)).1, up_n (by omega), up_s]
  · rw [(r9 (C + 5) (by omega)).2, up_s]
  · rw [(r9 (C + 5) (by omega)).2, up_n (by omega), up_n (by omega), up_n (by omega)]; exact hZ _ (by omega) 2

set_option maxHeartbeats 4000000 in
set_option maxRecDepth 100000 in
theorem c_wInit {Ω : Ow} {S : Sg} {M : Mm} {Λ : Nat} (hS : S.1 = 61) (hZ : ∀ k, 60 ≤ k → ∀ j, M k j = 0) : Ct Ω mX8_init 3 14 83 0 [vr Ω 60, vr Ω Λ] S M (fun _ S' M' => nfr 60 15 S S' M M' ∧ S'.2 60 0 = 61 ∧ StrF S' M' 61 Λ) := by
  refine Ct.mk (by decide) (Nat.le_of_ble_eq_true rfl) [some (vr Ω 60), some (vr Ω Λ)] (by intro q hq; exact hq) (fun γ hγ hz => ?_)
  obtain ⟨L0, L1, L2, L3, L4, L5, L6, L7, L8, L9, L10⟩ := cLs
  refine g_alv f_X8_init_0 rfl ?_
  refine g_oi hγ (by decide) f_X8_init_1 (Nat.le_of_ble_eq_true rfl) ?_
  refine g_alv f_X8_init_4 rfl ?_
  refine g_new f_X8_init_5 ins_5 ini_5 (by decide) (show _ = 61 from hS) (by decide +kernel) (by rw [hγ]; show _ ≤ 14; omega) (by rw [hγ]; show _ ≤ 83; omega) ?_
  refine g_dup f_X8_init_8 rfl ?_
  refine g_alv f_X8_init_9 rfl ?_
  refine g_ci hγ (c_strInit (B := 61) (Λ := Λ) isB61 rfl (fun k hk j => hZ k (by omega) j)) f_X8_init_10 mo_X5_init rfl rfl mi_X5_init rfl (Nat.le_of_ble_eq_true rfl) ⟨by decide, by decide⟩ ⟨by omega, by omega⟩ (fun x S3 M3 hq2 => ?_)
  obtain ⟨⟨n1, n2⟩, hst⟩ := hq2
  refine g_putqR f_X8_init_13 rfl (by first | exact Or.inl ⟨_, rfl⟩ | exact Or.inr ⟨_, rfl⟩) (by exact ⟨by decide +kernel, by (try dsimp only); omega, by decide⟩) ?_
  refine g_ret0 (κ := 0) f_X8_init_16 rfl 0 ?_ (by omega) (by omega)
  refine ⟨⟨n1, fun k hk => ⟨?_, (n2 k (by omega)).2⟩⟩, by show up S3.2 60 0 ((61 : Nat) : Int) 60 0 = _; rw [up_s]; rfl, hst.cong (fun k a b => ⟨up_row (by omega), rfl⟩)⟩
  show up S3.2 60 0 ((61 : Nat) : Int) k = _
  rw [up_row (by omega)]
  exact (n2 k (by omega)).1
