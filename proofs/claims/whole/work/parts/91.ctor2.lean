/-! contracts: a new object of the class, a new model -/
set_option maxHeartbeats 4000000 in
set_option maxRecDepth 100000 in
theorem c_x9Init {Ω : Ow} {S : Sg} {M : Mm} (hS : S.1 = 1) (hZ : ∀ k j, M k j = 0) : Ct Ω mX9_init 5 86 1257 0 [vr Ω 0] S M (fun _ S' M' => S'.1 = 87 ∧ ClsF S' M' ∧ ∀ k, 87 ≤ k → row2 S S' M M' k) := by
  refine Ct.mk (by decide) (Nat.le_of_ble_eq_true rfl) [some (vr Ω 0), none, none] (by intro q hq; exact hq) (fun γ hγ hz => ?_)
  obtain ⟨L0, L1, L2, L3, L4, L5, L6, L7, L8, L9, L10⟩ := cLs
  refine g_alv f_X9_init_0 rfl ?_
  refine g_oi hγ (by decide) f_X9_init_1 (Nat.le_of_ble_eq_true rfl) ?_
  refine g_alv f_X9_init_4 rfl ?_
  refine g_new f_X9_init_5 ins_2 ini_2 (by decide) (show _ = 1 from hS) (by decide +kernel) (by rw [hγ]; show _ ≤ 86; omega) (by rw [hγ]; show _ ≤ 1257; omega) ?_
  refine g_dup f_X9_init_8 rfl ?_
  refine g_ci hγ (c_xInit rfl (fun k _ j => hZ k j)) f_X9_init_9 mo_X2_init rfl rfl mi_X2_init rfl (Nat.le_of_ble_eq_true rfl) ⟨by decide, by decide⟩ ⟨by omega, by omega⟩ (fun x S2 M2 hq2 => ?_)
  obtain ⟨⟨n1, n2⟩, x1, x2, x3, x4⟩ := hq2
  refine g_putqR f_X9_init_12 rfl (by first | exact Or.inl ⟨_, rfl⟩ | exact Or.inr ⟨_, rfl⟩) (by exact ⟨by decide +kernel, by (try dsimp only); omega, by decide⟩) ?_
  refine g_alv f_X9_init_15 rfl ?_
  refine g_new f_X9_init_16 ins_0 ini_0 (by decide) (show _ = 9 from n1) (by decide +kernel) (by rw [hγ]; show _ ≤ 86; omega) (by rw [hγ]; show _ ≤ 1257; omega) ?_
  refine g_dup f_X9_init_19 rfl ?_
  refine g_ci hγ (c_aInit (q := 9) (by decide +kernel) (by decide +kernel) rfl) f_X9_init_20 mo_X0_init rfl rfl mi_X0_init rfl (Nat.le_of_ble_eq_true rfl) ⟨by decide, by decide⟩ ⟨by omega, by omega⟩ (fun x S3 M3 hq3 => ?_)
  obtain ⟨rfl, q3⟩ := hq3
  obtain rfl := q3.symm
  refine g_putqR f_X9_init_23 rfl (by first | exact Or.inl ⟨_, rfl⟩ | exact Or.inr ⟨_, rfl⟩) (by exact ⟨by decide +kernel, by (try dsimp only); omega, by decide⟩) ?_
  refine g_alv f_X9_init_26 rfl ?_
  refine g_const f_X9_init_27 ?_
  refine g_newq (c := 16) (n := 6) f_X9_init_29 (Or.inr ⟨rfl, rfl⟩) (by decide) (show _ = 11 from rfl) (by decide +kernel) (by rw [hγ]; show _ ≤ 86; omega) (by rw [hγ]; show _ ≤ 1257; omega) ?_
  refine g_putqR f_X9_init_32 rfl (by first | exact Or.inl ⟨_, rfl⟩ | exact Or.inr ⟨_, rfl⟩) (by exact ⟨by decide +kernel, by (try dsimp only); omega, by decide⟩) ?_
  refine g_new f_X9_init_35 ins_1 ini_1 (by decide) (show _ = 12 from rfl) (by decide +kernel) (by rw [hγ]; show _ ≤ 86; omega) (by rw [hγ]; show _ ≤ 1257; omega) ?_
  refine g_dup f_X9_init_38 rfl ?_
  refine g_ci hγ (c_lwInit (q := 12) (Or.inr (Or.inl rfl)) rfl) f_X9_init_39 mo_X1_init rfl rfl mi_X1_init rfl (Nat.le_of_ble_eq_true rfl) ⟨by decide, by decide⟩ ⟨by omega, by omega⟩ (fun x S4 M4 hq4 => ?_)
  obtain ⟨rfl, rfl⟩ := hq4
  refine g_ast_1 f_X9_init_42 (by decide) c1v ?_
  refine g_alv f_X9_init_43 rfl ?_
  refine g_new f_X9_init_44 ins_4 ini_4 (by decide) (show _ = 18 from rfl) (by decide +kernel) (by rw [hγ]; show _ ≤ 86; omega) (by rw [hγ]; show _ ≤ 1257; omega) ?_
  refine g_dup f_X9_init_47 rfl ?_
  refine g_alv f_X9_init_48 rfl ?_
  refine g_ci hγ (c_scInit (C := 18) (Λ := 12) (Or.inl rfl) rfl (fun k hk j => by rw [up_row (by omega), (n2 k (by omega)).2]; exact hZ k j)) f_X9_init_49 mo_X4_init rfl rfl mi_X4_init rfl (Nat.le_of_ble_eq_true rfl) ⟨by decide, by decide⟩ ⟨by omega, by omega⟩ (fun x S5 M5 hq5 => ?_)
  obtain ⟨⟨n5a, n5⟩, h5⟩ := hq5
  refine g_putqR f_X9_init_52 rfl (by first | exact Or.inl ⟨_, rfl⟩ | exact Or.inr ⟨_, rfl⟩) (by exact ⟨by decide +kernel, by (try dsimp only); omega, by decide⟩) ?_
  refine g_alv f_X9_init_55 rfl ?_
  refine g_new f_X9_init_56 ins_4 ini_4 (by decide) (show _ = 39 from n5a) (by decide +kernel) (by rw [hγ]; show _ ≤ 86; omega) (by rw [hγ]; show _ ≤ 1257; omega) ?_
  refine g_dup f_X9_init_59 rfl ?_
  refine g_alv f_X9_init_60 rfl ?_
  refine g_ci hγ (c_scInit (C := 39) (Λ := 12) (Or.inr rfl) rfl (fun k hk j => by rw [(n5 k (by omega)).2, up_row (by omega), (n2 k (by omega)).2]; exact hZ k j)) f_X9_init_61 mo_X4_init rfl rfl mi_X4_init rfl (Nat.le_of_ble_eq_true rfl) ⟨by decide, by decide⟩ ⟨by omega, by omega⟩ (fun x S6 M6 hq6 => ?_)
  obtain ⟨⟨n6a, n6⟩, h6⟩ := hq6
  refine g_putqR f_X9_init_64 rfl (by first | exact Or.inl ⟨_, rfl⟩ | exact Or.inr ⟨_, rfl⟩) (by exact ⟨by decide +kernel, by (try dsimp only); omega, by decide⟩) ?_
  refine g_alv f_X9_init_67 rfl ?_
  refine g_new f_X9_init_68 ins_8 ini_8 (by decide) (show _ = 60 from n6a) (by decide +kernel) (by rw [hγ]; show _ ≤ 86; omega) (by rw [hγ]; show _ ≤ 1257; omega) ?_
  refine g_dup f_X9_init_71 rfl ?_
  refine g_alv f_X9_init_72 rfl ?_
  refine g_ci hγ (c_wInit (Λ := 12) rfl (fun k hk j => by rw [(n6 k (by omega)).2, (n5 k (by omega)).2, up_row (by omega), (n2 k (by omega)).2]; exact hZ k j)) f_X9_init_73 mo_X8_init rfl rfl mi_X8_init rfl (Nat.le_of_ble_eq_true rfl) ⟨by decide, by decide⟩ ⟨by omega, by omega⟩ (fun x S7 M7 hq7 => ?_)
  obtain ⟨⟨n7a, n7⟩, h7a, h7⟩ := hq7
  refine g_putqR f_X9_init_76 rfl (by first | exact Or.inl ⟨_, rfl⟩ | exact Or.inr ⟨_, rfl⟩) (by exact ⟨by decide +kernel, by (try dsimp only); omega, by decide⟩) ?_
  have hZ7 : ∀ k, 75 ≤ k → ∀ j, M7 k j = 0 := fun k hk j => by rw [(n7 k (by omega)).2, (n6 k (by omega)).2, (n5 k (by omega)).2, up_row (by omega), (n2 k (by omega)).2]; exact hZ k j
  have g11 : S7.2 0 7 = 11 := by rw [(n7 0 (by omega)).1]; show up S6.2 0 1 ((39 : Nat) : Int) 0 7 = _; rw [up_n (by omega), (n6 0 (by omega)).1]; show up S5.2 0 0 ((18 : Nat) : Int) 0 7 = _; rw [up_n (by omega), (n5 0 (by omega)).1]; simp [newS, up]
  have loop : ∀ (m i : Nat) (S1 : Sg) (M1 : Mm), i + m = 6 → (S1.1 = 75 + 2 * i ∧ (∀ k, k ≠ 11 → (k < 75 ∨ 75 + 2 * i ≤ k) → row2 (75, up S7.2 0 5 ((60 : Nat) : Int)) S1 M7 M1 k) ∧ ∀ n, n < i → S1.2 11 n = ((75 + 2 * n : Nat) : Int) ∧ TapF S1 M1 (75 + 2 * n)) → Go γ Ω mX9_init (Zm γ Ω 0 86 1257 (fun _ S' M' => S'.1 = 87 ∧ ClsF S' M' ∧ ∀ k, 87 ≤ k → row2 S S' M M' k)) (74 + 2 * i) (879 + 63 * i) S1 M1 81 [some (vr Ω 0), some (vr Ω 12), some (vi (i : Int))] [] := by
    intro m
    induction m with
    | zero =>
      intro i S1 M1 hm hj
      have hi : i = 6 := by omega
      subst hi
      obtain ⟨j1, j2, j3⟩ := hj
      refine g_ild f_X9_init_81 rfl ?_
      refine g_const f_X9_init_82 ?_
      refine g_icmp_ge f_X9_init_84 rfl (by omega) (by omega) (fun hc => ?_) (fun hc => ?_)
      · refine g_ret0 (κ := 0) f_X9_init_106 rfl 0 ?_ (by omega) (by omega)
        have e0 : S1.2 0 = up S7.2 0 5 ((60 : Nat) : Int) 0 := (j2 0 (by decide) (by omega)).1
        have g7 : S7.2 0 = up S6.2 0 1 ((39 : Nat) : Int) 0 := (n7 0 (by omega)).1
        have g6 : S6.2 0 = up S5.2 0 0 ((18 : Nat) : Int) 0 := (n6 0 (by omega)).1
        have g5 : S5.2 0 = _ := (n5 0 (by omega)).1
        have ez : M1 0 = M7 0 := (j2 0 (by decide) (by omega)).2
        have e7 : ∀ k, k ≠ 0 → k ≠ 11 → k < 60 → S1.2 k = S6.2 k ∧ M1 k = M6 k := fun k a b c => ⟨by rw [(j2 k b (by omega)).1]; show up S7.2 0 5 ((60 : Nat) : Int) k = _; rw [up_row a, (n7 k (by omega)).1]; exact up_row a, by rw [(j2 k b (by omega)).2, (n7 k (by omega)).2]⟩
        have e6 : ∀ k, k ≠ 0 → k ≠ 11 → k < 39 → S1.2 k = S5.2 k ∧ M1 k = M5 k := fun k a b c => ⟨by rw [(e7 k a b (by omega)).1, (n6 k (by omega)).1]; exact up_row a, by rw [(e7 k a b (by omega)).2, (n6 k (by omega)).2]⟩
        have e5 : ∀ k, k ≠ 0 → k ≠ 11 → k < 18 → k ≠ 12 → k ≠ 9 → S1.2 k = S2.2 k ∧ M1 k = M2 k := fun k a b c d e => ⟨by rw [(e6 k a b (by omega)).1, (n5 k (by omega)).1]; exact (newS_row d).trans ((up_row a).trans ((up_row a).trans ((up_row e).trans (up_row a)))), by rw [(e6 k a b (by omega)).2, (n5 k (by omega)).2, up_row d]⟩
        have z0 : ∀ j, M1 0 j = 0 := fun j => by rw [ez, (n7 0 (by omega)).2, (n6 0 (by omega)).2, (n5 0 (by omega)).2, up_row (by decide), (n2 0 (by omega)).2]; exact hZ 0 j
        refine ⟨j1, ⟨⟨?_, ?_, ?_, ?_, ?_, ?_⟩, z0, ⟨?_, ?_, fun j => ?_⟩, x4.cong (e5 3 (by decide) (by decide) (by decide) (by decide) (by decide)), ⟨?_, fun j => ?_⟩, j3, ⟨⟨?_, ?_, ?_, ?_, ?_⟩, ?_, ?_⟩, h5.cong (fun k a b => e6 k (by omega) (by omega) (by omega)), h6.cong (fun k a b => e7 k (by omega) (by omega) (by omega)), ?_, h7.cong (fun k a b => ⟨?_, (j2 k (by omega) (by omega)).2⟩)⟩, fun k hk => ⟨?_, ?_⟩⟩
        · rw [e0, up_n (by omega), g7, up_n (by omega), g6, up_s]; rfl
        · rw [e0, up_n (by omega), g7, up_s]; rfl
        · rw [e0, up_n (by omega), g7, up_n (by omega), g6, up_n (by omega), g5]; simp [newS, up]
        · rw [e0, up_s]; rfl
        · rw [e0, up_n (by omega), g7, up_n (by omega), g6, up_n (by omega), g5]; simp [newS, up]
        · rw [e0, up_n (by omega), g11]
        · rw [(e5 1 (by decide) (by decide) (by decide) (by decide) (by decide)).1]; exact x1
        · rw [(e5 1 (by decide) (by decide) (by decide) (by decide) (by decide)).1]; exact x2
        · rw [(e5 1 (by decide) (by decide) (by decide) (by decide) (by decide)).2, x3]; exact hZ 1 j
        · rw [(e6 9 (by decide) (by decide) (by decide)).1, (n5 9 (by omega)).1]; simp [newS, up]
        · rw [(e6 9 (by decide) (by decide) (by decide)).2, (n5 9 (by omega)).2, up_row (by decide), (n2 9 (by omega)).2]; exact hZ 9 j
        · rw [(e6 12 (by decide) (by decide) (by decide)).1, (n5 12 (by omega)).1]; simp [newS, up]
        · rw [(e6 12 (by decide) (by decide) (by decide)).1, (n5 12 (by omega)).1]; simp [newS, up]
        · rw [(e6 12 (by decide) (by decide) (by decide)).1, (n5 12 (by omega)).1]; simp [newS, up]
        · rw [(e6 12 (by decide) (by decide) (by decide)).1, (n5 12 (by omega)).1]; simp [newS, up]
        · rw [(e6 12 (by decide) (by decide) (by decide)).1, (n5 12 (by omega)).1]; simp [newS, up]
        · rw [(e6 12 (by decide) (by decide) (by decide)).2, (n5 12 (by omega)).2, up_s]
        · rw [(e6 12 (by decide) (by decide) (by decide)).2, (n5 12 (by omega)).2, up_n (by omega), (n2 12 (by omega)).2]; exact hZ 12 1
        · rw [(j2 60 (by decide) (by omega)).1]; show up S7.2 0 5 ((60 : Nat) : Int) 60 0 = _; rw [up_row (by decide)]; exact h7a
        · rw [(j2 k (by omega) (by omega)).1]; exact up_row (by omega)
        · rw [(j2 k (by omega) (by omega)).1]; show up S7.2 0 5 ((60 : Nat) : Int) k = _; rw [up_row (by omega), (n7 k (by omega)).1]; show up S6.2 0 1 ((39 : Nat) : Int) k = _; rw [up_row (by omega), (n6 k (by omega)).1]; show up S5.2 0 0 ((18 : Nat) : Int) k = _; rw [up_row (by omega), (n5 k (by omega)).1]; exact (newS_row (show k ≠ 12 by omega)).trans ((up_row (show k ≠ 0 by omega)).trans ((up_row (show k ≠ 0 by omega)).trans ((up_row (show k ≠ 9 by omega)).trans ((up_row (show k ≠ 0 by omega)).trans (n2 k (by omega)).1))))
        · rw [(j2 k (by omega) (by omega)).2, (n7 k (by omega)).2, (n6 k (by omega)).2, (n5 k (by omega)).2, up_row (by omega)]; exact (n2 k (by omega)).2
      · exact absurd (by omega) hc
    | succ m ih =>
      intro i S1 M1 hm hj
      obtain ⟨j1, j2, j3⟩ := hj
      have hi : i < 6 := by omega
      have e11 : S1.2 0 7 = ((11 : Nat) : Int) := by rw [(j2 0 (by decide) (by omega)).1]; show up S7.2 0 5 ((60 : Nat) : Int) 0 7 = _; rw [up_n (by omega)]; exact g11
      have shk : sh (75 + 2 * i) = (7, 0) ∧ sh (75 + 2 * i + 1) = (13, 60) := by
        have : ∀ i, i < 6 → sh (75 + 2 * i) = (7, 0) ∧ sh (75 + 2 * i + 1) = (13, 60) := by decide +kernel
        exact this i hi
      obtain ⟨sk0, sk1⟩ := shk
      have s11 : sh 11 = (16, 6) := by decide +kernel
      refine g_ild f_X9_init_81 rfl ?_
      refine g_const f_X9_init_82 ?_
      refine g_icmp_ge f_X9_init_84 rfl (by omega) (by omega) (fun hc => ?_) (fun hc => ?_)
      · exact absurd hc (by omega)
      refine g_alv f_X9_init_87 rfl ?_
      refine g_getR f_X9_init_88 (by exact ⟨by first | assumption | decide +kernel, by (try dsimp only); omega, by decide⟩) e11 ?_
      refine g_ild f_X9_init_91 rfl ?_
      refine g_new f_X9_init_92 ins_7 ini_7 (by decide) (show _ = 75 + 2 * i from j1) sk0 (by rw [hγ]; show _ ≤ 86; omega) (by rw [hγ]; show _ ≤ 1257; omega) ?_
      refine g_dup f_X9_init_95 rfl ?_
      refine g_ci hγ (c_kInit (q := 75 + 2 * i) sk0 sk1 rfl) f_X9_init_96 mo_X7_init rfl rfl mi_X7_init rfl (Nat.le_of_ble_eq_true rfl) ⟨by decide, by decide⟩ ⟨by omega, by omega⟩ (fun x S3 M3 hq3 => ?_)
      obtain ⟨rfl, rfl⟩ := hq3
      refine g_aas f_X9_init_99 (by exact ⟨by first | assumption | decide +kernel, by (try dsimp only); omega, by decide⟩) (Or.inr ⟨rfl, rfl⟩) i rfl (by omega) (by exact ⟨by first | assumption | decide +kernel, by (try dsimp only); omega, by decide⟩) ?_
      refine g_inc_2 f_X9_init_100 (by decide) c1v ?_
      refine g_goto f_X9_init_103 ?_
      refine Go.wide (ih (i + 1) _ _ (by omega) ⟨by show 75 + 2 * i + 2 = _; omega, fun k a b => ⟨?_, ?_⟩, fun n hn => ?_⟩) (by omega) (by omega)
      · show up (up S1.2 (75 + 2 * i) 2 ((75 + 2 * i + 1 : Nat) : Int)) 11 i ((75 + 2 * i : Nat) : Int) k = _; rw [up_row a, up_row (by omega)]; exact (j2 k a (by omega)).1
      · rw [up_row (by omega)]; exact (j2 k a (by omega)).2
      · by_cases q : n = i
        · subst q
          refine ⟨up_s _ _ _ _, ?_, up_s _ _ _ _, ?_, fun j => ?_⟩
          · show up (up S1.2 (75 + 2 * n) 2 ((75 + 2 * n + 1 : Nat) : Int)) 11 n ((75 + 2 * n : Nat) : Int) (75 + 2 * n) 2 = _; rw [up_row (by omega)]; exact up_s _ _ _ _
          · rw [up_n (by omega), (j2 _ (by omega) (by omega)).2]; exact hZ7 _ (by omega) 1
          · rw [up_row (by omega), (j2 _ (by omega) (by omega)).2]; exact hZ7 _ (by omega) j
        · obtain ⟨u1, u2⟩ := j3 n (by omega)
          refine ⟨?_, u2.cong ⟨?_, up_row (by omega)⟩ (up_row (by omega))⟩
          · show up (up S1.2 (75 + 2 * i) 2 ((75 + 2 * i + 1 : Nat) : Int)) 11 i ((75 + 2 * i : Nat) : Int) 11 n = _; rw [up_n (by omega), up_row (by omega)]; exact u1
          · show up (up S1.2 (75 + 2 * i) 2 ((75 + 2 * i + 1 : Nat) : Int)) 11 i ((75 + 2 * i : Nat) : Int) (75 + 2 * n) = _; rw [up_row (by omega), up_row (by omega)]
  refine g_const f_X9_init_79 ?_
  refine g_ist_2 f_X9_init_80 (by decide) c1v ?_
  refine Go.wide (loop 6 0 _ M7 (by decide) ⟨n7a, fun k a b => ⟨rfl, rfl⟩, fun n hn => absurd hn (Nat.not_lt_zero _)⟩) (by omega) (by omega)
