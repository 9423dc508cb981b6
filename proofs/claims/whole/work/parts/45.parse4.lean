/-! contracts: a LAW from the TEXT -/
set_option maxHeartbeats 4000000 in
set_option maxRecDepth 100000 in
theorem c_clear {Ω : Ow} {S : Sg} {M : Mm} {Λ : Nat} (oL : Ob S Λ 1) : Ct Ω mX1_clear 1 0 0 0 [vr Ω Λ] S M (fun _ S' M' => S' = S ∧ M' = up (up (up M Λ 0 20) Λ 1 0) Λ 5 0) := by
  refine Ct.mk (by decide) (Nat.le_of_ble_eq_true rfl) [some (vr Ω Λ)] (by intro q hq; exact hq) (fun γ hγ hz => ?_)
  refine g_alv f_X1_clear_0 rfl ?_
  refine g_const f_X1_clear_1 ?_
  refine g_putI f_X1_clear_3 rfl (by assumption) ?_
  refine g_alv f_X1_clear_6 rfl ?_
  refine g_const f_X1_clear_7 ?_
  refine g_putI f_X1_clear_8 rfl (by assumption) ?_
  refine g_alv f_X1_clear_11 rfl ?_
  refine g_const f_X1_clear_12 ?_
  refine g_putI f_X1_clear_13 rfl (by assumption) ?_
  refine g_ret0 (κ := 0) f_X1_clear_16 rfl 0 ?_ (Nat.zero_le _) (Nat.zero_le _)
  exact ⟨rfl, rfl⟩

set_option maxHeartbeats 4000000 in
set_option maxRecDepth 100000 in
theorem c_lawInit {Ω : Ow} {S : Sg} {M : Mm} {q hh : Nat} (hq : q = 116 + 6 * hh) (hS : S.1 = q + 1) : Ct Ω mX1_init 3 5 136 0 [vr Ω q] S M (fun _ S' M' => S' = (q + 6, newS S q) ∧ M' = up M q 0 20) := by
  refine Ct.mk (by decide) (Nat.le_of_ble_eq_true rfl) [some (vr Ω q)] (by intro q hq; exact hq) (fun γ hγ hz => ?_)
  obtain ⟨s0, s1, s2, s3, s4, s5⟩ := sh_law (Λ := q) (Or.inr (Or.inr ⟨hh, hq⟩))
  refine g_alv f_X1_init_0 rfl ?_
  refine g_oi hγ (by decide) f_X1_init_1 (Nat.le_of_ble_eq_true rfl) ?_
  refine g_alv f_X1_init_4 rfl ?_
  refine g_const f_X1_init_5 ?_
  refine g_putI f_X1_init_7 rfl (by exact ⟨s0, by (try dsimp only); omega, by decide⟩) ?_
  refine g_alv f_X1_init_10 rfl ?_
  refine g_const f_X1_init_11 ?_
  refine g_newa (c := 12) (n := 10) f_X1_init_13 ac_int (by first | exact Or.inl ⟨rfl, rfl⟩ | exact Or.inr (Or.inl ⟨rfl, rfl⟩) | exact Or.inr (Or.inr (Or.inl ⟨rfl, rfl⟩)) | exact Or.inr (Or.inr (Or.inr ⟨rfl, rfl⟩))) (by decide) (show _ = q + 1 from hS) s1 (by rw [hγ]; decide) (by rw [hγ]; decide) ?_
  refine g_putqR f_X1_init_15 rfl (by first | exact Or.inl ⟨_, rfl⟩ | exact Or.inr ⟨_, rfl⟩) (by exact ⟨s0, by (try dsimp only); omega, by decide⟩) ?_
  refine g_alv f_X1_init_18 rfl ?_
  refine g_const f_X1_init_19 ?_
  refine g_newa (c := 12) (n := 10) f_X1_init_21 ac_int (by first | exact Or.inl ⟨rfl, rfl⟩ | exact Or.inr (Or.inl ⟨rfl, rfl⟩) | exact Or.inr (Or.inr (Or.inl ⟨rfl, rfl⟩)) | exact Or.inr (Or.inr (Or.inr ⟨rfl, rfl⟩))) (by decide) (show _ = q + 2 from rfl) s2 (by rw [hγ]; decide) (by rw [hγ]; decide) ?_
  refine g_putqR f_X1_init_23 rfl (by first | exact Or.inl ⟨_, rfl⟩ | exact Or.inr ⟨_, rfl⟩) (by exact ⟨s0, by (try dsimp only); omega, by decide⟩) ?_
  refine g_alv f_X1_init_26 rfl ?_
  refine g_const f_X1_init_27 ?_
  refine g_newa (c := 12) (n := 10) f_X1_init_29 ac_int (by first | exact Or.inl ⟨rfl, rfl⟩ | exact Or.inr (Or.inl ⟨rfl, rfl⟩) | exact Or.inr (Or.inr (Or.inl ⟨rfl, rfl⟩)) | exact Or.inr (Or.inr (Or.inr ⟨rfl, rfl⟩))) (by decide) (show _ = q + 3 from rfl) s3 (by rw [hγ]; decide) (by rw [hγ]; decide) ?_
  refine g_putqR f_X1_init_31 rfl (by first | exact Or.inl ⟨_, rfl⟩ | exact Or.inr ⟨_, rfl⟩) (by exact ⟨s0, by (try dsimp only); omega, by decide⟩) ?_
  refine g_alv f_X1_init_34 rfl ?_
  refine g_const f_X1_init_35 ?_
  refine g_newa (c := 12) (n := 100) f_X1_init_37 ac_int (by first | exact Or.inl ⟨rfl, rfl⟩ | exact Or.inr (Or.inl ⟨rfl, rfl⟩) | exact Or.inr (Or.inr (Or.inl ⟨rfl, rfl⟩)) | exact Or.inr (Or.inr (Or.inr ⟨rfl, rfl⟩))) (by decide) (show _ = q + 4 from rfl) s4 (by rw [hγ]; decide) (by rw [hγ]; decide) ?_
  refine g_putqR f_X1_init_39 rfl (by first | exact Or.inl ⟨_, rfl⟩ | exact Or.inr ⟨_, rfl⟩) (by exact ⟨s0, by (try dsimp only); omega, by decide⟩) ?_
  refine g_alv f_X1_init_42 rfl ?_
  refine g_ldcS (i := 0) (by decide) f_X1_init_43 rfl ?_
  refine g_ct1 hγ (by decide) (c_slen (i := 0) (by decide)) f_X1_init_45 mo_J0_length_8abf5 mv_J0_length_8abf5 rfl rfl (Nat.le_of_ble_eq_true rfl) ⟨by decide, by decide⟩ ⟨by decide, by decide⟩ (fun x S' M3 hq2 => ?_)
  obtain ⟨rfl, q1, q2⟩ := hq2
  obtain rfl := q1.symm
  obtain rfl := q2.symm
  refine g_as (show ((sL 0).length : Int) = ((6 : Nat) : Int) from rfl) ?_
  refine g_newa (c := 12) (n := 6) f_X1_init_48 ac_int (by first | exact Or.inl ⟨rfl, rfl⟩ | exact Or.inr (Or.inl ⟨rfl, rfl⟩) | exact Or.inr (Or.inr (Or.inl ⟨rfl, rfl⟩)) | exact Or.inr (Or.inr (Or.inr ⟨rfl, rfl⟩))) (by decide) (show _ = q + 5 from rfl) s5 (by rw [hγ]; decide) (by rw [hγ]; decide) ?_
  refine g_putqR f_X1_init_50 rfl (by first | exact Or.inl ⟨_, rfl⟩ | exact Or.inr ⟨_, rfl⟩) (by exact ⟨s0, by (try dsimp only); omega, by decide⟩) ?_
  refine g_ret0 (κ := 0) f_X1_init_53 rfl 0 ?_ (Nat.le_of_ble_eq_true rfl) (Nat.le_of_ble_eq_true rfl)
  exact ⟨rfl, rfl⟩

set_option maxHeartbeats 4000000 in
set_option maxRecDepth 100000 in
theorem c_add {Ω : Ow} {S : Sg} {M : Mm} {tx : List Nat} (hG : Gr S) (hT : okTx tx) (hR : RepTx M tx) {c : Nat} (hc : c ≤ 127) : Ct Ω mX2_add 1 0 0 1 [vr Ω 1, vi (c : Int)] S M (fun x S' M' => S' = S ∧ ((tx.length = 100 ∧ x = -4 ∧ M' = M) ∨ (tx.length < 100 ∧ x = (tx.length : Int) + 1 ∧ RepTx M' (tx ++ [c]) ∧ ∀ k, k ≠ 1 → k ≠ 2 → M' k = M k))) := by
  refine Ct.mk (by decide) (Nat.le_of_ble_eq_true rfl) [some (vr Ω 1), some (vi (c : Int))] (by intro q hq; exact hq) (fun γ hγ hz => ?_)
  obtain ⟨t1, t2⟩ := id hR
  have hT1 := hT.1
  have o1 := obn hG (r := 1) (c := 2) (by decide +kernel)
  have a2 := arn hG (r := 2) (c := 11) (n := 100) (by decide +kernel)
  have g2 : _ = ((2 : Nat) : Int) := grn hG (k := 1) (j := 0) (by decide)
  refine g_alv f_X2_add_0 rfl ?_
  refine g_getI f_X2_add_1 (by assumption) ?_
  rw [t1]
  refine g_const f_X2_add_4 ?_
  refine g_icmp_lt f_X2_add_6 rfl (by omega) (by omega) (fun h0 => ?_) (fun h0 => ?_)
  · refine g_alv f_X2_add_12 rfl ?_
    refine g_getR f_X2_add_13 (by assumption) (by assumption) ?_
    refine g_alv f_X2_add_16 rfl ?_
    refine g_getI f_X2_add_17 (by assumption) ?_
    rw [t1]
    refine g_ild f_X2_add_20 rfl ?_
    refine g_i2b f_X2_add_21 ?_
    rw [i2b_n (by omega)]
    refine g_bas f_X2_add_22 (by assumption) tx.length (by omega) (by omega) (by omega) ?_
    refine g_alv f_X2_add_23 rfl ?_
    refine g_dup f_X2_add_24 rfl ?_
    refine g_getI f_X2_add_25 (by assumption) ?_
    rw [up_row (by decide), t1]
    refine g_const f_X2_add_28 ?_
    refine g_iadd f_X2_add_29 ?_
    refine g_putI f_X2_add_30 rfl (by assumption) ?_
    refine g_alv f_X2_add_33 rfl ?_
    refine g_getI f_X2_add_34 (by assumption) ?_
    rw [up_s]
    refine g_reti f_X2_add_37 rfl ?_ (Nat.zero_le _) (Nat.zero_le _)
    refine ⟨rfl, Or.inr ⟨by omega, rfl, ⟨?_, fun j hj => ?_⟩, fun k a b => by rw [up_row a, up_row b]⟩⟩
    · rw [up_s, List.length_append]; simp
    · rw [List.length_append] at hj
      simp only [List.length_cons, List.length_nil] at hj
      rw [up_row (by decide), List.getD_eq_getElem?_getD]
      by_cases h : j < tx.length
      · rw [up_n (by omega), t2 j h, List.getElem?_append_left h, List.getD_eq_getElem?_getD]
      · obtain rfl : j = tx.length := by omega
        rw [up_s]; simp
  · refine g_const f_X2_add_9 ?_
    refine g_reti f_X2_add_11 rfl ?_ (Nat.zero_le _) (Nat.zero_le _)
    exact ⟨rfl, Or.inl ⟨by omega, rfl, rfl⟩⟩

set_option maxHeartbeats 4000000 in
set_option maxRecDepth 100000 in
theorem c_enact {Ω : Ow} {S : Sg} {M : Mm} {tx : List Nat} {Λ hh : Nat} (hG : Gr S) (hS : S.1 = 116 + 6 * hh) (hX : TxR S M tx Λ) : Ct Ω mX2_enact 23 6 144 3 [vr Ω 1] S M (fun x S' M' => (∃ a, lawOf tx = .inr a ∧ a ≤ tx.length ∧ x = -1 ∧ S' = S ∧ M' 1 2 = (a : Int) ∧ RepTx M' [] ∧ lfr Λ M M') ∨ (∃ L, lawOf tx = .inl L ∧ x = (Λ : Int) ∧ S' = (S.1 + 6, up (newS S S.1) 1 3 (S.1 : Int)) ∧ RepTx M' [] ∧ RepLaw M' Λ L ∧ ∀ k, k ≠ 1 → ¬ (Λ ≤ k ∧ k < Λ + 6) → k ≠ S.1 → M' k = M k)) := by
  refine Ct.mk (by decide) (Nat.le_of_ble_eq_true rfl) [some (vr Ω 1), none, none] (by intro q hq; exact hq) (fun γ hγ hz => ?_)
  obtain ⟨hΛ, hΛ6, gD, hT, t1, t2⟩ := id hX
  have o1 := obn hG (r := 1) (c := 2) (by decide +kernel)
  obtain ⟨oL, aL1, aL2, aL3, aL4, aL5⟩ := obLaw hΛ hΛ6
  obtain ⟨s0, -, -, -, -, -⟩ := sh_law (Λ := S.1) (Or.inr (Or.inr ⟨hh, hS⟩))
  have tail0 : ∀ (i a1 : Nat) (L1 : LawC) (cs1 : List Int) (M1 : Mm), PG S M1 tx Λ L1 cs1 a1 → lfr Λ M M1 → lawOf tx = .inr a1 → Go γ Ω mX2_enact (Zm γ Ω 3 6 144 (fun x S' M' => (∃ a, lawOf tx = .inr a ∧ a ≤ tx.length ∧ x = -1 ∧ S' = S ∧ M' 1 2 = (a : Int) ∧ RepTx M' [] ∧ lfr Λ M M') ∨ (∃ L, lawOf tx = .inl L ∧ x = (Λ : Int) ∧ S' = (S.1 + 6, up (newS S S.1) 1 3 (S.1 : Int)) ∧ RepTx M' [] ∧ RepLaw M' Λ L ∧ ∀ k, k ≠ 1 → ¬ (Λ ≤ k ∧ k < Λ + 6) → k ≠ S.1 → M' k = M k))) 0 0 S M1 49 [some (vr Ω 1), some (vi 0), some (vi (i : Int))] [] := by
    intro i a1 L1 cs1 M1 k f e
    obtain ⟨kG, kΛ, kΛ6, kD, kT, ⟨kt1, kt2⟩, kRD, ka, kal, kcl, kLl⟩ := id k
    refine g_ild f_X2_enact_49 rfl ?_
    refine g_if_eq f_X2_enact_50 rfl (by omega) (fun hx => ?_) (fun hx => ?_)
    · refine g_const f_X2_enact_68 ?_
      refine g_ist_1 f_X2_enact_69 (by decide) c1v ?_
      refine g_alv f_X2_enact_70 rfl ?_
      refine g_const f_X2_enact_71 ?_
      refine g_putI f_X2_enact_72 rfl (by assumption) ?_
      refine g_ild f_X2_enact_75 rfl ?_
      refine g_if_ne f_X2_enact_76 rfl (by omega) (fun hy => ?_) (fun hy => ?_)
      · exact absurd hy (by omega)
      refine g_null f_X2_enact_79 ?_
      refine g_reta f_X2_enact_80 rfl (Or.inl ⟨_, rfl⟩) (x := -1) rfl ?_ (Nat.zero_le _) (Nat.zero_le _)
      exact Or.inl ⟨a1, e, kal, rfl, rfl, by rw [up_n (by omega)]; exact ka, ⟨up_s _ _ _ _, fun j hj => absurd hj (Nat.not_lt_zero _)⟩, f.u1 _ _⟩
    · exact absurd (by omega) hx
  have tail1 : ∀ (i a1 : Nat) (L1 : LawC) (M1 : Mm), PG S M1 tx Λ L1 (flatL L1) a1 → lfr Λ M M1 → pLaw tx = (true, a1, L1) → Go γ Ω mX2_enact (Zm γ Ω 3 6 144 (fun x S' M' => (∃ a, lawOf tx = .inr a ∧ a ≤ tx.length ∧ x = -1 ∧ S' = S ∧ M' 1 2 = (a : Int) ∧ RepTx M' [] ∧ lfr Λ M M') ∨ (∃ L, lawOf tx = .inl L ∧ x = (Λ : Int) ∧ S' = (S.1 + 6, up (newS S S.1) 1 3 (S.1 : Int)) ∧ RepTx M' [] ∧ RepLaw M' Λ L ∧ ∀ k, k ≠ 1 → ¬ (Λ ≤ k ∧ k < Λ + 6) → k ≠ S.1 → M' k = M k))) 0 0 S M1 49 [some (vr Ω 1), some (vi 1), some (vi (i : Int))] [] := by
    intro i a1 L1 M1 k f e1
    obtain ⟨kG, kΛ, kΛ6, kD, kT, ⟨kt1, kt2⟩, kRD, ka, kal, kcl, kLl⟩ := id k
    refine g_ild f_X2_enact_49 rfl ?_
    have kT1 := kT.1
    refine g_if_eq f_X2_enact_50 rfl (by omega) (fun hx => ?_) (fun hx => ?_)
    · exact absurd hx (by omega)
    refine g_alv f_X2_enact_53 rfl ?_
    refine g_getI f_X2_enact_54 (by assumption) ?_
    rw [ka]
    refine g_alv f_X2_enact_57 rfl ?_
    refine g_getI f_X2_enact_58 (by assumption) ?_
    rw [kt1]
    refine g_icmp_ne f_X2_enact_61 rfl (by omega) (by omega) (fun hne => ?_) (fun hne => ?_)
    · have e : lawOf tx = .inr a1 := by unfold lawOf; rw [e1]; exact if_neg (fun h => hne (by have h2 : a1 = tx.length := h.2; omega))
      refine g_const f_X2_enact_68 ?_
      refine g_ist_1 f_X2_enact_69 (by decide) c1v ?_
      refine g_alv f_X2_enact_70 rfl ?_
      refine g_const f_X2_enact_71 ?_
      refine g_putI f_X2_enact_72 rfl (by assumption) ?_
      refine g_ild f_X2_enact_75 rfl ?_
      refine g_if_ne f_X2_enact_76 rfl (by omega) (fun hy => ?_) (fun hy => ?_)
      · exact absurd hy (by omega)
      refine g_null f_X2_enact_79 ?_
      refine g_reta f_X2_enact_80 rfl (Or.inl ⟨_, rfl⟩) (x := -1) rfl ?_ (Nat.zero_le _) (Nat.zero_le _)
      exact Or.inl ⟨a1, e, kal, rfl, rfl, by rw [up_n (by omega)]; exact ka, ⟨up_s _ _ _ _, fun j hj => absurd hj (Nat.not_lt_zero _)⟩, f.u1 _ _⟩
    · have e : lawOf tx = .inl L1 := by unfold lawOf; rw [e1]; exact if_pos ⟨rfl, by show a1 = tx.length; omega⟩
      refine g_const f_X2_enact_64 ?_
      refine g_goto f_X2_enact_65 ?_
      refine g_ist_1 f_X2_enact_69 (by decide) c1v ?_
      refine g_alv f_X2_enact_70 rfl ?_
      refine g_const f_X2_enact_71 ?_
      refine g_putI f_X2_enact_72 rfl (by assumption) ?_
      refine g_ild f_X2_enact_75 rfl ?_
      refine g_if_ne f_X2_enact_76 rfl (by omega) (fun hy => ?_) (fun hy => ?_)
      · refine g_alv f_X2_enact_81 rfl ?_
        refine g_getR f_X2_enact_82 (by assumption) kD ?_
        refine g_ast_2 f_X2_enact_85 (by decide) c1i ?_
        refine g_alv f_X2_enact_86 rfl ?_
        refine g_new f_X2_enact_87 ins_1 ini_1 (by decide) rfl s0 (by rw [hγ]; decide) (by rw [hγ]; decide) ?_
        refine g_dup f_X2_enact_90 rfl ?_
        refine g_ci hγ (c_lawInit (q := S.1) (hh := hh) hS rfl) f_X2_enact_91 mo_X1_init rfl rfl mi_X1_init rfl (Nat.le_of_ble_eq_true rfl) ⟨by decide, by decide⟩ ⟨by decide, by decide⟩ (fun x S4 M4 hq4 => ?_)
        obtain ⟨q1, rfl⟩ := hq4
        have eS : S4 = (S.1 + 6, newS S S.1) := q1
        have hG4 : Gr S4 := by rw [eS]; exact Gr.new hG hS
        have o14 := obn hG4 (r := 1) (c := 2) (by decide +kernel)
        refine g_putR f_X2_enact_94 (by first | exact Or.inl ⟨_, rfl⟩ | exact Or.inr ⟨_, rfl⟩) (by assumption) ?_
        refine g_alv f_X2_enact_97 rfl ?_
        refine g_reta f_X2_enact_98 rfl (Or.inl ⟨_, rfl⟩) (x := (Λ : Int)) rfl ?_ (Nat.le_of_ble_eq_true rfl) (Nat.le_of_ble_eq_true rfl)
        have hl1 := law_1 hΛ
        refine Or.inr ⟨L1, e, rfl, by rw [eS], ⟨?_, fun j hj => absurd hj (Nat.not_lt_zero _)⟩, ?_, fun k2 a b c => by rw [up_row c, up_row a]; exact f k2 a b⟩
        · rw [up_row (by omega)]; exact up_s _ _ _ _
        · have hRL := kRD.law
          unfold RepLaw at hRL ⊢
          rw [up_row (show Λ ≠ S.1 by omega), up_row (show Λ + 1 ≠ S.1 by omega), up_row (show Λ + 2 ≠ S.1 by omega), up_row (show Λ + 3 ≠ S.1 by omega), up_row (show Λ + 4 ≠ S.1 by omega), up_row (show Λ ≠ 1 by omega), up_row (show Λ + 1 ≠ 1 by omega), up_row (show Λ + 2 ≠ 1 by omega), up_row (show Λ + 3 ≠ 1 by omega), up_row (show Λ + 4 ≠ 1 by omega)]
          exact hRL
      · exact absurd (by omega) hy
  have fail : ∀ (i a1 : Nat) (L1 : LawC) (cs1 : List Int) (M1 : Mm), i ≤ 10 → PG S M1 tx Λ L1 cs1 a1 → lfr Λ M M1 → lawOf tx = .inr a1 → Go γ Ω mX2_enact (Zm γ Ω 3 6 144 (fun x S' M' => (∃ a, lawOf tx = .inr a ∧ a ≤ tx.length ∧ x = -1 ∧ S' = S ∧ M' 1 2 = (a : Int) ∧ RepTx M' [] ∧ lfr Λ M M') ∨ (∃ L, lawOf tx = .inl L ∧ x = (Λ : Int) ∧ S' = (S.1 + 6, up (newS S S.1) 1 3 (S.1 : Int)) ∧ RepTx M' [] ∧ RepLaw M' Λ L ∧ ∀ k, k ≠ 1 → ¬ (Λ ≤ k ∧ k < Λ + 6) → k ≠ S.1 → M' k = M k))) 0 0 S M1 19 [some (vr Ω 1), some (vi 0), some (vi (i : Int))] [] := by
    intro i a1 L1 cs1 M1 hi10 k f e
    refine g_ild f_X2_enact_19 rfl ?_
    refine g_const f_X2_enact_20 ?_
    refine g_icmp_ge f_X2_enact_22 rfl (by omega) (by omega) (fun hc => ?_) (fun hc => ?_)
    · exact tail0 i a1 L1 cs1 M1 k f e
    · refine g_ild f_X2_enact_25 rfl ?_
      refine g_if_eq f_X2_enact_26 rfl (by omega) (fun hx => ?_) (fun hx => ?_)
      · exact tail0 i a1 L1 cs1 M1 k f e
      · exact absurd (by omega) hx
  have loop : ∀ (k2 i a1 : Nat) (L1 : LawC) (M1 : Mm), i + k2 = 10 → 1 ≤ i → L1.length ≤ i → (∀ q ∈ L1, okC q) → PG S M1 tx Λ L1 (flatL L1) a1 → lfr Λ M M1 → pLs tx k2 a1 L1 = pLaw tx → Go γ Ω mX2_enact (Zm γ Ω 3 6 144 (fun x S' M' => (∃ a, lawOf tx = .inr a ∧ a ≤ tx.length ∧ x = -1 ∧ S' = S ∧ M' 1 2 = (a : Int) ∧ RepTx M' [] ∧ lfr Λ M M') ∨ (∃ L, lawOf tx = .inl L ∧ x = (Λ : Int) ∧ S' = (S.1 + 6, up (newS S S.1) 1 3 (S.1 : Int)) ∧ RepTx M' [] ∧ RepLaw M' Λ L ∧ ∀ k, k ≠ 1 → ¬ (Λ ≤ k ∧ k < Λ + 6) → k ≠ S.1 → M' k = M k))) 0 0 S M1 19 [some (vr Ω 1), some (vi 1), some (vi (i : Int))] [] := by
    intro k2
    induction k2 with
    | zero =>
      intro i a1 L1 M1 hk hi1 hlen hok k f hi
      have hn : i = 10 := by omega
      subst hn
      refine g_ild f_X2_enact_19 rfl ?_
      refine g_const f_X2_enact_20 ?_
      refine g_icmp_ge f_X2_enact_22 rfl (by omega) (by omega) (fun hc => ?_) (fun hc => ?_)
      · exact tail1 10 a1 L1 M1 k f hi.symm
      · exact absurd (by omega) hc
    | succ k2 ih =>
      intro i a1 L1 M1 hk hi1 hlen hok k f hi
      have hn : i < 10 := by omega
      have kfl := k.2.2.2.2.2.2.2.2.2.1
      refine g_ild f_X2_enact_19 rfl ?_
      refine g_const f_X2_enact_20 ?_
      refine g_icmp_ge f_X2_enact_22 rfl (by omega) (by omega) (fun hc => ?_) (fun hc => ?_)
      · exact absurd hc (by omega)
      refine g_ild f_X2_enact_25 rfl ?_
      refine g_if_eq f_X2_enact_26 rfl (by omega) (fun hx0 => ?_) (fun hx0 => ?_)
      · exact absurd hx0 (by omega)
      refine g_alv f_X2_enact_29 rfl ?_
      refine g_const f_X2_enact_30 ?_
      refine g_as (show (59 : Int) = ((59 : Nat) : Int) from rfl) ?_
      refine g_cv1 hγ (c_take (a := a1) k (c := 59) (by decide)) f_X2_enact_32 mo_X2_take mv_X2_take (by assumption) rfl rfl (Nat.le_of_ble_eq_true rfl) ⟨by decide, by decide⟩ ⟨by decide, by decide⟩ (fun x S' M32 hq2 => ?_)
      obtain ⟨rfl, q1, k2, fn⟩ := hq2
      obtain rfl := q1.symm
      replace f := f.tr fn
      clear k fn
      rcases Bool.eq_false_or_eq_true (isC tx (a1) 59) with hb32 | hb32
      · have k : PG S M32 tx Λ L1 (flatL L1) (a1 + 1) := by rw [hb32] at k2; exact k2
        clear k2
        rw [hb32]
        refine g_as (show ((true.toNat : Nat) : Int) = 1 from rfl) ?_
        refine g_if_eq f_X2_enact_35 rfl (by omega) (fun hx => ?_) (fun hx => ?_)
        · exact absurd hx (by omega)
        refine g_alv f_X2_enact_38 rfl ?_
        refine g_cv1 hγ (c_clause k (by omega)) f_X2_enact_39 mo_X2_readClause mv_X2_readClause (by assumption) rfl rfl (Nat.le_of_ble_eq_true rfl) ⟨by decide, by decide⟩ ⟨by decide, by decide⟩ (fun x S' M3 hq3 => ?_)
        obtain ⟨rfl, q1, ⟨cs2, k3, k4⟩, fn⟩ := hq3
        obtain rfl := q1.symm
        replace f := f.tr fn
        clear fn
        obtain ⟨p1, p2, p3, p4, p5, p6⟩ := pCl_ok (L := L1) (isC_lt hb32).1 hok (by omega)
        rw [pLs, if_pos hb32] at hi
        rcases Bool.eq_false_or_eq_true (pCl tx (a1 + 1) L1).1 with hb | hb
        · rw [hb]
          rw [if_pos hb] at hi
          rw [k4 hb] at k3
          refine g_as (show ((true.toNat : Nat) : Int) = 1 from rfl) ?_
          refine g_ist_1 f_X2_enact_42 (by decide) c1v ?_
          refine g_inc_2 f_X2_enact_43 (by decide) c1i ?_
          refine g_goto f_X2_enact_46 ?_
          exact ih (i + 1) _ _ M3 (by omega) (by omega) (by omega) p4 k3 f hi
        · rw [hb]
          rw [if_neg (by rw [hb]; decide)] at hi
          refine g_as (show ((false.toNat : Nat) : Int) = 0 from rfl) ?_
          refine g_ist_1 f_X2_enact_42 (by decide) c1v ?_
          refine g_inc_2 f_X2_enact_43 (by decide) c1i ?_
          refine g_goto f_X2_enact_46 ?_
          refine fail (i + 1) _ _ cs2 M3 (by omega) k3 f ?_
          unfold lawOf
          rw [← hi]
          exact if_neg (fun h => by cases h.1)
      · have k : PG S M32 tx Λ L1 (flatL L1) (a1) := by rw [hb32] at k2; exact k2
        clear k2
        rw [hb32]
        refine g_as (show ((false.toNat : Nat) : Int) = 0 from rfl) ?_
        refine g_if_eq f_X2_enact_35 rfl (by omega) (fun hx => ?_) (fun hx => ?_)
        · rw [pLs, if_neg (by rw [hb32]; decide)] at hi
          exact tail1 i a1 L1 _ k f hi.symm
        · exact absurd (by omega) hx
  refine g_alv f_X2_enact_0 rfl ?_
  refine g_const f_X2_enact_1 ?_
  refine g_putI f_X2_enact_2 rfl (by assumption) ?_
  refine g_alv f_X2_enact_5 rfl ?_
  refine g_getR f_X2_enact_6 (by assumption) gD ?_
  refine g_cv0 hγ (c_clear oL) f_X2_enact_9 mo_X1_clear mv_X1_clear (by assumption) rfl rfl (Nat.le_of_ble_eq_true rfl) ⟨by decide, by decide⟩ ⟨by decide, by decide⟩ (fun x S' M2 hq2 => ?_)
  obtain ⟨q1, q2⟩ := hq2
  obtain rfl := q1.symm
  have hl1 := law_1 hΛ
  have hM : ∀ k, k ≠ 1 → k ≠ Λ → M2 k = M k := fun k a b => by rw [q2, up_row b, up_row b, up_row b, up_row a]
  have hP : PG S M2 tx Λ [] (flatL []) 0 := by
    refine ⟨hG, hΛ, hΛ6, gD, hT, ⟨?_, fun j hj => ?_⟩, ⟨?_, ?_, ?_, fun n hn => absurd hn (Nat.not_lt_zero _), fun i hi => absurd hi (Nat.not_lt_zero _)⟩, ?_, Nat.zero_le _, Nat.le_refl _, Nat.zero_le _⟩
    · rw [q2, up_row (by omega), up_row (by omega), up_row (by omega), up_n (by omega)]; exact t1
    · rw [hM 2 (by decide) (by omega)]; exact t2 j hj
    · rw [q2, up_n (by omega), up_n (by omega)]; exact up_s _ _ _ _
    · rw [q2, up_n (by omega)]; exact up_s _ _ _ _
    · rw [q2]; exact up_s _ _ _ _
    · rw [q2, up_row (by omega), up_row (by omega), up_row (by omega)]; exact up_s _ _ _ _
  have f : lfr Λ M M2 := fun k a b => hM k a (by omega)
  clear q2 hM
  refine g_alv f_X2_enact_12 rfl ?_
  refine g_cv1 hγ (c_clause hP (by decide)) f_X2_enact_13 mo_X2_readClause mv_X2_readClause (by assumption) rfl rfl (Nat.le_of_ble_eq_true rfl) ⟨by decide, by decide⟩ ⟨by decide, by decide⟩ (fun x S' M3 hq3 => ?_)
  obtain ⟨rfl, q1, ⟨cs2, k3, k4⟩, fn⟩ := hq3
  obtain rfl := q1.symm
  replace f := f.tr fn
  clear fn
  obtain ⟨p1, p2, p3, p4, p5, p6⟩ := pCl_ok (tx := tx) (a := 0) (L := []) (Nat.zero_le _) (fun q h => by cases h) (Nat.le_refl _)
  have p3b : (pCl tx 0 []).2.2.length ≤ 1 := p3
  rcases Bool.eq_false_or_eq_true (pCl tx 0 []).1 with hb | hb
  · rw [hb]
    rw [k4 hb] at k3
    refine g_as (show ((true.toNat : Nat) : Int) = 1 from rfl) ?_
    refine g_ist_1 f_X2_enact_16 (by decide) c1v ?_
    refine g_const f_X2_enact_17 ?_
    refine g_ist_2 f_X2_enact_18 (by decide) c1i ?_
    exact loop 9 1 _ _ M3 rfl (Nat.le_refl _) p3b p4 k3 f (if_pos hb).symm
  · rw [hb]
    refine g_as (show ((false.toNat : Nat) : Int) = 0 from rfl) ?_
    refine g_ist_1 f_X2_enact_16 (by decide) c1v ?_
    refine g_const f_X2_enact_17 ?_
    refine g_ist_2 f_X2_enact_18 (by decide) c1i ?_
    refine fail 1 _ _ cs2 M3 (by decide) k3 f ?_
    have e : pLaw tx = (false, (pCl tx 0 []).2.1, []) := if_neg (by rw [hb]; decide)
    unfold lawOf
    rw [e]
    exact if_neg (fun h => by cases h.1)
