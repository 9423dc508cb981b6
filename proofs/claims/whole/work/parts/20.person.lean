/-! contracts: Person -/
set_option maxHeartbeats 4000000 in
set_option maxRecDepth 100000 in
theorem c_isOfKind {Ω : Ow} {S : Sg} {M : Mm} {q K : Nat} (hq : Ob S q 3) (h1 : M q 1 = (K : Int)) (hK : K ≤ 6) (k : Int) (hk : rg k) : Ct Ω mX3_isOfKind 1 0 0 1 [vr Ω q, vi k] S M (fun x S' M' => (x = if isK K k then 1 else 0) ∧ S' = S ∧ M' = M) := by
  refine Ct.mk (by decide) (Nat.le_of_ble_eq_true rfl) [some (vr Ω q), some (vi k)] (by intro q hq; exact hq) (fun γ hγ hz => ?_)
  refine g_alv f_X3_isOfKind_0 rfl ?_
  refine g_getI f_X3_isOfKind_1 (by assumption) ?_
  rw [h1]
  refine g_ild f_X3_isOfKind_4 rfl ?_
  refine g_icmp_eq f_X3_isOfKind_5 rfl (by omega) (by omega) (fun c1 => ?_) (fun c1 => ?_)
  · refine g_const f_X3_isOfKind_24 ?_
    refine g_goto f_X3_isOfKind_25 ?_
    refine g_retz f_X3_isOfKind_29 rfl (by omega) ?_ (Nat.zero_le _) (Nat.zero_le _)
    exact ⟨by first | (rw [if_pos (by unfold isK; omega)]; done) | rw [if_neg (by unfold isK; omega)], rfl, rfl⟩
  · refine g_ild f_X3_isOfKind_8 rfl ?_
    refine g_kabS (by omega) f_X3_isOfKind_9 ?_
    refine g_alv f_X3_isOfKind_12 rfl ?_
    refine g_getI f_X3_isOfKind_13 (by assumption) ?_
    rw [h1]
    have hz : (cS γ).heap.size ≤ bs Ω + S.1 := by omega
    refine g_kab hz f_X3_isOfKind_16 (by omega) ?_
    refine g_icmp_eq f_X3_isOfKind_17 rfl (by first | omega | exact kab_rg K) (by first | omega | exact kab_rg K) (fun c2 => ?_) (fun c2 => ?_)
    · refine g_const f_X3_isOfKind_24 ?_
      refine g_goto f_X3_isOfKind_25 ?_
      refine g_retz f_X3_isOfKind_29 rfl (by omega) ?_ (Nat.zero_le _) (Nat.zero_le _)
      exact ⟨by first | (rw [if_pos (by unfold isK; omega)]; done) | rw [if_neg (by unfold isK; omega)], rfl, rfl⟩
    · refine g_ild f_X3_isOfKind_20 rfl ?_
      refine g_if_ne f_X3_isOfKind_21 rfl (by omega) (fun c3 => ?_) (fun c3 => ?_)
      · refine g_const f_X3_isOfKind_28 ?_
        refine g_retz f_X3_isOfKind_29 rfl (by omega) ?_ (Nat.zero_le _) (Nat.zero_le _)
        exact ⟨by first | (rw [if_pos (by unfold isK; omega)]; done) | rw [if_neg (by unfold isK; omega)], rfl, rfl⟩
      · refine g_const f_X3_isOfKind_24 ?_
        refine g_goto f_X3_isOfKind_25 ?_
        refine g_retz f_X3_isOfKind_29 rfl (by omega) ?_ (Nat.zero_le _) (Nat.zero_le _)
        exact ⟨by first | (rw [if_pos (by unfold isK; omega)]; done) | rw [if_neg (by unfold isK; omega)], rfl, rfl⟩

theorem tdiv2 (s : Int) (h : -1000 ≤ s ∧ s ≤ 1000) : -500 ≤ Int.tdiv s 2 ∧ Int.tdiv s 2 ≤ 500 := by
  rcases Int.le_total 0 s with q | q
  · rw [Int.tdiv_eq_ediv_of_nonneg q]; omega
  · have e : Int.tdiv s 2 = -(Int.tdiv (-s) 2) := by rw [Int.neg_tdiv, Int.neg_neg]
    rw [e, Int.tdiv_eq_ediv_of_nonneg (by omega)]; omega
set_option maxHeartbeats 4000000 in
set_option maxRecDepth 100000 in
theorem c_reach {Ω : Ow} {S : Sg} {M : Mm} {q : Nat} {P : Nat → Nat} (hq : Ob S q 3) (ha : Ar S (q + 1) 12 4) (hg : S.2 q 6 = ((q + 1 : Nat) : Int)) (h1 : M q 1 = (P 0 : Int)) (hK : P 0 ≤ 6) (hr : ∀ j, j < 4 → M (q + 1) j = (P (5 + j) : Int)) (hrb : ∀ j, j < 4 → P (5 + j) ≤ 9) (sm : Int) (day : Nat) (hs : -1000 ≤ sm ∧ sm ≤ 1000) (hd : day ≤ 20000) : Ct Ω mX3_reach 2 0 0 1 [vr Ω q, vi sm, vi (day : Int)] S M (fun x S' M' => x = reachI (P 0) sm (P (5 + day % 4)) day ∧ S' = S ∧ M' = M) := by
  refine Ct.mk (by decide) (Nat.le_of_ble_eq_true rfl) [some (vr Ω q), some (vi sm), some (vi (day : Int)), none] (by intro q hq; exact hq) (fun γ hγ hz => ?_)
  have htd := tdiv2 sm hs
  refine g_ild f_X3_reach_0 rfl ?_
  refine g_ist_3 f_X3_reach_1 (by decide) c1i ?_
  refine g_alv f_X3_reach_2 rfl ?_
  refine g_const f_X3_reach_3 ?_
  refine g_cv1 hγ (c_isOfKind hq h1 hK 3 (by omega)) f_X3_reach_4 mo_X3_isOfKind mv_X3_isOfKind (by assumption) rfl rfl (Nat.le_of_ble_eq_true rfl) ⟨by decide, by decide⟩ ⟨Nat.le_refl _, Nat.le_refl _⟩ (fun x S' M' hq2 => ?_)
  obtain ⟨hx, rfl, rfl⟩ := hq2
  simp only [isK3 hK] at hx
  refine g_if_eq f_X3_reach_7 rfl (by rw [hx]; split <;> decide) (fun c1 => ?_) (fun c1 => ?_)
  · refine g_alv f_X3_reach_14 rfl ?_
    refine g_getI f_X3_reach_15 (by assumption) ?_
    rw [h1]
    refine g_const f_X3_reach_18 ?_
    refine g_icmp_ne f_X3_reach_20 rfl (by omega) (by omega) (fun c2 => ?_) (fun c2 => ?_)
    · refine g_alv f_X3_reach_34 rfl ?_
      refine g_getI f_X3_reach_35 (by assumption) ?_
      rw [h1]
      refine g_const f_X3_reach_38 ?_
      refine g_icmp_ne f_X3_reach_39 rfl (by omega) (by omega) (fun c3 => ?_) (fun c3 => ?_)
      · refine g_alv f_X3_reach_46 rfl ?_
        refine g_getI f_X3_reach_47 (by assumption) ?_
        rw [h1]
        refine g_const f_X3_reach_50 ?_
        refine g_icmp_ne f_X3_reach_51 rfl (by omega) (by omega) (fun c4 => ?_) (fun c4 => ?_)
        · refine g_const f_X3_reach_63 ?_
          refine g_const f_X3_reach_64 ?_
          refine g_ild f_X3_reach_66 rfl ?_
          refine g_mn hγ (by decide) ⟨Nat.le_refl _, Nat.le_refl _⟩ f_X3_reach_67 (by omega) (by omega) (Nat.le_of_ble_eq_true rfl) ?_
          refine g_mx hγ (by decide) ⟨Nat.le_refl _, Nat.le_refl _⟩ f_X3_reach_70 (by omega) (by omega) (Nat.le_of_ble_eq_true rfl) ?_
          refine g_reti f_X3_reach_73 rfl ?_ (Nat.zero_le _) (Nat.zero_le _)
          refine ⟨?_, rfl, rfl⟩
          unfold reachI
          congr 2
          split at hx <;> (repeat (first | (rw [if_pos (by omega)]; done) | (rw [if_pos (by omega)]; omega) | rw [if_neg (by omega)])) <;> omega
        · refine g_ild f_X3_reach_54 rfl ?_
          refine g_const f_X3_reach_55 ?_
          refine g_irem f_X3_reach_56 (by omega) (by omega) ?_
          refine g_const f_X3_reach_57 ?_
          refine g_icmp_ne f_X3_reach_58 rfl (by omega) (by omega) (fun c5 => ?_) (fun c5 => ?_)
          · refine g_const f_X3_reach_63 ?_
            refine g_const f_X3_reach_64 ?_
            refine g_ild f_X3_reach_66 rfl ?_
            refine g_mn hγ (by decide) ⟨Nat.le_refl _, Nat.le_refl _⟩ f_X3_reach_67 (by omega) (by omega) (Nat.le_of_ble_eq_true rfl) ?_
            refine g_mx hγ (by decide) ⟨Nat.le_refl _, Nat.le_refl _⟩ f_X3_reach_70 (by omega) (by omega) (Nat.le_of_ble_eq_true rfl) ?_
            refine g_reti f_X3_reach_73 rfl ?_ (Nat.zero_le _) (Nat.zero_le _)
            refine ⟨?_, rfl, rfl⟩
            unfold reachI
            congr 2
            split at hx <;> (repeat (first | (rw [if_pos (by omega)]; done) | (rw [if_pos (by omega)]; omega) | rw [if_neg (by omega)])) <;> omega
          · refine g_const f_X3_reach_61 ?_
            refine g_ist_3 f_X3_reach_62 (by decide) c1i ?_
            refine g_const f_X3_reach_63 ?_
            refine g_const f_X3_reach_64 ?_
            refine g_ild f_X3_reach_66 rfl ?_
            refine g_mn hγ (by decide) ⟨Nat.le_refl _, Nat.le_refl _⟩ f_X3_reach_67 (by omega) (by omega) (Nat.le_of_ble_eq_true rfl) ?_
            refine g_mx hγ (by decide) ⟨Nat.le_refl _, Nat.le_refl _⟩ f_X3_reach_70 (by omega) (by omega) (Nat.le_of_ble_eq_true rfl) ?_
            refine g_reti f_X3_reach_73 rfl ?_ (Nat.zero_le _) (Nat.zero_le _)
            refine ⟨?_, rfl, rfl⟩
            unfold reachI
            congr 2
            split at hx <;> (repeat (first | (rw [if_pos (by omega)]; done) | (rw [if_pos (by omega)]; omega) | rw [if_neg (by omega)])) <;> omega
      · refine g_ild f_X3_reach_42 rfl ?_
        refine g_const f_X3_reach_43 ?_
        refine g_idivT f_X3_reach_44 (by omega) (by omega) (by decide) (Or.inl (by decide)) ?_
        refine g_ist_3 f_X3_reach_45 (by decide) c1i ?_
        refine g_alv f_X3_reach_46 rfl ?_
        refine g_getI f_X3_reach_47 (by assumption) ?_
        rw [h1]
        refine g_const f_X3_reach_50 ?_
        refine g_icmp_ne f_X3_reach_51 rfl (by omega) (by omega) (fun c6 => ?_) (fun c6 => ?_)
        · refine g_const f_X3_reach_63 ?_
          refine g_const f_X3_reach_64 ?_
          refine g_ild f_X3_reach_66 rfl ?_
          refine g_mn hγ (by decide) ⟨Nat.le_refl _, Nat.le_refl _⟩ f_X3_reach_67 (by omega) (by omega) (Nat.le_of_ble_eq_true rfl) ?_
          refine g_mx hγ (by decide) ⟨Nat.le_refl _, Nat.le_refl _⟩ f_X3_reach_70 (by omega) (by omega) (Nat.le_of_ble_eq_true rfl) ?_
          refine g_reti f_X3_reach_73 rfl ?_ (Nat.zero_le _) (Nat.zero_le _)
          refine ⟨?_, rfl, rfl⟩
          unfold reachI
          congr 2
          split at hx <;> (repeat (first | (rw [if_pos (by omega)]; done) | (rw [if_pos (by omega)]; omega) | rw [if_neg (by omega)])) <;> omega
        · refine g_ild f_X3_reach_54 rfl ?_
          refine g_const f_X3_reach_55 ?_
          refine g_irem f_X3_reach_56 (by omega) (by omega) ?_
          refine g_const f_X3_reach_57 ?_
          refine g_icmp_ne f_X3_reach_58 rfl (by omega) (by omega) (fun c7 => ?_) (fun c7 => ?_)
          · refine g_const f_X3_reach_63 ?_
            refine g_const f_X3_reach_64 ?_
            refine g_ild f_X3_reach_66 rfl ?_
            refine g_mn hγ (by decide) ⟨Nat.le_refl _, Nat.le_refl _⟩ f_X3_reach_67 (by omega) (by omega) (Nat.le_of_ble_eq_true rfl) ?_
            refine g_mx hγ (by decide) ⟨Nat.le_refl _, Nat.le_refl _⟩ f_X3_reach_70 (by omega) (by omega) (Nat.le_of_ble_eq_true rfl) ?_
            refine g_reti f_X3_reach_73 rfl ?_ (Nat.zero_le _) (Nat.zero_le _)
            refine ⟨?_, rfl, rfl⟩
            unfold reachI
            congr 2
            split at hx <;> (repeat (first | (rw [if_pos (by omega)]; done) | (rw [if_pos (by omega)]; omega) | rw [if_neg (by omega)])) <;> omega
          · refine g_const f_X3_reach_61 ?_
            refine g_ist_3 f_X3_reach_62 (by decide) c1i ?_
            refine g_const f_X3_reach_63 ?_
            refine g_const f_X3_reach_64 ?_
            refine g_ild f_X3_reach_66 rfl ?_
            refine g_mn hγ (by decide) ⟨Nat.le_refl _, Nat.le_refl _⟩ f_X3_reach_67 (by omega) (by omega) (Nat.le_of_ble_eq_true rfl) ?_
            refine g_mx hγ (by decide) ⟨Nat.le_refl _, Nat.le_refl _⟩ f_X3_reach_70 (by omega) (by omega) (Nat.le_of_ble_eq_true rfl) ?_
            refine g_reti f_X3_reach_73 rfl ?_ (Nat.zero_le _) (Nat.zero_le _)
            refine ⟨?_, rfl, rfl⟩
            unfold reachI
            congr 2
            split at hx <;> (repeat (first | (rw [if_pos (by omega)]; done) | (rw [if_pos (by omega)]; omega) | rw [if_neg (by omega)])) <;> omega
    · refine g_ild f_X3_reach_23 rfl ?_
      refine g_alv f_X3_reach_24 rfl ?_
      refine g_getR f_X3_reach_25 (by assumption) (by assumption) ?_
      refine g_ild f_X3_reach_28 rfl ?_
      refine g_const f_X3_reach_29 ?_
      refine g_irem f_X3_reach_30 (by omega) (by omega) ?_
      have hrb := hrb (day % 4) (by omega)
      refine g_ial f_X3_reach_31 (by assumption) (day % 4) (by omega) (by omega) ?_
      rw [hr (day % 4) (by omega)]
      refine g_iadd f_X3_reach_32 ?_
      refine g_ist_3 f_X3_reach_33 (by decide) c1i ?_
      refine g_alv f_X3_reach_34 rfl ?_
      refine g_getI f_X3_reach_35 (by assumption) ?_
      rw [h1]
      refine g_const f_X3_reach_38 ?_
      refine g_icmp_ne f_X3_reach_39 rfl (by omega) (by omega) (fun c8 => ?_) (fun c8 => ?_)
      · refine g_alv f_X3_reach_46 rfl ?_
        refine g_getI f_X3_reach_47 (by assumption) ?_
        rw [h1]
        refine g_const f_X3_reach_50 ?_
        refine g_icmp_ne f_X3_reach_51 rfl (by omega) (by omega) (fun c9 => ?_) (fun c9 => ?_)
        · refine g_const f_X3_reach_63 ?_
          refine g_const f_X3_reach_64 ?_
          refine g_ild f_X3_reach_66 rfl ?_
          refine g_mn hγ (by decide) ⟨Nat.le_refl _, Nat.le_refl _⟩ f_X3_reach_67 (by omega) (by omega) (Nat.le_of_ble_eq_true rfl) ?_
          refine g_mx hγ (by decide) ⟨Nat.le_refl _, Nat.le_refl _⟩ f_X3_reach_70 (by omega) (by omega) (Nat.le_of_ble_eq_true rfl) ?_
          refine g_reti f_X3_reach_73 rfl ?_ (Nat.zero_le _) (Nat.zero_le _)
          refine ⟨?_, rfl, rfl⟩
          unfold reachI
          congr 2
          split at hx <;> (repeat (first | (rw [if_pos (by omega)]; done) | (rw [if_pos (by omega)]; omega) | rw [if_neg (by omega)])) <;> omega
        · refine g_ild f_X3_reach_54 rfl ?_
          refine g_const f_X3_reach_55 ?_
          refine g_irem f_X3_reach_56 (by omega) (by omega) ?_
          refine g_const f_X3_reach_57 ?_
          refine g_icmp_ne f_X3_reach_58 rfl (by omega) (by omega) (fun c10 => ?_) (fun c10 => ?_)
          · refine g_const f_X3_reach_63 ?_
            refine g_const f_X3_reach_64 ?_
            refine g_ild f_X3_reach_66 rfl ?_
            refine g_mn hγ (by decide) ⟨Nat.le_refl _, Nat.le_refl _⟩ f_X3_reach_67 (by omega) (by omega) (Nat.le_of_ble_eq_true rfl) ?_
            refine g_mx hγ (by decide) ⟨Nat.le_refl _, Nat.le_refl _⟩ f_X3_reach_70 (by omega) (by omega) (Nat.le_of_ble_eq_true rfl) ?_
            refine g_reti f_X3_reach_73 rfl ?_ (Nat.zero_le _) (Nat.zero_le _)
            refine ⟨?_, rfl, rfl⟩
            unfold reachI
            congr 2
            split at hx <;> (repeat (first | (rw [if_pos (by omega)]; done) | (rw [if_pos (by omega)]; omega) | rw [if_neg (by omega)])) <;> omega
          · refine g_const f_X3_reach_61 ?_
            refine g_ist_3 f_X3_reach_62 (by decide) c1i ?_
            refine g_const f_X3_reach_63 ?_
            refine g_const f_X3_reach_64 ?_
            refine g_ild f_X3_reach_66 rfl ?_
            refine g_mn hγ (by decide) ⟨Nat.le_refl _, Nat.le_refl _⟩ f_X3_reach_67 (by omega) (by omega) (Nat.le_of_ble_eq_true rfl) ?_
            refine g_mx hγ (by decide) ⟨Nat.le_refl _, Nat.le_refl _⟩ f_X3_reach_70 (by omega) (by omega) (Nat.le_of_ble_eq_true rfl) ?_
            refine g_reti f_X3_reach_73 rfl ?_ (Nat.zero_le _) (Nat.zero_le _)
            refine ⟨?_, rfl, rfl⟩
            unfold reachI
            congr 2
            split at hx <;> (repeat (first | (rw [if_pos (by omega)]; done) | (rw [if_pos (by omega)]; omega) | rw [if_neg (by omega)])) <;> omega
      · refine g_ild f_X3_reach_42 rfl ?_
        refine g_const f_X3_reach_43 ?_
        refine g_idivT f_X3_reach_44 (by omega) (by omega) (by decide) (Or.inl (by decide)) ?_
        refine g_ist_3 f_X3_reach_45 (by decide) c1i ?_
        refine g_alv f_X3_reach_46 rfl ?_
        refine g_getI f_X3_reach_47 (by assumption) ?_
        rw [h1]
        refine g_const f_X3_reach_50 ?_
        refine g_icmp_ne f_X3_reach_51 rfl (by omega) (by omega) (fun c11 => ?_) (fun c11 => ?_)
        · refine g_const f_X3_reach_63 ?_
          refine g_const f_X3_reach_64 ?_
          refine g_ild f_X3_reach_66 rfl ?_
          refine g_mn hγ (by decide) ⟨Nat.le_refl _, Nat.le_refl _⟩ f_X3_reach_67 (by omega) (by omega) (Nat.le_of_ble_eq_true rfl) ?_
          refine g_mx hγ (by decide) ⟨Nat.le_refl _, Nat.le_refl _⟩ f_X3_reach_70 (by omega) (by omega) (Nat.le_of_ble_eq_true rfl) ?_
          refine g_reti f_X3_reach_73 rfl ?_ (Nat.zero_le _) (Nat.zero_le _)
          refine ⟨?_, rfl, rfl⟩
          unfold reachI
          congr 2
          split at hx <;> (repeat (first | (rw [if_pos (by omega)]; done) | (rw [if_pos (by omega)]; omega) | rw [if_neg (by omega)])) <;> omega
        · refine g_ild f_X3_reach_54 rfl ?_
          refine g_const f_X3_reach_55 ?_
          refine g_irem f_X3_reach_56 (by omega) (by omega) ?_
          refine g_const f_X3_reach_57 ?_
          refine g_icmp_ne f_X3_reach_58 rfl (by omega) (by omega) (fun c12 => ?_) (fun c12 => ?_)
          · refine g_const f_X3_reach_63 ?_
            refine g_const f_X3_reach_64 ?_
            refine g_ild f_X3_reach_66 rfl ?_
            refine g_mn hγ (by decide) ⟨Nat.le_refl _, Nat.le_refl _⟩ f_X3_reach_67 (by omega) (by omega) (Nat.le_of_ble_eq_true rfl) ?_
            refine g_mx hγ (by decide) ⟨Nat.le_refl _, Nat.le_refl _⟩ f_X3_reach_70 (by omega) (by omega) (Nat.le_of_ble_eq_true rfl) ?_
            refine g_reti f_X3_reach_73 rfl ?_ (Nat.zero_le _) (Nat.zero_le _)
            refine ⟨?_, rfl, rfl⟩
            unfold reachI
            congr 2
            split at hx <;> (repeat (first | (rw [if_pos (by omega)]; done) | (rw [if_pos (by omega)]; omega) | rw [if_neg (by omega)])) <;> omega
          · refine g_const f_X3_reach_61 ?_
            refine g_ist_3 f_X3_reach_62 (by decide) c1i ?_
            refine g_const f_X3_reach_63 ?_
            refine g_const f_X3_reach_64 ?_
            refine g_ild f_X3_reach_66 rfl ?_
            refine g_mn hγ (by decide) ⟨Nat.le_refl _, Nat.le_refl _⟩ f_X3_reach_67 (by omega) (by omega) (Nat.le_of_ble_eq_true rfl) ?_
            refine g_mx hγ (by decide) ⟨Nat.le_refl _, Nat.le_refl _⟩ f_X3_reach_70 (by omega) (by omega) (Nat.le_of_ble_eq_true rfl) ?_
            refine g_reti f_X3_reach_73 rfl ?_ (Nat.zero_le _) (Nat.zero_le _)
            refine ⟨?_, rfl, rfl⟩
            unfold reachI
            congr 2
            split at hx <;> (repeat (first | (rw [if_pos (by omega)]; done) | (rw [if_pos (by omega)]; omega) | rw [if_neg (by omega)])) <;> omega
  · refine g_const f_X3_reach_10 ?_
    refine g_ild f_X3_reach_11 rfl ?_
    refine g_imul f_X3_reach_12 ?_
    refine g_ist_3 f_X3_reach_13 (by decide) c1i ?_
    refine g_alv f_X3_reach_14 rfl ?_
    refine g_getI f_X3_reach_15 (by assumption) ?_
    rw [h1]
    refine g_const f_X3_reach_18 ?_
    refine g_icmp_ne f_X3_reach_20 rfl (by omega) (by omega) (fun c13 => ?_) (fun c13 => ?_)
    · refine g_alv f_X3_reach_34 rfl ?_
      refine g_getI f_X3_reach_35 (by assumption) ?_
      rw [h1]
      refine g_const f_X3_reach_38 ?_
      refine g_icmp_ne f_X3_reach_39 rfl (by omega) (by omega) (fun c14 => ?_) (fun c14 => ?_)
      · refine g_alv f_X3_reach_46 rfl ?_
        refine g_getI f_X3_reach_47 (by assumption) ?_
        rw [h1]
        refine g_const f_X3_reach_50 ?_
        refine g_icmp_ne f_X3_reach_51 rfl (by omega) (by omega) (fun c15 => ?_) (fun c15 => ?_)
        · refine g_const f_X3_reach_63 ?_
          refine g_const f_X3_reach_64 ?_
          refine g_ild f_X3_reach_66 rfl ?_
          refine g_mn hγ (by decide) ⟨Nat.le_refl _, Nat.le_refl _⟩ f_X3_reach_67 (by omega) (by omega) (Nat.le_of_ble_eq_true rfl) ?_
          refine g_mx hγ (by decide) ⟨Nat.le_refl _, Nat.le_refl _⟩ f_X3_reach_70 (by omega) (by omega) (Nat.le_of_ble_eq_true rfl) ?_
          refine g_reti f_X3_reach_73 rfl ?_ (Nat.zero_le _) (Nat.zero_le _)
          refine ⟨?_, rfl, rfl⟩
          unfold reachI
          congr 2
          split at hx <;> (repeat (first | (rw [if_pos (by omega)]; done) | (rw [if_pos (by omega)]; omega) | rw [if_neg (by omega)])) <;> omega
        · refine g_ild f_X3_reach_54 rfl ?_
          refine g_const f_X3_reach_55 ?_
          refine g_irem f_X3_reach_56 (by omega) (by omega) ?_
          refine g_const f_X3_reach_57 ?_
          refine g_icmp_ne f_X3_reach_58 rfl (by omega) (by omega) (fun c16 => ?_) (fun c16 => ?_)
          · refine g_const f_X3_reach_63 ?_
            refine g_const f_X3_reach_64 ?_
            refine g_ild f_X3_reach_66 rfl ?_
            refine g_mn hγ (by decide) ⟨Nat.le_refl _, Nat.le_refl _⟩ f_X3_reach_67 (by omega) (by omega) (Nat.le_of_ble_eq_true rfl) ?_
            refine g_mx hγ (by decide) ⟨Nat.le_refl _, Nat.le_refl _⟩ f_X3_reach_70 (by omega) (by omega) (Nat.le_of_ble_eq_true rfl) ?_
            refine g_reti f_X3_reach_73 rfl ?_ (Nat.zero_le _) (Nat.zero_le _)
            refine ⟨?_, rfl, rfl⟩
            unfold reachI
            congr 2
            split at hx <;> (repeat (first | (rw [if_pos (by omega)]; done) | (rw [if_pos (by omega)]; omega) | rw [if_neg (by omega)])) <;> omega
          · refine g_const f_X3_reach_61 ?_
            refine g_ist_3 f_X3_reach_62 (by decide) c1i ?_
            refine g_const f_X3_reach_63 ?_
            refine g_const f_X3_reach_64 ?_
            refine g_ild f_X3_reach_66 rfl ?_
            refine g_mn hγ (by decide) ⟨Nat.le_refl _, Nat.le_refl _⟩ f_X3_reach_67 (by omega) (by omega) (Nat.le_of_ble_eq_true rfl) ?_
            refine g_mx hγ (by decide) ⟨Nat.le_refl _, Nat.le_refl _⟩ f_X3_reach_70 (by omega) (by omega) (Nat.le_of_ble_eq_true rfl) ?_
            refine g_reti f_X3_reach_73 rfl ?_ (Nat.zero_le _) (Nat.zero_le _)
            refine ⟨?_, rfl, rfl⟩
            unfold reachI
            congr 2
            split at hx <;> (repeat (first | (rw [if_pos (by omega)]; done) | (rw [if_pos (by omega)]; omega) | rw [if_neg (by omega)])) <;> omega
      · refine g_ild f_X3_reach_42 rfl ?_
        refine g_const f_X3_reach_43 ?_
        refine g_idivT f_X3_reach_44 (by omega) (by omega) (by decide) (Or.inl (by decide)) ?_
        refine g_ist_3 f_X3_reach_45 (by decide) c1i ?_
        refine g_alv f_X3_reach_46 rfl ?_
        refine g_getI f_X3_reach_47 (by assumption) ?_
        rw [h1]
        refine g_const f_X3_reach_50 ?_
        refine g_icmp_ne f_X3_reach_51 rfl (by omega) (by omega) (fun c17 => ?_) (fun c17 => ?_)
        · refine g_const f_X3_reach_63 ?_
          refine g_const f_X3_reach_64 ?_
          refine g_ild f_X3_reach_66 rfl ?_
          refine g_mn hγ (by decide) ⟨Nat.le_refl _, Nat.le_refl _⟩ f_X3_reach_67 (by omega) (by omega) (Nat.le_of_ble_eq_true rfl) ?_
          refine g_mx hγ (by decide) ⟨Nat.le_refl _, Nat.le_refl _⟩ f_X3_reach_70 (by omega) (by omega) (Nat.le_of_ble_eq_true rfl) ?_
          refine g_reti f_X3_reach_73 rfl ?_ (Nat.zero_le _) (Nat.zero_le _)
          refine ⟨?_, rfl, rfl⟩
          unfold reachI
          congr 2
          split at hx <;> (repeat (first | (rw [if_pos (by omega)]; done) | (rw [if_pos (by omega)]; omega) | rw [if_neg (by omega)])) <;> omega
        · refine g_ild f_X3_reach_54 rfl ?_
          refine g_const f_X3_reach_55 ?_
          refine g_irem f_X3_reach_56 (by omega) (by omega) ?_
          refine g_const f_X3_reach_57 ?_
          refine g_icmp_ne f_X3_reach_58 rfl (by omega) (by omega) (fun c18 => ?_) (fun c18 => ?_)
          · refine g_const f_X3_reach_63 ?_
            refine g_const f_X3_reach_64 ?_
            refine g_ild f_X3_reach_66 rfl ?_
            refine g_mn hγ (by decide) ⟨Nat.le_refl _, Nat.le_refl _⟩ f_X3_reach_67 (by omega) (by omega) (Nat.le_of_ble_eq_true rfl) ?_
            refine g_mx hγ (by decide) ⟨Nat.le_refl _, Nat.le_refl _⟩ f_X3_reach_70 (by omega) (by omega) (Nat.le_of_ble_eq_true rfl) ?_
            refine g_reti f_X3_reach_73 rfl ?_ (Nat.zero_le _) (Nat.zero_le _)
            refine ⟨?_, rfl, rfl⟩
            unfold reachI
            congr 2
            split at hx <;> (repeat (first | (rw [if_pos (by omega)]; done) | (rw [if_pos (by omega)]; omega) | rw [if_neg (by omega)])) <;> omega
          · refine g_const f_X3_reach_61 ?_
            refine g_ist_3 f_X3_reach_62 (by decide) c1i ?_
            refine g_const f_X3_reach_63 ?_
            refine g_const f_X3_reach_64 ?_
            refine g_ild f_X3_reach_66 rfl ?_
            refine g_mn hγ (by decide) ⟨Nat.le_refl _, Nat.le_refl _⟩ f_X3_reach_67 (by omega) (by omega) (Nat.le_of_ble_eq_true rfl) ?_
            refine g_mx hγ (by decide) ⟨Nat.le_refl _, Nat.le_refl _⟩ f_X3_reach_70 (by omega) (by omega) (Nat.le_of_ble_eq_true rfl) ?_
            refine g_reti f_X3_reach_73 rfl ?_ (Nat.zero_le _) (Nat.zero_le _)
            refine ⟨?_, rfl, rfl⟩
            unfold reachI
            congr 2
            split at hx <;> (repeat (first | (rw [if_pos (by omega)]; done) | (rw [if_pos (by omega)]; omega) | rw [if_neg (by omega)])) <;> omega
    · refine g_ild f_X3_reach_23 rfl ?_
      refine g_alv f_X3_reach_24 rfl ?_
      refine g_getR f_X3_reach_25 (by assumption) (by assumption) ?_
      refine g_ild f_X3_reach_28 rfl ?_
      refine g_const f_X3_reach_29 ?_
      refine g_irem f_X3_reach_30 (by omega) (by omega) ?_
      have hrb := hrb (day % 4) (by omega)
      refine g_ial f_X3_reach_31 (by assumption) (day % 4) (by omega) (by omega) ?_
      rw [hr (day % 4) (by omega)]
      refine g_iadd f_X3_reach_32 ?_
      refine g_ist_3 f_X3_reach_33 (by decide) c1i ?_
      refine g_alv f_X3_reach_34 rfl ?_
      refine g_getI f_X3_reach_35 (by assumption) ?_
      rw [h1]
      refine g_const f_X3_reach_38 ?_
      refine g_icmp_ne f_X3_reach_39 rfl (by omega) (by omega) (fun c19 => ?_) (fun c19 => ?_)
      · refine g_alv f_X3_reach_46 rfl ?_
        refine g_getI f_X3_reach_47 (by assumption) ?_
        rw [h1]
        refine g_const f_X3_reach_50 ?_
        refine g_icmp_ne f_X3_reach_51 rfl (by omega) (by omega) (fun c20 => ?_) (fun c20 => ?_)
        · refine g_const f_X3_reach_63 ?_
          refine g_const f_X3_reach_64 ?_
          refine g_ild f_X3_reach_66 rfl ?_
          refine g_mn hγ (by decide) ⟨Nat.le_refl _, Nat.le_refl _⟩ f_X3_reach_67 (by omega) (by omega) (Nat.le_of_ble_eq_true rfl) ?_
          refine g_mx hγ (by decide) ⟨Nat.le_refl _, Nat.le_refl _⟩ f_X3_reach_70 (by omega) (by omega) (Nat.le_of_ble_eq_true rfl) ?_
          refine g_reti f_X3_reach_73 rfl ?_ (Nat.zero_le _) (Nat.zero_le _)
          refine ⟨?_, rfl, rfl⟩
          unfold reachI
          congr 2
          split at hx <;> (repeat (first | (rw [if_pos (by omega)]; done) | (rw [if_pos (by omega)]; omega) | rw [if_neg (by omega)])) <;> omega
        · refine g_ild f_X3_reach_54 rfl ?_
          refine g_const f_X3_reach_55 ?_
          refine g_irem f_X3_reach_56 (by omega) (by omega) ?_
          refine g_const f_X3_reach_57 ?_
          refine g_icmp_ne f_X3_reach_58 rfl (by omega) (by omega) (fun c21 => ?_) (fun c21 => ?_)
          · refine g_const f_X3_reach_63 ?_
            refine g_const f_X3_reach_64 ?_
            refine g_ild f_X3_reach_66 rfl ?_
            refine g_mn hγ (by decide) ⟨Nat.le_refl _, Nat.le_refl _⟩ f_X3_reach_67 (by omega) (by omega) (Nat.le_of_ble_eq_true rfl) ?_
            refine g_mx hγ (by decide) ⟨Nat.le_refl _, Nat.le_refl _⟩ f_X3_reach_70 (by omega) (by omega) (Nat.le_of_ble_eq_true rfl) ?_
            refine g_reti f_X3_reach_73 rfl ?_ (Nat.zero_le _) (Nat.zero_le _)
            refine ⟨?_, rfl, rfl⟩
            unfold reachI
            congr 2
            split at hx <;> (repeat (first | (rw [if_pos (by omega)]; done) | (rw [if_pos (by omega)]; omega) | rw [if_neg (by omega)])) <;> omega
          · refine g_const f_X3_reach_61 ?_
            refine g_ist_3 f_X3_reach_62 (by decide) c1i ?_
            refine g_const f_X3_reach_63 ?_
            refine g_const f_X3_reach_64 ?_
            refine g_ild f_X3_reach_66 rfl ?_
            refine g_mn hγ (by decide) ⟨Nat.le_refl _, Nat.le_refl _⟩ f_X3_reach_67 (by omega) (by omega) (Nat.le_of_ble_eq_true rfl) ?_
            refine g_mx hγ (by decide) ⟨Nat.le_refl _, Nat.le_refl _⟩ f_X3_reach_70 (by omega) (by omega) (Nat.le_of_ble_eq_true rfl) ?_
            refine g_reti f_X3_reach_73 rfl ?_ (Nat.zero_le _) (Nat.zero_le _)
            refine ⟨?_, rfl, rfl⟩
            unfold reachI
            congr 2
            split at hx <;> (repeat (first | (rw [if_pos (by omega)]; done) | (rw [if_pos (by omega)]; omega) | rw [if_neg (by omega)])) <;> omega
      · refine g_ild f_X3_reach_42 rfl ?_
        refine g_const f_X3_reach_43 ?_
        refine g_idivT f_X3_reach_44 (by omega) (by omega) (by decide) (Or.inl (by decide)) ?_
        refine g_ist_3 f_X3_reach_45 (by decide) c1i ?_
        refine g_alv f_X3_reach_46 rfl ?_
        refine g_getI f_X3_reach_47 (by assumption) ?_
        rw [h1]
        refine g_const f_X3_reach_50 ?_
        refine g_icmp_ne f_X3_reach_51 rfl (by omega) (by omega) (fun c22 => ?_) (fun c22 => ?_)
        · refine g_const f_X3_reach_63 ?_
          refine g_const f_X3_reach_64 ?_
          refine g_ild f_X3_reach_66 rfl ?_
          refine g_mn hγ (by decide) ⟨Nat.le_refl _, Nat.le_refl _⟩ f_X3_reach_67 (by omega) (by omega) (Nat.le_of_ble_eq_true rfl) ?_
          refine g_mx hγ (by decide) ⟨Nat.le_refl _, Nat.le_refl _⟩ f_X3_reach_70 (by omega) (by omega) (Nat.le_of_ble_eq_true rfl) ?_
          refine g_reti f_X3_reach_73 rfl ?_ (Nat.zero_le _) (Nat.zero_le _)
          refine ⟨?_, rfl, rfl⟩
          unfold reachI
          congr 2
          split at hx <;> (repeat (first | (rw [if_pos (by omega)]; done) | (rw [if_pos (by omega)]; omega) | rw [if_neg (by omega)])) <;> omega
        · refine g_ild f_X3_reach_54 rfl ?_
          refine g_const f_X3_reach_55 ?_
          refine g_irem f_X3_reach_56 (by omega) (by omega) ?_
          refine g_const f_X3_reach_57 ?_
          refine g_icmp_ne f_X3_reach_58 rfl (by omega) (by omega) (fun c23 => ?_) (fun c23 => ?_)
          · refine g_const f_X3_reach_63 ?_
            refine g_const f_X3_reach_64 ?_
            refine g_ild f_X3_reach_66 rfl ?_
            refine g_mn hγ (by decide) ⟨Nat.le_refl _, Nat.le_refl _⟩ f_X3_reach_67 (by omega) (by omega) (Nat.le_of_ble_eq_true rfl) ?_
            refine g_mx hγ (by decide) ⟨Nat.le_refl _, Nat.le_refl _⟩ f_X3_reach_70 (by omega) (by omega) (Nat.le_of_ble_eq_true rfl) ?_
            refine g_reti f_X3_reach_73 rfl ?_ (Nat.zero_le _) (Nat.zero_le _)
            refine ⟨?_, rfl, rfl⟩
            unfold reachI
            congr 2
            split at hx <;> (repeat (first | (rw [if_pos (by omega)]; done) | (rw [if_pos (by omega)]; omega) | rw [if_neg (by omega)])) <;> omega
          · refine g_const f_X3_reach_61 ?_
            refine g_ist_3 f_X3_reach_62 (by decide) c1i ?_
            refine g_const f_X3_reach_63 ?_
            refine g_const f_X3_reach_64 ?_
            refine g_ild f_X3_reach_66 rfl ?_
            refine g_mn hγ (by decide) ⟨Nat.le_refl _, Nat.le_refl _⟩ f_X3_reach_67 (by omega) (by omega) (Nat.le_of_ble_eq_true rfl) ?_
            refine g_mx hγ (by decide) ⟨Nat.le_refl _, Nat.le_refl _⟩ f_X3_reach_70 (by omega) (by omega) (Nat.le_of_ble_eq_true rfl) ?_
            refine g_reti f_X3_reach_73 rfl ?_ (Nat.zero_le _) (Nat.zero_le _)
            refine ⟨?_, rfl, rfl⟩
            unfold reachI
            congr 2
            split at hx <;> (repeat (first | (rw [if_pos (by omega)]; done) | (rw [if_pos (by omega)]; omega) | rw [if_neg (by omega)])) <;> omega

theorem p2le {l : Nat} (hl : l < 12) : 2 ^ l ≤ 2048 := by
  have : ∀ l, l < 12 → 2 ^ l ≤ 2048 := by decide
  exact this l hl
theorem wn_lt {s l : Nat} (hs : s < 12) (hl : l < 12) : (2 ^ l - 1) * 2 ^ s < 4194304 ∧ (2 ^ l - 1) * 2 ^ s / 2 ^ 12 < 4194304 := by
  have : ∀ s, s < 12 → ∀ l, l < 12 → (2 ^ l - 1) * 2 ^ s < 4194304 ∧ (2 ^ l - 1) * 2 ^ s / 2 ^ 12 < 4194304 := by decide +kernel
  exact this s hs l hl
set_option maxHeartbeats 4000000 in
set_option maxRecDepth 100000 in
theorem c_wayRight {Ω : Ow} {S : Sg} {M : Mm} (s l : Nat) (hs : s < 12) (hl : l < 12) : Ct Ω mX3_wayRight 1 0 0 1 [vi (s : Int), vi (l : Int)] S M (fun x S' M' => x = (wayN s l : Int) ∧ S' = S ∧ M' = M) := by
  refine Ct.mk (by decide) (Nat.le_of_ble_eq_true rfl) [some (vi (s : Int)), some (vi (l : Int)), none] (by intro q hq; exact hq) (fun γ hγ hz => ?_)
  refine g_const f_X3_wayRight_0 ?_
  refine g_ild f_X3_wayRight_1 rfl ?_
  refine g_ishl f_X3_wayRight_2 ?_
  rw [show (1 : Int) = ((1 : Nat) : Int) from rfl, bshl_n (by omega) (by have := p2le hl; omega)]
  refine g_const f_X3_wayRight_3 ?_
  refine g_isub f_X3_wayRight_4 ?_
  rw [show (((1 * 2 ^ l : Nat) : Int) - 1) = ((2 ^ l - 1 : Nat) : Int) by have := Nat.two_pow_pos l; omega]
  refine g_ild f_X3_wayRight_5 rfl ?_
  refine g_ishl f_X3_wayRight_6 ?_
  rw [bshl_n (by omega) (by have := wn_lt hs hl; omega)]
  refine g_ist_2 f_X3_wayRight_7 (by decide) c1i ?_
  refine g_ild f_X3_wayRight_8 rfl ?_
  refine g_ild f_X3_wayRight_9 rfl ?_
  refine g_const f_X3_wayRight_10 ?_
  refine g_ishr f_X3_wayRight_12 ?_
  rw [show (12 : Int) = ((12 : Nat) : Int) from rfl, bshr_n (by decide) (by have := wn_lt hs hl; omega)]
  refine g_ior f_X3_wayRight_13 ?_
  rw [bor_n (by have := wn_lt hs hl; omega) (by have := wn_lt hs hl; omega)]
  refine g_const f_X3_wayRight_14 ?_
  refine g_iand f_X3_wayRight_17 ?_
  rw [show (4095 : Int) = ((4095 : Nat) : Int) from rfl, band_n (Nat.or_lt_two_pow (by have := wn_lt hs hl; omega) (by have := wn_lt hs hl; omega))]
  refine g_reti f_X3_wayRight_18 rfl ?_ (Nat.zero_le _) (Nat.zero_le _)
  exact ⟨rfl, rfl, rfl⟩

set_option maxHeartbeats 4000000 in
set_option maxRecDepth 100000 in
theorem c_sees {Ω : Ow} {S : Sg} {M : Mm} {q K pl t w : Nat} {e : Int} (hq : Ob S q 3) (h1 : M q 1 = (K : Int)) (h3 : M q 3 = (pl : Int)) (h7 : M q 7 = e) (hK : K ≤ 6) (hpl : pl < 12) (ht : t < 12) (hw : w < 4096) (he : -1 ≤ e ∧ e ≤ 11) : Ct Ω mX3_sees 2 0 0 1 [vr Ω q, vi (t : Int), vi (w : Int)] S M (fun x S' M' => x = ((seesB w K pl e t).toNat : Int) ∧ S' = S ∧ M' = M) := by
  refine Ct.mk (by decide) (Nat.le_of_ble_eq_true rfl) [some (vr Ω q), some (vi (t : Int)), some (vi (w : Int)), none, none] (by intro q hq; exact hq) (fun γ hγ hz => ?_)
  have hwx : ∀ x, w &&& x < 4096 := fun x => Nat.lt_of_le_of_lt Nat.and_le_left hw
  have hdR : dR pl t < 12 := Nat.mod_lt _ (by decide)
  have hdL : dL pl t < 12 := Nat.mod_lt _ (by decide)
  refine g_ild f_X3_sees_0 rfl ?_
  refine g_alv f_X3_sees_1 rfl ?_
  refine g_getI f_X3_sees_2 (by assumption) ?_
  rw [h3]
  refine g_isub f_X3_sees_5 ?_
  refine g_const f_X3_sees_6 ?_
  refine g_iadd f_X3_sees_8 ?_
  refine g_const f_X3_sees_9 ?_
  refine g_irem f_X3_sees_11 (by omega) (by omega) ?_
  rw [show (((t : Int) - (pl : Int) + 12) % 12) = (dR pl t : Int) by unfold dR; omega]
  refine g_ist_3 f_X3_sees_12 (by decide) c1i ?_
  refine g_const f_X3_sees_13 ?_
  refine g_ild f_X3_sees_15 rfl ?_
  refine g_isub f_X3_sees_16 ?_
  refine g_const f_X3_sees_17 ?_
  refine g_irem f_X3_sees_19 (by omega) (by omega) ?_
  rw [show ((12 - (dR pl t : Int)) % 12) = (dL pl t : Int) by unfold dL; omega]
  refine g_ist_4 f_X3_sees_20 (by decide) c1i ?_
  refine g_ild f_X3_sees_22 rfl ?_
  refine g_alv f_X3_sees_23 rfl ?_
  refine g_getI f_X3_sees_24 (by assumption) ?_
  rw [h7]
  refine g_icmp_gt f_X3_sees_27 rfl (by omega) (by omega) (fun r1 => ?_) (fun r1 => ?_)
  · have hR : (decide ((dR pl t : Int) ≤ e) && wayOK w pl (dR pl t)) = false := by
      first | (have : ¬ ((dR pl t : Int) ≤ e) := by omega); simp [this] | (have w3 : ¬ wayOK w pl (dR pl t) = true := fun q => w1 (by have := (way_iff hw hpl hdR).mpr q; omega)); simp [w3]
    refine g_alv f_X3_sees_45 rfl ?_
    refine g_const f_X3_sees_46 ?_
    refine g_cv1 hγ (c_isOfKind hq h1 hK 2 (by omega)) f_X3_sees_47 mo_X3_isOfKind mv_X3_isOfKind (by assumption) rfl rfl (Nat.le_of_ble_eq_true rfl) ⟨by decide, by decide⟩ ⟨Nat.le_refl _, Nat.le_refl _⟩ (fun x S' M' hq2 => ?_)
    obtain ⟨hx, rfl, rfl⟩ := hq2
    simp only [isK2 hK] at hx
    refine g_if_ne f_X3_sees_50 rfl (by rw [hx]; split <;> decide) (fun k1 => ?_) (fun k1 => ?_)
    · refine g_const f_X3_sees_77 ?_
      refine g_retz f_X3_sees_78 rfl (by omega) ?_ (Nat.zero_le _) (Nat.zero_le _)
      have hLf : (decide (K ≠ 2 ∧ K ≠ 5) && decide ((dL pl t : Int) ≤ e) && wayOK w t (dL pl t)) = false := by
        first
        | (have k2 : ¬ (K ≠ 2 ∧ K ≠ 5) := by (by_cases h : K = 2 ∨ K = 5; omega; (rw [if_neg h] at hx; omega))); simp only [k2, decide_false, Bool.false_and]
        | (have r3 : ¬ ((dL pl t : Int) ≤ e) := by omega); simp only [r3, decide_false, Bool.and_false, Bool.false_and]
        | (have w3 : ¬ wayOK w t (dL pl t) = true := fun q => w2 (by have := (way_iff hw ht hdL).mpr q; omega)); simp [w3]
      exact ⟨by unfold seesB; rw [hR, hLf]; rfl, rfl, rfl⟩
    · refine g_ild f_X3_sees_53 rfl ?_
      refine g_alv f_X3_sees_55 rfl ?_
      refine g_getI f_X3_sees_56 (by assumption) ?_
      rw [h7]
      refine g_icmp_gt f_X3_sees_59 rfl (by omega) (by omega) (fun r2 => ?_) (fun r2 => ?_)
      · refine g_const f_X3_sees_77 ?_
        refine g_retz f_X3_sees_78 rfl (by omega) ?_ (Nat.zero_le _) (Nat.zero_le _)
        have hLf : (decide (K ≠ 2 ∧ K ≠ 5) && decide ((dL pl t : Int) ≤ e) && wayOK w t (dL pl t)) = false := by
          first
          | (have k2 : ¬ (K ≠ 2 ∧ K ≠ 5) := by (by_cases h : K = 2 ∨ K = 5; omega; (rw [if_neg h] at hx; omega))); simp only [k2, decide_false, Bool.false_and]
          | (have r3 : ¬ ((dL pl t : Int) ≤ e) := by omega); simp only [r3, decide_false, Bool.and_false, Bool.false_and]
          | (have w3 : ¬ wayOK w t (dL pl t) = true := fun q => w2 (by have := (way_iff hw ht hdL).mpr q; omega)); simp [w3]
        exact ⟨by unfold seesB; rw [hR, hLf]; rfl, rfl, rfl⟩
      · refine g_ild f_X3_sees_62 rfl ?_
        refine g_ild f_X3_sees_63 rfl ?_
        refine g_ild f_X3_sees_64 rfl ?_
        refine g_cs1 hγ (c_wayRight t (dL pl t) ht hdL) f_X3_sees_66 mo_X3_wayRight mt_X3_wayRight rfl (Nat.le_of_ble_eq_true rfl) ⟨by decide, by decide⟩ ⟨Nat.le_refl _, Nat.le_refl _⟩ (fun x S' M' hq2 => ?_)
        obtain ⟨rfl, rfl, rfl⟩ := hq2
        refine g_iand f_X3_sees_69 ?_
        rw [band_n (by omega)]
        refine g_if_ne f_X3_sees_70 rfl (by have := hwx (wayN t (dL pl t)); omega) (fun w2 => ?_) (fun w2 => ?_)
        · refine g_const f_X3_sees_77 ?_
          refine g_retz f_X3_sees_78 rfl (by omega) ?_ (Nat.zero_le _) (Nat.zero_le _)
          have hLf : (decide (K ≠ 2 ∧ K ≠ 5) && decide ((dL pl t : Int) ≤ e) && wayOK w t (dL pl t)) = false := by
            first
            | (have k2 : ¬ (K ≠ 2 ∧ K ≠ 5) := by (by_cases h : K = 2 ∨ K = 5; omega; (rw [if_neg h] at hx; omega))); simp only [k2, decide_false, Bool.false_and]
            | (have r3 : ¬ ((dL pl t : Int) ≤ e) := by omega); simp only [r3, decide_false, Bool.and_false, Bool.false_and]
            | (have w3 : ¬ wayOK w t (dL pl t) = true := fun q => w2 (by have := (way_iff hw ht hdL).mpr q; omega)); simp [w3]
          exact ⟨by unfold seesB; rw [hR, hLf]; rfl, rfl, rfl⟩
        · refine g_const f_X3_sees_73 ?_
          refine g_goto f_X3_sees_74 ?_
          refine g_retz f_X3_sees_78 rfl (by omega) ?_ (Nat.zero_le _) (Nat.zero_le _)
          have w4 := (way_iff hw ht hdL).mp (by omega)
          have k2 : K ≠ 2 ∧ K ≠ 5 := by
            by_cases h : K = 2 ∨ K = 5
            · rw [if_pos h] at hx; omega
            · omega
          have h2 : decide ((dL pl t : Int) ≤ e) = true := by simp; omega
          have h3 : decide (K ≠ 2 ∧ K ≠ 5) = true := by simp; omega
          rw [show seesB w K pl e t = true by unfold seesB; rw [w4, h2, h3]; simp]
          exact ⟨rfl, rfl, rfl⟩
  · refine g_ild f_X3_sees_30 rfl ?_
    refine g_alv f_X3_sees_31 rfl ?_
    refine g_getI f_X3_sees_32 (by assumption) ?_
    rw [h3]
    refine g_ild f_X3_sees_35 rfl ?_
    refine g_cs1 hγ (c_wayRight pl (dR pl t) hpl hdR) f_X3_sees_36 mo_X3_wayRight mt_X3_wayRight rfl (Nat.le_of_ble_eq_true rfl) ⟨by decide, by decide⟩ ⟨Nat.le_refl _, Nat.le_refl _⟩ (fun x S' M' hq2 => ?_)
    obtain ⟨rfl, rfl, rfl⟩ := hq2
    refine g_iand f_X3_sees_39 ?_
    rw [band_n (by omega)]
    refine g_if_ne f_X3_sees_40 rfl (by have := hwx (wayN pl (dR pl t)); omega) (fun w1 => ?_) (fun w1 => ?_)
    · have hR : (decide ((dR pl t : Int) ≤ e) && wayOK w pl (dR pl t)) = false := by
        first | (have : ¬ ((dR pl t : Int) ≤ e) := by omega); simp [this] | (have w3 : ¬ wayOK w pl (dR pl t) = true := fun q => w1 (by have := (way_iff hw hpl hdR).mpr q; omega)); simp [w3]
      refine g_alv f_X3_sees_45 rfl ?_
      refine g_const f_X3_sees_46 ?_
      refine g_cv1 hγ (c_isOfKind hq h1 hK 2 (by omega)) f_X3_sees_47 mo_X3_isOfKind mv_X3_isOfKind (by assumption) rfl rfl (Nat.le_of_ble_eq_true rfl) ⟨by decide, by decide⟩ ⟨Nat.le_refl _, Nat.le_refl _⟩ (fun x S' M' hq2 => ?_)
      obtain ⟨hx, rfl, rfl⟩ := hq2
      simp only [isK2 hK] at hx
      refine g_if_ne f_X3_sees_50 rfl (by rw [hx]; split <;> decide) (fun k1 => ?_) (fun k1 => ?_)
      · refine g_const f_X3_sees_77 ?_
        refine g_retz f_X3_sees_78 rfl (by omega) ?_ (Nat.zero_le _) (Nat.zero_le _)
        have hLf : (decide (K ≠ 2 ∧ K ≠ 5) && decide ((dL pl t : Int) ≤ e) && wayOK w t (dL pl t)) = false := by
          first
          | (have k2 : ¬ (K ≠ 2 ∧ K ≠ 5) := by (by_cases h : K = 2 ∨ K = 5; omega; (rw [if_neg h] at hx; omega))); simp only [k2, decide_false, Bool.false_and]
          | (have r3 : ¬ ((dL pl t : Int) ≤ e) := by omega); simp only [r3, decide_false, Bool.and_false, Bool.false_and]
          | (have w3 : ¬ wayOK w t (dL pl t) = true := fun q => w2 (by have := (way_iff hw ht hdL).mpr q; omega)); simp [w3]
        exact ⟨by unfold seesB; rw [hR, hLf]; rfl, rfl, rfl⟩
      · refine g_ild f_X3_sees_53 rfl ?_
        refine g_alv f_X3_sees_55 rfl ?_
        refine g_getI f_X3_sees_56 (by assumption) ?_
        rw [h7]
        refine g_icmp_gt f_X3_sees_59 rfl (by omega) (by omega) (fun r2 => ?_) (fun r2 => ?_)
        · refine g_const f_X3_sees_77 ?_
          refine g_retz f_X3_sees_78 rfl (by omega) ?_ (Nat.zero_le _) (Nat.zero_le _)
          have hLf : (decide (K ≠ 2 ∧ K ≠ 5) && decide ((dL pl t : Int) ≤ e) && wayOK w t (dL pl t)) = false := by
            first
            | (have k2 : ¬ (K ≠ 2 ∧ K ≠ 5) := by (by_cases h : K = 2 ∨ K = 5; omega; (rw [if_neg h] at hx; omega))); simp only [k2, decide_false, Bool.false_and]
            | (have r3 : ¬ ((dL pl t : Int) ≤ e) := by omega); simp only [r3, decide_false, Bool.and_false, Bool.false_and]
            | (have w3 : ¬ wayOK w t (dL pl t) = true := fun q => w2 (by have := (way_iff hw ht hdL).mpr q; omega)); simp [w3]
          exact ⟨by unfold seesB; rw [hR, hLf]; rfl, rfl, rfl⟩
        · refine g_ild f_X3_sees_62 rfl ?_
          refine g_ild f_X3_sees_63 rfl ?_
          refine g_ild f_X3_sees_64 rfl ?_
          refine g_cs1 hγ (c_wayRight t (dL pl t) ht hdL) f_X3_sees_66 mo_X3_wayRight mt_X3_wayRight rfl (Nat.le_of_ble_eq_true rfl) ⟨by decide, by decide⟩ ⟨Nat.le_refl _, Nat.le_refl _⟩ (fun x S' M' hq2 => ?_)
          obtain ⟨rfl, rfl, rfl⟩ := hq2
          refine g_iand f_X3_sees_69 ?_
          rw [band_n (by omega)]
          refine g_if_ne f_X3_sees_70 rfl (by have := hwx (wayN t (dL pl t)); omega) (fun w2 => ?_) (fun w2 => ?_)
          · refine g_const f_X3_sees_77 ?_
            refine g_retz f_X3_sees_78 rfl (by omega) ?_ (Nat.zero_le _) (Nat.zero_le _)
            have hLf : (decide (K ≠ 2 ∧ K ≠ 5) && decide ((dL pl t : Int) ≤ e) && wayOK w t (dL pl t)) = false := by
              first
              | (have k2 : ¬ (K ≠ 2 ∧ K ≠ 5) := by (by_cases h : K = 2 ∨ K = 5; omega; (rw [if_neg h] at hx; omega))); simp only [k2, decide_false, Bool.false_and]
              | (have r3 : ¬ ((dL pl t : Int) ≤ e) := by omega); simp only [r3, decide_false, Bool.and_false, Bool.false_and]
              | (have w3 : ¬ wayOK w t (dL pl t) = true := fun q => w2 (by have := (way_iff hw ht hdL).mpr q; omega)); simp [w3]
            exact ⟨by unfold seesB; rw [hR, hLf]; rfl, rfl, rfl⟩
          · refine g_const f_X3_sees_73 ?_
            refine g_goto f_X3_sees_74 ?_
            refine g_retz f_X3_sees_78 rfl (by omega) ?_ (Nat.zero_le _) (Nat.zero_le _)
            have w4 := (way_iff hw ht hdL).mp (by omega)
            have k2 : K ≠ 2 ∧ K ≠ 5 := by
              by_cases h : K = 2 ∨ K = 5
              · rw [if_pos h] at hx; omega
              · omega
            have h2 : decide ((dL pl t : Int) ≤ e) = true := by simp; omega
            have h3 : decide (K ≠ 2 ∧ K ≠ 5) = true := by simp; omega
            rw [show seesB w K pl e t = true by unfold seesB; rw [w4, h2, h3]; simp]
            exact ⟨rfl, rfl, rfl⟩
    · refine g_const f_X3_sees_43 ?_
      refine g_retz f_X3_sees_44 rfl (by omega) ?_ (Nat.zero_le _) (Nat.zero_le _)
      have w1 := (way_iff hw hpl hdR).mp (by omega)
      have h2 : decide ((dR pl t : Int) ≤ e) = true := by simp; omega
      rw [show seesB w K pl e t = true by unfold seesB; rw [w1, h2]; rfl]
      exact ⟨rfl, rfl, rfl⟩

set_option maxHeartbeats 4000000 in
set_option maxRecDepth 100000 in
theorem c_sight {Ω : Ow} {S : Sg} {M : Mm} {q K pl w : Nat} {e : Int} (hq : Ob S q 3) (h1 : M q 1 = (K : Int)) (h3 : M q 3 = (pl : Int)) (h7 : M q 7 = e) (hK : K ≤ 6) (hpl : pl < 12) (hw : w < 4096) (he : -1 ≤ e ∧ e ≤ 11) : Ct Ω mX3_sight 3 0 0 1 [vr Ω q, vi (w : Int)] S M (fun x S' M' => x = (bitsP 12 (fun t => seesB w K pl e t) : Int) ∧ S' = S ∧ M' = M) := by
  refine Ct.mk (by decide) (Nat.le_of_ble_eq_true rfl) [some (vr Ω q), some (vi (w : Int)), none, none] (by intro q hq; exact hq) (fun γ hγ hz => ?_)
  have loop : ∀ (k n : Nat), n + k = 12 → Go γ Ω mX3_sight (Zm γ Ω 1 0 0 (fun x S' M' => x = (bitsP 12 (fun t => seesB w K pl e t) : Int) ∧ S' = S ∧ M' = M)) 0 0 S M 4 [some (vr Ω q), some (vi (w : Int)), some (vi (bitsP n (fun t => seesB w K pl e t) : Int)), some (vi (n : Int))] [] := by
    intro k
    induction k with
    | zero =>
      intro n hk
      have hn : n = 12 := by omega
      subst hn
      refine g_ild f_X3_sight_4 rfl ?_
      refine g_const f_X3_sight_5 ?_
      refine g_icmp_ge f_X3_sight_7 rfl (by omega) (by omega) (fun hc => ?_) (fun hc => ?_)
      · refine g_ild f_X3_sight_31 rfl ?_
        refine g_reti f_X3_sight_32 rfl ?_ (Nat.zero_le _) (Nat.zero_le _)
        exact ⟨rfl, rfl, rfl⟩
      · exact absurd (by omega) hc
    | succ k ih =>
      intro n hk
      have hn : n < 12 := by omega
      have hb := bitsP_lt (fun t => seesB w K pl e t) n
      have hb2 : 2 ^ n ≤ 2048 := p2le hn
      have nx : Go γ Ω mX3_sight (Zm γ Ω 1 0 0 (fun x S' M' => x = (bitsP 12 (fun t => seesB w K pl e t) : Int) ∧ S' = S ∧ M' = M)) 0 0 S M 25 [some (vr Ω q), some (vi (w : Int)), some (vi (bitsP (n + 1) (fun t => seesB w K pl e t) : Int)), some (vi (n : Int))] [] := by
        refine g_inc_3 f_X3_sight_25 (by decide) c1i ?_
        refine g_goto f_X3_sight_28 ?_
        exact ih (n + 1) (by omega)
      refine g_ild f_X3_sight_4 rfl ?_
      refine g_const f_X3_sight_5 ?_
      refine g_icmp_ge f_X3_sight_7 rfl (by omega) (by omega) (fun hc => ?_) (fun hc => ?_)
      · exact absurd hc (by omega)
      refine g_alv f_X3_sight_10 rfl ?_
      refine g_ild f_X3_sight_11 rfl ?_
      refine g_ild f_X3_sight_12 rfl ?_
      refine g_cv1 hγ (c_sees hq h1 h3 h7 hK hpl hn hw he) f_X3_sight_13 mo_X3_sees mv_X3_sees (by assumption) rfl rfl (Nat.le_of_ble_eq_true rfl) ⟨by decide, by decide⟩ ⟨Nat.le_refl _, Nat.le_refl _⟩ (fun x S' M' hq2 => ?_)
      obtain ⟨rfl, rfl, rfl⟩ := hq2
      refine g_if_eq f_X3_sight_16 rfl (by cases seesB w K pl e n <;> decide) (fun hs => ?_) (fun hs => ?_)
      · rw [bitsP_skip _ n (show ¬ seesB w K pl e n = true by revert hs; cases seesB w K pl e n <;> simp)]
        exact nx
      · refine g_ild f_X3_sight_19 rfl ?_
        refine g_const f_X3_sight_20 ?_
        refine g_ild f_X3_sight_21 rfl ?_
        refine g_ishl f_X3_sight_22 ?_
        rw [show (1 : Int) = ((1 : Nat) : Int) from rfl, bshl_n (by omega) (by omega), Nat.one_mul]
        refine g_ior f_X3_sight_23 ?_
        rw [bor_n (by omega) (by omega), bitsP_or _ _ (show seesB w K pl e n = true by revert hs; cases seesB w K pl e n <;> simp)]
        refine g_ist_2 f_X3_sight_24 (by decide) c1i ?_
        exact nx
  refine g_const f_X3_sight_0 ?_
  refine g_ist_2 f_X3_sight_1 (by decide) c1i ?_
  refine g_const f_X3_sight_2 ?_
  refine g_ist_3 f_X3_sight_3 (by decide) c1i ?_
  exact loop 12 0 rfl

theorem up_id (M : Mm) (q j : Nat) : up M q j (M q j) = M := by
  funext a c
  unfold up
  split
  · rename_i h; rw [h.1, h.2]
  · rfl
set_option maxHeartbeats 4000000 in
set_option maxRecDepth 100000 in
theorem c_walk {Ω : Ow} {S : Sg} {M : Mm} {q n : Nat} {P : Nat → Nat} (hq : Ob S q 3) (hR : RepP M q P) (hO : okP P) (hn : n ≤ 60) : Ct Ω mX3_walk 2 0 0 0 [vr Ω q, vi (n : Int)] S M (fun _ S' M' => S' = S ∧ M' = up M q 3 (walkP P n : Int)) := by
  refine Ct.mk (by decide) (Nat.le_of_ble_eq_true rfl) [some (vr Ω q), some (vi (n : Int))] (by intro q hq; exact hq) (fun γ hγ hz => ?_)
  obtain ⟨o1, o2, o3, o4, o5, o6⟩ := id hO
  refine g_alv f_X3_walk_0 rfl ?_
  refine g_getI f_X3_walk_1 (by assumption) ?_
  rw [hR.2.2.2.2.1]
  refine g_if_ne f_X3_walk_4 rfl (by omega) (fun hg => ?_) (fun hg => ?_)
  · refine g_ret0 (κ := 0) f_X3_walk_35 rfl 0 ?_ (Nat.zero_le _) (Nat.zero_le _)
    refine ⟨rfl, ?_⟩
    have he : walkP P n = P 2 := by
      unfold walkP
      rw [if_neg]
      intro q1
      first | omega | (rw [if_pos q1.2] at hx; omega)
    rw [he, ← hR.2.2.1, up_id]
  · refine g_alv f_X3_walk_7 rfl ?_
    refine g_const f_X3_walk_8 ?_
    refine g_cv1 hγ (c_isOfKind hq hR.1 hO.1 1 (by omega)) f_X3_walk_9 mo_X3_isOfKind mv_X3_isOfKind (by assumption) rfl rfl (Nat.le_of_ble_eq_true rfl) ⟨by decide, by decide⟩ ⟨Nat.le_refl _, Nat.le_refl _⟩ (fun x S' M' hq2 => ?_)
    obtain ⟨hx, rfl, rfl⟩ := hq2
    simp only [isK1 hO.1] at hx
    refine g_if_eq f_X3_walk_12 rfl (by rw [hx]; split <;> decide) (fun hk => ?_) (fun hk => ?_)
    · refine g_ret0 (κ := 0) f_X3_walk_35 rfl 0 ?_ (Nat.zero_le _) (Nat.zero_le _)
      refine ⟨rfl, ?_⟩
      have he : walkP P n = P 2 := by
        unfold walkP
        rw [if_neg]
        intro q1
        first | omega | (rw [if_pos q1.2] at hx; omega)
      rw [he, ← hR.2.2.1, up_id]
    · refine g_alv f_X3_walk_15 rfl ?_
      refine g_alv f_X3_walk_16 rfl ?_
      refine g_getI f_X3_walk_17 (by assumption) ?_
      rw [hR.2.2.1]
      refine g_ild f_X3_walk_20 rfl ?_
      refine g_alv f_X3_walk_21 rfl ?_
      refine g_getI f_X3_walk_22 (by assumption) ?_
      rw [hR.2.1]
      refine g_const f_X3_walk_25 ?_
      refine g_irem f_X3_walk_26 (by omega) (by omega) ?_
      refine g_imul f_X3_walk_27 ?_
      rw [show ((n : Int) * ((P 1 : Int) % 3)) = ((n * (P 1 % 3) : Nat) : Int) by push_cast; rfl]
      refine g_iadd f_X3_walk_28 ?_
      refine g_const f_X3_walk_29 ?_
      have hm : n * (P 1 % 3) ≤ 60 * 2 := Nat.mul_le_mul hn (by omega)
      refine g_irem f_X3_walk_31 (by omega) (by omega) ?_
      rw [show (((P 2 : Int) + ((n * (P 1 % 3) : Nat) : Int)) % 12) = (walkP P n : Int) by unfold walkP; rw [if_pos ⟨by omega, by by_cases h : P 0 = 1 ∨ P 0 = 4; exact h; (rw [if_neg h] at hx; omega)⟩]; omega]
      refine g_putI f_X3_walk_32 rfl (by assumption) ?_
      refine g_ret0 (κ := 0) f_X3_walk_35 rfl 0 ?_ (Nat.zero_le _) (Nat.zero_le _)
      exact ⟨rfl, rfl⟩
