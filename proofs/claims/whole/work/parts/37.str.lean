/-! contracts: Strings -/
theorem and255 {c : Nat} (h : c < 128) : c &&& 255 = c := by
  have : ∀ c, c < 128 → c &&& 255 = c := by decide +kernel
  exact this c h
theorem nar_char {c : Nat} (h : c < 128) : narrow .char (vi (c : Int)) = vi (c : Int) := by
  have : ∀ c, c < 128 → narrow .char (vi ((c : Nat) : Int)) = vi (c : Int) := by decide +kernel
  exact this c h
theorem sL_pos : ∀ i, i < 9 → 0 < (sL i).length := by decide +kernel
set_option maxHeartbeats 4000000 in
set_option maxRecDepth 100000 in
theorem c_latin {Ω : Ow} {S : Sg} {M : Mm} {i : Nat} (hi : i < 9) : Ct Ω mJ0_isLatin1_aae02 1 0 0 1 [.ref (ka Ω (1 + i))] S M (fun x S' M' => x = 1 ∧ S' = S ∧ M' = M) := by
  refine Ct.mk (by decide) (Nat.le_of_ble_eq_true rfl) [some (.ref (ka Ω (1 + i)))] (by intro q hq; exact hq) (fun γ hγ hz => ?_)
  have hz : (cS γ).heap.size ≤ bs Ω + S.1 := by omega
  obtain ⟨hl, hb⟩ := sL_ok i hi
  refine g_compact hz f_J0_isLatin1_aae02_0 ?_
  refine g_if_eq f_J0_isLatin1_aae02_3 rfl (by omega) (fun h0 => ?_) (fun h0 => ?_)
  · exact absurd h0 (by omega)
  refine g_ald f_J0_isLatin1_aae02_6 rfl ?_
  refine g_scod hz (by assumption) f_J0_isLatin1_aae02_7 ?_
  refine g_if_ne f_J0_isLatin1_aae02_10 rfl (by omega) (fun h1 => ?_) (fun h1 => ?_)
  · exact absurd h1 (by omega)
  refine g_const f_J0_isLatin1_aae02_13 ?_
  refine g_goto f_J0_isLatin1_aae02_14 ?_
  refine g_retz f_J0_isLatin1_aae02_18 rfl (Or.inr rfl) ?_ (Nat.zero_le _) (Nat.zero_le _)
  exact ⟨rfl, rfl, rfl⟩

set_option maxHeartbeats 4000000 in
set_option maxRecDepth 100000 in
theorem c_coder {Ω : Ow} {S : Sg} {M : Mm} {i : Nat} (hi : i < 9) : Ct Ω mJ0_coder_7d493 1 0 0 1 [.ref (ka Ω (1 + i))] S M (fun x S' M' => x = 0 ∧ S' = S ∧ M' = M) := by
  refine Ct.mk (by decide) (Nat.le_of_ble_eq_true rfl) [some (.ref (ka Ω (1 + i)))] (by intro q hq; exact hq) (fun γ hγ hz => ?_)
  have hz : (cS γ).heap.size ≤ bs Ω + S.1 := by omega
  obtain ⟨hl, hb⟩ := sL_ok i hi
  refine g_compact hz f_J0_coder_7d493_0 ?_
  refine g_if_eq f_J0_coder_7d493_3 rfl (by omega) (fun h0 => ?_) (fun h0 => ?_)
  · exact absurd h0 (by omega)
  refine g_ald f_J0_coder_7d493_6 rfl ?_
  refine g_scod hz (by assumption) f_J0_coder_7d493_7 ?_
  refine g_goto f_J0_coder_7d493_10 ?_
  refine g_retn f_J0_coder_7d493_14 rfl (by decide) ?_ (Nat.zero_le _) (Nat.zero_le _)
  exact ⟨rfl, rfl, rfl⟩

set_option maxHeartbeats 4000000 in
set_option maxRecDepth 100000 in
theorem c_slen {Ω : Ow} {S : Sg} {M : Mm} {i : Nat} (hi : i < 9) : Ct Ω mJ0_length_8abf5 2 0 0 1 [.ref (ka Ω (1 + i))] S M (fun x S' M' => x = ((sL i).length : Int) ∧ S' = S ∧ M' = M) := by
  refine Ct.mk (by decide) (Nat.le_of_ble_eq_true rfl) [some (.ref (ka Ω (1 + i)))] (by intro q hq; exact hq) (fun γ hγ hz => ?_)
  have hz : (cS γ).heap.size ≤ bs Ω + S.1 := by omega
  obtain ⟨hl, hb⟩ := sL_ok i hi
  refine g_ald f_J0_length_8abf5_0 rfl ?_
  refine g_sval hz (by assumption) f_J0_length_8abf5_1 ?_
  refine g_slen hz (by exact hi) f_J0_length_8abf5_4 ?_
  rw [show (sc i).2.2.2 = sL i from rfl]
  refine g_ald f_J0_length_8abf5_5 rfl ?_
  refine g_ct1 hγ (by assumption) (c_coder hi) f_J0_length_8abf5_6 mo_J0_coder_7d493 mv_J0_coder_7d493 rfl rfl (Nat.le_of_ble_eq_true rfl) ⟨by decide, by decide⟩ ⟨Nat.le_refl _, Nat.le_refl _⟩ (fun x S' M' hq2 => ?_)
  obtain ⟨rfl, q1, q2⟩ := hq2
  obtain rfl := q1.symm
  obtain rfl := q2.symm
  refine g_ishr f_J0_length_8abf5_9 ?_
  rw [show (0 : Int) = ((0 : Nat) : Int) from rfl, bshr_n (by decide) (by omega), show (sL i).length / 2 ^ 0 = (sL i).length by simp]
  refine g_reti f_J0_length_8abf5_10 rfl ?_ (Nat.zero_le _) (Nat.zero_le _)
  exact ⟨rfl, rfl, rfl⟩

set_option maxHeartbeats 4000000 in
set_option maxRecDepth 100000 in
theorem c_canEnc {Ω : Ow} {S : Sg} {M : Mm} {c : Nat} (hc : c < 128) : Ct Ω mJ1_canEncode_9a6ad 1 0 0 1 [vi (c : Int)] S M (fun x S' M' => x = 1 ∧ S' = S ∧ M' = M) := by
  refine Ct.mk (by decide) (Nat.le_of_ble_eq_true rfl) [some (vi (c : Int))] (by intro q hq; exact hq) (fun γ hγ hz => ?_)
  refine g_ild f_J1_canEncode_9a6ad_0 rfl ?_
  refine g_if_lt f_J1_canEncode_9a6ad_1 rfl (by omega) (fun h0 => ?_) (fun h0 => ?_)
  · exact absurd h0 (by omega)
  refine g_ild f_J1_canEncode_9a6ad_4 rfl ?_
  refine g_const f_J1_canEncode_9a6ad_5 ?_
  refine g_icmp_gt f_J1_canEncode_9a6ad_8 rfl (by omega) (by omega) (fun h1 => ?_) (fun h1 => ?_)
  · exact absurd h1 (by omega)
  refine g_const f_J1_canEncode_9a6ad_11 ?_
  refine g_goto f_J1_canEncode_9a6ad_12 ?_
  refine g_retz f_J1_canEncode_9a6ad_16 rfl (Or.inr rfl) ?_ (Nat.zero_le _) (Nat.zero_le _)
  exact ⟨rfl, rfl, rfl⟩

set_option maxHeartbeats 4000000 in
set_option maxRecDepth 100000 in
theorem c_idxChar {Ω : Ow} {S : Sg} {M : Mm} {i : Nat} (hi : i < 9) {c : Nat} (hc : c < 128) : Ct Ω mJ1_indexOfChar_4cfef 1 0 0 1 [.ref (ka Ω (20 + i)), vi (c : Int), vi 0, vi ((sL i).length : Int)] S M (fun x S' M' => x = posN i c ∧ S' = S ∧ M' = M) := by
  refine Ct.mk (by decide) (Nat.le_of_ble_eq_true rfl) [some (.ref (ka Ω (20 + i))), some (vi (c : Int)), some (vi 0), some (vi ((sL i).length : Int)), none, none] (by intro q hq; exact hq) (fun γ hγ hz => ?_)
  have hz : (cS γ).heap.size ≤ bs Ω + S.1 := by omega
  obtain ⟨hl, hb⟩ := sL_ok i hi
  have loop : ∀ (k n : Nat), n + k = (sL i).length → posF (sL i) c k n = posN i c → Go γ Ω mJ1_indexOfChar_4cfef (Zm γ Ω 1 0 0 (fun x S' M' => x = posN i c ∧ S' = S ∧ M' = M)) 0 0 S M 7 [some (.ref (ka Ω (20 + i))), some (vi (c : Int)), some (vi 0), some (vi ((sL i).length : Int)), some (vi (c : Int)), some (vi (n : Int))] [] := by
    intro k
    induction k with
    | zero =>
      intro n hk hp
      have hn : n = (sL i).length := by omega
      subst hn
      refine g_ild f_J1_indexOfChar_4cfef_7 rfl ?_
      refine g_ild f_J1_indexOfChar_4cfef_9 rfl ?_
      refine g_icmp_ge f_J1_indexOfChar_4cfef_10 rfl (by omega) (by omega) (fun hc2 => ?_) (fun hc2 => ?_)
      · refine g_const f_J1_indexOfChar_4cfef_31 ?_
        refine g_reti f_J1_indexOfChar_4cfef_32 rfl ?_ (Nat.zero_le _) (Nat.zero_le _)
        exact ⟨hp, rfl, rfl⟩
      · exact absurd (by omega) hc2
    | succ k ih =>
      intro n hk hp
      have hn : n < (sL i).length := by omega
      have hbn := hb n (by omega)
      refine g_ild f_J1_indexOfChar_4cfef_7 rfl ?_
      refine g_ild f_J1_indexOfChar_4cfef_9 rfl ?_
      refine g_icmp_ge f_J1_indexOfChar_4cfef_10 rfl (by omega) (by omega) (fun hc2 => ?_) (fun hc2 => ?_)
      · exact absurd hc2 (by omega)
      refine g_ald f_J1_indexOfChar_4cfef_13 rfl ?_
      refine g_ild f_J1_indexOfChar_4cfef_14 rfl ?_
      refine g_sald hz (by exact hi) f_J1_indexOfChar_4cfef_16 hn (by show (sL i).length ≤ 1000; omega) ?_
      rw [show (sc i).2.2.2 = sL i from rfl]
      refine g_ild f_J1_indexOfChar_4cfef_17 rfl ?_
      refine g_icmp_ne f_J1_indexOfChar_4cfef_19 rfl (by omega) (by omega) (fun he => ?_) (fun he => ?_)
      · refine g_inc_5 f_J1_indexOfChar_4cfef_25 (by decide) c1i ?_
        refine g_goto f_J1_indexOfChar_4cfef_28 ?_
        exact ih (n + 1) (by omega) (by rw [← hp, posF, if_neg (by omega)])
      · refine g_ild f_J1_indexOfChar_4cfef_22 rfl ?_
        refine g_reti f_J1_indexOfChar_4cfef_24 rfl ?_ (Nat.zero_le _) (Nat.zero_le _)
        exact ⟨by rw [← hp, posF, if_pos (by omega)], rfl, rfl⟩
  refine g_ild f_J1_indexOfChar_4cfef_0 rfl ?_
  refine g_i2b f_J1_indexOfChar_4cfef_1 ?_
  rw [i2b_n hc]
  refine g_ist_4 f_J1_indexOfChar_4cfef_2 (by decide) c1i ?_
  refine g_ild f_J1_indexOfChar_4cfef_4 rfl ?_
  refine g_ist_5 f_J1_indexOfChar_4cfef_5 (by decide) c1i ?_
  exact loop (sL i).length 0 (by omega) rfl

set_option maxHeartbeats 4000000 in
set_option maxRecDepth 100000 in
theorem c_idxL {Ω : Ow} {S : Sg} {M : Mm} {i : Nat} (hi : i < 9) {c : Nat} (hc : c < 128) : Ct Ω mJ1_indexOf_4cfef 2 0 0 1 [.ref (ka Ω (20 + i)), vi (c : Int), vi 0, vi ((sL i).length : Int)] S M (fun x S' M' => x = posN i c ∧ S' = S ∧ M' = M) := by
  refine Ct.mk (by decide) (Nat.le_of_ble_eq_true rfl) [some (.ref (ka Ω (20 + i))), some (vi (c : Int)), some (vi 0), some (vi ((sL i).length : Int))] (by intro q hq; exact hq) (fun γ hγ hz => ?_)
  have hz : (cS γ).heap.size ≤ bs Ω + S.1 := by omega
  obtain ⟨hl, hb⟩ := sL_ok i hi
  have hpos : 0 < (sL i).length := sL_pos i hi
  refine g_ild f_J1_indexOf_4cfef_0 rfl ?_
  refine g_cs1 hγ (c_canEnc hc) f_J1_indexOf_4cfef_1 mo_J1_canEncode_9a6ad mt_J1_canEncode_9a6ad rfl (Nat.le_of_ble_eq_true rfl) ⟨by decide, by decide⟩ ⟨Nat.le_refl _, Nat.le_refl _⟩ (fun x S' M' hq2 => ?_)
  obtain ⟨rfl, q1, q2⟩ := hq2
  obtain rfl := q1.symm
  obtain rfl := q2.symm
  refine g_if_ne f_J1_indexOf_4cfef_4 rfl (by omega) (fun h0 => ?_) (fun h0 => ?_)
  · refine g_ild f_J1_indexOf_4cfef_9 rfl ?_
    refine g_const f_J1_indexOf_4cfef_10 ?_
    refine g_mx hγ (by decide) ⟨Nat.le_refl _, Nat.le_refl _⟩ f_J1_indexOf_4cfef_11 (by omega) (by omega) (Nat.le_of_ble_eq_true rfl) ?_
    rw [show max (0 : Int) 0 = 0 by decide]
    refine g_ist_2 f_J1_indexOf_4cfef_14 (by decide) c1i ?_
    refine g_ild f_J1_indexOf_4cfef_15 rfl ?_
    refine g_ald f_J1_indexOf_4cfef_16 rfl ?_
    refine g_slen hz (by exact hi) f_J1_indexOf_4cfef_17 ?_
    rw [show (sc i).2.2.2 = sL i from rfl]
    refine g_mn hγ (by decide) ⟨Nat.le_refl _, Nat.le_refl _⟩ f_J1_indexOf_4cfef_18 (by omega) (by omega) (Nat.le_of_ble_eq_true rfl) ?_
    rw [Int.min_self]
    refine g_ist_3 f_J1_indexOf_4cfef_21 (by decide) c1i ?_
    refine g_ild f_J1_indexOf_4cfef_22 rfl ?_
    refine g_ild f_J1_indexOf_4cfef_23 rfl ?_
    refine g_icmp_lt f_J1_indexOf_4cfef_24 rfl (by omega) (by omega) (fun h1 => ?_) (fun h1 => ?_)
    · refine g_ald f_J1_indexOf_4cfef_29 rfl ?_
      refine g_ild f_J1_indexOf_4cfef_30 rfl ?_
      refine g_ild f_J1_indexOf_4cfef_31 rfl ?_
      refine g_ild f_J1_indexOf_4cfef_32 rfl ?_
      refine g_cs1 hγ (c_idxChar hi hc) f_J1_indexOf_4cfef_33 mo_J1_indexOfChar_4cfef mt_J1_indexOfChar_4cfef rfl (Nat.le_of_ble_eq_true rfl) ⟨by decide, by decide⟩ ⟨Nat.le_refl _, Nat.le_refl _⟩ (fun x S' M' hq2 => ?_)
      obtain ⟨rfl, q1, q2⟩ := hq2
      obtain rfl := q1.symm
      obtain rfl := q2.symm
      refine g_reti f_J1_indexOf_4cfef_36 rfl ?_ (Nat.zero_le _) (Nat.zero_le _)
      exact ⟨rfl, rfl, rfl⟩
    · exact absurd (by omega) h1
  · exact absurd (by omega) h0

set_option maxHeartbeats 4000000 in
set_option maxRecDepth 100000 in
theorem c_idx2 {Ω : Ow} {S : Sg} {M : Mm} {i : Nat} (hi : i < 9) {c : Nat} (hc : c < 128) : Ct Ω mJ0_indexOf_7cf53 3 0 0 1 [.ref (ka Ω (1 + i)), vi (c : Int), vi 0] S M (fun x S' M' => x = posN i c ∧ S' = S ∧ M' = M) := by
  refine Ct.mk (by decide) (Nat.le_of_ble_eq_true rfl) [some (.ref (ka Ω (1 + i))), some (vi (c : Int)), some (vi 0)] (by intro q hq; exact hq) (fun γ hγ hz => ?_)
  have hz : (cS γ).heap.size ≤ bs Ω + S.1 := by omega
  obtain ⟨hl, hb⟩ := sL_ok i hi
  refine g_ald f_J0_indexOf_7cf53_0 rfl ?_
  refine g_ct1 hγ hi (c_latin hi) f_J0_indexOf_7cf53_1 mo_J0_isLatin1_aae02 mv_J0_isLatin1_aae02 rfl rfl (Nat.le_of_ble_eq_true rfl) ⟨by decide, by decide⟩ ⟨Nat.le_refl _, Nat.le_refl _⟩ (fun x S' M' hq2 => ?_)
  obtain ⟨rfl, q1, q2⟩ := hq2
  obtain rfl := q1.symm
  obtain rfl := q2.symm
  refine g_if_eq f_J0_indexOf_7cf53_4 rfl (by omega) (fun h0 => ?_) (fun h0 => ?_)
  · exact absurd h0 (by omega)
  refine g_ald f_J0_indexOf_7cf53_7 rfl ?_
  refine g_sval hz (by exact hi) f_J0_indexOf_7cf53_8 ?_
  refine g_ild f_J0_indexOf_7cf53_11 rfl ?_
  refine g_ild f_J0_indexOf_7cf53_12 rfl ?_
  refine g_ald f_J0_indexOf_7cf53_13 rfl ?_
  refine g_ct1 hγ hi (c_slen hi) f_J0_indexOf_7cf53_14 mo_J0_length_8abf5 mv_J0_length_8abf5 rfl rfl (Nat.le_of_ble_eq_true rfl) ⟨by decide, by decide⟩ ⟨Nat.le_refl _, Nat.le_refl _⟩ (fun x S' M' hq2 => ?_)
  obtain ⟨rfl, q1, q2⟩ := hq2
  obtain rfl := q1.symm
  obtain rfl := q2.symm
  refine g_cs1 hγ (c_idxL hi hc) f_J0_indexOf_7cf53_17 mo_J1_indexOf_4cfef mt_J1_indexOf_4cfef rfl (Nat.le_of_ble_eq_true rfl) ⟨by decide, by decide⟩ ⟨Nat.le_refl _, Nat.le_refl _⟩ (fun x S' M' hq2 => ?_)
  obtain ⟨rfl, q1, q2⟩ := hq2
  obtain rfl := q1.symm
  obtain rfl := q2.symm
  refine g_goto f_J0_indexOf_7cf53_20 ?_
  refine g_reti f_J0_indexOf_7cf53_36 rfl ?_ (Nat.zero_le _) (Nat.zero_le _)
  exact ⟨rfl, rfl, rfl⟩

set_option maxHeartbeats 4000000 in
set_option maxRecDepth 100000 in
theorem c_idx {Ω : Ow} {S : Sg} {M : Mm} {i : Nat} (hi : i < 9) {c : Nat} (hc : c < 128) : Ct Ω mJ0_indexOf_0f7a4 4 0 0 1 [.ref (ka Ω (1 + i)), vi (c : Int)] S M (fun x S' M' => x = posN i c ∧ S' = S ∧ M' = M) := by
  refine Ct.mk (by decide) (Nat.le_of_ble_eq_true rfl) [some (.ref (ka Ω (1 + i))), some (vi (c : Int))] (by intro q hq; exact hq) (fun γ hγ hz => ?_)
  have hz : (cS γ).heap.size ≤ bs Ω + S.1 := by omega
  obtain ⟨hl, hb⟩ := sL_ok i hi
  refine g_ald f_J0_indexOf_0f7a4_0 rfl ?_
  refine g_ild f_J0_indexOf_0f7a4_1 rfl ?_
  refine g_const f_J0_indexOf_0f7a4_2 ?_
  refine g_ct1 hγ hi (c_idx2 hi hc) f_J0_indexOf_0f7a4_3 mo_J0_indexOf_7cf53 mv_J0_indexOf_7cf53 rfl rfl (Nat.le_of_ble_eq_true rfl) ⟨by decide, by decide⟩ ⟨Nat.le_refl _, Nat.le_refl _⟩ (fun x S' M' hq2 => ?_)
  obtain ⟨rfl, q1, q2⟩ := hq2
  obtain rfl := q1.symm
  obtain rfl := q2.symm
  refine g_reti f_J0_indexOf_0f7a4_6 rfl ?_ (Nat.zero_le _) (Nat.zero_le _)
  exact ⟨rfl, rfl, rfl⟩

set_option maxHeartbeats 4000000 in
set_option maxRecDepth 100000 in
theorem c_chkN {Ω : Ow} {S : Sg} {M : Mm} {a n : Nat} (h : a < n) (hn : n ≤ 1000) : Ct Ω mJ3_checkIndex_8e157 1 0 0 1 [vi (a : Int), vi (n : Int), .null] S M (fun x S' M' => x = (a : Int) ∧ S' = S ∧ M' = M) := by
  refine Ct.mk (by decide) (Nat.le_of_ble_eq_true rfl) [some (vi (a : Int)), some (vi (n : Int)), some (.null)] (by intro q hq; exact hq) (fun γ hγ hz => ?_)
  refine g_ild f_J3_checkIndex_8e157_0 rfl ?_
  refine g_if_lt f_J3_checkIndex_8e157_1 rfl (by omega) (fun h0 => ?_) (fun h0 => ?_)
  · exact absurd h0 (by omega)
  refine g_ild f_J3_checkIndex_8e157_4 rfl ?_
  refine g_ild f_J3_checkIndex_8e157_5 rfl ?_
  refine g_icmp_lt f_J3_checkIndex_8e157_6 rfl (by omega) (by omega) (fun h1 => ?_) (fun h1 => ?_)
  · refine g_ild f_J3_checkIndex_8e157_16 rfl ?_
    refine g_reti f_J3_checkIndex_8e157_17 rfl ?_ (Nat.zero_le _) (Nat.zero_le _)
    exact ⟨rfl, rfl, rfl⟩
  · exact absurd (by omega) h1

set_option maxHeartbeats 4000000 in
set_option maxRecDepth 100000 in
theorem c_chkR {Ω : Ow} {S : Sg} {M : Mm} {a n : Nat} {y : Nat} (h : a < n) (hn : n ≤ 1000) : Ct Ω mJ3_checkIndex_8e157 1 0 0 1 [vi (a : Int), vi (n : Int), .ref y] S M (fun x S' M' => x = (a : Int) ∧ S' = S ∧ M' = M) := by
  refine Ct.mk (by decide) (Nat.le_of_ble_eq_true rfl) [some (vi (a : Int)), some (vi (n : Int)), some (.ref y)] (by intro q hq; exact hq) (fun γ hγ hz => ?_)
  refine g_ild f_J3_checkIndex_8e157_0 rfl ?_
  refine g_if_lt f_J3_checkIndex_8e157_1 rfl (by omega) (fun h0 => ?_) (fun h0 => ?_)
  · exact absurd h0 (by omega)
  refine g_ild f_J3_checkIndex_8e157_4 rfl ?_
  refine g_ild f_J3_checkIndex_8e157_5 rfl ?_
  refine g_icmp_lt f_J3_checkIndex_8e157_6 rfl (by omega) (by omega) (fun h1 => ?_) (fun h1 => ?_)
  · refine g_ild f_J3_checkIndex_8e157_16 rfl ?_
    refine g_reti f_J3_checkIndex_8e157_17 rfl ?_ (Nat.zero_le _) (Nat.zero_le _)
    exact ⟨rfl, rfl, rfl⟩
  · exact absurd (by omega) h1

set_option maxHeartbeats 4000000 in
set_option maxRecDepth 100000 in
theorem c_chk {Ω : Ow} {S : Sg} {M : Mm} {a n : Nat} (h : a < n) (hn : n ≤ 1000) : Ct Ω mJ0_checkIndex_df160 2 0 0 0 [vi (a : Int), vi (n : Int)] S M (fun _ S' M' => S' = S ∧ M' = M) := by
  refine Ct.mk (by decide) (Nat.le_of_ble_eq_true rfl) [some (vi (a : Int)), some (vi (n : Int))] (by intro q hq; exact hq) (fun γ hγ hz => ?_)
  have hz : (cS γ).heap.size ≤ bs Ω + S.1 := by omega
  refine g_ild f_J0_checkIndex_df160_0 rfl ?_
  refine g_ild f_J0_checkIndex_df160_1 rfl ?_
  refine g_siob hz f_J0_checkIndex_df160_2 (fun vf hvf => ?_)
  rcases hvf with rfl | ⟨y, rfl⟩
  · refine g_cs1 hγ (c_chkN h hn) f_J0_checkIndex_df160_5 mo_J3_checkIndex_8e157 mt_J3_checkIndex_8e157 rfl (Nat.le_of_ble_eq_true rfl) ⟨by decide, by decide⟩ ⟨Nat.le_refl _, Nat.le_refl _⟩ (fun x S' M' hq2 => ?_)
    obtain ⟨rfl, q1, q2⟩ := hq2
    obtain rfl := q1.symm
    obtain rfl := q2.symm
    refine g_pop f_J0_checkIndex_df160_8 rfl ?_
    refine g_ret0 (κ := 0) f_J0_checkIndex_df160_9 rfl 0 ?_ (Nat.zero_le _) (Nat.zero_le _)
    exact ⟨rfl, rfl⟩
  · refine g_cs1 hγ (c_chkR h hn) f_J0_checkIndex_df160_5 mo_J3_checkIndex_8e157 mt_J3_checkIndex_8e157 rfl (Nat.le_of_ble_eq_true rfl) ⟨by decide, by decide⟩ ⟨Nat.le_refl _, Nat.le_refl _⟩ (fun x S' M' hq2 => ?_)
    obtain ⟨rfl, q1, q2⟩ := hq2
    obtain rfl := q1.symm
    obtain rfl := q2.symm
    refine g_pop f_J0_checkIndex_df160_8 rfl ?_
    refine g_ret0 (κ := 0) f_J0_checkIndex_df160_9 rfl 0 ?_ (Nat.zero_le _) (Nat.zero_le _)
    exact ⟨rfl, rfl⟩

set_option maxHeartbeats 4000000 in
set_option maxRecDepth 100000 in
theorem c_chL {Ω : Ow} {S : Sg} {M : Mm} {i : Nat} (hi : i < 9) {j : Nat} (hj : j < (sL i).length) : Ct Ω mJ1_charAt_3b067 3 0 0 1 [.ref (ka Ω (20 + i)), vi (j : Int)] S M (fun x S' M' => x = (sL i).getD j 0 ∧ S' = S ∧ M' = M) := by
  refine Ct.mk (by decide) (Nat.le_of_ble_eq_true rfl) [some (.ref (ka Ω (20 + i))), some (vi (j : Int))] (by intro q hq; exact hq) (fun γ hγ hz => ?_)
  have hz : (cS γ).heap.size ≤ bs Ω + S.1 := by omega
  obtain ⟨hl, hb⟩ := sL_ok i hi
  refine g_ild f_J1_charAt_3b067_0 rfl ?_
  refine g_ald f_J1_charAt_3b067_1 rfl ?_
  refine g_slen hz (by exact hi) f_J1_charAt_3b067_2 ?_
  rw [show (sc i).2.2.2 = sL i from rfl]
  refine g_cs0 hγ (c_chk hj (by omega)) f_J1_charAt_3b067_3 mo_J0_checkIndex_df160 mt_J0_checkIndex_df160 rfl (Nat.le_of_ble_eq_true rfl) ⟨by decide, by decide⟩ ⟨Nat.le_refl _, Nat.le_refl _⟩ (fun x S' M' hq2 => ?_)
  obtain ⟨q1, q2⟩ := hq2
  obtain rfl := q1.symm
  obtain rfl := q2.symm
  refine g_ald f_J1_charAt_3b067_6 rfl ?_
  refine g_ild f_J1_charAt_3b067_7 rfl ?_
  refine g_sald hz (by exact hi) f_J1_charAt_3b067_8 hj (by show (sL i).length ≤ 1000; omega) ?_
  rw [show (sc i).2.2.2 = sL i from rfl]
  obtain ⟨c, hc⟩ := Int.eq_ofNat_of_zero_le (hb j (by omega)).1
  have hc2 := (hb j (by omega)).2
  rw [hc]
  refine g_const f_J1_charAt_3b067_9 ?_
  refine g_iand f_J1_charAt_3b067_12 ?_
  rw [show (255 : Int) = ((255 : Nat) : Int) from rfl, band_n (by omega), show c &&& 255 = c from and255 (by omega)]
  refine g_i2c f_J1_charAt_3b067_13 ?_
  rw [i2c_n (by omega)]
  refine g_retn f_J1_charAt_3b067_14 rfl (nar_char (by omega)) ?_ (Nat.zero_le _) (Nat.zero_le _)
  exact ⟨rfl, rfl, rfl⟩

set_option maxHeartbeats 4000000 in
set_option maxRecDepth 100000 in
theorem c_charAt {Ω : Ow} {S : Sg} {M : Mm} {i : Nat} (hi : i < 9) {j : Nat} (hj : j < (sL i).length) : Ct Ω mJ0_charAt_5068e 4 0 0 1 [.ref (ka Ω (1 + i)), vi (j : Int)] S M (fun x S' M' => x = (sL i).getD j 0 ∧ S' = S ∧ M' = M) := by
  refine Ct.mk (by decide) (Nat.le_of_ble_eq_true rfl) [some (.ref (ka Ω (1 + i))), some (vi (j : Int))] (by intro q hq; exact hq) (fun γ hγ hz => ?_)
  have hz : (cS γ).heap.size ≤ bs Ω + S.1 := by omega
  obtain ⟨hl, hb⟩ := sL_ok i hi
  refine g_ald f_J0_charAt_5068e_0 rfl ?_
  refine g_ct1 hγ hi (c_latin hi) f_J0_charAt_5068e_1 mo_J0_isLatin1_aae02 mv_J0_isLatin1_aae02 rfl rfl (Nat.le_of_ble_eq_true rfl) ⟨by decide, by decide⟩ ⟨Nat.le_refl _, Nat.le_refl _⟩ (fun x S' M' hq2 => ?_)
  obtain ⟨rfl, q1, q2⟩ := hq2
  obtain rfl := q1.symm
  obtain rfl := q2.symm
  refine g_if_eq f_J0_charAt_5068e_4 rfl (by omega) (fun h0 => ?_) (fun h0 => ?_)
  · exact absurd h0 (by omega)
  refine g_ald f_J0_charAt_5068e_7 rfl ?_
  refine g_sval hz (by exact hi) f_J0_charAt_5068e_8 ?_
  refine g_ild f_J0_charAt_5068e_11 rfl ?_
  refine g_cs1 hγ (c_chL hi hj) f_J0_charAt_5068e_12 mo_J1_charAt_3b067 mt_J1_charAt_3b067 rfl (Nat.le_of_ble_eq_true rfl) ⟨by decide, by decide⟩ ⟨Nat.le_refl _, Nat.le_refl _⟩ (fun x S' M' hq2 => ?_)
  obtain ⟨rfl, q1, q2⟩ := hq2
  obtain rfl := q1.symm
  obtain rfl := q2.symm
  refine g_retn f_J0_charAt_5068e_15 rfl (by obtain ⟨c, hc⟩ := Int.eq_ofNat_of_zero_le (hb j (by omega)).1; have hc2 := (hb j (by omega)).2; rw [hc]; exact nar_char (by omega)) ?_ (Nat.zero_le _) (Nat.zero_le _)
  exact ⟨rfl, rfl, rfl⟩
