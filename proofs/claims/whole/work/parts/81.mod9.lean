/-! contracts: the model's acts -/
set_option maxHeartbeats 4000000 in
set_option maxRecDepth 100000 in
theorem c_mran {Ω : Ow} {S : Sg} {M : Mm} (hG : Gr S) {t : List Nat} (hR : trM M t) (hl : t.length < 20) (b : Nat) : Ct Ω mX10_ran 1 0 0 0 [vr Ω 87, vi (b : Int)] S M (fun _ S' M' => S' = S ∧ trM M' (t ++ [b]) ∧ tfm M M') := by
  refine Ct.mk (by decide) (Nat.le_of_ble_eq_true rfl) [some (vr Ω 87), some (vi (b : Int))] (by intro q hq; exact hq) (fun γ hγ hz => ?_)
  have o87 := om87 hG
  have gM36 : _ = ((109 : Nat) : Int) := grn hG (k := 87) (j := 36) (by decide)
  have aM109 := arn hG (r := 109) (c := 12) (n := 20) (by decide +kernel)
  refine g_alv f_X10_ran_0 rfl ?_
  refine g_getI f_X10_ran_1 (by assumption) ?_
  rw [hR.1]
  refine g_const f_X10_ran_4 ?_
  refine g_icmp_ge f_X10_ran_6 rfl (by omega) (by omega) (fun hc => ?_) (fun hc => ?_)
  · exact absurd hc (by omega)
  refine g_alv f_X10_ran_9 rfl ?_
  refine g_getR f_X10_ran_10 (by assumption) (by assumption) ?_
  refine g_alv f_X10_ran_13 rfl ?_
  refine g_getI f_X10_ran_14 (by assumption) ?_
  rw [hR.1]
  refine g_ild f_X10_ran_17 rfl ?_
  refine g_ias f_X10_ran_18 (by assumption) t.length (by omega) (by omega) ?_
  refine g_alv f_X10_ran_19 rfl ?_
  refine g_dup f_X10_ran_20 rfl ?_
  refine g_getI f_X10_ran_21 (by assumption) ?_
  rw [up_row (by decide), hR.1]
  refine g_const f_X10_ran_24 ?_
  refine g_iadd f_X10_ran_25 ?_
  refine g_putI f_X10_ran_26 rfl (by assumption) ?_
  refine g_ret0 (κ := 0) f_X10_ran_29 rfl 0 ?_ (Nat.zero_le _) (Nat.zero_le _)
  exact ⟨rfl, trM_add hR hl b, fun k x y => by rw [up_row x, up_row y], fun j x => by rw [up_n (by omega), up_row (by decide)]⟩

set_option maxHeartbeats 4000000 in
set_option maxRecDepth 100000 in
theorem c_mlk0 {Ω : Ow} {S : Sg} {M : Mm} (hG : Gr S) {p v K : Nat} (hp : p < 6) (hv : M 89 p = (v : Int)) (hK : M 88 p = (K : Int)) {t : List Nat} (hR : trM M t) (y : Int) (hl : t.length + 1 ≤ 20) {D : Nat} (hD : 2 ≤ D) : Ct Ω mX10_looks D 0 0 1 [vr Ω 87, vi (p : Int), vi 0, vi y] S M (fun x S' M' => x = lkV p v 0 y ∧ S' = S ∧ trM M' (t ++ lkT 0) ∧ tfm M M') := by
  refine Ct.mk (by decide) (Nat.le_of_ble_eq_true rfl) [some (vr Ω 87), some (vi (p : Int)), some (vi 0), some (vi y)] (by intro q hq; exact hq) (fun γ hγ hz => ?_)
  have o87 := om87 hG
  have gM2 : _ = ((89 : Nat) : Int) := grn hG (k := 87) (j := 2) (by decide)
  have aM89 := arn hG (r := 89) (c := 12) (n := 6) (by decide +kernel)
  refine g_ild f_X10_looks_0 rfl ?_
  refine g_tabV f_X10_looks_1 (by decide) (tgt := 96) (by decide) (by decide) ?_
  refine g_alv f_X10_looks_96 rfl ?_
  refine g_const f_X10_looks_97 ?_
  refine g_cv0 hγ (c_mran hG hR (by omega) 10) f_X10_looks_99 mo_X10_ran mv_X10_ran (by assumption) rfl rfl (Nat.le_of_ble_eq_true rfl) ⟨by omega, by decide⟩ ⟨Nat.le_refl _, Nat.le_refl _⟩ (fun x S' M1 hq1 => ?_)
  obtain ⟨q1, hR1, hf1⟩ := hq1
  obtain rfl := q1.symm
  have hv1 : M1 89 p = (v : Int) := by rw [hf1.1 89 (by decide) (by decide)]; exact hv
  have hK1 : M1 88 p = (K : Int) := by rw [hf1.1 88 (by decide) (by decide)]; exact hK
  refine g_ild f_X10_looks_102 rfl ?_
  refine g_ild f_X10_looks_103 rfl ?_
  refine g_iadd f_X10_looks_104 ?_
  refine g_reti f_X10_looks_105 rfl ?_ (Nat.zero_le _) (Nat.zero_le _)
  exact ⟨(lkE0 p v y).symm, rfl, by rw [lkT0]; exact hR1, hf1⟩

set_option maxHeartbeats 4000000 in
set_option maxRecDepth 100000 in
theorem c_mlk1 {Ω : Ow} {S : Sg} {M : Mm} (hG : Gr S) {p v K : Nat} (hp : p < 6) (hv : M 89 p = (v : Int)) (hK : M 88 p = (K : Int)) {t : List Nat} (hR : trM M t) (y : Int) (hl : t.length + 1 ≤ 20) {D : Nat} (hD : 3 ≤ D) : Ct Ω mX10_looks D 0 0 1 [vr Ω 87, vi (p : Int), vi 1, vi y] S M (fun x S' M' => x = lkV p v 1 y ∧ S' = S ∧ trM M' (t ++ lkT 1) ∧ tfm M M') := by
  refine Ct.mk (by decide) (Nat.le_of_ble_eq_true rfl) [some (vr Ω 87), some (vi (p : Int)), some (vi 1), some (vi y)] (by intro q hq; exact hq) (fun γ hγ hz => ?_)
  have o87 := om87 hG
  have gM2 : _ = ((89 : Nat) : Int) := grn hG (k := 87) (j := 2) (by decide)
  have aM89 := arn hG (r := 89) (c := 12) (n := 6) (by decide +kernel)
  refine g_ild f_X10_looks_0 rfl ?_
  refine g_tabV f_X10_looks_1 (by decide) (tgt := 106) (by decide) (by decide) ?_
  refine g_alv f_X10_looks_106 rfl ?_
  refine g_ild f_X10_looks_107 rfl ?_
  refine g_ild f_X10_looks_108 rfl ?_
  refine g_cs1 hγ (c_mabove (u := 1) (by decide)) f_X10_looks_109 mo_X10_above mt_X10_above rfl (Nat.le_of_ble_eq_true rfl) ⟨by omega, by decide⟩ ⟨Nat.le_refl _, Nat.le_refl _⟩ (fun x S' M3 hq3 => ?_)
  obtain ⟨rfl, q1, q2⟩ := hq3
  obtain rfl := q1.symm
  obtain rfl := q2.symm
  refine g_ild f_X10_looks_112 rfl ?_
  refine g_cv1 hγ (c_mlk0 hG hp hv hK hR (y) (by omega) (D := 2) (by decide)) f_X10_looks_113 mo_X10_looks mv_X10_looks (by assumption) rfl rfl (Nat.le_of_ble_eq_true rfl) ⟨by omega, by decide⟩ ⟨Nat.le_refl _, Nat.le_refl _⟩ (fun x S' M2 hq2 => ?_)
  obtain ⟨rfl, q1, hR2, hf2⟩ := hq2
  obtain rfl := q1.symm
  refine g_reti f_X10_looks_116 rfl ?_ (Nat.zero_le _) (Nat.zero_le _)
  refine ⟨(lkE1 p v y).symm, rfl, ?_, hf2⟩
  rw [lkT1]
  exact hR2

set_option maxHeartbeats 4000000 in
set_option maxRecDepth 100000 in
theorem c_mlk3 {Ω : Ow} {S : Sg} {M : Mm} (hG : Gr S) {p v K : Nat} (hp : p < 6) (hv : M 89 p = (v : Int)) (hK : M 88 p = (K : Int)) {t : List Nat} (hR : trM M t) (y : Int) (hl : t.length + 1 ≤ 20) {D : Nat} (hD : 3 ≤ D) : Ct Ω mX10_looks D 0 0 1 [vr Ω 87, vi (p : Int), vi 3, vi y] S M (fun x S' M' => x = lkV p v 3 y ∧ S' = S ∧ trM M' (t ++ lkT 3) ∧ tfm M M') := by
  refine Ct.mk (by decide) (Nat.le_of_ble_eq_true rfl) [some (vr Ω 87), some (vi (p : Int)), some (vi 3), some (vi y)] (by intro q hq; exact hq) (fun γ hγ hz => ?_)
  have o87 := om87 hG
  have gM2 : _ = ((89 : Nat) : Int) := grn hG (k := 87) (j := 2) (by decide)
  have aM89 := arn hG (r := 89) (c := 12) (n := 6) (by decide +kernel)
  refine g_ild f_X10_looks_0 rfl ?_
  refine g_tabV f_X10_looks_1 (by decide) (tgt := 106) (by decide) (by decide) ?_
  refine g_alv f_X10_looks_106 rfl ?_
  refine g_ild f_X10_looks_107 rfl ?_
  refine g_ild f_X10_looks_108 rfl ?_
  refine g_cs1 hγ (c_mabove (u := 3) (by decide)) f_X10_looks_109 mo_X10_above mt_X10_above rfl (Nat.le_of_ble_eq_true rfl) ⟨by omega, by decide⟩ ⟨Nat.le_refl _, Nat.le_refl _⟩ (fun x S' M3 hq3 => ?_)
  obtain ⟨rfl, q1, q2⟩ := hq3
  obtain rfl := q1.symm
  obtain rfl := q2.symm
  refine g_ild f_X10_looks_112 rfl ?_
  refine g_cv1 hγ (c_mlk0 hG hp hv hK hR (y) (by omega) (D := 2) (by decide)) f_X10_looks_113 mo_X10_looks mv_X10_looks (by assumption) rfl rfl (Nat.le_of_ble_eq_true rfl) ⟨by omega, by decide⟩ ⟨Nat.le_refl _, Nat.le_refl _⟩ (fun x S' M2 hq2 => ?_)
  obtain ⟨rfl, q1, hR2, hf2⟩ := hq2
  obtain rfl := q1.symm
  refine g_reti f_X10_looks_116 rfl ?_ (Nat.zero_le _) (Nat.zero_le _)
  refine ⟨(lkE3 p v y).symm, rfl, ?_, hf2⟩
  rw [lkT3]
  exact hR2

set_option maxHeartbeats 4000000 in
set_option maxRecDepth 100000 in
theorem c_mlk2 {Ω : Ow} {S : Sg} {M : Mm} (hG : Gr S) {p v K : Nat} (hp : p < 6) (hv : M 89 p = (v : Int)) (hK : M 88 p = (K : Int)) {t : List Nat} (hR : trM M t) (y : Int) (hl : t.length + 2 ≤ 20) {D : Nat} (hD : 3 ≤ D) : Ct Ω mX10_looks D 0 0 1 [vr Ω 87, vi (p : Int), vi 2, vi y] S M (fun x S' M' => x = lkV p v 2 y ∧ S' = S ∧ trM M' (t ++ lkT 2) ∧ tfm M M') := by
  refine Ct.mk (by decide) (Nat.le_of_ble_eq_true rfl) [some (vr Ω 87), some (vi (p : Int)), some (vi 2), some (vi y)] (by intro q hq; exact hq) (fun γ hγ hz => ?_)
  have o87 := om87 hG
  have gM2 : _ = ((89 : Nat) : Int) := grn hG (k := 87) (j := 2) (by decide)
  have aM89 := arn hG (r := 89) (c := 12) (n := 6) (by decide +kernel)
  refine g_ild f_X10_looks_0 rfl ?_
  refine g_tabV f_X10_looks_1 (by decide) (tgt := 44) (by decide) (by decide) ?_
  refine g_alv f_X10_looks_44 rfl ?_
  refine g_const f_X10_looks_45 ?_
  refine g_cv0 hγ (c_mran hG hR (by omega) 30) f_X10_looks_47 mo_X10_ran mv_X10_ran (by assumption) rfl rfl (Nat.le_of_ble_eq_true rfl) ⟨by omega, by decide⟩ ⟨Nat.le_refl _, Nat.le_refl _⟩ (fun x S' M1 hq1 => ?_)
  obtain ⟨q1, hR1, hf1⟩ := hq1
  obtain rfl := q1.symm
  have hv1 : M1 89 p = (v : Int) := by rw [hf1.1 89 (by decide) (by decide)]; exact hv
  have hK1 : M1 88 p = (K : Int) := by rw [hf1.1 88 (by decide) (by decide)]; exact hK
  refine g_alv f_X10_looks_50 rfl ?_
  refine g_ild f_X10_looks_51 rfl ?_
  refine g_const f_X10_looks_52 ?_
  refine g_ild f_X10_looks_53 rfl ?_
  refine g_const f_X10_looks_54 ?_
  refine g_imul f_X10_looks_55 ?_
  refine g_cv1 hγ (c_mlk0 hG hp hv1 hK1 hR1 (y * 3) (by rw [List.length_append]; show _ + 1 + 1 ≤ 20; omega) (D := 2) (by decide)) f_X10_looks_56 mo_X10_looks mv_X10_looks (by assumption) rfl rfl (Nat.le_of_ble_eq_true rfl) ⟨by omega, by decide⟩ ⟨Nat.le_refl _, Nat.le_refl _⟩ (fun x S' M2 hq2 => ?_)
  obtain ⟨rfl, q1, hR2, hf2⟩ := hq2
  obtain rfl := q1.symm
  refine g_reti f_X10_looks_59 rfl ?_ (Nat.zero_le _) (Nat.zero_le _)
  refine ⟨(lkE2 p v y).symm, rfl, ?_, hf1.tr hf2⟩
  rw [lkT2, ← List.append_assoc]
  exact hR2

set_option maxHeartbeats 4000000 in
set_option maxRecDepth 100000 in
theorem c_mlk4 {Ω : Ow} {S : Sg} {M : Mm} (hG : Gr S) {p v K : Nat} (hp : p < 6) (hv : M 89 p = (v : Int)) (hK : M 88 p = (K : Int)) {t : List Nat} (hR : trM M t) (y : Int) (hl : t.length + 2 ≤ 20) {D : Nat} (hD : 4 ≤ D) : Ct Ω mX10_looks D 0 0 1 [vr Ω 87, vi (p : Int), vi 4, vi y] S M (fun x S' M' => x = lkV p v 4 y ∧ S' = S ∧ trM M' (t ++ lkT 4) ∧ tfm M M') := by
  refine Ct.mk (by decide) (Nat.le_of_ble_eq_true rfl) [some (vr Ω 87), some (vi (p : Int)), some (vi 4), some (vi y)] (by intro q hq; exact hq) (fun γ hγ hz => ?_)
  have o87 := om87 hG
  have gM2 : _ = ((89 : Nat) : Int) := grn hG (k := 87) (j := 2) (by decide)
  have aM89 := arn hG (r := 89) (c := 12) (n := 6) (by decide +kernel)
  refine g_ild f_X10_looks_0 rfl ?_
  refine g_tabV f_X10_looks_1 (by decide) (tgt := 60) (by decide) (by decide) ?_
  refine g_alv f_X10_looks_60 rfl ?_
  refine g_const f_X10_looks_61 ?_
  refine g_cv0 hγ (c_mran hG hR (by omega) 50) f_X10_looks_63 mo_X10_ran mv_X10_ran (by assumption) rfl rfl (Nat.le_of_ble_eq_true rfl) ⟨by omega, by decide⟩ ⟨Nat.le_refl _, Nat.le_refl _⟩ (fun x S' M1 hq1 => ?_)
  obtain ⟨q1, hR1, hf1⟩ := hq1
  obtain rfl := q1.symm
  have hv1 : M1 89 p = (v : Int) := by rw [hf1.1 89 (by decide) (by decide)]; exact hv
  have hK1 : M1 88 p = (K : Int) := by rw [hf1.1 88 (by decide) (by decide)]; exact hK
  refine g_alv f_X10_looks_66 rfl ?_
  refine g_ild f_X10_looks_67 rfl ?_
  refine g_const f_X10_looks_68 ?_
  refine g_ild f_X10_looks_69 rfl ?_
  refine g_cv1 hγ (c_mlk1 hG hp hv1 hK1 hR1 (y) (by rw [List.length_append]; show _ + 1 + 1 ≤ 20; omega) (D := 3) (by decide)) f_X10_looks_70 mo_X10_looks mv_X10_looks (by assumption) rfl rfl (Nat.le_of_ble_eq_true rfl) ⟨by omega, by decide⟩ ⟨Nat.le_refl _, Nat.le_refl _⟩ (fun x S' M2 hq2 => ?_)
  obtain ⟨rfl, q1, hR2, hf2⟩ := hq2
  obtain rfl := q1.symm
  refine g_ineg f_X10_looks_73 ?_
  refine g_reti f_X10_looks_74 rfl ?_ (Nat.zero_le _) (Nat.zero_le _)
  refine ⟨(lkE4 p v y).symm, rfl, ?_, hf1.tr hf2⟩
  rw [lkT4, ← List.append_assoc]
  exact hR2

set_option maxHeartbeats 4000000 in
set_option maxRecDepth 100000 in
theorem c_mlk5 {Ω : Ow} {S : Sg} {M : Mm} (hG : Gr S) {p v K : Nat} (hp : p < 6) (hv : M 89 p = (v : Int)) (hK : M 88 p = (K : Int)) {t : List Nat} (hR : trM M t) (y : Int) (hl : t.length + 2 ≤ 20) {D : Nat} (hD : 4 ≤ D) : Ct Ω mX10_looks D 0 0 1 [vr Ω 87, vi (p : Int), vi 5, vi y] S M (fun x S' M' => x = lkV p v 5 y ∧ S' = S ∧ trM M' (t ++ lkT 5) ∧ tfm M M') := by
  refine Ct.mk (by decide) (Nat.le_of_ble_eq_true rfl) [some (vr Ω 87), some (vi (p : Int)), some (vi 5), some (vi y)] (by intro q hq; exact hq) (fun γ hγ hz => ?_)
  have o87 := om87 hG
  have gM2 : _ = ((89 : Nat) : Int) := grn hG (k := 87) (j := 2) (by decide)
  have aM89 := arn hG (r := 89) (c := 12) (n := 6) (by decide +kernel)
  refine g_ild f_X10_looks_0 rfl ?_
  refine g_tabV f_X10_looks_1 (by decide) (tgt := 106) (by decide) (by decide) ?_
  refine g_alv f_X10_looks_106 rfl ?_
  refine g_ild f_X10_looks_107 rfl ?_
  refine g_ild f_X10_looks_108 rfl ?_
  refine g_cs1 hγ (c_mabove (u := 5) (by decide)) f_X10_looks_109 mo_X10_above mt_X10_above rfl (Nat.le_of_ble_eq_true rfl) ⟨by omega, by decide⟩ ⟨Nat.le_refl _, Nat.le_refl _⟩ (fun x S' M3 hq3 => ?_)
  obtain ⟨rfl, q1, q2⟩ := hq3
  obtain rfl := q1.symm
  obtain rfl := q2.symm
  refine g_ild f_X10_looks_112 rfl ?_
  refine g_cv1 hγ (c_mlk2 hG hp hv hK hR (y) (by omega) (D := 3) (by decide)) f_X10_looks_113 mo_X10_looks mv_X10_looks (by assumption) rfl rfl (Nat.le_of_ble_eq_true rfl) ⟨by omega, by decide⟩ ⟨Nat.le_refl _, Nat.le_refl _⟩ (fun x S' M2 hq2 => ?_)
  obtain ⟨rfl, q1, hR2, hf2⟩ := hq2
  obtain rfl := q1.symm
  refine g_reti f_X10_looks_116 rfl ?_ (Nat.zero_le _) (Nat.zero_le _)
  refine ⟨(lkE5 p v y).symm, rfl, ?_, hf2⟩
  rw [lkT5]
  exact hR2

set_option maxHeartbeats 4000000 in
set_option maxRecDepth 100000 in
theorem c_mlk6 {Ω : Ow} {S : Sg} {M : Mm} (hG : Gr S) {p v K : Nat} (hp : p < 6) (hv : M 89 p = (v : Int)) (hK : M 88 p = (K : Int)) {t : List Nat} (hR : trM M t) (y : Int) (hl : t.length + 2 ≤ 20) {D : Nat} (hD : 4 ≤ D) : Ct Ω mX10_looks D 0 0 1 [vr Ω 87, vi (p : Int), vi 6, vi y] S M (fun x S' M' => x = lkV p v 6 y ∧ S' = S ∧ trM M' (t ++ lkT 6) ∧ tfm M M') := by
  refine Ct.mk (by decide) (Nat.le_of_ble_eq_true rfl) [some (vr Ω 87), some (vi (p : Int)), some (vi 6), some (vi y)] (by intro q hq; exact hq) (fun γ hγ hz => ?_)
  have o87 := om87 hG
  have gM2 : _ = ((89 : Nat) : Int) := grn hG (k := 87) (j := 2) (by decide)
  have aM89 := arn hG (r := 89) (c := 12) (n := 6) (by decide +kernel)
  refine g_ild f_X10_looks_0 rfl ?_
  refine g_tabV f_X10_looks_1 (by decide) (tgt := 75) (by decide) (by decide) ?_
  refine g_alv f_X10_looks_75 rfl ?_
  refine g_const f_X10_looks_76 ?_
  refine g_cv0 hγ (c_mran hG hR (by omega) 71) f_X10_looks_78 mo_X10_ran mv_X10_ran (by assumption) rfl rfl (Nat.le_of_ble_eq_true rfl) ⟨by omega, by decide⟩ ⟨Nat.le_refl _, Nat.le_refl _⟩ (fun x S' M1 hq1 => ?_)
  obtain ⟨q1, hR1, hf1⟩ := hq1
  obtain rfl := q1.symm
  have hv1 : M1 89 p = (v : Int) := by rw [hf1.1 89 (by decide) (by decide)]; exact hv
  have hK1 : M1 88 p = (K : Int) := by rw [hf1.1 88 (by decide) (by decide)]; exact hK
  refine g_alv f_X10_looks_81 rfl ?_
  refine g_ild f_X10_looks_82 rfl ?_
  refine g_const f_X10_looks_83 ?_
  refine g_ild f_X10_looks_84 rfl ?_
  refine g_cv1 hγ (c_mlk3 hG hp hv1 hK1 hR1 (y) (by rw [List.length_append]; show _ + 1 + 1 ≤ 20; omega) (D := 3) (by decide)) f_X10_looks_85 mo_X10_looks mv_X10_looks (by assumption) rfl rfl (Nat.le_of_ble_eq_true rfl) ⟨by omega, by decide⟩ ⟨Nat.le_refl _, Nat.le_refl _⟩ (fun x S' M2 hq2 => ?_)
  obtain ⟨rfl, q1, hR2, hf2⟩ := hq2
  obtain rfl := q1.symm
  have hv2 : M2 89 p = (v : Int) := by rw [hf2.1 89 (by decide) (by decide)]; exact hv1
  refine g_alv f_X10_looks_88 rfl ?_
  refine g_getR f_X10_looks_89 (by assumption) (by assumption) ?_
  refine g_ild f_X10_looks_92 rfl ?_
  refine g_ial f_X10_looks_93 (by assumption) p (by omega) (by omega) ?_
  rw [hv2]
  refine g_ixor f_X10_looks_94 ?_
  refine g_reti f_X10_looks_95 rfl ?_ (Nat.zero_le _) (Nat.zero_le _)
  refine ⟨(lkE6 p v y).symm, rfl, ?_, hf1.tr hf2⟩
  rw [lkT6, ← List.append_assoc]
  exact hR2

theorem c_mlooks {Ω : Ow} {S : Sg} {M : Mm} (hG : Gr S) {p v K : Nat} (hp : p < 6) (hv : M 89 p = (v : Int)) (hK : M 88 p = (K : Int)) {t : List Nat} (hR : trM M t) (y : Int) (hK6 : K ≤ 6) (s : Nat) (hs : s ≤ 6) (hl : t.length + 2 ≤ 20) {D : Nat} (hD : 4 ≤ D) : Ct Ω mX10_looks D 0 0 1 [vr Ω 87, vi (p : Int), vi (s : Int), vi y] S M (fun x S' M' => x = lkV p v s y ∧ S' = S ∧ trM M' (t ++ lkT s) ∧ tfm M M') := by
  rcases (show s = 0 ∨ s = 1 ∨ s = 2 ∨ s = 3 ∨ s = 4 ∨ s = 5 ∨ s = 6 by omega) with rfl | rfl | rfl | rfl | rfl | rfl | rfl
  · exact c_mlk0 hG hp hv hK hR y (by omega) (by omega)
  · exact c_mlk1 hG hp hv hK hR y (by omega) (by omega)
  · exact c_mlk2 hG hp hv hK hR y (by omega) (by omega)
  · exact c_mlk3 hG hp hv hK hR y (by omega) (by omega)
  · exact c_mlk4 hG hp hv hK hR y (by omega) (by omega)
  · exact c_mlk5 hG hp hv hK hR y (by omega) (by omega)
  · exact c_mlk6 hG hp hv hK hR y (by omega) (by omega)
set_option maxHeartbeats 4000000 in
set_option maxRecDepth 100000 in
theorem c_msw0 {Ω : Ow} {S : Sg} {M : Mm} (hG : Gr S) {p v K : Nat} (hp : p < 6) (hv : M 89 p = (v : Int)) (hK : M 88 p = (K : Int)) {t : List Nat} (hR : trM M t) (y : Int) (hK6 : K ≤ 6) (hl : t.length + 3 ≤ 20) {D : Nat} (hD : 5 ≤ D) : Ct Ω mX10_swears D 0 0 1 [vr Ω 87, vi (p : Int), vi 0, vi y] S M (fun x S' M' => x = swV p v K 0 y ∧ S' = S ∧ trM M' (t ++ swT K 0) ∧ tfm M M') := by
  refine Ct.mk (by decide) (Nat.le_of_ble_eq_true rfl) [some (vr Ω 87), some (vi (p : Int)), some (vi 0), some (vi y), none] (by intro q hq; exact hq) (fun γ hγ hz => ?_)
  have o87 := om87 hG
  have gM1 : _ = ((88 : Nat) : Int) := grn hG (k := 87) (j := 1) (by decide)
  have aM88 := arn hG (r := 88) (c := 12) (n := 6) (by decide +kernel)
  have gM2 : _ = ((89 : Nat) : Int) := grn hG (k := 87) (j := 2) (by decide)
  have aM89 := arn hG (r := 89) (c := 12) (n := 6) (by decide +kernel)
  have hlk := lkT_len K
  refine g_ild f_X10_swears_0 rfl ?_
  refine g_tabV f_X10_swears_1 (by decide) (tgt := 103) (by decide) (by decide) ?_
  refine g_alv f_X10_swears_103 rfl ?_
  refine g_const f_X10_swears_104 ?_
  refine g_cv0 hγ (c_mran hG hR (by omega) 11) f_X10_swears_106 mo_X10_ran mv_X10_ran (by assumption) rfl rfl (Nat.le_of_ble_eq_true rfl) ⟨by omega, by decide⟩ ⟨Nat.le_refl _, Nat.le_refl _⟩ (fun x S' M1 hq1 => ?_)
  obtain ⟨q1, hR1, hf1⟩ := hq1
  obtain rfl := q1.symm
  have hv1 : M1 89 p = (v : Int) := by rw [hf1.1 89 (by decide) (by decide)]; exact hv
  have hK1 : M1 88 p = (K : Int) := by rw [hf1.1 88 (by decide) (by decide)]; exact hK
  refine g_alv f_X10_swears_109 rfl ?_
  refine g_ild f_X10_swears_110 rfl ?_
  refine g_alv f_X10_swears_111 rfl ?_
  refine g_getR f_X10_swears_112 (by assumption) (by assumption) ?_
  refine g_ild f_X10_swears_115 rfl ?_
  refine g_ial f_X10_swears_116 (by assumption) p (by omega) (by omega) ?_
  rw [hK1]
  refine g_ild f_X10_swears_117 rfl ?_
  refine g_cv1 hγ (c_mlooks hG hp hv1 hK1 hR1 (y) hK6 K hK6 (by rw [List.length_append]; show _ + 1 + 2 ≤ 20; omega) (D := 4) (by decide)) f_X10_swears_118 mo_X10_looks mv_X10_looks (by assumption) rfl rfl (Nat.le_of_ble_eq_true rfl) ⟨by omega, by decide⟩ ⟨Nat.le_refl _, Nat.le_refl _⟩ (fun x S' M2 hq2 => ?_)
  obtain ⟨rfl, q1, hR2, hf2⟩ := hq2
  obtain rfl := q1.symm
  have hv2 : M2 89 p = (v : Int) := by rw [hf2.1 89 (by decide) (by decide)]; exact hv1
  have hK2 : M2 88 p = (K : Int) := by rw [hf2.1 88 (by decide) (by decide)]; exact hK1
  refine g_alv f_X10_swears_121 rfl ?_
  refine g_getR f_X10_swears_122 (by assumption) (by assumption) ?_
  refine g_ild f_X10_swears_125 rfl ?_
  refine g_ial f_X10_swears_126 (by assumption) p (by omega) (by omega) ?_
  rw [hv2]
  refine g_isub f_X10_swears_127 ?_
  refine g_reti f_X10_swears_128 rfl ?_ (Nat.zero_le _) (Nat.zero_le _)
  refine ⟨(swE0 p v K y).symm, rfl, ?_, hf1.tr hf2⟩
  rw [swT0 K, ← List.append_assoc]
  exact hR2

set_option maxHeartbeats 4000000 in
set_option maxRecDepth 100000 in
theorem c_msw2 {Ω : Ow} {S : Sg} {M : Mm} (hG : Gr S) {p v K : Nat} (hp : p < 6) (hv : M 89 p = (v : Int)) (hK : M 88 p = (K : Int)) {t : List Nat} (hR : trM M t) (y : Int) (hK6 : K ≤ 6) (hl : t.length + 3 ≤ 20) {D : Nat} (hD : 6 ≤ D) : Ct Ω mX10_swears D 0 0 1 [vr Ω 87, vi (p : Int), vi 2, vi y] S M (fun x S' M' => x = swV p v K 2 y ∧ S' = S ∧ trM M' (t ++ swT K 2) ∧ tfm M M') := by
  refine Ct.mk (by decide) (Nat.le_of_ble_eq_true rfl) [some (vr Ω 87), some (vi (p : Int)), some (vi 2), some (vi y), none] (by intro q hq; exact hq) (fun γ hγ hz => ?_)
  have o87 := om87 hG
  have gM1 : _ = ((88 : Nat) : Int) := grn hG (k := 87) (j := 1) (by decide)
  have aM88 := arn hG (r := 88) (c := 12) (n := 6) (by decide +kernel)
  have gM2 : _ = ((89 : Nat) : Int) := grn hG (k := 87) (j := 2) (by decide)
  have aM89 := arn hG (r := 89) (c := 12) (n := 6) (by decide +kernel)
  have hlk := lkT_len K
  refine g_ild f_X10_swears_0 rfl ?_
  refine g_tabV f_X10_swears_1 (by decide) (tgt := 129) (by decide) (by decide) ?_
  refine g_alv f_X10_swears_129 rfl ?_
  refine g_ild f_X10_swears_130 rfl ?_
  refine g_ild f_X10_swears_131 rfl ?_
  refine g_cs1 hγ (c_mabove (u := 2) (by decide)) f_X10_swears_132 mo_X10_above mt_X10_above rfl (Nat.le_of_ble_eq_true rfl) ⟨by omega, by decide⟩ ⟨Nat.le_refl _, Nat.le_refl _⟩ (fun x S' M3 hq3 => ?_)
  obtain ⟨rfl, q1, q2⟩ := hq3
  obtain rfl := q1.symm
  obtain rfl := q2.symm
  refine g_ild f_X10_swears_135 rfl ?_
  refine g_cv1 hγ (c_msw0 hG hp hv hK hR (y) hK6 (by omega) (D := 5) (by decide)) f_X10_swears_136 mo_X10_swears mv_X10_swears (by assumption) rfl rfl (Nat.le_of_ble_eq_true rfl) ⟨by omega, by decide⟩ ⟨Nat.le_refl _, Nat.le_refl _⟩ (fun x S' M2 hq2 => ?_)
  obtain ⟨rfl, q1, hR2, hf2⟩ := hq2
  obtain rfl := q1.symm
  refine g_reti f_X10_swears_139 rfl ?_ (Nat.zero_le _) (Nat.zero_le _)
  refine ⟨(swE2 p v K y).symm, rfl, ?_, hf2⟩
  rw [swT2 K]
  exact hR2

set_option maxHeartbeats 4000000 in
set_option maxRecDepth 100000 in
theorem c_msw3 {Ω : Ow} {S : Sg} {M : Mm} (hG : Gr S) {p v K : Nat} (hp : p < 6) (hv : M 89 p = (v : Int)) (hK : M 88 p = (K : Int)) {t : List Nat} (hR : trM M t) (y : Int) (hK6 : K ≤ 6) (hl : t.length + 3 ≤ 20) {D : Nat} (hD : 6 ≤ D) : Ct Ω mX10_swears D 0 0 1 [vr Ω 87, vi (p : Int), vi 3, vi y] S M (fun x S' M' => x = swV p v K 3 y ∧ S' = S ∧ trM M' (t ++ swT K 3) ∧ tfm M M') := by
  refine Ct.mk (by decide) (Nat.le_of_ble_eq_true rfl) [some (vr Ω 87), some (vi (p : Int)), some (vi 3), some (vi y), none] (by intro q hq; exact hq) (fun γ hγ hz => ?_)
  have o87 := om87 hG
  have gM1 : _ = ((88 : Nat) : Int) := grn hG (k := 87) (j := 1) (by decide)
  have aM88 := arn hG (r := 88) (c := 12) (n := 6) (by decide +kernel)
  have gM2 : _ = ((89 : Nat) : Int) := grn hG (k := 87) (j := 2) (by decide)
  have aM89 := arn hG (r := 89) (c := 12) (n := 6) (by decide +kernel)
  have hlk := lkT_len K
  refine g_ild f_X10_swears_0 rfl ?_
  refine g_tabV f_X10_swears_1 (by decide) (tgt := 129) (by decide) (by decide) ?_
  refine g_alv f_X10_swears_129 rfl ?_
  refine g_ild f_X10_swears_130 rfl ?_
  refine g_ild f_X10_swears_131 rfl ?_
  refine g_cs1 hγ (c_mabove (u := 3) (by decide)) f_X10_swears_132 mo_X10_above mt_X10_above rfl (Nat.le_of_ble_eq_true rfl) ⟨by omega, by decide⟩ ⟨Nat.le_refl _, Nat.le_refl _⟩ (fun x S' M3 hq3 => ?_)
  obtain ⟨rfl, q1, q2⟩ := hq3
  obtain rfl := q1.symm
  obtain rfl := q2.symm
  refine g_ild f_X10_swears_135 rfl ?_
  refine g_cv1 hγ (c_msw0 hG hp hv hK hR (y) hK6 (by omega) (D := 5) (by decide)) f_X10_swears_136 mo_X10_swears mv_X10_swears (by assumption) rfl rfl (Nat.le_of_ble_eq_true rfl) ⟨by omega, by decide⟩ ⟨Nat.le_refl _, Nat.le_refl _⟩ (fun x S' M2 hq2 => ?_)
  obtain ⟨rfl, q1, hR2, hf2⟩ := hq2
  obtain rfl := q1.symm
  refine g_reti f_X10_swears_139 rfl ?_ (Nat.zero_le _) (Nat.zero_le _)
  refine ⟨(swE3 p v K y).symm, rfl, ?_, hf2⟩
  rw [swT3 K]
  exact hR2

set_option maxHeartbeats 4000000 in
set_option maxRecDepth 100000 in
theorem c_msw1 {Ω : Ow} {S : Sg} {M : Mm} (hG : Gr S) {p v K : Nat} (hp : p < 6) (hv : M 89 p = (v : Int)) (hK : M 88 p = (K : Int)) {t : List Nat} (hR : trM M t) (y : Int) (hK6 : K ≤ 6) (hl : t.length + 4 ≤ 20) {D : Nat} (hD : 6 ≤ D) : Ct Ω mX10_swears D 0 0 1 [vr Ω 87, vi (p : Int), vi 1, vi y] S M (fun x S' M' => x = swV p v K 1 y ∧ S' = S ∧ trM M' (t ++ swT K 1) ∧ tfm M M') := by
  refine Ct.mk (by decide) (Nat.le_of_ble_eq_true rfl) [some (vr Ω 87), some (vi (p : Int)), some (vi 1), some (vi y), none] (by intro q hq; exact hq) (fun γ hγ hz => ?_)
  have o87 := om87 hG
  have gM1 : _ = ((88 : Nat) : Int) := grn hG (k := 87) (j := 1) (by decide)
  have aM88 := arn hG (r := 88) (c := 12) (n := 6) (by decide +kernel)
  have gM2 : _ = ((89 : Nat) : Int) := grn hG (k := 87) (j := 2) (by decide)
  have aM89 := arn hG (r := 89) (c := 12) (n := 6) (by decide +kernel)
  have hlk := lkT_len K
  refine g_ild f_X10_swears_0 rfl ?_
  refine g_tabV f_X10_swears_1 (by decide) (tgt := 44) (by decide) (by decide) ?_
  refine g_alv f_X10_swears_44 rfl ?_
  refine g_const f_X10_swears_45 ?_
  refine g_cv0 hγ (c_mran hG hR (by omega) 20) f_X10_swears_47 mo_X10_ran mv_X10_ran (by assumption) rfl rfl (Nat.le_of_ble_eq_true rfl) ⟨by omega, by decide⟩ ⟨Nat.le_refl _, Nat.le_refl _⟩ (fun x S' M1 hq1 => ?_)
  obtain ⟨q1, hR1, hf1⟩ := hq1
  obtain rfl := q1.symm
  have hv1 : M1 89 p = (v : Int) := by rw [hf1.1 89 (by decide) (by decide)]; exact hv
  have hK1 : M1 88 p = (K : Int) := by rw [hf1.1 88 (by decide) (by decide)]; exact hK
  refine g_alv f_X10_swears_50 rfl ?_
  refine g_ild f_X10_swears_51 rfl ?_
  refine g_const f_X10_swears_52 ?_
  refine g_ild f_X10_swears_53 rfl ?_
  refine g_cv1 hγ (c_msw0 hG hp hv1 hK1 hR1 (y) hK6 (by rw [List.length_append]; show _ + 1 + 3 ≤ 20; omega) (D := 5) (by decide)) f_X10_swears_54 mo_X10_swears mv_X10_swears (by assumption) rfl rfl (Nat.le_of_ble_eq_true rfl) ⟨by omega, by decide⟩ ⟨Nat.le_refl _, Nat.le_refl _⟩ (fun x S' M2 hq2 => ?_)
  obtain ⟨rfl, q1, hR2, hf2⟩ := hq2
  obtain rfl := q1.symm
  refine g_const f_X10_swears_57 ?_
  refine g_ixor f_X10_swears_59 ?_
  refine g_reti f_X10_swears_60 rfl ?_ (Nat.zero_le _) (Nat.zero_le _)
  refine ⟨(swE1 p v K y).symm, rfl, ?_, hf1.tr hf2⟩
  rw [swT1 K, ← List.append_assoc]
  exact hR2

set_option maxHeartbeats 4000000 in
set_option maxRecDepth 100000 in
theorem c_msw4 {Ω : Ow} {S : Sg} {M : Mm} (hG : Gr S) {p v K : Nat} (hp : p < 6) (hv : M 89 p = (v : Int)) (hK : M 88 p = (K : Int)) {t : List Nat} (hR : trM M t) (y : Int) (hK6 : K ≤ 6) (hl : t.length + 5 ≤ 20) {D : Nat} (hD : 7 ≤ D) : Ct Ω mX10_swears D 0 0 1 [vr Ω 87, vi (p : Int), vi 4, vi y] S M (fun x S' M' => x = swV p v K 4 y ∧ S' = S ∧ trM M' (t ++ swT K 4) ∧ tfm M M') := by
  refine Ct.mk (by decide) (Nat.le_of_ble_eq_true rfl) [some (vr Ω 87), some (vi (p : Int)), some (vi 4), some (vi y), none] (by intro q hq; exact hq) (fun γ hγ hz => ?_)
  have o87 := om87 hG
  have gM1 : _ = ((88 : Nat) : Int) := grn hG (k := 87) (j := 1) (by decide)
  have aM88 := arn hG (r := 88) (c := 12) (n := 6) (by decide +kernel)
  have gM2 : _ = ((89 : Nat) : Int) := grn hG (k := 87) (j := 2) (by decide)
  have aM89 := arn hG (r := 89) (c := 12) (n := 6) (by decide +kernel)
  have hlk := lkT_len K
  refine g_ild f_X10_swears_0 rfl ?_
  refine g_tabV f_X10_swears_1 (by decide) (tgt := 61) (by decide) (by decide) ?_
  refine g_alv f_X10_swears_61 rfl ?_
  refine g_const f_X10_swears_62 ?_
  refine g_cv0 hγ (c_mran hG hR (by omega) 51) f_X10_swears_64 mo_X10_ran mv_X10_ran (by assumption) rfl rfl (Nat.le_of_ble_eq_true rfl) ⟨by omega, by decide⟩ ⟨Nat.le_refl _, Nat.le_refl _⟩ (fun x S' M1 hq1 => ?_)
  obtain ⟨q1, hR1, hf1⟩ := hq1
  obtain rfl := q1.symm
  have hv1 : M1 89 p = (v : Int) := by rw [hf1.1 89 (by decide) (by decide)]; exact hv
  have hK1 : M1 88 p = (K : Int) := by rw [hf1.1 88 (by decide) (by decide)]; exact hK
  refine g_alv f_X10_swears_67 rfl ?_
  refine g_ild f_X10_swears_68 rfl ?_
  refine g_const f_X10_swears_69 ?_
  refine g_ild f_X10_swears_70 rfl ?_
  refine g_const f_X10_swears_71 ?_
  refine g_iadd f_X10_swears_72 ?_
  refine g_cv1 hγ (c_msw1 hG hp hv1 hK1 hR1 (y + 1) hK6 (by rw [List.length_append]; show _ + 1 + 4 ≤ 20; omega) (D := 6) (by decide)) f_X10_swears_73 mo_X10_swears mv_X10_swears (by assumption) rfl rfl (Nat.le_of_ble_eq_true rfl) ⟨by omega, by decide⟩ ⟨Nat.le_refl _, Nat.le_refl _⟩ (fun x S' M2 hq2 => ?_)
  obtain ⟨rfl, q1, hR2, hf2⟩ := hq2
  obtain rfl := q1.symm
  refine g_reti f_X10_swears_76 rfl ?_ (Nat.zero_le _) (Nat.zero_le _)
  refine ⟨(swE4 p v K y).symm, rfl, ?_, hf1.tr hf2⟩
  rw [swT4 K, ← List.append_assoc]
  exact hR2

set_option maxHeartbeats 4000000 in
set_option maxRecDepth 100000 in
theorem c_msw5 {Ω : Ow} {S : Sg} {M : Mm} (hG : Gr S) {p v K : Nat} (hp : p < 6) (hv : M 89 p = (v : Int)) (hK : M 88 p = (K : Int)) {t : List Nat} (hR : trM M t) (y : Int) (hK6 : K ≤ 6) (hl : t.length + 3 ≤ 20) {D : Nat} (hD : 7 ≤ D) : Ct Ω mX10_swears D 0 0 1 [vr Ω 87, vi (p : Int), vi 5, vi y] S M (fun x S' M' => x = swV p v K 5 y ∧ S' = S ∧ trM M' (t ++ swT K 5) ∧ tfm M M') := by
  refine Ct.mk (by decide) (Nat.le_of_ble_eq_true rfl) [some (vr Ω 87), some (vi (p : Int)), some (vi 5), some (vi y), none] (by intro q hq; exact hq) (fun γ hγ hz => ?_)
  have o87 := om87 hG
  have gM1 : _ = ((88 : Nat) : Int) := grn hG (k := 87) (j := 1) (by decide)
  have aM88 := arn hG (r := 88) (c := 12) (n := 6) (by decide +kernel)
  have gM2 : _ = ((89 : Nat) : Int) := grn hG (k := 87) (j := 2) (by decide)
  have aM89 := arn hG (r := 89) (c := 12) (n := 6) (by decide +kernel)
  have hlk := lkT_len K
  refine g_ild f_X10_swears_0 rfl ?_
  refine g_tabV f_X10_swears_1 (by decide) (tgt := 129) (by decide) (by decide) ?_
  refine g_alv f_X10_swears_129 rfl ?_
  refine g_ild f_X10_swears_130 rfl ?_
  refine g_ild f_X10_swears_131 rfl ?_
  refine g_cs1 hγ (c_mabove (u := 5) (by decide)) f_X10_swears_132 mo_X10_above mt_X10_above rfl (Nat.le_of_ble_eq_true rfl) ⟨by omega, by decide⟩ ⟨Nat.le_refl _, Nat.le_refl _⟩ (fun x S' M3 hq3 => ?_)
  obtain ⟨rfl, q1, q2⟩ := hq3
  obtain rfl := q1.symm
  obtain rfl := q2.symm
  refine g_ild f_X10_swears_135 rfl ?_
  refine g_cv1 hγ (c_msw2 hG hp hv hK hR (y) hK6 (by omega) (D := 6) (by decide)) f_X10_swears_136 mo_X10_swears mv_X10_swears (by assumption) rfl rfl (Nat.le_of_ble_eq_true rfl) ⟨by omega, by decide⟩ ⟨Nat.le_refl _, Nat.le_refl _⟩ (fun x S' M2 hq2 => ?_)
  obtain ⟨rfl, q1, hR2, hf2⟩ := hq2
  obtain rfl := q1.symm
  refine g_reti f_X10_swears_139 rfl ?_ (Nat.zero_le _) (Nat.zero_le _)
  refine ⟨(swE5 p v K y).symm, rfl, ?_, hf2⟩
  rw [swT5 K]
  exact hR2

set_option maxHeartbeats 4000000 in
set_option maxRecDepth 100000 in
theorem c_msw6 {Ω : Ow} {S : Sg} {M : Mm} (hG : Gr S) {p v K : Nat} (hp : p < 6) (hv : M 89 p = (v : Int)) (hK : M 88 p = (K : Int)) {t : List Nat} (hR : trM M t) (y : Int) (hK6 : K ≤ 6) (hl : t.length + 5 ≤ 20) {D : Nat} (hD : 7 ≤ D) : Ct Ω mX10_swears D 0 0 1 [vr Ω 87, vi (p : Int), vi 6, vi y] S M (fun x S' M' => x = swV p v K 6 y ∧ S' = S ∧ trM M' (t ++ swT K 6) ∧ tfm M M') := by
  refine Ct.mk (by decide) (Nat.le_of_ble_eq_true rfl) [some (vr Ω 87), some (vi (p : Int)), some (vi 6), some (vi y), none] (by intro q hq; exact hq) (fun γ hγ hz => ?_)
  have o87 := om87 hG
  have gM1 : _ = ((88 : Nat) : Int) := grn hG (k := 87) (j := 1) (by decide)
  have aM88 := arn hG (r := 88) (c := 12) (n := 6) (by decide +kernel)
  have gM2 : _ = ((89 : Nat) : Int) := grn hG (k := 87) (j := 2) (by decide)
  have aM89 := arn hG (r := 89) (c := 12) (n := 6) (by decide +kernel)
  have hlk := lkT_len K
  refine g_ild f_X10_swears_0 rfl ?_
  refine g_tabV f_X10_swears_1 (by decide) (tgt := 77) (by decide) (by decide) ?_
  refine g_alv f_X10_swears_77 rfl ?_
  refine g_const f_X10_swears_78 ?_
  refine g_cv0 hγ (c_mran hG hR (by omega) 70) f_X10_swears_80 mo_X10_ran mv_X10_ran (by assumption) rfl rfl (Nat.le_of_ble_eq_true rfl) ⟨by omega, by decide⟩ ⟨Nat.le_refl _, Nat.le_refl _⟩ (fun x S' M1 hq1 => ?_)
  obtain ⟨q1, hR1, hf1⟩ := hq1
  obtain rfl := q1.symm
  have hv1 : M1 89 p = (v : Int) := by rw [hf1.1 89 (by decide) (by decide)]; exact hv
  have hK1 : M1 88 p = (K : Int) := by rw [hf1.1 88 (by decide) (by decide)]; exact hK
  refine g_alv f_X10_swears_83 rfl ?_
  refine g_ild f_X10_swears_84 rfl ?_
  refine g_const f_X10_swears_85 ?_
  refine g_ild f_X10_swears_86 rfl ?_
  refine g_cv1 hγ (c_msw3 hG hp hv1 hK1 hR1 (y) hK6 (by rw [List.length_append]; show _ + 1 + 3 ≤ 20; omega) (D := 6) (by decide)) f_X10_swears_87 mo_X10_swears mv_X10_swears (by assumption) rfl rfl (Nat.le_of_ble_eq_true rfl) ⟨by omega, by decide⟩ ⟨Nat.le_refl _, Nat.le_refl _⟩ (fun x S' M2 hq2 => ?_)
  obtain ⟨rfl, q1, hR2, hf2⟩ := hq2
  obtain rfl := q1.symm
  have hv2 : M2 89 p = (v : Int) := by rw [hf2.1 89 (by decide) (by decide)]; exact hv1
  have hK2 : M2 88 p = (K : Int) := by rw [hf2.1 88 (by decide) (by decide)]; exact hK1
  have hsl := swT_len K 3
  have hs3 : (swT K 3).length = (lkT K).length + 1 := by rw [swT3, swT0]; simp
  refine g_ist_4 f_X10_swears_90 (by decide) c1i ?_
  refine g_ild f_X10_swears_92 rfl ?_
  refine g_alv f_X10_swears_94 rfl ?_
  refine g_ild f_X10_swears_95 rfl ?_
  refine g_const f_X10_swears_96 ?_
  refine g_const f_X10_swears_97 ?_
  refine g_cv1 hγ (c_mlk3 hG hp hv2 hK2 hR2 2 (by rw [List.length_append, List.length_append]; show t.length + 1 + (swT K 3).length + 1 ≤ 20; omega) (D := 3) (by decide)) f_X10_swears_98 mo_X10_looks mv_X10_looks (by assumption) rfl rfl (Nat.le_of_ble_eq_true rfl) ⟨by omega, by decide⟩ ⟨Nat.le_refl _, Nat.le_refl _⟩ (fun x S' M4 hq4 => ?_)
  obtain ⟨rfl, q1, hR4, hf4⟩ := hq4
  obtain rfl := q1.symm
  refine g_iadd f_X10_swears_101 ?_
  refine g_reti f_X10_swears_102 rfl ?_ (Nat.zero_le _) (Nat.zero_le _)
  refine ⟨(swE6 p v K y).symm, rfl, ?_, (hf1.tr hf2).tr hf4⟩
  rw [swT6 K, ← List.append_assoc, ← List.append_assoc]
  exact hR4

theorem c_mswears {Ω : Ow} {S : Sg} {M : Mm} (hG : Gr S) {p v K : Nat} (hp : p < 6) (hv : M 89 p = (v : Int)) (hK : M 88 p = (K : Int)) {t : List Nat} (hR : trM M t) (y : Int) (hK6 : K ≤ 6) (s : Nat) (hs : s ≤ 6) (hl : t.length + 5 ≤ 20) {D : Nat} (hD : 7 ≤ D) : Ct Ω mX10_swears D 0 0 1 [vr Ω 87, vi (p : Int), vi (s : Int), vi y] S M (fun x S' M' => x = swV p v K s y ∧ S' = S ∧ trM M' (t ++ swT K s) ∧ tfm M M') := by
  rcases (show s = 0 ∨ s = 1 ∨ s = 2 ∨ s = 3 ∨ s = 4 ∨ s = 5 ∨ s = 6 by omega) with rfl | rfl | rfl | rfl | rfl | rfl | rfl
  · exact c_msw0 hG hp hv hK hR y hK6 (by omega) (by omega)
  · exact c_msw1 hG hp hv hK hR y hK6 (by omega) (by omega)
  · exact c_msw2 hG hp hv hK hR y hK6 (by omega) (by omega)
  · exact c_msw3 hG hp hv hK hR y hK6 (by omega) (by omega)
  · exact c_msw4 hG hp hv hK hR y hK6 (by omega) (by omega)
  · exact c_msw5 hG hp hv hK hR y hK6 (by omega) (by omega)
  · exact c_msw6 hG hp hv hK hR y hK6 (by omega) (by omega)
set_option maxHeartbeats 4000000 in
set_option maxRecDepth 100000 in
theorem c_mtl0 {Ω : Ow} {S : Sg} {M : Mm} (hG : Gr S) {p v K : Nat} (hp : p < 6) (hv : M 89 p = (v : Int)) (hK : M 88 p = (K : Int)) {t : List Nat} (hR : trM M t) (y : Int) (hK6 : K ≤ 6) (hl : t.length + 6 ≤ 20) {D : Nat} (hD : 8 ≤ D) : Ct Ω mX10_tells D 0 0 1 [vr Ω 87, vi (p : Int), vi 0, vi y] S M (fun x S' M' => x = tlV p v K 0 y ∧ S' = S ∧ trM M' (t ++ tlT K 0) ∧ tfm M M') := by
  refine Ct.mk (by decide) (Nat.le_of_ble_eq_true rfl) [some (vr Ω 87), some (vi (p : Int)), some (vi 0), some (vi y), none] (by intro q hq; exact hq) (fun γ hγ hz => ?_)
  have o87 := om87 hG
  have gM1 : _ = ((88 : Nat) : Int) := grn hG (k := 87) (j := 1) (by decide)
  have aM88 := arn hG (r := 88) (c := 12) (n := 6) (by decide +kernel)
  have hsl := swT_len K K
  refine g_ild f_X10_tells_0 rfl ?_
  refine g_lkV f_X10_tells_1 (by decide) (tgt := 83) (by decide) (by decide) ?_
  refine g_alv f_X10_tells_83 rfl ?_
  refine g_const f_X10_tells_84 ?_
  refine g_cv0 hγ (c_mran hG hR (by omega) 12) f_X10_tells_86 mo_X10_ran mv_X10_ran (by assumption) rfl rfl (Nat.le_of_ble_eq_true rfl) ⟨by omega, by decide⟩ ⟨Nat.le_refl _, Nat.le_refl _⟩ (fun x S' M1 hq1 => ?_)
  obtain ⟨q1, hR1, hf1⟩ := hq1
  obtain rfl := q1.symm
  have hv1 : M1 89 p = (v : Int) := by rw [hf1.1 89 (by decide) (by decide)]; exact hv
  have hK1 : M1 88 p = (K : Int) := by rw [hf1.1 88 (by decide) (by decide)]; exact hK
  refine g_alv f_X10_tells_89 rfl ?_
  refine g_ild f_X10_tells_90 rfl ?_
  refine g_alv f_X10_tells_91 rfl ?_
  refine g_getR f_X10_tells_92 (by assumption) (by assumption) ?_
  refine g_ild f_X10_tells_95 rfl ?_
  refine g_ial f_X10_tells_96 (by assumption) p (by omega) (by omega) ?_
  rw [hK1]
  refine g_ild f_X10_tells_97 rfl ?_
  refine g_cv1 hγ (c_mswears hG hp hv1 hK1 hR1 (y) hK6 K hK6 (by rw [List.length_append]; show _ + 1 + 5 ≤ 20; omega) (D := 7) (by decide)) f_X10_tells_98 mo_X10_swears mv_X10_swears (by assumption) rfl rfl (Nat.le_of_ble_eq_true rfl) ⟨by omega, by decide⟩ ⟨Nat.le_refl _, Nat.le_refl _⟩ (fun x S' M2 hq2 => ?_)
  obtain ⟨rfl, q1, hR2, hf2⟩ := hq2
  obtain rfl := q1.symm
  refine g_const f_X10_tells_101 ?_
  refine g_imul f_X10_tells_102 ?_
  refine g_reti f_X10_tells_103 rfl ?_ (Nat.zero_le _) (Nat.zero_le _)
  refine ⟨(tlE0 p v K y).symm, rfl, ?_, hf1.tr hf2⟩
  rw [tlT0 K, ← List.append_assoc]
  exact hR2

set_option maxHeartbeats 4000000 in
set_option maxRecDepth 100000 in
theorem c_mtl1 {Ω : Ow} {S : Sg} {M : Mm} (hG : Gr S) {p v K : Nat} (hp : p < 6) (hv : M 89 p = (v : Int)) (hK : M 88 p = (K : Int)) {t : List Nat} (hR : trM M t) (y : Int) (hK6 : K ≤ 6) (hl : t.length + 6 ≤ 20) {D : Nat} (hD : 9 ≤ D) : Ct Ω mX10_tells D 0 0 1 [vr Ω 87, vi (p : Int), vi 1, vi y] S M (fun x S' M' => x = tlV p v K 1 y ∧ S' = S ∧ trM M' (t ++ tlT K 1) ∧ tfm M M') := by
  refine Ct.mk (by decide) (Nat.le_of_ble_eq_true rfl) [some (vr Ω 87), some (vi (p : Int)), some (vi 1), some (vi y), none] (by intro q hq; exact hq) (fun γ hγ hz => ?_)
  have o87 := om87 hG
  have gM1 : _ = ((88 : Nat) : Int) := grn hG (k := 87) (j := 1) (by decide)
  have aM88 := arn hG (r := 88) (c := 12) (n := 6) (by decide +kernel)
  have hsl := swT_len K K
  refine g_ild f_X10_tells_0 rfl ?_
  refine g_lkD f_X10_tells_1 (by decide) (by decide) ?_
  refine g_alv f_X10_tells_104 rfl ?_
  refine g_ild f_X10_tells_105 rfl ?_
  refine g_ild f_X10_tells_106 rfl ?_
  refine g_cs1 hγ (c_mabove (u := 1) (by decide)) f_X10_tells_107 mo_X10_above mt_X10_above rfl (Nat.le_of_ble_eq_true rfl) ⟨by omega, by decide⟩ ⟨Nat.le_refl _, Nat.le_refl _⟩ (fun x S' M3 hq3 => ?_)
  obtain ⟨rfl, q1, q2⟩ := hq3
  obtain rfl := q1.symm
  obtain rfl := q2.symm
  refine g_ild f_X10_tells_110 rfl ?_
  refine g_cv1 hγ (c_mtl0 hG hp hv hK hR (y) hK6 (by omega) (D := 8) (by decide)) f_X10_tells_111 mo_X10_tells mv_X10_tells (by assumption) rfl rfl (Nat.le_of_ble_eq_true rfl) ⟨by omega, by decide⟩ ⟨Nat.le_refl _, Nat.le_refl _⟩ (fun x S' M2 hq2 => ?_)
  obtain ⟨rfl, q1, hR2, hf2⟩ := hq2
  obtain rfl := q1.symm
  refine g_reti f_X10_tells_114 rfl ?_ (Nat.zero_le _) (Nat.zero_le _)
  refine ⟨(tlE1 p v K y).symm, rfl, ?_, hf2⟩
  rw [tlT1 K]
  exact hR2

set_option maxHeartbeats 4000000 in
set_option maxRecDepth 100000 in
theorem c_mtl2 {Ω : Ow} {S : Sg} {M : Mm} (hG : Gr S) {p v K : Nat} (hp : p < 6) (hv : M 89 p = (v : Int)) (hK : M 88 p = (K : Int)) {t : List Nat} (hR : trM M t) (y : Int) (hK6 : K ≤ 6) (hl : t.length + 6 ≤ 20) {D : Nat} (hD : 9 ≤ D) : Ct Ω mX10_tells D 0 0 1 [vr Ω 87, vi (p : Int), vi 2, vi y] S M (fun x S' M' => x = tlV p v K 2 y ∧ S' = S ∧ trM M' (t ++ tlT K 2) ∧ tfm M M') := by
  refine Ct.mk (by decide) (Nat.le_of_ble_eq_true rfl) [some (vr Ω 87), some (vi (p : Int)), some (vi 2), some (vi y), none] (by intro q hq; exact hq) (fun γ hγ hz => ?_)
  have o87 := om87 hG
  have gM1 : _ = ((88 : Nat) : Int) := grn hG (k := 87) (j := 1) (by decide)
  have aM88 := arn hG (r := 88) (c := 12) (n := 6) (by decide +kernel)
  have hsl := swT_len K K
  refine g_ild f_X10_tells_0 rfl ?_
  refine g_lkD f_X10_tells_1 (by decide) (by decide) ?_
  refine g_alv f_X10_tells_104 rfl ?_
  refine g_ild f_X10_tells_105 rfl ?_
  refine g_ild f_X10_tells_106 rfl ?_
  refine g_cs1 hγ (c_mabove (u := 2) (by decide)) f_X10_tells_107 mo_X10_above mt_X10_above rfl (Nat.le_of_ble_eq_true rfl) ⟨by omega, by decide⟩ ⟨Nat.le_refl _, Nat.le_refl _⟩ (fun x S' M3 hq3 => ?_)
  obtain ⟨rfl, q1, q2⟩ := hq3
  obtain rfl := q1.symm
  obtain rfl := q2.symm
  refine g_ild f_X10_tells_110 rfl ?_
  refine g_cv1 hγ (c_mtl0 hG hp hv hK hR (y) hK6 (by omega) (D := 8) (by decide)) f_X10_tells_111 mo_X10_tells mv_X10_tells (by assumption) rfl rfl (Nat.le_of_ble_eq_true rfl) ⟨by omega, by decide⟩ ⟨Nat.le_refl _, Nat.le_refl _⟩ (fun x S' M2 hq2 => ?_)
  obtain ⟨rfl, q1, hR2, hf2⟩ := hq2
  obtain rfl := q1.symm
  refine g_reti f_X10_tells_114 rfl ?_ (Nat.zero_le _) (Nat.zero_le _)
  refine ⟨(tlE2 p v K y).symm, rfl, ?_, hf2⟩
  rw [tlT2 K]
  exact hR2

set_option maxHeartbeats 4000000 in
set_option maxRecDepth 100000 in
theorem c_mtl3 {Ω : Ow} {S : Sg} {M : Mm} (hG : Gr S) {p v K : Nat} (hp : p < 6) (hv : M 89 p = (v : Int)) (hK : M 88 p = (K : Int)) {t : List Nat} (hR : trM M t) (y : Int) (hK6 : K ≤ 6) (hl : t.length + 12 ≤ 20) {D : Nat} (hD : 9 ≤ D) : Ct Ω mX10_tells D 0 0 1 [vr Ω 87, vi (p : Int), vi 3, vi y] S M (fun x S' M' => x = tlV p v K 3 y ∧ S' = S ∧ trM M' (t ++ tlT K 3) ∧ tfm M M') := by
  refine Ct.mk (by decide) (Nat.le_of_ble_eq_true rfl) [some (vr Ω 87), some (vi (p : Int)), some (vi 3), some (vi y), none] (by intro q hq; exact hq) (fun γ hγ hz => ?_)
  have o87 := om87 hG
  have gM1 : _ = ((88 : Nat) : Int) := grn hG (k := 87) (j := 1) (by decide)
  have aM88 := arn hG (r := 88) (c := 12) (n := 6) (by decide +kernel)
  have hsl := swT_len K K
  refine g_ild f_X10_tells_0 rfl ?_
  refine g_lkV f_X10_tells_1 (by decide) (tgt := 36) (by decide) (by decide) ?_
  refine g_alv f_X10_tells_36 rfl ?_
  refine g_const f_X10_tells_37 ?_
  refine g_cv0 hγ (c_mran hG hR (by omega) 40) f_X10_tells_39 mo_X10_ran mv_X10_ran (by assumption) rfl rfl (Nat.le_of_ble_eq_true rfl) ⟨by omega, by decide⟩ ⟨Nat.le_refl _, Nat.le_refl _⟩ (fun x S' M1 hq1 => ?_)
  obtain ⟨q1, hR1, hf1⟩ := hq1
  obtain rfl := q1.symm
  have hv1 : M1 89 p = (v : Int) := by rw [hf1.1 89 (by decide) (by decide)]; exact hv
  have hK1 : M1 88 p = (K : Int) := by rw [hf1.1 88 (by decide) (by decide)]; exact hK
  refine g_alv f_X10_tells_42 rfl ?_
  refine g_ild f_X10_tells_43 rfl ?_
  refine g_const f_X10_tells_44 ?_
  refine g_ild f_X10_tells_45 rfl ?_
  refine g_cv1 hγ (c_mtl0 hG hp hv1 hK1 hR1 (y) hK6 (by rw [List.length_append]; show _ + 1 + 6 ≤ 20; omega) (D := 8) (by decide)) f_X10_tells_46 mo_X10_tells mv_X10_tells (by assumption) rfl rfl (Nat.le_of_ble_eq_true rfl) ⟨by omega, by decide⟩ ⟨Nat.le_refl _, Nat.le_refl _⟩ (fun x S' M2 hq2 => ?_)
  obtain ⟨rfl, q1, hR2, hf2⟩ := hq2
  obtain rfl := q1.symm
  have hv2 : M2 89 p = (v : Int) := by rw [hf2.1 89 (by decide) (by decide)]; exact hv1
  have hK2 : M2 88 p = (K : Int) := by rw [hf2.1 88 (by decide) (by decide)]; exact hK1
  have ht0 : (tlT K 0).length = (swT K K).length + 1 := by rw [tlT0]; simp
  refine g_ist_4 f_X10_tells_49 (by decide) c1i ?_
  refine g_ild f_X10_tells_51 rfl ?_
  refine g_alv f_X10_tells_53 rfl ?_
  refine g_ild f_X10_tells_54 rfl ?_
  refine g_alv f_X10_tells_55 rfl ?_
  refine g_getR f_X10_tells_56 (by assumption) (by assumption) ?_
  refine g_ild f_X10_tells_59 rfl ?_
  refine g_ial f_X10_tells_60 (by assumption) p (by omega) (by omega) ?_
  rw [hK2]
  refine g_const f_X10_tells_61 ?_
  refine g_cv1 hγ (c_mswears hG hp hv2 hK2 hR2 1 hK6 K hK6 (by rw [List.length_append, List.length_append]; show t.length + 1 + (tlT K 0).length + 5 ≤ 20; omega) (D := 7) (by decide)) f_X10_tells_62 mo_X10_swears mv_X10_swears (by assumption) rfl rfl (Nat.le_of_ble_eq_true rfl) ⟨by omega, by decide⟩ ⟨Nat.le_refl _, Nat.le_refl _⟩ (fun x S' M4 hq4 => ?_)
  obtain ⟨rfl, q1, hR4, hf4⟩ := hq4
  obtain rfl := q1.symm
  refine g_iadd f_X10_tells_65 ?_
  refine g_reti f_X10_tells_66 rfl ?_ (Nat.zero_le _) (Nat.zero_le _)
  refine ⟨(tlE3 p v K y).symm, rfl, ?_, (hf1.tr hf2).tr hf4⟩
  rw [tlT3 K, ← List.append_assoc, ← List.append_assoc]
  exact hR4

set_option maxHeartbeats 4000000 in
set_option maxRecDepth 100000 in
theorem c_mtl4 {Ω : Ow} {S : Sg} {M : Mm} (hG : Gr S) {p v K : Nat} (hp : p < 6) (hv : M 89 p = (v : Int)) (hK : M 88 p = (K : Int)) {t : List Nat} (hR : trM M t) (y : Int) (hK6 : K ≤ 6) (hl : t.length + 6 ≤ 20) {D : Nat} (hD : 10 ≤ D) : Ct Ω mX10_tells D 0 0 1 [vr Ω 87, vi (p : Int), vi 4, vi y] S M (fun x S' M' => x = tlV p v K 4 y ∧ S' = S ∧ trM M' (t ++ tlT K 4) ∧ tfm M M') := by
  refine Ct.mk (by decide) (Nat.le_of_ble_eq_true rfl) [some (vr Ω 87), some (vi (p : Int)), some (vi 4), some (vi y), none] (by intro q hq; exact hq) (fun γ hγ hz => ?_)
  have o87 := om87 hG
  have gM1 : _ = ((88 : Nat) : Int) := grn hG (k := 87) (j := 1) (by decide)
  have aM88 := arn hG (r := 88) (c := 12) (n := 6) (by decide +kernel)
  have hsl := swT_len K K
  refine g_ild f_X10_tells_0 rfl ?_
  refine g_lkD f_X10_tells_1 (by decide) (by decide) ?_
  refine g_alv f_X10_tells_104 rfl ?_
  refine g_ild f_X10_tells_105 rfl ?_
  refine g_ild f_X10_tells_106 rfl ?_
  refine g_cs1 hγ (c_mabove (u := 4) (by decide)) f_X10_tells_107 mo_X10_above mt_X10_above rfl (Nat.le_of_ble_eq_true rfl) ⟨by omega, by decide⟩ ⟨Nat.le_refl _, Nat.le_refl _⟩ (fun x S' M3 hq3 => ?_)
  obtain ⟨rfl, q1, q2⟩ := hq3
  obtain rfl := q1.symm
  obtain rfl := q2.symm
  refine g_ild f_X10_tells_110 rfl ?_
  refine g_cv1 hγ (c_mtl1 hG hp hv hK hR (y) hK6 (by omega) (D := 9) (by decide)) f_X10_tells_111 mo_X10_tells mv_X10_tells (by assumption) rfl rfl (Nat.le_of_ble_eq_true rfl) ⟨by omega, by decide⟩ ⟨Nat.le_refl _, Nat.le_refl _⟩ (fun x S' M2 hq2 => ?_)
  obtain ⟨rfl, q1, hR2, hf2⟩ := hq2
  obtain rfl := q1.symm
  refine g_reti f_X10_tells_114 rfl ?_ (Nat.zero_le _) (Nat.zero_le _)
  refine ⟨(tlE4 p v K y).symm, rfl, ?_, hf2⟩
  rw [tlT4 K]
  exact hR2

set_option maxHeartbeats 4000000 in
set_option maxRecDepth 100000 in
theorem c_mtl5 {Ω : Ow} {S : Sg} {M : Mm} (hG : Gr S) {p v K : Nat} (hp : p < 6) (hv : M 89 p = (v : Int)) (hK : M 88 p = (K : Int)) {t : List Nat} (hR : trM M t) (y : Int) (hK6 : K ≤ 6) (hl : t.length + 7 ≤ 20) {D : Nat} (hD : 10 ≤ D) : Ct Ω mX10_tells D 0 0 1 [vr Ω 87, vi (p : Int), vi 5, vi y] S M (fun x S' M' => x = tlV p v K 5 y ∧ S' = S ∧ trM M' (t ++ tlT K 5) ∧ tfm M M') := by
  refine Ct.mk (by decide) (Nat.le_of_ble_eq_true rfl) [some (vr Ω 87), some (vi (p : Int)), some (vi 5), some (vi y), none] (by intro q hq; exact hq) (fun γ hγ hz => ?_)
  have o87 := om87 hG
  have gM1 : _ = ((88 : Nat) : Int) := grn hG (k := 87) (j := 1) (by decide)
  have aM88 := arn hG (r := 88) (c := 12) (n := 6) (by decide +kernel)
  have hsl := swT_len K K
  refine g_ild f_X10_tells_0 rfl ?_
  refine g_lkV f_X10_tells_1 (by decide) (tgt := 67) (by decide) (by decide) ?_
  refine g_alv f_X10_tells_67 rfl ?_
  refine g_const f_X10_tells_68 ?_
  refine g_cv0 hγ (c_mran hG hR (by omega) 60) f_X10_tells_70 mo_X10_ran mv_X10_ran (by assumption) rfl rfl (Nat.le_of_ble_eq_true rfl) ⟨by omega, by decide⟩ ⟨Nat.le_refl _, Nat.le_refl _⟩ (fun x S' M1 hq1 => ?_)
  obtain ⟨q1, hR1, hf1⟩ := hq1
  obtain rfl := q1.symm
  have hv1 : M1 89 p = (v : Int) := by rw [hf1.1 89 (by decide) (by decide)]; exact hv
  have hK1 : M1 88 p = (K : Int) := by rw [hf1.1 88 (by decide) (by decide)]; exact hK
  refine g_alv f_X10_tells_73 rfl ?_
  refine g_ild f_X10_tells_74 rfl ?_
  refine g_const f_X10_tells_75 ?_
  refine g_ild f_X10_tells_76 rfl ?_
  refine g_ild f_X10_tells_77 rfl ?_
  refine g_isub f_X10_tells_78 ?_
  refine g_cv1 hγ (c_mtl2 hG hp hv1 hK1 hR1 (y - (p : Int)) hK6 (by rw [List.length_append]; show _ + 1 + 6 ≤ 20; omega) (D := 9) (by decide)) f_X10_tells_79 mo_X10_tells mv_X10_tells (by assumption) rfl rfl (Nat.le_of_ble_eq_true rfl) ⟨by omega, by decide⟩ ⟨Nat.le_refl _, Nat.le_refl _⟩ (fun x S' M2 hq2 => ?_)
  obtain ⟨rfl, q1, hR2, hf2⟩ := hq2
  obtain rfl := q1.symm
  refine g_reti f_X10_tells_82 rfl ?_ (Nat.zero_le _) (Nat.zero_le _)
  refine ⟨(tlE5 p v K y).symm, rfl, ?_, hf1.tr hf2⟩
  rw [tlT5 K, ← List.append_assoc]
  exact hR2

set_option maxHeartbeats 4000000 in
set_option maxRecDepth 100000 in
theorem c_mtl6 {Ω : Ow} {S : Sg} {M : Mm} (hG : Gr S) {p v K : Nat} (hp : p < 6) (hv : M 89 p = (v : Int)) (hK : M 88 p = (K : Int)) {t : List Nat} (hR : trM M t) (y : Int) (hK6 : K ≤ 6) (hl : t.length + 12 ≤ 20) {D : Nat} (hD : 10 ≤ D) : Ct Ω mX10_tells D 0 0 1 [vr Ω 87, vi (p : Int), vi 6, vi y] S M (fun x S' M' => x = tlV p v K 6 y ∧ S' = S ∧ trM M' (t ++ tlT K 6) ∧ tfm M M') := by
  refine Ct.mk (by decide) (Nat.le_of_ble_eq_true rfl) [some (vr Ω 87), some (vi (p : Int)), some (vi 6), some (vi y), none] (by intro q hq; exact hq) (fun γ hγ hz => ?_)
  have o87 := om87 hG
  have gM1 : _ = ((88 : Nat) : Int) := grn hG (k := 87) (j := 1) (by decide)
  have aM88 := arn hG (r := 88) (c := 12) (n := 6) (by decide +kernel)
  have hsl := swT_len K K
  refine g_ild f_X10_tells_0 rfl ?_
  refine g_lkD f_X10_tells_1 (by decide) (by decide) ?_
  refine g_alv f_X10_tells_104 rfl ?_
  refine g_ild f_X10_tells_105 rfl ?_
  refine g_ild f_X10_tells_106 rfl ?_
  refine g_cs1 hγ (c_mabove (u := 6) (by decide)) f_X10_tells_107 mo_X10_above mt_X10_above rfl (Nat.le_of_ble_eq_true rfl) ⟨by omega, by decide⟩ ⟨Nat.le_refl _, Nat.le_refl _⟩ (fun x S' M3 hq3 => ?_)
  obtain ⟨rfl, q1, q2⟩ := hq3
  obtain rfl := q1.symm
  obtain rfl := q2.symm
  refine g_ild f_X10_tells_110 rfl ?_
  refine g_cv1 hγ (c_mtl3 hG hp hv hK hR (y) hK6 (by omega) (D := 9) (by decide)) f_X10_tells_111 mo_X10_tells mv_X10_tells (by assumption) rfl rfl (Nat.le_of_ble_eq_true rfl) ⟨by omega, by decide⟩ ⟨Nat.le_refl _, Nat.le_refl _⟩ (fun x S' M2 hq2 => ?_)
  obtain ⟨rfl, q1, hR2, hf2⟩ := hq2
  obtain rfl := q1.symm
  refine g_reti f_X10_tells_114 rfl ?_ (Nat.zero_le _) (Nat.zero_le _)
  refine ⟨(tlE6 p v K y).symm, rfl, ?_, hf2⟩
  rw [tlT6 K]
  exact hR2

theorem c_mtells {Ω : Ow} {S : Sg} {M : Mm} (hG : Gr S) {p v K : Nat} (hp : p < 6) (hv : M 89 p = (v : Int)) (hK : M 88 p = (K : Int)) {t : List Nat} (hR : trM M t) (y : Int) (hK6 : K ≤ 6) (s : Nat) (hs : s ≤ 6) (hl : t.length + 12 ≤ 20) {D : Nat} (hD : 10 ≤ D) : Ct Ω mX10_tells D 0 0 1 [vr Ω 87, vi (p : Int), vi (s : Int), vi y] S M (fun x S' M' => x = tlV p v K s y ∧ S' = S ∧ trM M' (t ++ tlT K s) ∧ tfm M M') := by
  rcases (show s = 0 ∨ s = 1 ∨ s = 2 ∨ s = 3 ∨ s = 4 ∨ s = 5 ∨ s = 6 by omega) with rfl | rfl | rfl | rfl | rfl | rfl | rfl
  · exact c_mtl0 hG hp hv hK hR y hK6 (by omega) (by omega)
  · exact c_mtl1 hG hp hv hK hR y hK6 (by omega) (by omega)
  · exact c_mtl2 hG hp hv hK hR y hK6 (by omega) (by omega)
  · exact c_mtl3 hG hp hv hK hR y hK6 (by omega) (by omega)
  · exact c_mtl4 hG hp hv hK hR y hK6 (by omega) (by omega)
  · exact c_mtl5 hG hp hv hK hR y hK6 (by omega) (by omega)
  · exact c_mtl6 hG hp hv hK hR y hK6 (by omega) (by omega)
set_option maxHeartbeats 4000000 in
set_option maxRecDepth 100000 in
theorem m_act {Ω : Ow} {S : Sg} {M : Mm} {s : Wt} (hG : Gr S) (hW : RepM M s) (hO0 : okW s) (p a y : Int) (hp : rg p) (ha0 : rg a) : Ct Ω mX10_act 11 0 0 1 [vr Ω 87, vi p, vi a, vi y] S M (fun x S' M' => x = (a_act s p a y).1 ∧ S' = S ∧ RepM M' (a_act s p a y).2 ∧ mdl M M') := by
  refine Ct.mk (by decide) (Nat.le_of_ble_eq_true rfl) [some (vr Ω 87), some (vi p), some (vi a), some (vi y), none] (by intro q hq; exact hq) (fun γ hγ hz => ?_)
  have hX := hW.mx hO0
  have hO : okZ (wz s) := hO0.1.1
  have hD : zd (wz s) ≤ 9999 := hO0.1.2.1
  obtain ⟨x1, x2, x3, x4, x5⟩ := id hX
  obtain ⟨z1, z2, z3, z4, z5⟩ := id hO
  obtain ⟨lw, d1, d2, d3, d4, d5, d6, d7, d8⟩ := hW.dr hO0
  obtain ⟨lz, l5, l10, l8⟩ := hO0.1.len
  have sS : okSeen (wn s).2.1 := hO0.1.2.2.1
  have sP : okPlan (zc (wz s)) (wn s).2.2.1 := hO0.1.2.2.2.1
  have sB : okBook (wn s).2.2.2 := hO0.1.2.2.2.2.1
  have o87 := om87 hG
  have gM1 : _ = ((88 : Nat) : Int) := grn hG (k := 87) (j := 1) (by decide)
  have aM88 := arn hG (r := 88) (c := 12) (n := 6) (by decide +kernel)
  refine g_alv f_X10_act_0 rfl ?_
  refine g_const f_X10_act_1 ?_
  refine g_putI f_X10_act_2 rfl (by assumption) ?_
  have hR0 : trM (up M 87 35 0) [] := ⟨up_s _ _ _ _, Nat.zero_le _, fun i hi => absurd hi (Nat.not_lt_zero _)⟩
  have hX0 : MX (up M 87 35 0) (wz s) := ⟨by rw [up_n (by omega)]; exact x1, by rw [up_n (by omega)]; exact x2, by rw [up_n (by omega)]; exact x3, fun p hp => by have := x4 p hp; unfold MP at this ⊢; rw [up_row (by decide), up_row (by decide), up_row (by decide), up_row (by decide), up_row (by decide), up_row (by decide)]; exact this, x5.cong (up_n (by omega)) (fun k _ _ => up_row (by omega))⟩
  refine g_alv f_X10_act_5 rfl ?_
  refine g_ild f_X10_act_6 rfl ?_
  refine g_cv1 hγ (c_misOne hG hX0 hO p (by omega)) f_X10_act_7 mo_X10_isOne mv_X10_isOne (by assumption) rfl rfl (Nat.le_of_ble_eq_true rfl) ⟨by decide, by decide⟩ ⟨Nat.le_refl _, Nat.le_refl _⟩ (fun x S' M' hq9 => ?_)
  obtain ⟨hx, q1, q2⟩ := hq9
  obtain rfl := q1.symm
  obtain rfl := q2.symm
  by_cases hip : 0 ≤ p ∧ p < (zc (wz s) : Int)
  · rw [if_pos hip] at hx
    subst hx
    obtain ⟨p2, rfl⟩ := Int.eq_ofNat_of_zero_le hip.1
    have hp2 : p2 < zc (wz s) := by omega
    have hp6 : p2 < 6 := by omega
    obtain ⟨r0, r1, r2, r3, r4, r5⟩ := id (x4 p2 hp2)
    obtain ⟨b1, b2, b3, b4, b5, b6⟩ := id (z4 p2 hp2)
    refine g_if_eq f_X10_act_10 rfl (by omega) (fun hx => ?_) (fun hx => ?_)
    · exact absurd hx (by omega)
    refine g_ild f_X10_act_13 rfl ?_
    refine g_const f_X10_act_14 ?_
    refine g_const f_X10_act_15 ?_
    refine g_cs1 hγ (c_mwithin a 0 2 (by omega) (by omega) (by omega)) f_X10_act_16 mo_X10_within mt_X10_within rfl (Nat.le_of_ble_eq_true rfl) ⟨by decide, by decide⟩ ⟨Nat.le_refl _, Nat.le_refl _⟩ (fun x S' M' hq9 => ?_)
    obtain ⟨hx, q1, q2⟩ := hq9
    obtain rfl := q1.symm
    obtain rfl := q2.symm
    by_cases ha : 0 ≤ a ∧ a ≤ 2
    · rw [if_pos ha] at hx
      subst hx
      refine g_if_ne f_X10_act_19 rfl (by omega) (fun hx => ?_) (fun hx => ?_)
      · obtain ⟨m, rfl⟩ := Int.eq_ofNat_of_zero_le ha.1
        refine g_alv f_X10_act_24 rfl ?_
        refine g_getR f_X10_act_25 (by assumption) (by assumption) ?_
        refine g_ild f_X10_act_28 rfl ?_
        refine g_ial f_X10_act_29 (by assumption) _ rfl (by omega) ?_
        rw [up_row (by decide), r0]
        refine g_ist_4 f_X10_act_30 (by decide) c1i ?_
        refine g_ild f_X10_act_32 rfl ?_
        refine g_if_ne f_X10_act_33 rfl (by omega) (fun h0 => ?_) (fun h0 => ?_)
        · refine g_ild f_X10_act_47 rfl ?_
          refine g_const f_X10_act_48 ?_
          refine g_icmp_ne f_X10_act_49 rfl (by omega) (by omega) (fun h1 => ?_) (fun h1 => ?_)
          · refine g_alv f_X10_act_63 rfl ?_
            refine g_ild f_X10_act_64 rfl ?_
            refine g_ild f_X10_act_65 rfl ?_
            refine g_ild f_X10_act_67 rfl ?_
            refine g_cv1 hγ (c_mtells hG hp6 (v := zP (wz s) p2 1) (K := zP (wz s) p2 0) (by rw [up_row (by decide)]; exact r1) (by rw [up_row (by decide)]; exact r0) hR0 y b1 (zP (wz s) p2 0) b1 (by show 0 + 12 ≤ 20; decide) (D := 10) (by decide)) f_X10_act_68 mo_X10_tells mv_X10_tells (by assumption) rfl rfl (Nat.le_of_ble_eq_true rfl) ⟨by decide, by decide⟩ ⟨Nat.le_refl _, Nat.le_refl _⟩ (fun x S' M4 hq4 => ?_)
            obtain ⟨rfl, q1, hR4, hf4⟩ := hq4
            obtain rfl := q1.symm
            refine g_reti f_X10_act_71 rfl ?_ (Nat.zero_le _) (Nat.zero_le _)
            obtain ⟨h9, h8⟩ := hW.trc (M' := M4) (t := actT (zP (wz s) p2 0) m) hO0 (fun k a b => by rw [hf4.1 k a b, up_row a]) (fun j hj => by rw [hf4.2 j hj, up_n (by omega)]) (by have e : actT (zP (wz s) p2 0) m = tlT (zP (wz s) p2 0) (zP (wz s) p2 0) := (if_neg (by omega)).trans (if_neg (by omega)); rw [e]; exact hR4)
            have e : a_act s (p2 : Int) (m : Int) y = (actV p2 (zP (wz s) p2 1) (zP (wz s) p2 0) m y, putTr s (actT (zP (wz s) p2 0) m)) := if_pos ⟨hip, ha⟩
            rw [e]
            refine ⟨?_, rfl, h9, h8⟩
            show _ = actV p2 (zP (wz s) p2 1) (zP (wz s) p2 0) m y
            exact ((if_neg (by omega)).trans (if_neg (by omega))).symm
          · refine g_alv f_X10_act_52 rfl ?_
            refine g_ild f_X10_act_53 rfl ?_
            refine g_ild f_X10_act_54 rfl ?_
            refine g_ild f_X10_act_56 rfl ?_
            refine g_cv1 hγ (c_mswears hG hp6 (v := zP (wz s) p2 1) (K := zP (wz s) p2 0) (by rw [up_row (by decide)]; exact r1) (by rw [up_row (by decide)]; exact r0) hR0 y b1 (zP (wz s) p2 0) b1 (by show 0 + 5 ≤ 20; decide) (D := 7) (by decide)) f_X10_act_57 mo_X10_swears mv_X10_swears (by assumption) rfl rfl (Nat.le_of_ble_eq_true rfl) ⟨by decide, by decide⟩ ⟨Nat.le_refl _, Nat.le_refl _⟩ (fun x S' M4 hq4 => ?_)
            obtain ⟨rfl, q1, hR4, hf4⟩ := hq4
            obtain rfl := q1.symm
            refine g_goto f_X10_act_60 ?_
            refine g_reti f_X10_act_71 rfl ?_ (Nat.zero_le _) (Nat.zero_le _)
            obtain ⟨h9, h8⟩ := hW.trc (M' := M4) (t := actT (zP (wz s) p2 0) m) hO0 (fun k a b => by rw [hf4.1 k a b, up_row a]) (fun j hj => by rw [hf4.2 j hj, up_n (by omega)]) (by have e : actT (zP (wz s) p2 0) m = swT (zP (wz s) p2 0) (zP (wz s) p2 0) := (if_neg (by omega)).trans (if_pos (by omega)); rw [e]; exact hR4)
            have e : a_act s (p2 : Int) (m : Int) y = (actV p2 (zP (wz s) p2 1) (zP (wz s) p2 0) m y, putTr s (actT (zP (wz s) p2 0) m)) := if_pos ⟨hip, ha⟩
            rw [e]
            refine ⟨?_, rfl, h9, h8⟩
            show _ = actV p2 (zP (wz s) p2 1) (zP (wz s) p2 0) m y
            exact ((if_neg (by omega)).trans (if_pos (by omega))).symm
        · refine g_alv f_X10_act_36 rfl ?_
          refine g_ild f_X10_act_37 rfl ?_
          refine g_ild f_X10_act_38 rfl ?_
          refine g_ild f_X10_act_40 rfl ?_
          refine g_cv1 hγ (c_mlooks hG hp6 (v := zP (wz s) p2 1) (K := zP (wz s) p2 0) (by rw [up_row (by decide)]; exact r1) (by rw [up_row (by decide)]; exact r0) hR0 y b1 (zP (wz s) p2 0) b1 (by show 0 + 2 ≤ 20; decide) (D := 4) (by decide)) f_X10_act_41 mo_X10_looks mv_X10_looks (by assumption) rfl rfl (Nat.le_of_ble_eq_true rfl) ⟨by decide, by decide⟩ ⟨Nat.le_refl _, Nat.le_refl _⟩ (fun x S' M4 hq4 => ?_)
          obtain ⟨rfl, q1, hR4, hf4⟩ := hq4
          obtain rfl := q1.symm
          refine g_goto f_X10_act_44 ?_
          refine g_reti f_X10_act_71 rfl ?_ (Nat.zero_le _) (Nat.zero_le _)
          obtain ⟨h9, h8⟩ := hW.trc (M' := M4) (t := actT (zP (wz s) p2 0) m) hO0 (fun k a b => by rw [hf4.1 k a b, up_row a]) (fun j hj => by rw [hf4.2 j hj, up_n (by omega)]) (by have e : actT (zP (wz s) p2 0) m = lkT (zP (wz s) p2 0) := if_pos (by omega); rw [e]; exact hR4)
          have e : a_act s (p2 : Int) (m : Int) y = (actV p2 (zP (wz s) p2 1) (zP (wz s) p2 0) m y, putTr s (actT (zP (wz s) p2 0) m)) := if_pos ⟨hip, ha⟩
          rw [e]
          refine ⟨?_, rfl, h9, h8⟩
          show _ = actV p2 (zP (wz s) p2 1) (zP (wz s) p2 0) m y
          exact (if_pos (by omega)).symm
      · exact absurd (by omega) hx
    · rw [if_neg ha] at hx
      subst hx
      refine g_if_ne f_X10_act_19 rfl (by omega) (fun hx => ?_) (fun hx => ?_)
      · exact absurd hx (by omega)
      refine g_const f_X10_act_22 ?_
      refine g_reti f_X10_act_23 rfl ?_ (Nat.zero_le _) (Nat.zero_le _)
      obtain ⟨h9, h8⟩ := hW.trc (M' := up M 87 35 0) (t := []) hO0 (fun k a b => up_row a) (fun j hj => up_n (by omega)) hR0
      first
      | (have e : a_act s p a y = (0, putTr s []) := if_neg (by intro h; exact hip h.1); rw [e]; exact ⟨rfl, rfl, h9, h8⟩)
      | (have e : a_act s (p2 : Int) a y = (0, putTr s []) := if_neg (by intro h; exact ha h.2); rw [e]; exact ⟨rfl, rfl, h9, h8⟩)
  · rw [if_neg hip] at hx
    subst hx
    refine g_if_eq f_X10_act_10 rfl (by omega) (fun hx => ?_) (fun hx => ?_)
    · refine g_const f_X10_act_22 ?_
      refine g_reti f_X10_act_23 rfl ?_ (Nat.zero_le _) (Nat.zero_le _)
      obtain ⟨h9, h8⟩ := hW.trc (M' := up M 87 35 0) (t := []) hO0 (fun k a b => up_row a) (fun j hj => up_n (by omega)) hR0
      first
      | (have e : a_act s p a y = (0, putTr s []) := if_neg (by intro h; exact hip h.1); rw [e]; exact ⟨rfl, rfl, h9, h8⟩)
      | (have e : a_act s (p2 : Int) a y = (0, putTr s []) := if_neg (by intro h; exact ha h.2); rw [e]; exact ⟨rfl, rfl, h9, h8⟩)
    · exact absurd (by omega) hx
