/-! contracts: the actor, tapes -/
set_option maxHeartbeats 4000000 in
set_option maxRecDepth 100000 in
theorem c_begin {Ω : Ow} {S : Sg} {M : Mm} (hG : Gr S) {n v K : Nat} {tr : List Nat} (hA : actR M n v K tr) (b : Nat) (hl : tr.length < 20) : Ct Ω mX0_begin 1 0 0 0 [vr Ω 9, vi (b : Int)] S M (fun _ S' M' => S' = S ∧ actR M' n v K (tr ++ [b]) ∧ afr M M') := by
  refine Ct.mk (by decide) (Nat.le_of_ble_eq_true rfl) [some (vr Ω 9), some (vi (b : Int))] (by intro q hq; exact hq) (fun γ hγ hz => ?_)
  have o9 := obn hG (r := 9) (c := 0) (by decide +kernel)
  have a10 := arn hG (r := 10) (c := 12) (n := 20) (by decide +kernel)
  have g9 : _ = ((10 : Nat) : Int) := grn hG (k := 9) (j := 0) (by decide)
  obtain ⟨⟨r1, r2, r3⟩, h2, h3, h4⟩ := id hA
  refine g_alv f_X0_begin_0 rfl ?_
  refine g_getI f_X0_begin_1 (by assumption) ?_
  rw [r1]
  refine g_const f_X0_begin_4 ?_
  refine g_icmp_ge f_X0_begin_6 rfl (by omega) (by omega) (fun hc => ?_) (fun hc => ?_)
  · exact absurd hc (by omega)
  refine g_alv f_X0_begin_9 rfl ?_
  refine g_getR f_X0_begin_10 (by assumption) (by assumption) ?_
  refine g_alv f_X0_begin_13 rfl ?_
  refine g_getI f_X0_begin_14 (by assumption) ?_
  rw [r1]
  refine g_ild f_X0_begin_17 rfl ?_
  refine g_ias f_X0_begin_18 (by assumption) _ rfl (by omega) ?_
  refine g_alv f_X0_begin_19 rfl ?_
  refine g_dup f_X0_begin_20 rfl ?_
  refine g_getI f_X0_begin_21 (by assumption) ?_
  rw [up_row (by decide), r1]
  refine g_const f_X0_begin_24 ?_
  refine g_iadd f_X0_begin_25 ?_
  refine g_putI f_X0_begin_26 rfl (by assumption) ?_
  refine g_ret0 (κ := 0) f_X0_begin_29 rfl 0 ?_ (Nat.zero_le _) (Nat.zero_le _)
  exact ⟨rfl, hA.add hl, fun k a c => by rw [up_row a, up_row c]⟩

set_option maxHeartbeats 4000000 in
set_option maxRecDepth 100000 in
theorem c_looks0 {Ω : Ow} {S : Sg} {M : Mm} (hG : Gr S) {n v K : Nat} {tr : List Nat} (hA : actR M n v K tr) {s : Nat} (hs : s = 0 ∨ s = 1 ∨ s = 3) (y : Int) (hl : tr.length < 20) : Ct Ω mX0_looks 2 0 0 1 [vr Ω 9, vi (s : Int), vi y] S M (fun x S' M' => x = y + (n : Int) ∧ S' = S ∧ actR M' n v K (tr ++ [10]) ∧ afr M M') := by
  refine Ct.mk (by decide) (Nat.le_of_ble_eq_true rfl) [some (vr Ω 9), some (vi (s : Int)), some (vi y)] (by intro q hq; exact hq) (fun γ hγ hz => ?_)
  have o9 := obn hG (r := 9) (c := 0) (by decide +kernel)
  have a10 := arn hG (r := 10) (c := 12) (n := 20) (by decide +kernel)
  have g9 : _ = ((10 : Nat) : Int) := grn hG (k := 9) (j := 0) (by decide)
  obtain ⟨⟨r1, r2, r3⟩, h2, h3, h4⟩ := id hA
  refine g_ild f_X0_looks_0 rfl ?_
  refine g_tab f_X0_looks_1 (by omega) (fun h0 => ?_) (casC (fun h0 => ?_) (casC (fun h0 => ?_) (casC (fun h0 => ?_) (casC (fun h0 => ?_) (casC (fun h0 => ?_) casN)))))
  · refine g_alv f_X0_looks_83 rfl ?_
    refine g_const f_X0_looks_84 ?_
    refine g_as (show (10 : Int) = ((10 : Nat) : Int) from rfl) ?_
    refine g_cv0 hγ (c_begin hG hA 10 (by first | omega | (simp only [List.length_append, List.length_cons, List.length_nil]; omega))) f_X0_looks_86 mo_X0_begin mv_X0_begin (by assumption) rfl rfl (Nat.le_of_ble_eq_true rfl) ⟨by decide, by decide⟩ ⟨Nat.le_refl _, Nat.le_refl _⟩ (fun x S' M1 hq1 => ?_)
    obtain ⟨q1, k1, f1⟩ := hq1
    obtain rfl := q1.symm
    refine g_ild f_X0_looks_89 rfl ?_
    refine g_alv f_X0_looks_90 rfl ?_
    refine g_getI f_X0_looks_91 (by assumption) ?_
    rw [k1.2.1]
    refine g_iadd f_X0_looks_94 ?_
    refine g_reti f_X0_looks_95 rfl ?_ (Nat.zero_le _) (Nat.zero_le _)
    exact ⟨rfl, rfl, k1, f1⟩
  · exact absurd h0 (by omega)
  · refine g_alv f_X0_looks_83 rfl ?_
    refine g_const f_X0_looks_84 ?_
    refine g_as (show (10 : Int) = ((10 : Nat) : Int) from rfl) ?_
    refine g_cv0 hγ (c_begin hG hA 10 (by first | omega | (simp only [List.length_append, List.length_cons, List.length_nil]; omega))) f_X0_looks_86 mo_X0_begin mv_X0_begin (by assumption) rfl rfl (Nat.le_of_ble_eq_true rfl) ⟨by decide, by decide⟩ ⟨Nat.le_refl _, Nat.le_refl _⟩ (fun x S' M1 hq1 => ?_)
    obtain ⟨q1, k1, f1⟩ := hq1
    obtain rfl := q1.symm
    refine g_ild f_X0_looks_89 rfl ?_
    refine g_alv f_X0_looks_90 rfl ?_
    refine g_getI f_X0_looks_91 (by assumption) ?_
    rw [k1.2.1]
    refine g_iadd f_X0_looks_94 ?_
    refine g_reti f_X0_looks_95 rfl ?_ (Nat.zero_le _) (Nat.zero_le _)
    exact ⟨rfl, rfl, k1, f1⟩
  · exact absurd h0 (by omega)
  · exact absurd h0 (by omega)
  · exact absurd h0 (by omega)

set_option maxHeartbeats 4000000 in
set_option maxRecDepth 100000 in
theorem c_looks {Ω : Ow} {S : Sg} {M : Mm} (hG : Gr S) {n v K : Nat} {tr : List Nat} (hA : actR M n v K tr) {s : Nat} (hs : s ≤ 6) (y : Int) (hl : tr.length < 19) : Ct Ω mX0_looks 3 0 0 1 [vr Ω 9, vi (s : Int), vi y] S M (fun x S' M' => x = lkV n v s y ∧ S' = S ∧ actR M' n v K (tr ++ lkT s) ∧ afr M M') := by
  refine Ct.mk (by decide) (Nat.le_of_ble_eq_true rfl) [some (vr Ω 9), some (vi (s : Int)), some (vi y)] (by intro q hq; exact hq) (fun γ hγ hz => ?_)
  have o9 := obn hG (r := 9) (c := 0) (by decide +kernel)
  have a10 := arn hG (r := 10) (c := 12) (n := 20) (by decide +kernel)
  have g9 : _ = ((10 : Nat) : Int) := grn hG (k := 9) (j := 0) (by decide)
  obtain ⟨⟨r1, r2, r3⟩, h2, h3, h4⟩ := id hA
  refine g_ild f_X0_looks_0 rfl ?_
  refine g_tab f_X0_looks_1 (by omega) (fun h0 => ?_) (casC (fun h0 => ?_) (casC (fun h0 => ?_) (casC (fun h0 => ?_) (casC (fun h0 => ?_) (casC (fun h0 => ?_) casN)))))
  · have hs : s = 0 ∨ s = 1 ∨ s = 3 := by first | omega | (have n2 : (s : Int) ≠ 2 := h0 _ List.mem_cons_self; have n3 : (s : Int) ≠ 4 := h0 _ (List.mem_cons_of_mem _ (List.mem_cons_of_mem _ List.mem_cons_self)); have n5 : (s : Int) ≠ 5 := h0 _ (List.mem_cons_of_mem _ (List.mem_cons_of_mem _ (List.mem_cons_of_mem _ List.mem_cons_self))); have n6 : (s : Int) ≠ 6 := h0 _ (List.mem_cons_of_mem _ (List.mem_cons_of_mem _ (List.mem_cons_of_mem _ (List.mem_cons_of_mem _ List.mem_cons_self)))); omega)
    refine g_alv f_X0_looks_83 rfl ?_
    refine g_const f_X0_looks_84 ?_
    refine g_as (show (10 : Int) = ((10 : Nat) : Int) from rfl) ?_
    refine g_cv0 hγ (c_begin hG hA 10 (by first | omega | (simp only [List.length_append, List.length_cons, List.length_nil]; omega))) f_X0_looks_86 mo_X0_begin mv_X0_begin (by assumption) rfl rfl (Nat.le_of_ble_eq_true rfl) ⟨by decide, by decide⟩ ⟨Nat.le_refl _, Nat.le_refl _⟩ (fun x S' M1 hq1 => ?_)
    obtain ⟨q1, k1, f1⟩ := hq1
    obtain rfl := q1.symm
    refine g_ild f_X0_looks_89 rfl ?_
    refine g_alv f_X0_looks_90 rfl ?_
    refine g_getI f_X0_looks_91 (by assumption) ?_
    rw [k1.2.1]
    refine g_iadd f_X0_looks_94 ?_
    refine g_reti f_X0_looks_95 rfl ?_ (Nat.zero_le _) (Nat.zero_le _)
    exact ⟨by rcases hs with rfl | rfl | rfl <;> rfl, rfl, by rcases hs with rfl | rfl | rfl <;> simpa [lkT] using k1, f1⟩
  · have hs : s = 2 ∨ s = 5 := by omega
    refine g_alv f_X0_looks_68 rfl ?_
    refine g_const f_X0_looks_69 ?_
    refine g_as (show (30 : Int) = ((30 : Nat) : Int) from rfl) ?_
    refine g_cv0 hγ (c_begin hG hA 30 (by first | omega | (simp only [List.length_append, List.length_cons, List.length_nil]; omega))) f_X0_looks_71 mo_X0_begin mv_X0_begin (by assumption) rfl rfl (Nat.le_of_ble_eq_true rfl) ⟨by decide, by decide⟩ ⟨Nat.le_refl _, Nat.le_refl _⟩ (fun x S' M1 hq1 => ?_)
    obtain ⟨q1, k1, f1⟩ := hq1
    obtain rfl := q1.symm
    refine g_alv f_X0_looks_74 rfl ?_
    refine g_const f_X0_looks_75 ?_
    refine g_as (show (0 : Int) = ((0 : Nat) : Int) from rfl) ?_
    refine g_ild f_X0_looks_76 rfl ?_
    refine g_const f_X0_looks_77 ?_
    refine g_imul f_X0_looks_78 ?_
    refine g_cv1 hγ (c_looks0 hG k1 (s := 0) (by omega) (y * 3) (by first | omega | (simp only [List.length_append, List.length_cons, List.length_nil]; omega))) f_X0_looks_79 mo_X0_looks mv_X0_looks (by assumption) rfl rfl (Nat.le_of_ble_eq_true rfl) ⟨by decide, by decide⟩ ⟨Nat.le_refl _, Nat.le_refl _⟩ (fun x S' M2 hq2 => ?_)
    obtain ⟨rfl, q1, k2, f2⟩ := hq2
    obtain rfl := q1.symm
    refine g_reti f_X0_looks_82 rfl ?_ (Nat.zero_le _) (Nat.zero_le _)
    exact ⟨by rcases hs with rfl | rfl <;> rfl, rfl, by rcases hs with rfl | rfl <;> simpa [lkT, List.append_assoc] using k2, f1.tr f2⟩
  · have hs : s = 0 ∨ s = 1 ∨ s = 3 := by first | omega | (have n2 : (s : Int) ≠ 2 := h0 _ List.mem_cons_self; have n3 : (s : Int) ≠ 4 := h0 _ (List.mem_cons_of_mem _ (List.mem_cons_of_mem _ List.mem_cons_self)); have n5 : (s : Int) ≠ 5 := h0 _ (List.mem_cons_of_mem _ (List.mem_cons_of_mem _ (List.mem_cons_of_mem _ List.mem_cons_self))); have n6 : (s : Int) ≠ 6 := h0 _ (List.mem_cons_of_mem _ (List.mem_cons_of_mem _ (List.mem_cons_of_mem _ (List.mem_cons_of_mem _ List.mem_cons_self)))); omega)
    refine g_alv f_X0_looks_83 rfl ?_
    refine g_const f_X0_looks_84 ?_
    refine g_as (show (10 : Int) = ((10 : Nat) : Int) from rfl) ?_
    refine g_cv0 hγ (c_begin hG hA 10 (by first | omega | (simp only [List.length_append, List.length_cons, List.length_nil]; omega))) f_X0_looks_86 mo_X0_begin mv_X0_begin (by assumption) rfl rfl (Nat.le_of_ble_eq_true rfl) ⟨by decide, by decide⟩ ⟨Nat.le_refl _, Nat.le_refl _⟩ (fun x S' M1 hq1 => ?_)
    obtain ⟨q1, k1, f1⟩ := hq1
    obtain rfl := q1.symm
    refine g_ild f_X0_looks_89 rfl ?_
    refine g_alv f_X0_looks_90 rfl ?_
    refine g_getI f_X0_looks_91 (by assumption) ?_
    rw [k1.2.1]
    refine g_iadd f_X0_looks_94 ?_
    refine g_reti f_X0_looks_95 rfl ?_ (Nat.zero_le _) (Nat.zero_le _)
    exact ⟨by rcases hs with rfl | rfl | rfl <;> rfl, rfl, by rcases hs with rfl | rfl | rfl <;> simpa [lkT] using k1, f1⟩
  · obtain rfl : s = 4 := by omega
    refine g_alv f_X0_looks_54 rfl ?_
    refine g_const f_X0_looks_55 ?_
    refine g_as (show (50 : Int) = ((50 : Nat) : Int) from rfl) ?_
    refine g_cv0 hγ (c_begin hG hA 50 (by first | omega | (simp only [List.length_append, List.length_cons, List.length_nil]; omega))) f_X0_looks_57 mo_X0_begin mv_X0_begin (by assumption) rfl rfl (Nat.le_of_ble_eq_true rfl) ⟨by decide, by decide⟩ ⟨Nat.le_refl _, Nat.le_refl _⟩ (fun x S' M1 hq1 => ?_)
    obtain ⟨q1, k1, f1⟩ := hq1
    obtain rfl := q1.symm
    refine g_alv f_X0_looks_60 rfl ?_
    refine g_const f_X0_looks_61 ?_
    refine g_as (show (1 : Int) = ((1 : Nat) : Int) from rfl) ?_
    refine g_ild f_X0_looks_62 rfl ?_
    refine g_cv1 hγ (c_looks0 hG k1 (s := 1) (by omega) y (by first | omega | (simp only [List.length_append, List.length_cons, List.length_nil]; omega))) f_X0_looks_63 mo_X0_looks mv_X0_looks (by assumption) rfl rfl (Nat.le_of_ble_eq_true rfl) ⟨by decide, by decide⟩ ⟨Nat.le_refl _, Nat.le_refl _⟩ (fun x S' M2 hq2 => ?_)
    obtain ⟨rfl, q1, k2, f2⟩ := hq2
    obtain rfl := q1.symm
    refine g_ineg f_X0_looks_66 ?_
    refine g_reti f_X0_looks_67 rfl ?_ (Nat.zero_le _) (Nat.zero_le _)
    exact ⟨rfl, rfl, by simpa [lkT, List.append_assoc] using k2, f1.tr f2⟩
  · have hs : s = 2 ∨ s = 5 := by omega
    refine g_alv f_X0_looks_68 rfl ?_
    refine g_const f_X0_looks_69 ?_
    refine g_as (show (30 : Int) = ((30 : Nat) : Int) from rfl) ?_
    refine g_cv0 hγ (c_begin hG hA 30 (by first | omega | (simp only [List.length_append, List.length_cons, List.length_nil]; omega))) f_X0_looks_71 mo_X0_begin mv_X0_begin (by assumption) rfl rfl (Nat.le_of_ble_eq_true rfl) ⟨by decide, by decide⟩ ⟨Nat.le_refl _, Nat.le_refl _⟩ (fun x S' M1 hq1 => ?_)
    obtain ⟨q1, k1, f1⟩ := hq1
    obtain rfl := q1.symm
    refine g_alv f_X0_looks_74 rfl ?_
    refine g_const f_X0_looks_75 ?_
    refine g_as (show (0 : Int) = ((0 : Nat) : Int) from rfl) ?_
    refine g_ild f_X0_looks_76 rfl ?_
    refine g_const f_X0_looks_77 ?_
    refine g_imul f_X0_looks_78 ?_
    refine g_cv1 hγ (c_looks0 hG k1 (s := 0) (by omega) (y * 3) (by first | omega | (simp only [List.length_append, List.length_cons, List.length_nil]; omega))) f_X0_looks_79 mo_X0_looks mv_X0_looks (by assumption) rfl rfl (Nat.le_of_ble_eq_true rfl) ⟨by decide, by decide⟩ ⟨Nat.le_refl _, Nat.le_refl _⟩ (fun x S' M2 hq2 => ?_)
    obtain ⟨rfl, q1, k2, f2⟩ := hq2
    obtain rfl := q1.symm
    refine g_reti f_X0_looks_82 rfl ?_ (Nat.zero_le _) (Nat.zero_le _)
    exact ⟨by rcases hs with rfl | rfl <;> rfl, rfl, by rcases hs with rfl | rfl <;> simpa [lkT, List.append_assoc] using k2, f1.tr f2⟩
  · obtain rfl : s = 6 := by omega
    refine g_alv f_X0_looks_36 rfl ?_
    refine g_const f_X0_looks_37 ?_
    refine g_as (show (71 : Int) = ((71 : Nat) : Int) from rfl) ?_
    refine g_cv0 hγ (c_begin hG hA 71 (by first | omega | (simp only [List.length_append, List.length_cons, List.length_nil]; omega))) f_X0_looks_39 mo_X0_begin mv_X0_begin (by assumption) rfl rfl (Nat.le_of_ble_eq_true rfl) ⟨by decide, by decide⟩ ⟨Nat.le_refl _, Nat.le_refl _⟩ (fun x S' M1 hq1 => ?_)
    obtain ⟨q1, k1, f1⟩ := hq1
    obtain rfl := q1.symm
    refine g_alv f_X0_looks_42 rfl ?_
    refine g_const f_X0_looks_43 ?_
    refine g_as (show (3 : Int) = ((3 : Nat) : Int) from rfl) ?_
    refine g_ild f_X0_looks_44 rfl ?_
    refine g_cv1 hγ (c_looks0 hG k1 (s := 3) (by omega) y (by first | omega | (simp only [List.length_append, List.length_cons, List.length_nil]; omega))) f_X0_looks_45 mo_X0_looks mv_X0_looks (by assumption) rfl rfl (Nat.le_of_ble_eq_true rfl) ⟨by decide, by decide⟩ ⟨Nat.le_refl _, Nat.le_refl _⟩ (fun x S' M2 hq2 => ?_)
    obtain ⟨rfl, q1, k2, f2⟩ := hq2
    obtain rfl := q1.symm
    refine g_alv f_X0_looks_48 rfl ?_
    refine g_getI f_X0_looks_49 (by assumption) ?_
    rw [k2.2.2.1]
    refine g_ixor f_X0_looks_52 ?_
    refine g_reti f_X0_looks_53 rfl ?_ (Nat.zero_le _) (Nat.zero_le _)
    exact ⟨rfl, rfl, by simpa [lkT, List.append_assoc] using k2, f1.tr f2⟩

set_option maxHeartbeats 4000000 in
set_option maxRecDepth 100000 in
theorem c_swears0 {Ω : Ow} {S : Sg} {M : Mm} (hG : Gr S) {n v K : Nat} {tr : List Nat} (hA : actR M n v K tr) (hK : K ≤ 6) {s : Nat} (hs : s = 0 ∨ s = 3) (y : Int) (hl : tr.length < 18) : Ct Ω mX0_swears 4 0 0 1 [vr Ω 9, vi (s : Int), vi y] S M (fun x S' M' => x = lkV n v K y - (v : Int) ∧ S' = S ∧ actR M' n v K (tr ++ 11 :: lkT K) ∧ afr M M') := by
  refine Ct.mk (by decide) (Nat.le_of_ble_eq_true rfl) [some (vr Ω 9), some (vi (s : Int)), some (vi y)] (by intro q hq; exact hq) (fun γ hγ hz => ?_)
  have o9 := obn hG (r := 9) (c := 0) (by decide +kernel)
  have a10 := arn hG (r := 10) (c := 12) (n := 20) (by decide +kernel)
  have g9 : _ = ((10 : Nat) : Int) := grn hG (k := 9) (j := 0) (by decide)
  obtain ⟨⟨r1, r2, r3⟩, h2, h3, h4⟩ := id hA
  refine g_ild f_X0_swears_0 rfl ?_
  refine g_lk f_X0_swears_1 (by omega) (fun h0 => ?_) (casC (fun h0 => ?_) (casC (fun h0 => ?_) (casC (fun h0 => ?_) casN)))
  · refine g_alv f_X0_swears_87 rfl ?_
    refine g_const f_X0_swears_88 ?_
    refine g_as (show (11 : Int) = ((11 : Nat) : Int) from rfl) ?_
    refine g_cv0 hγ (c_begin hG hA 11 (by first | omega | (simp only [List.length_append, List.length_cons, List.length_nil]; omega))) f_X0_swears_90 mo_X0_begin mv_X0_begin (by assumption) rfl rfl (Nat.le_of_ble_eq_true rfl) ⟨by decide, by decide⟩ ⟨Nat.le_refl _, Nat.le_refl _⟩ (fun x S' M1 hq1 => ?_)
    obtain ⟨q1, k1, f1⟩ := hq1
    obtain rfl := q1.symm
    refine g_alv f_X0_swears_93 rfl ?_
    refine g_alv f_X0_swears_94 rfl ?_
    refine g_getI f_X0_swears_95 (by assumption) ?_
    rw [k1.2.2.2]
    refine g_ild f_X0_swears_98 rfl ?_
    refine g_cv1 hγ (c_looks hG k1 (s := K) hK y (by first | omega | (simp only [List.length_append, List.length_cons, List.length_nil]; omega))) f_X0_swears_99 mo_X0_looks mv_X0_looks (by assumption) rfl rfl (Nat.le_of_ble_eq_true rfl) ⟨by decide, by decide⟩ ⟨Nat.le_refl _, Nat.le_refl _⟩ (fun x S' M2 hq2 => ?_)
    obtain ⟨rfl, q1, k2, f2⟩ := hq2
    obtain rfl := q1.symm
    refine g_alv f_X0_swears_102 rfl ?_
    refine g_getI f_X0_swears_103 (by assumption) ?_
    rw [k2.2.2.1]
    refine g_isub f_X0_swears_106 ?_
    refine g_reti f_X0_swears_107 rfl ?_ (Nat.zero_le _) (Nat.zero_le _)
    exact ⟨rfl, rfl, by simpa [List.append_assoc] using k2, f1.tr f2⟩
  · exact absurd h0 (by omega)
  · exact absurd h0 (by omega)
  · exact absurd h0 (by omega)

set_option maxHeartbeats 4000000 in
set_option maxRecDepth 100000 in
theorem c_swears1 {Ω : Ow} {S : Sg} {M : Mm} (hG : Gr S) {n v K : Nat} {tr : List Nat} (hA : actR M n v K tr) (hK : K ≤ 6) (y : Int) (hl : tr.length < 17) : Ct Ω mX0_swears 5 0 0 1 [vr Ω 9, vi 1, vi y] S M (fun x S' M' => x = bxor (lkV n v K y - (v : Int)) 6 ∧ S' = S ∧ actR M' n v K (tr ++ 20 :: 11 :: lkT K) ∧ afr M M') := by
  refine Ct.mk (by decide) (Nat.le_of_ble_eq_true rfl) [some (vr Ω 9), some (vi 1), some (vi y)] (by intro q hq; exact hq) (fun γ hγ hz => ?_)
  have o9 := obn hG (r := 9) (c := 0) (by decide +kernel)
  have a10 := arn hG (r := 10) (c := 12) (n := 20) (by decide +kernel)
  have g9 : _ = ((10 : Nat) : Int) := grn hG (k := 9) (j := 0) (by decide)
  obtain ⟨⟨r1, r2, r3⟩, h2, h3, h4⟩ := id hA
  refine g_ild f_X0_swears_0 rfl ?_
  refine g_lk f_X0_swears_1 (by omega) (fun h0 => ?_) (casC (fun h0 => ?_) (casC (fun h0 => ?_) (casC (fun h0 => ?_) casN)))
  · exact absurd rfl (h0 (1, 71) List.mem_cons_self)
  · refine g_alv f_X0_swears_71 rfl ?_
    refine g_const f_X0_swears_72 ?_
    refine g_as (show (20 : Int) = ((20 : Nat) : Int) from rfl) ?_
    refine g_cv0 hγ (c_begin hG hA 20 (by first | omega | (simp only [List.length_append, List.length_cons, List.length_nil]; omega))) f_X0_swears_74 mo_X0_begin mv_X0_begin (by assumption) rfl rfl (Nat.le_of_ble_eq_true rfl) ⟨by decide, by decide⟩ ⟨Nat.le_refl _, Nat.le_refl _⟩ (fun x S' M1 hq1 => ?_)
    obtain ⟨q1, k1, f1⟩ := hq1
    obtain rfl := q1.symm
    refine g_alv f_X0_swears_77 rfl ?_
    refine g_const f_X0_swears_78 ?_
    refine g_as (show (0 : Int) = ((0 : Nat) : Int) from rfl) ?_
    refine g_ild f_X0_swears_79 rfl ?_
    refine g_cv1 hγ (c_swears0 hG k1 hK (s := 0) (by omega) y (by first | omega | (simp only [List.length_append, List.length_cons, List.length_nil]; omega))) f_X0_swears_80 mo_X0_swears mv_X0_swears (by assumption) rfl rfl (Nat.le_of_ble_eq_true rfl) ⟨by decide, by decide⟩ ⟨Nat.le_refl _, Nat.le_refl _⟩ (fun x S' M2 hq2 => ?_)
    obtain ⟨rfl, q1, k2, f2⟩ := hq2
    obtain rfl := q1.symm
    refine g_const f_X0_swears_83 ?_
    refine g_ixor f_X0_swears_85 ?_
    refine g_reti f_X0_swears_86 rfl ?_ (Nat.zero_le _) (Nat.zero_le _)
    exact ⟨rfl, rfl, by simpa [List.append_assoc] using k2, f1.tr f2⟩
  · exact absurd h0 (by decide)
  · exact absurd h0 (by decide)

set_option maxHeartbeats 4000000 in
set_option maxRecDepth 100000 in
theorem c_swears {Ω : Ow} {S : Sg} {M : Mm} (hG : Gr S) {n v K : Nat} {tr : List Nat} (hA : actR M n v K tr) (hK : K ≤ 6) {s : Nat} (hs : s ≤ 6) (y : Int) (hl : tr.length < 15) : Ct Ω mX0_swears 6 0 0 1 [vr Ω 9, vi (s : Int), vi y] S M (fun x S' M' => x = swV n v K s y ∧ S' = S ∧ actR M' n v K (tr ++ swT K s) ∧ afr M M') := by
  refine Ct.mk (by decide) (Nat.le_of_ble_eq_true rfl) [some (vr Ω 9), some (vi (s : Int)), some (vi y)] (by intro q hq; exact hq) (fun γ hγ hz => ?_)
  have o9 := obn hG (r := 9) (c := 0) (by decide +kernel)
  have a10 := arn hG (r := 10) (c := 12) (n := 20) (by decide +kernel)
  have g9 : _ = ((10 : Nat) : Int) := grn hG (k := 9) (j := 0) (by decide)
  obtain ⟨⟨r1, r2, r3⟩, h2, h3, h4⟩ := id hA
  refine g_ild f_X0_swears_0 rfl ?_
  refine g_lk f_X0_swears_1 (by omega) (fun h0 => ?_) (casC (fun h0 => ?_) (casC (fun h0 => ?_) (casC (fun h0 => ?_) casN)))
  · have n1 : (s : Int) ≠ 1 := h0 _ List.mem_cons_self
    have n4 : (s : Int) ≠ 4 := h0 _ (List.mem_cons_of_mem _ List.mem_cons_self)
    have n6 : (s : Int) ≠ 6 := h0 _ (List.mem_cons_of_mem _ (List.mem_cons_of_mem _ List.mem_cons_self))
    have e : swT K s = 11 :: lkT K := by unfold swT; rw [if_neg (by omega), if_neg (by omega), if_neg (by omega)]
    have e2 : swV n v K s y = lkV n v K y - (v : Int) := by unfold swV; rw [if_neg (by omega), if_neg (by omega), if_neg (by omega)]
    refine g_alv f_X0_swears_87 rfl ?_
    refine g_const f_X0_swears_88 ?_
    refine g_as (show (11 : Int) = ((11 : Nat) : Int) from rfl) ?_
    refine g_cv0 hγ (c_begin hG hA 11 (by first | omega | (simp only [List.length_append, List.length_cons, List.length_nil]; omega))) f_X0_swears_90 mo_X0_begin mv_X0_begin (by assumption) rfl rfl (Nat.le_of_ble_eq_true rfl) ⟨by decide, by decide⟩ ⟨Nat.le_refl _, Nat.le_refl _⟩ (fun x S' M1 hq1 => ?_)
    obtain ⟨q1, k1, f1⟩ := hq1
    obtain rfl := q1.symm
    refine g_alv f_X0_swears_93 rfl ?_
    refine g_alv f_X0_swears_94 rfl ?_
    refine g_getI f_X0_swears_95 (by assumption) ?_
    rw [k1.2.2.2]
    refine g_ild f_X0_swears_98 rfl ?_
    refine g_cv1 hγ (c_looks hG k1 (s := K) hK y (by first | omega | (simp only [List.length_append, List.length_cons, List.length_nil]; omega))) f_X0_swears_99 mo_X0_looks mv_X0_looks (by assumption) rfl rfl (Nat.le_of_ble_eq_true rfl) ⟨by decide, by decide⟩ ⟨Nat.le_refl _, Nat.le_refl _⟩ (fun x S' M2 hq2 => ?_)
    obtain ⟨rfl, q1, k2, f2⟩ := hq2
    obtain rfl := q1.symm
    refine g_alv f_X0_swears_102 rfl ?_
    refine g_getI f_X0_swears_103 (by assumption) ?_
    rw [k2.2.2.1]
    refine g_isub f_X0_swears_106 ?_
    refine g_reti f_X0_swears_107 rfl ?_ (Nat.zero_le _) (Nat.zero_le _)
    exact ⟨e2.symm, rfl, by rw [e]; simpa [List.append_assoc] using k2, f1.tr f2⟩
  · obtain rfl : s = 1 := by omega
    refine g_alv f_X0_swears_71 rfl ?_
    refine g_const f_X0_swears_72 ?_
    refine g_as (show (20 : Int) = ((20 : Nat) : Int) from rfl) ?_
    refine g_cv0 hγ (c_begin hG hA 20 (by first | omega | (simp only [List.length_append, List.length_cons, List.length_nil]; omega))) f_X0_swears_74 mo_X0_begin mv_X0_begin (by assumption) rfl rfl (Nat.le_of_ble_eq_true rfl) ⟨by decide, by decide⟩ ⟨Nat.le_refl _, Nat.le_refl _⟩ (fun x S' M1 hq1 => ?_)
    obtain ⟨q1, k1, f1⟩ := hq1
    obtain rfl := q1.symm
    refine g_alv f_X0_swears_77 rfl ?_
    refine g_const f_X0_swears_78 ?_
    refine g_as (show (0 : Int) = ((0 : Nat) : Int) from rfl) ?_
    refine g_ild f_X0_swears_79 rfl ?_
    refine g_cv1 hγ (c_swears0 hG k1 hK (s := 0) (by omega) y (by first | omega | (simp only [List.length_append, List.length_cons, List.length_nil]; omega))) f_X0_swears_80 mo_X0_swears mv_X0_swears (by assumption) rfl rfl (Nat.le_of_ble_eq_true rfl) ⟨by decide, by decide⟩ ⟨Nat.le_refl _, Nat.le_refl _⟩ (fun x S' M2 hq2 => ?_)
    obtain ⟨rfl, q1, k2, f2⟩ := hq2
    obtain rfl := q1.symm
    refine g_const f_X0_swears_83 ?_
    refine g_ixor f_X0_swears_85 ?_
    refine g_reti f_X0_swears_86 rfl ?_ (Nat.zero_le _) (Nat.zero_le _)
    exact ⟨rfl, rfl, by simpa [swT, List.append_assoc] using k2, f1.tr f2⟩
  · obtain rfl : s = 4 := by omega
    refine g_alv f_X0_swears_56 rfl ?_
    refine g_const f_X0_swears_57 ?_
    refine g_as (show (51 : Int) = ((51 : Nat) : Int) from rfl) ?_
    refine g_cv0 hγ (c_begin hG hA 51 (by first | omega | (simp only [List.length_append, List.length_cons, List.length_nil]; omega))) f_X0_swears_59 mo_X0_begin mv_X0_begin (by assumption) rfl rfl (Nat.le_of_ble_eq_true rfl) ⟨by decide, by decide⟩ ⟨Nat.le_refl _, Nat.le_refl _⟩ (fun x S' M1 hq1 => ?_)
    obtain ⟨q1, k1, f1⟩ := hq1
    obtain rfl := q1.symm
    refine g_alv f_X0_swears_62 rfl ?_
    refine g_const f_X0_swears_63 ?_
    refine g_ild f_X0_swears_64 rfl ?_
    refine g_const f_X0_swears_65 ?_
    refine g_iadd f_X0_swears_66 ?_
    refine g_cv1 hγ (c_swears1 hG k1 hK (y + 1) (by first | omega | (simp only [List.length_append, List.length_cons, List.length_nil]; omega))) f_X0_swears_67 mo_X0_swears mv_X0_swears (by assumption) rfl rfl (Nat.le_of_ble_eq_true rfl) ⟨by decide, by decide⟩ ⟨Nat.le_refl _, Nat.le_refl _⟩ (fun x S' M2 hq2 => ?_)
    obtain ⟨rfl, q1, k2, f2⟩ := hq2
    obtain rfl := q1.symm
    refine g_reti f_X0_swears_70 rfl ?_ (Nat.zero_le _) (Nat.zero_le _)
    exact ⟨rfl, rfl, by simpa [swT, List.append_assoc] using k2, f1.tr f2⟩
  · obtain rfl : s = 6 := by omega
    refine g_alv f_X0_swears_36 rfl ?_
    refine g_const f_X0_swears_37 ?_
    refine g_as (show (70 : Int) = ((70 : Nat) : Int) from rfl) ?_
    refine g_cv0 hγ (c_begin hG hA 70 (by first | omega | (simp only [List.length_append, List.length_cons, List.length_nil]; omega))) f_X0_swears_39 mo_X0_begin mv_X0_begin (by assumption) rfl rfl (Nat.le_of_ble_eq_true rfl) ⟨by decide, by decide⟩ ⟨Nat.le_refl _, Nat.le_refl _⟩ (fun x S' M1 hq1 => ?_)
    obtain ⟨q1, k1, f1⟩ := hq1
    obtain rfl := q1.symm
    refine g_alv f_X0_swears_42 rfl ?_
    refine g_const f_X0_swears_43 ?_
    refine g_as (show (3 : Int) = ((3 : Nat) : Int) from rfl) ?_
    refine g_ild f_X0_swears_44 rfl ?_
    refine g_cv1 hγ (c_swears0 hG k1 hK (s := 3) (by omega) y (by first | omega | (simp only [List.length_append, List.length_cons, List.length_nil]; omega))) f_X0_swears_45 mo_X0_swears mv_X0_swears (by assumption) rfl rfl (Nat.le_of_ble_eq_true rfl) ⟨by decide, by decide⟩ ⟨Nat.le_refl _, Nat.le_refl _⟩ (fun x S' M2 hq2 => ?_)
    obtain ⟨rfl, q1, k2, f2⟩ := hq2
    obtain rfl := q1.symm
    refine g_alv f_X0_swears_48 rfl ?_
    refine g_const f_X0_swears_49 ?_
    refine g_as (show (3 : Int) = ((3 : Nat) : Int) from rfl) ?_
    refine g_const f_X0_swears_50 ?_
    refine g_cv1 hγ (c_looks0 hG k2 (s := 3) (by omega) 2 (by have := lkT_len K; first | omega | (simp only [List.length_append, List.length_cons, List.length_nil]; omega))) f_X0_swears_51 mo_X0_looks mv_X0_looks (by assumption) rfl rfl (Nat.le_of_ble_eq_true rfl) ⟨by decide, by decide⟩ ⟨Nat.le_refl _, Nat.le_refl _⟩ (fun x S' M3 hq3 => ?_)
    obtain ⟨rfl, q1, k3, f3⟩ := hq3
    obtain rfl := q1.symm
    refine g_iadd f_X0_swears_54 ?_
    refine g_reti f_X0_swears_55 rfl ?_ (Nat.zero_le _) (Nat.zero_le _)
    exact ⟨rfl, rfl, by simpa [swT, List.append_assoc] using k3, (f1.tr f2).tr f3⟩

set_option maxHeartbeats 4000000 in
set_option maxRecDepth 100000 in
theorem c_tells0 {Ω : Ow} {S : Sg} {M : Mm} (hG : Gr S) {n v K : Nat} {tr : List Nat} (hA : actR M n v K tr) (hK : K ≤ 6) {s : Nat} (hs : s = 0 ∨ s = 2) (y : Int) (hl : tr.length < 14) : Ct Ω mX0_tells 7 0 0 1 [vr Ω 9, vi (s : Int), vi y] S M (fun x S' M' => x = swV n v K K y * 2 ∧ S' = S ∧ actR M' n v K (tr ++ 12 :: swT K K) ∧ afr M M') := by
  refine Ct.mk (by decide) (Nat.le_of_ble_eq_true rfl) [some (vr Ω 9), some (vi (s : Int)), some (vi y)] (by intro q hq; exact hq) (fun γ hγ hz => ?_)
  have o9 := obn hG (r := 9) (c := 0) (by decide +kernel)
  have a10 := arn hG (r := 10) (c := 12) (n := 20) (by decide +kernel)
  have g9 : _ = ((10 : Nat) : Int) := grn hG (k := 9) (j := 0) (by decide)
  obtain ⟨⟨r1, r2, r3⟩, h2, h3, h4⟩ := id hA
  refine g_ild f_X0_tells_0 rfl ?_
  refine g_tab f_X0_tells_1 (by omega) (fun h0 => ?_) (casC (fun h0 => ?_) (casC (fun h0 => ?_) (casC (fun h0 => ?_) (casC (fun h0 => ?_) casN))))
  · refine g_alv f_X0_tells_73 rfl ?_
    refine g_const f_X0_tells_74 ?_
    refine g_as (show (12 : Int) = ((12 : Nat) : Int) from rfl) ?_
    refine g_cv0 hγ (c_begin hG hA 12 (by first | omega | (simp only [List.length_append, List.length_cons, List.length_nil]; omega))) f_X0_tells_76 mo_X0_begin mv_X0_begin (by assumption) rfl rfl (Nat.le_of_ble_eq_true rfl) ⟨by decide, by decide⟩ ⟨Nat.le_refl _, Nat.le_refl _⟩ (fun x S' M1 hq1 => ?_)
    obtain ⟨q1, k1, f1⟩ := hq1
    obtain rfl := q1.symm
    refine g_alv f_X0_tells_79 rfl ?_
    refine g_alv f_X0_tells_80 rfl ?_
    refine g_getI f_X0_tells_81 (by assumption) ?_
    rw [k1.2.2.2]
    refine g_ild f_X0_tells_84 rfl ?_
    refine g_cv1 hγ (c_swears hG k1 hK (s := K) hK y (by first | omega | (simp only [List.length_append, List.length_cons, List.length_nil]; omega))) f_X0_tells_85 mo_X0_swears mv_X0_swears (by assumption) rfl rfl (Nat.le_of_ble_eq_true rfl) ⟨by decide, by decide⟩ ⟨Nat.le_refl _, Nat.le_refl _⟩ (fun x S' M2 hq2 => ?_)
    obtain ⟨rfl, q1, k2, f2⟩ := hq2
    obtain rfl := q1.symm
    refine g_const f_X0_tells_88 ?_
    refine g_imul f_X0_tells_89 ?_
    refine g_reti f_X0_tells_90 rfl ?_ (Nat.zero_le _) (Nat.zero_le _)
    exact ⟨rfl, rfl, by simpa [List.append_assoc] using k2, f1.tr f2⟩
  · exact absurd h0 (by omega)
  · refine g_alv f_X0_tells_73 rfl ?_
    refine g_const f_X0_tells_74 ?_
    refine g_as (show (12 : Int) = ((12 : Nat) : Int) from rfl) ?_
    refine g_cv0 hγ (c_begin hG hA 12 (by first | omega | (simp only [List.length_append, List.length_cons, List.length_nil]; omega))) f_X0_tells_76 mo_X0_begin mv_X0_begin (by assumption) rfl rfl (Nat.le_of_ble_eq_true rfl) ⟨by decide, by decide⟩ ⟨Nat.le_refl _, Nat.le_refl _⟩ (fun x S' M1 hq1 => ?_)
    obtain ⟨q1, k1, f1⟩ := hq1
    obtain rfl := q1.symm
    refine g_alv f_X0_tells_79 rfl ?_
    refine g_alv f_X0_tells_80 rfl ?_
    refine g_getI f_X0_tells_81 (by assumption) ?_
    rw [k1.2.2.2]
    refine g_ild f_X0_tells_84 rfl ?_
    refine g_cv1 hγ (c_swears hG k1 hK (s := K) hK y (by first | omega | (simp only [List.length_append, List.length_cons, List.length_nil]; omega))) f_X0_tells_85 mo_X0_swears mv_X0_swears (by assumption) rfl rfl (Nat.le_of_ble_eq_true rfl) ⟨by decide, by decide⟩ ⟨Nat.le_refl _, Nat.le_refl _⟩ (fun x S' M2 hq2 => ?_)
    obtain ⟨rfl, q1, k2, f2⟩ := hq2
    obtain rfl := q1.symm
    refine g_const f_X0_tells_88 ?_
    refine g_imul f_X0_tells_89 ?_
    refine g_reti f_X0_tells_90 rfl ?_ (Nat.zero_le _) (Nat.zero_le _)
    exact ⟨rfl, rfl, by simpa [List.append_assoc] using k2, f1.tr f2⟩
  · exact absurd h0 (by omega)
  · exact absurd h0 (by omega)

set_option maxHeartbeats 4000000 in
set_option maxRecDepth 100000 in
theorem c_tells {Ω : Ow} {S : Sg} {M : Mm} (hG : Gr S) {n v K : Nat} {tr : List Nat} (hA : actR M n v K tr) (hK : K ≤ 6) {s : Nat} (hs : s ≤ 6) (y : Int) (hl : tr.length < 8) : Ct Ω mX0_tells 8 0 0 1 [vr Ω 9, vi (s : Int), vi y] S M (fun x S' M' => x = tlV n v K s y ∧ S' = S ∧ actR M' n v K (tr ++ tlT K s) ∧ afr M M') := by
  refine Ct.mk (by decide) (Nat.le_of_ble_eq_true rfl) [some (vr Ω 9), some (vi (s : Int)), some (vi y)] (by intro q hq; exact hq) (fun γ hγ hz => ?_)
  have o9 := obn hG (r := 9) (c := 0) (by decide +kernel)
  have a10 := arn hG (r := 10) (c := 12) (n := 20) (by decide +kernel)
  have g9 : _ = ((10 : Nat) : Int) := grn hG (k := 9) (j := 0) (by decide)
  obtain ⟨⟨r1, r2, r3⟩, h2, h3, h4⟩ := id hA
  refine g_ild f_X0_tells_0 rfl ?_
  refine g_tab f_X0_tells_1 (by omega) (fun h0 => ?_) (casC (fun h0 => ?_) (casC (fun h0 => ?_) (casC (fun h0 => ?_) (casC (fun h0 => ?_) casN))))
  · have hs2 : s ≠ 3 ∧ s ≠ 5 ∧ s ≠ 6 := by
      first
      | omega
      | (have n1 : (s : Int) ≠ 3 := h0 _ List.mem_cons_self; have n4 : (s : Int) ≠ 5 := h0 _ (List.mem_cons_of_mem _ (List.mem_cons_of_mem _ List.mem_cons_self)); have n6 : (s : Int) ≠ 6 := h0 _ (List.mem_cons_of_mem _ (List.mem_cons_of_mem _ (List.mem_cons_of_mem _ List.mem_cons_self))); omega)
    have e : tlT K s = 12 :: swT K K := by unfold tlT; rw [if_neg (by omega), if_neg (by omega)]
    have e2 : tlV n v K s y = swV n v K K y * 2 := by unfold tlV; rw [if_neg (by omega), if_neg (by omega)]
    refine g_alv f_X0_tells_73 rfl ?_
    refine g_const f_X0_tells_74 ?_
    refine g_as (show (12 : Int) = ((12 : Nat) : Int) from rfl) ?_
    refine g_cv0 hγ (c_begin hG hA 12 (by first | omega | (simp only [List.length_append, List.length_cons, List.length_nil]; omega))) f_X0_tells_76 mo_X0_begin mv_X0_begin (by assumption) rfl rfl (Nat.le_of_ble_eq_true rfl) ⟨by decide, by decide⟩ ⟨Nat.le_refl _, Nat.le_refl _⟩ (fun x S' M1 hq1 => ?_)
    obtain ⟨q1, k1, f1⟩ := hq1
    obtain rfl := q1.symm
    refine g_alv f_X0_tells_79 rfl ?_
    refine g_alv f_X0_tells_80 rfl ?_
    refine g_getI f_X0_tells_81 (by assumption) ?_
    rw [k1.2.2.2]
    refine g_ild f_X0_tells_84 rfl ?_
    refine g_cv1 hγ (c_swears hG k1 hK (s := K) hK y (by first | omega | (simp only [List.length_append, List.length_cons, List.length_nil]; omega))) f_X0_tells_85 mo_X0_swears mv_X0_swears (by assumption) rfl rfl (Nat.le_of_ble_eq_true rfl) ⟨by decide, by decide⟩ ⟨Nat.le_refl _, Nat.le_refl _⟩ (fun x S' M2 hq2 => ?_)
    obtain ⟨rfl, q1, k2, f2⟩ := hq2
    obtain rfl := q1.symm
    refine g_const f_X0_tells_88 ?_
    refine g_imul f_X0_tells_89 ?_
    refine g_reti f_X0_tells_90 rfl ?_ (Nat.zero_le _) (Nat.zero_le _)
    exact ⟨e2.symm, rfl, by rw [e]; simpa [List.append_assoc] using k2, f1.tr f2⟩
  · have e : tlT K s = 40 :: 12 :: (swT K K ++ swT K K) := by unfold tlT; rw [if_pos (by omega)]
    have e2 : tlV n v K s y = swV n v K K y * 2 + swV n v K K 1 := by unfold tlV; rw [if_pos (by omega)]
    refine g_alv f_X0_tells_32 rfl ?_
    refine g_const f_X0_tells_33 ?_
    refine g_as (show (40 : Int) = ((40 : Nat) : Int) from rfl) ?_
    refine g_cv0 hγ (c_begin hG hA 40 (by first | omega | (simp only [List.length_append, List.length_cons, List.length_nil]; omega))) f_X0_tells_35 mo_X0_begin mv_X0_begin (by assumption) rfl rfl (Nat.le_of_ble_eq_true rfl) ⟨by decide, by decide⟩ ⟨Nat.le_refl _, Nat.le_refl _⟩ (fun x S' M1 hq1 => ?_)
    obtain ⟨q1, k1, f1⟩ := hq1
    obtain rfl := q1.symm
    refine g_alv f_X0_tells_38 rfl ?_
    refine g_const f_X0_tells_39 ?_
    refine g_as (show (0 : Int) = ((0 : Nat) : Int) from rfl) ?_
    refine g_ild f_X0_tells_40 rfl ?_
    refine g_cv1 hγ (c_tells0 hG k1 hK (s := 0) (by omega) y (by first | omega | (simp only [List.length_append, List.length_cons, List.length_nil]; omega))) f_X0_tells_41 mo_X0_tells mv_X0_tells (by assumption) rfl rfl (Nat.le_of_ble_eq_true rfl) ⟨by decide, by decide⟩ ⟨Nat.le_refl _, Nat.le_refl _⟩ (fun x S' M2 hq2 => ?_)
    obtain ⟨rfl, q1, k2, f2⟩ := hq2
    obtain rfl := q1.symm
    refine g_alv f_X0_tells_44 rfl ?_
    refine g_alv f_X0_tells_45 rfl ?_
    refine g_getI f_X0_tells_46 (by assumption) ?_
    rw [k2.2.2.2]
    refine g_const f_X0_tells_49 ?_
    refine g_cv1 hγ (c_swears hG k2 hK (s := K) hK 1 (by have := swT_len K K; first | omega | (simp only [List.length_append, List.length_cons, List.length_nil]; omega))) f_X0_tells_50 mo_X0_swears mv_X0_swears (by assumption) rfl rfl (Nat.le_of_ble_eq_true rfl) ⟨by decide, by decide⟩ ⟨Nat.le_refl _, Nat.le_refl _⟩ (fun x S' M3 hq3 => ?_)
    obtain ⟨rfl, q1, k3, f3⟩ := hq3
    obtain rfl := q1.symm
    refine g_iadd f_X0_tells_53 ?_
    refine g_reti f_X0_tells_54 rfl ?_ (Nat.zero_le _) (Nat.zero_le _)
    exact ⟨e2.symm, rfl, by rw [e]; simpa [List.append_assoc] using k3, (f1.tr f2).tr f3⟩
  · have hs2 : s ≠ 3 ∧ s ≠ 5 ∧ s ≠ 6 := by
      first
      | omega
      | (have n1 : (s : Int) ≠ 3 := h0 _ List.mem_cons_self; have n4 : (s : Int) ≠ 5 := h0 _ (List.mem_cons_of_mem _ (List.mem_cons_of_mem _ List.mem_cons_self)); have n6 : (s : Int) ≠ 6 := h0 _ (List.mem_cons_of_mem _ (List.mem_cons_of_mem _ (List.mem_cons_of_mem _ List.mem_cons_self))); omega)
    have e : tlT K s = 12 :: swT K K := by unfold tlT; rw [if_neg (by omega), if_neg (by omega)]
    have e2 : tlV n v K s y = swV n v K K y * 2 := by unfold tlV; rw [if_neg (by omega), if_neg (by omega)]
    refine g_alv f_X0_tells_73 rfl ?_
    refine g_const f_X0_tells_74 ?_
    refine g_as (show (12 : Int) = ((12 : Nat) : Int) from rfl) ?_
    refine g_cv0 hγ (c_begin hG hA 12 (by first | omega | (simp only [List.length_append, List.length_cons, List.length_nil]; omega))) f_X0_tells_76 mo_X0_begin mv_X0_begin (by assumption) rfl rfl (Nat.le_of_ble_eq_true rfl) ⟨by decide, by decide⟩ ⟨Nat.le_refl _, Nat.le_refl _⟩ (fun x S' M1 hq1 => ?_)
    obtain ⟨q1, k1, f1⟩ := hq1
    obtain rfl := q1.symm
    refine g_alv f_X0_tells_79 rfl ?_
    refine g_alv f_X0_tells_80 rfl ?_
    refine g_getI f_X0_tells_81 (by assumption) ?_
    rw [k1.2.2.2]
    refine g_ild f_X0_tells_84 rfl ?_
    refine g_cv1 hγ (c_swears hG k1 hK (s := K) hK y (by first | omega | (simp only [List.length_append, List.length_cons, List.length_nil]; omega))) f_X0_tells_85 mo_X0_swears mv_X0_swears (by assumption) rfl rfl (Nat.le_of_ble_eq_true rfl) ⟨by decide, by decide⟩ ⟨Nat.le_refl _, Nat.le_refl _⟩ (fun x S' M2 hq2 => ?_)
    obtain ⟨rfl, q1, k2, f2⟩ := hq2
    obtain rfl := q1.symm
    refine g_const f_X0_tells_88 ?_
    refine g_imul f_X0_tells_89 ?_
    refine g_reti f_X0_tells_90 rfl ?_ (Nat.zero_le _) (Nat.zero_le _)
    exact ⟨e2.symm, rfl, by rw [e]; simpa [List.append_assoc] using k2, f1.tr f2⟩
  · have e : tlT K s = 60 :: 12 :: swT K K := by unfold tlT; rw [if_neg (by omega), if_pos (by omega)]
    have e2 : tlV n v K s y = swV n v K K (y - (n : Int)) * 2 := by unfold tlV; rw [if_neg (by omega), if_pos (by omega)]
    refine g_alv f_X0_tells_55 rfl ?_
    refine g_const f_X0_tells_56 ?_
    refine g_as (show (60 : Int) = ((60 : Nat) : Int) from rfl) ?_
    refine g_cv0 hγ (c_begin hG hA 60 (by first | omega | (simp only [List.length_append, List.length_cons, List.length_nil]; omega))) f_X0_tells_58 mo_X0_begin mv_X0_begin (by assumption) rfl rfl (Nat.le_of_ble_eq_true rfl) ⟨by decide, by decide⟩ ⟨Nat.le_refl _, Nat.le_refl _⟩ (fun x S' M1 hq1 => ?_)
    obtain ⟨q1, k1, f1⟩ := hq1
    obtain rfl := q1.symm
    refine g_alv f_X0_tells_61 rfl ?_
    refine g_const f_X0_tells_62 ?_
    refine g_as (show (2 : Int) = ((2 : Nat) : Int) from rfl) ?_
    refine g_ild f_X0_tells_63 rfl ?_
    refine g_alv f_X0_tells_64 rfl ?_
    refine g_getI f_X0_tells_65 (by assumption) ?_
    rw [k1.2.1]
    refine g_isub f_X0_tells_68 ?_
    refine g_cv1 hγ (c_tells0 hG k1 hK (s := 2) (by omega) (y - (n : Int)) (by first | omega | (simp only [List.length_append, List.length_cons, List.length_nil]; omega))) f_X0_tells_69 mo_X0_tells mv_X0_tells (by assumption) rfl rfl (Nat.le_of_ble_eq_true rfl) ⟨by decide, by decide⟩ ⟨Nat.le_refl _, Nat.le_refl _⟩ (fun x S' M2 hq2 => ?_)
    obtain ⟨rfl, q1, k2, f2⟩ := hq2
    obtain rfl := q1.symm
    refine g_reti f_X0_tells_72 rfl ?_ (Nat.zero_le _) (Nat.zero_le _)
    exact ⟨e2.symm, rfl, by rw [e]; simpa [List.append_assoc] using k2, f1.tr f2⟩
  · have e : tlT K s = 40 :: 12 :: (swT K K ++ swT K K) := by unfold tlT; rw [if_pos (by omega)]
    have e2 : tlV n v K s y = swV n v K K y * 2 + swV n v K K 1 := by unfold tlV; rw [if_pos (by omega)]
    refine g_alv f_X0_tells_32 rfl ?_
    refine g_const f_X0_tells_33 ?_
    refine g_as (show (40 : Int) = ((40 : Nat) : Int) from rfl) ?_
    refine g_cv0 hγ (c_begin hG hA 40 (by first | omega | (simp only [List.length_append, List.length_cons, List.length_nil]; omega))) f_X0_tells_35 mo_X0_begin mv_X0_begin (by assumption) rfl rfl (Nat.le_of_ble_eq_true rfl) ⟨by decide, by decide⟩ ⟨Nat.le_refl _, Nat.le_refl _⟩ (fun x S' M1 hq1 => ?_)
    obtain ⟨q1, k1, f1⟩ := hq1
    obtain rfl := q1.symm
    refine g_alv f_X0_tells_38 rfl ?_
    refine g_const f_X0_tells_39 ?_
    refine g_as (show (0 : Int) = ((0 : Nat) : Int) from rfl) ?_
    refine g_ild f_X0_tells_40 rfl ?_
    refine g_cv1 hγ (c_tells0 hG k1 hK (s := 0) (by omega) y (by first | omega | (simp only [List.length_append, List.length_cons, List.length_nil]; omega))) f_X0_tells_41 mo_X0_tells mv_X0_tells (by assumption) rfl rfl (Nat.le_of_ble_eq_true rfl) ⟨by decide, by decide⟩ ⟨Nat.le_refl _, Nat.le_refl _⟩ (fun x S' M2 hq2 => ?_)
    obtain ⟨rfl, q1, k2, f2⟩ := hq2
    obtain rfl := q1.symm
    refine g_alv f_X0_tells_44 rfl ?_
    refine g_alv f_X0_tells_45 rfl ?_
    refine g_getI f_X0_tells_46 (by assumption) ?_
    rw [k2.2.2.2]
    refine g_const f_X0_tells_49 ?_
    refine g_cv1 hγ (c_swears hG k2 hK (s := K) hK 1 (by have := swT_len K K; first | omega | (simp only [List.length_append, List.length_cons, List.length_nil]; omega))) f_X0_tells_50 mo_X0_swears mv_X0_swears (by assumption) rfl rfl (Nat.le_of_ble_eq_true rfl) ⟨by decide, by decide⟩ ⟨Nat.le_refl _, Nat.le_refl _⟩ (fun x S' M3 hq3 => ?_)
    obtain ⟨rfl, q1, k3, f3⟩ := hq3
    obtain rfl := q1.symm
    refine g_iadd f_X0_tells_53 ?_
    refine g_reti f_X0_tells_54 rfl ?_ (Nat.zero_le _) (Nat.zero_le _)
    exact ⟨e2.symm, rfl, by rw [e]; simpa [List.append_assoc] using k3, (f1.tr f2).tr f3⟩

set_option maxHeartbeats 4000000 in
set_option maxRecDepth 100000 in
theorem c_perform {Ω : Ow} {S : Sg} {M : Mm} (hG : Gr S) {q p a : Nat} {P : Nat → Nat} (hq : Ob S q 3) (hq9 : q ≠ 9) (hn : M q 0 = (p : Int)) (hR : RepP M q P) (hK : P 0 ≤ 6) (ha : a ≤ 2) (y : Int) : Ct Ω mX0_perform 9 0 0 1 [vr Ω 9, vr Ω q, vi (a : Int), vi y] S M (fun x S' M' => x = actV p (P 1) (P 0) a y ∧ S' = S ∧ trR M' (actT (P 0) a) ∧ afr M M') := by
  refine Ct.mk (by decide) (Nat.le_of_ble_eq_true rfl) [some (vr Ω 9), some (vr Ω q), some (vi (a : Int)), some (vi y)] (by intro q hq; exact hq) (fun γ hγ hz => ?_)
  have o9 := obn hG (r := 9) (c := 0) (by decide +kernel)
  have a10 := arn hG (r := 10) (c := 12) (n := 20) (by decide +kernel)
  have g9 : _ = ((10 : Nat) : Int) := grn hG (k := 9) (j := 0) (by decide)
  refine g_alv f_X0_perform_0 rfl ?_
  refine g_const f_X0_perform_1 ?_
  refine g_putI f_X0_perform_2 rfl (by assumption) ?_
  refine g_alv f_X0_perform_5 rfl ?_
  refine g_alv f_X0_perform_6 rfl ?_
  refine g_getI f_X0_perform_7 (by assumption) ?_
  rw [up_row hq9, hn]
  refine g_putI f_X0_perform_10 rfl (by assumption) ?_
  refine g_alv f_X0_perform_13 rfl ?_
  refine g_alv f_X0_perform_14 rfl ?_
  refine g_getI f_X0_perform_15 (by assumption) ?_
  rw [up_row hq9, up_row hq9, hR.2.1]
  refine g_putI f_X0_perform_18 rfl (by assumption) ?_
  refine g_alv f_X0_perform_21 rfl ?_
  refine g_alv f_X0_perform_22 rfl ?_
  refine g_getI f_X0_perform_23 (by assumption) ?_
  rw [up_row hq9, up_row hq9, up_row hq9, hR.1]
  refine g_putI f_X0_perform_26 rfl (by assumption) ?_
  have hA : actR (up (up (up (up M 9 1 0) 9 2 (p : Int)) 9 3 (P 1 : Int)) 9 4 (P 0 : Int)) p (P 1) (P 0) [] := ⟨⟨by simp [up], Nat.zero_le _, fun i hi => absurd hi (Nat.not_lt_zero _)⟩, by simp [up], by simp [up], by simp [up]⟩
  have hf : afr M (up (up (up (up M 9 1 0) 9 2 (p : Int)) 9 3 (P 1 : Int)) 9 4 (P 0 : Int)) := fun k a c => by rw [up_row a, up_row a, up_row a, up_row a]
  refine g_ild f_X0_perform_29 rfl ?_
  refine g_if_ne f_X0_perform_30 rfl (by omega) (fun h0 => ?_) (fun h0 => ?_)
  · refine g_ild f_X0_perform_43 rfl ?_
    refine g_const f_X0_perform_44 ?_
    refine g_icmp_ne f_X0_perform_45 rfl (by omega) (by omega) (fun h1 => ?_) (fun h1 => ?_)
    · refine g_alv f_X0_perform_60 rfl ?_
      refine g_alv f_X0_perform_61 rfl ?_
      refine g_getI f_X0_perform_62 (by assumption) ?_
      rw [hA.2.2.2]
      refine g_ild f_X0_perform_65 rfl ?_
      refine g_cv1 hγ (c_tells hG hA hK (s := P 0) hK y (by decide)) f_X0_perform_66 mo_X0_tells mv_X0_tells (by assumption) rfl rfl (Nat.le_of_ble_eq_true rfl) ⟨by decide, by decide⟩ ⟨Nat.le_refl _, Nat.le_refl _⟩ (fun x S' M2 hq2 => ?_)
      obtain ⟨rfl, q1, k2, f2⟩ := hq2
      obtain rfl := q1.symm
      obtain rfl : a = 2 := by omega
      refine g_reti f_X0_perform_69 rfl ?_ (Nat.zero_le _) (Nat.zero_le _)
      exact ⟨rfl, rfl, by simpa [actT] using k2.1, hf.tr f2⟩
    · refine g_alv f_X0_perform_48 rfl ?_
      refine g_alv f_X0_perform_49 rfl ?_
      refine g_getI f_X0_perform_50 (by assumption) ?_
      rw [hA.2.2.2]
      refine g_ild f_X0_perform_53 rfl ?_
      refine g_cv1 hγ (c_swears hG hA hK (s := P 0) hK y (by decide)) f_X0_perform_54 mo_X0_swears mv_X0_swears (by assumption) rfl rfl (Nat.le_of_ble_eq_true rfl) ⟨by decide, by decide⟩ ⟨Nat.le_refl _, Nat.le_refl _⟩ (fun x S' M2 hq2 => ?_)
      obtain ⟨rfl, q1, k2, f2⟩ := hq2
      obtain rfl := q1.symm
      obtain rfl : a = 1 := by omega
      refine g_goto f_X0_perform_57 ?_
      refine g_reti f_X0_perform_69 rfl ?_ (Nat.zero_le _) (Nat.zero_le _)
      exact ⟨rfl, rfl, by simpa [actT] using k2.1, hf.tr f2⟩
  · refine g_alv f_X0_perform_33 rfl ?_
    refine g_alv f_X0_perform_34 rfl ?_
    refine g_getI f_X0_perform_35 (by assumption) ?_
    rw [hA.2.2.2]
    refine g_ild f_X0_perform_38 rfl ?_
    refine g_cv1 hγ (c_looks hG hA (s := P 0) hK y (by decide)) f_X0_perform_39 mo_X0_looks mv_X0_looks (by assumption) rfl rfl (Nat.le_of_ble_eq_true rfl) ⟨by decide, by decide⟩ ⟨Nat.le_refl _, Nat.le_refl _⟩ (fun x S' M2 hq2 => ?_)
    obtain ⟨rfl, q1, k2, f2⟩ := hq2
    obtain rfl := q1.symm
    refine g_reti f_X0_perform_42 rfl ?_ (Nat.zero_le _) (Nat.zero_le _)
    obtain rfl : a = 0 := by omega
    exact ⟨rfl, rfl, by simpa [actT] using k2.1, hf.tr f2⟩

set_option maxHeartbeats 4000000 in
set_option maxRecDepth 100000 in
theorem c_forget {Ω : Ow} {S : Sg} {M : Mm} (hG : Gr S) : Ct Ω mX0_forget 1 0 0 0 [vr Ω 9] S M (fun _ S' M' => S' = S ∧ trR M' [] ∧ afr M M') := by
  refine Ct.mk (by decide) (Nat.le_of_ble_eq_true rfl) [some (vr Ω 9)] (by intro q hq; exact hq) (fun γ hγ hz => ?_)
  have o9 := obn hG (r := 9) (c := 0) (by decide +kernel)
  have a10 := arn hG (r := 10) (c := 12) (n := 20) (by decide +kernel)
  have g9 : _ = ((10 : Nat) : Int) := grn hG (k := 9) (j := 0) (by decide)
  refine g_alv f_X0_forget_0 rfl ?_
  refine g_const f_X0_forget_1 ?_
  refine g_putI f_X0_forget_2 rfl (by assumption) ?_
  refine g_ret0 (κ := 0) f_X0_forget_5 rfl 0 ?_ (Nat.zero_le _) (Nat.zero_le _)
  exact ⟨rfl, ⟨by rw [up_s]; rfl, Nat.zero_le _, fun i hi => absurd hi (Nat.not_lt_zero _)⟩, fun k a c => up_row a⟩
