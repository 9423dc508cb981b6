/-! contracts: the model's tapes -/
set_option maxHeartbeats 4000000 in
set_option maxRecDepth 100000 in
theorem c_mnar {Ω : Ow} {S : Sg} {M : Mm} (so v : Int) (hs : 0 ≤ so ∧ so ≤ 4) (hv : rgL v) : Ct Ω mX10_kept 1 0 0 2 [vi so, vl v] S M (fun x S' M' => x = narK so v ∧ S' = S ∧ M' = M) := by
  refine Ct.mk (by decide) (Nat.le_of_ble_eq_true rfl) [some (vi so), some (vl v), none] (by intro q hq; exact hq) (fun γ hγ hz => ?_)
  have hb1 := i2bI_rg v
  have hb2 := i2sI_rg v
  have hb3 := wI_rg v
  have hl := lcm_0 (a := v) (b := 0)
  have hl2 := lcm_rg (a := v) (b := 0)
  refine g_ild f_X10_kept_0 rfl ?_
  refine g_tab f_X10_kept_1 (by omega) (fun ck => ?_) (casC (fun ck => ?_) (casC (fun ck => ?_) (casC (fun ck => ?_) (casC (fun ck => ?_) casN))))
  · refine g_lld f_X10_kept_48 rfl ?_
    refine g_lconst (z := 0) f_X10_kept_49 rfl ?_
    refine g_lcmp f_X10_kept_50 (by omega) (by omega) ?_
    refine g_if_eq f_X10_kept_51 rfl (by omega) (fun hz0 => ?_) (fun hz0 => ?_)
    · refine g_lconst (z := 0) f_X10_kept_58 rfl ?_
      refine g_retl f_X10_kept_59 rfl ?_ (Nat.zero_le _) (Nat.zero_le _)
      refine ⟨?_, rfl, rfl⟩
      unfold narK
      have q0 : so ≠ 0 := ck (0, 32) (by simp)
      have q1 : so ≠ 1 := ck (1, 37) (by simp)
      have q2 : so ≠ 2 := ck (2, 42) (by simp)
      have q3 : so ≠ 3 := ck (3, 46) (by simp)
      rw [if_neg q0, if_neg q1, if_neg q2, if_pos (by omega)]
      first
      | (rw [if_pos (by omega)])
      | (rw [if_neg (by omega)])
    · refine g_lconst (z := 1) f_X10_kept_54 rfl ?_
      refine g_goto f_X10_kept_55 ?_
      refine g_retl f_X10_kept_59 rfl ?_ (Nat.zero_le _) (Nat.zero_le _)
      refine ⟨?_, rfl, rfl⟩
      unfold narK
      have q0 : so ≠ 0 := ck (0, 32) (by simp)
      have q1 : so ≠ 1 := ck (1, 37) (by simp)
      have q2 : so ≠ 2 := ck (2, 42) (by simp)
      have q3 : so ≠ 3 := ck (3, 46) (by simp)
      rw [if_neg q0, if_neg q1, if_neg q2, if_pos (by omega)]
      first
      | (rw [if_pos (by omega)])
      | (rw [if_neg (by omega)])
  · refine g_lld f_X10_kept_32 rfl ?_
    refine g_l2i f_X10_kept_33 ?_
    refine g_i2b f_X10_kept_34 ?_
    refine g_i2l f_X10_kept_35 (by omega) ?_
    refine g_retl f_X10_kept_36 rfl ?_ (Nat.zero_le _) (Nat.zero_le _)
    refine ⟨?_, rfl, rfl⟩
    unfold narK
    rw [if_pos (by omega)]
  · refine g_lld f_X10_kept_37 rfl ?_
    refine g_l2i f_X10_kept_38 ?_
    refine g_i2s f_X10_kept_39 ?_
    refine g_i2l f_X10_kept_40 (by omega) ?_
    refine g_retl f_X10_kept_41 rfl ?_ (Nat.zero_le _) (Nat.zero_le _)
    refine ⟨?_, rfl, rfl⟩
    unfold narK
    rw [if_neg (by omega), if_pos (by omega)]
  · refine g_lld f_X10_kept_42 rfl ?_
    refine g_l2i f_X10_kept_43 ?_
    refine g_asv (vi_wI v) ?_
    refine g_i2l f_X10_kept_44 (by omega) ?_
    refine g_retl f_X10_kept_45 rfl ?_ (Nat.zero_le _) (Nat.zero_le _)
    refine ⟨?_, rfl, rfl⟩
    unfold narK
    rw [if_neg (by omega), if_neg (by omega), if_pos (by omega)]
  · refine g_lld f_X10_kept_46 rfl ?_
    refine g_retl f_X10_kept_47 rfl ?_ (Nat.zero_le _) (Nat.zero_le _)
    refine ⟨?_, rfl, rfl⟩
    unfold narK
    rw [if_neg (by omega), if_neg (by omega), if_neg (by omega), if_neg (by omega)]

set_option maxHeartbeats 4000000 in
set_option maxRecDepth 100000 in
theorem m_tape {Ω : Ow} {S : Sg} {M : Mm} {s : Wt} (hG : Gr S) (hW : RepM M s) (hO0 : okW s) (t k n : Int) (ht : rg t) (hk0 : rg k) (hn : rg n) : Ct Ω mX10_tape 3 0 0 1 [vr Ω 87, vi t, vi k, vi n] S M (fun x S' M' => x = (a_tape s t k n).1 ∧ S' = S ∧ RepM M' (a_tape s t k n).2 ∧ mdl M M') := by
  refine Ct.mk (by decide) (Nat.le_of_ble_eq_true rfl) [some (vr Ω 87), some (vi t), some (vi k), some (vi n), none] (by intro q hq; exact hq) (fun γ hγ hz => ?_)
  have hX := hW.mx hO0
  have hO : okZ (wz s) := hO0.1.1
  have hD : zd (wz s) ≤ 9999 := hO0.1.2.1
  obtain ⟨x1, x2, x3, x4, x5⟩ := id hX
  obtain ⟨z1, z2, z3, z4, z5⟩ := id hO
  obtain ⟨lw, d1, d2, d3, d4, d5, d6, d7, d8⟩ := hW.dr hO0
  obtain ⟨lz, l5, l10, l8⟩ := hO0.1.len
  have sS : okSeen (wn s).2.1 := hO0.1.2.2.1
  have sP : okPlan (zc (wz s)) (wn s).2.2.1 := hO0.1.2.2.2.1
  have sB : okBook (wn s).2.2.2 := hO0.1.2.2.2.2.1
  have hTp := hW.tp
  have hOp := hO0.2.2.2.2
  have o87 := om87 hG
  have gM41 : _ = ((113 : Nat) : Int) := grn hG (k := 87) (j := 41) (by decide)
  have aM113 := arn hG (r := 113) (c := 12) (n := 6) (by decide +kernel)
  have gM42 : _ = ((114 : Nat) : Int) := grn hG (k := 87) (j := 42) (by decide)
  have aM114 := arn hG (r := 114) (c := 12) (n := 6) (by decide +kernel)
  have gM43 : _ = ((115 : Nat) : Int) := grn hG (k := 87) (j := 43) (by decide)
  have aM115 := arn hG (r := 115) (c := 13) (n := 360) (by decide +kernel)
  refine g_ild f_X10_tape_0 rfl ?_
  refine g_cs1 hγ (c_misTape t (by omega)) f_X10_tape_1 mo_X10_isTape mt_X10_isTape rfl (Nat.le_of_ble_eq_true rfl) ⟨by decide, by decide⟩ ⟨Nat.le_refl _, Nat.le_refl _⟩ (fun x S' M' hq9 => ?_)
  obtain ⟨hx, q1, q2⟩ := hq9
  obtain rfl := q1.symm
  obtain rfl := q2.symm
  by_cases im : 0 ≤ t ∧ t ≤ 5
  · rw [if_pos im] at hx
    subst hx
    obtain ⟨m, rfl⟩ := Int.eq_ofNat_of_zero_le im.1
    have hm6 : m < 6 := by omega
    obtain ⟨km1, km2, km3⟩ := id (hTp m hm6)
    obtain ⟨⟨jm1, jm2⟩, jm3, jm4⟩ := id (hOp m hm6)
    refine g_if_ne f_X10_tape_4 rfl (by omega) (fun hx => ?_) (fun hx => ?_)
    · refine g_ild f_X10_tape_9 rfl ?_
      refine g_const f_X10_tape_10 ?_
      refine g_const f_X10_tape_11 ?_
      refine g_cs1 hγ (c_mwithin k (-1) 4 (by omega) (by omega) (by omega)) f_X10_tape_12 mo_X10_within mt_X10_within rfl (Nat.le_of_ble_eq_true rfl) ⟨by decide, by decide⟩ ⟨Nat.le_refl _, Nat.le_refl _⟩ (fun x S' M' hq9 => ?_)
      obtain ⟨hx, q1, q2⟩ := hq9
      obtain rfl := q1.symm
      obtain rfl := q2.symm
      by_cases hk4 : (-1) ≤ k ∧ k ≤ 4
      · rw [if_pos hk4] at hx
        subst hx
        refine g_if_eq f_X10_tape_15 rfl (by omega) (fun hx => ?_) (fun hx => ?_)
        · exact absurd hx (by omega)
        refine g_ild f_X10_tape_18 rfl ?_
        refine g_if_lt f_X10_tape_19 rfl (by omega) (fun hk0b => ?_) (fun hk0b => ?_)
        · refine g_ild f_X10_tape_31 rfl ?_
          refine g_if_lt f_X10_tape_32 rfl (by omega) (fun hk1 => ?_) (fun hk1 => ?_)
          · refine g_alv f_X10_tape_42 rfl ?_
            refine g_getR f_X10_tape_43 (by assumption) (by assumption) ?_
            refine g_ild f_X10_tape_46 rfl ?_
            refine g_ild f_X10_tape_47 rfl ?_
            refine g_ias f_X10_tape_48 (by assumption) m (by omega) (by omega) ?_
            refine g_alv f_X10_tape_49 rfl ?_
            refine g_getR f_X10_tape_50 (by assumption) (by assumption) ?_
            refine g_ild f_X10_tape_53 rfl ?_
            refine g_ild f_X10_tape_54 rfl ?_
            refine g_if_ge f_X10_tape_55 rfl (by omega) (fun hk2 => ?_) (fun hk2 => ?_)
            · refine g_ild f_X10_tape_62 rfl ?_
              refine g_ias f_X10_tape_63 (by assumption) m (by omega) (by omega) ?_
              refine g_const f_X10_tape_64 ?_
              refine g_ist_4 f_X10_tape_65 (by decide) c1i ?_
              obtain ⟨n, rfl⟩ := Int.eq_ofNat_of_zero_le (show 0 ≤ n by omega)
              have lpN : ∀ (f j : Nat) (M1 : Mm), j + f = 60 → (∀ r, r ≠ 115 → M1 r = (up (up M 113 m k) 114 m (n : Int)) r) → (∀ l, l < j → M1 115 (60 * m + l) = 0) → (∀ x, (x < 60 * m ∨ 60 * m + 60 ≤ x) → M1 115 x = M 115 x) → Go γ Ω mX10_tape (Zm γ Ω 1 0 0 (fun x S' M' => x = (a_tape s (m : Int) k n).1 ∧ S' = S ∧ RepM M' (a_tape s (m : Int) k n).2 ∧ mdl M M')) 0 0 S M1 67 [some (vr Ω 87), some (vi (m : Int)), some (vi k), some (vi n), some (vi (j : Int))] [] := by
                intro f
                induction f with
                | zero =>
                  intro j M1 hf e1 e2 e3
                  have hj : j = 60 := by omega
                  subst hj
                  refine g_ild f_X10_tape_67 rfl ?_
                  refine g_const f_X10_tape_69 ?_
                  refine g_icmp_ge f_X10_tape_71 rfl (by omega) (by omega) (fun hc => ?_) (fun hc => ?_)
                  · refine g_const f_X10_tape_93 ?_
                    refine g_reti f_X10_tape_94 rfl ?_ (Nat.zero_le _) (Nat.zero_le _)
                    have e : a_tape s (m : Int) k n = (1, putK s m (k, n, fun _ => 0)) := (if_neg (fun h => h im)).trans ((if_neg (by omega)).trans ((if_neg (by omega)).trans (if_neg (by omega))))
                    rw [e]
                    obtain ⟨h9, h8⟩ := hW.tape (i := m) (q := (k, n, fun _ => 0)) hO0 (fun k a b c => by rw [e1 k c, up_row b, up_row a]) ⟨by rw [e1 113 (by decide), up_row (by decide), up_s], by have h7 := congrFun (e1 114 (by decide)) m; rw [up_s] at h7; exact h7, fun j hj => e2 j hj⟩ (fun l hl hne => ⟨by rw [e1 113 (by decide), up_row (by decide), up_n (by omega)], by rw [e1 114 (by decide), up_n (by omega), up_row (by decide)], fun j hj => e3 _ (by omega)⟩)
                    exact ⟨rfl, rfl, h9, h8⟩
                  · exact absurd (by omega) hc
                | succ f ih =>
                  intro j M1 hf e1 e2 e3
                  have g115 : S.2 87 43 = ((115 : Nat) : Int) := gM43
                  refine g_ild f_X10_tape_67 rfl ?_
                  refine g_const f_X10_tape_69 ?_
                  refine g_icmp_ge f_X10_tape_71 rfl (by omega) (by omega) (fun hc => ?_) (fun hc => ?_)
                  · exact absurd hc (by omega)
                  refine g_alv f_X10_tape_74 rfl ?_
                  refine g_getR f_X10_tape_75 (by assumption) (by assumption) ?_
                  refine g_const f_X10_tape_78 ?_
                  refine g_ild f_X10_tape_80 rfl ?_
                  refine g_imul f_X10_tape_81 ?_
                  refine g_ild f_X10_tape_82 rfl ?_
                  refine g_iadd f_X10_tape_84 ?_
                  refine g_lconst (z := 0) f_X10_tape_85 rfl ?_
                  refine g_las f_X10_tape_86 (by assumption) (60 * m + j) (by omega) (by omega) ?_
                  refine g_inc_4 f_X10_tape_87 (by decide) c1i ?_
                  refine g_goto f_X10_tape_90 ?_
                  refine ih (j + 1) _ (by omega) (fun r hr => by rw [up_row hr]; exact e1 r hr) (fun l hl => ?_) (fun x hx => by rw [up_n (by omega)]; exact e3 x hx)
                  by_cases q : l = j
                  · subst q; rw [up_s]
                  · rw [up_n (by omega)]; exact e2 l (by omega)
              refine lpN 60 0 _ rfl (fun r hr => rfl) (fun l hl => absurd hl (Nat.not_lt_zero _)) (fun x hx => by rw [up_row (by decide), up_row (by decide)])
            · refine g_const f_X10_tape_58 ?_
              refine g_goto f_X10_tape_59 ?_
              refine g_ias f_X10_tape_63 (by assumption) m (by omega) (by omega) ?_
              refine g_const f_X10_tape_64 ?_
              refine g_ist_4 f_X10_tape_65 (by decide) c1i ?_
              obtain rfl : k = -1 := by omega
              have lpE : ∀ (f j : Nat) (M1 : Mm), j + f = 60 → (∀ r, r ≠ 115 → M1 r = (up (up M 113 m (-1)) 114 m (0 : Int)) r) → (∀ l, l < j → M1 115 (60 * m + l) = 0) → (∀ x, (x < 60 * m ∨ 60 * m + 60 ≤ x) → M1 115 x = M 115 x) → Go γ Ω mX10_tape (Zm γ Ω 1 0 0 (fun x S' M' => x = (a_tape s (m : Int) (-1) n).1 ∧ S' = S ∧ RepM M' (a_tape s (m : Int) (-1) n).2 ∧ mdl M M')) 0 0 S M1 67 [some (vr Ω 87), some (vi (m : Int)), some (vi (-1)), some (vi n), some (vi (j : Int))] [] := by
                intro f
                induction f with
                | zero =>
                  intro j M1 hf e1 e2 e3
                  have hj : j = 60 := by omega
                  subst hj
                  refine g_ild f_X10_tape_67 rfl ?_
                  refine g_const f_X10_tape_69 ?_
                  refine g_icmp_ge f_X10_tape_71 rfl (by omega) (by omega) (fun hc => ?_) (fun hc => ?_)
                  · refine g_const f_X10_tape_93 ?_
                    refine g_reti f_X10_tape_94 rfl ?_ (Nat.zero_le _) (Nat.zero_le _)
                    have e : a_tape s (m : Int) (-1) n = (1, putK s m ((-1), 0, fun _ => 0)) := (if_neg (fun h => h im)).trans (if_pos rfl)
                    rw [e]
                    obtain ⟨h9, h8⟩ := hW.tape (i := m) (q := ((-1), 0, fun _ => 0)) hO0 (fun k a b c => by rw [e1 k c, up_row b, up_row a]) ⟨by rw [e1 113 (by decide), up_row (by decide), up_s], by have h7 := congrFun (e1 114 (by decide)) m; rw [up_s] at h7; exact h7, fun j hj => e2 j hj⟩ (fun l hl hne => ⟨by rw [e1 113 (by decide), up_row (by decide), up_n (by omega)], by rw [e1 114 (by decide), up_n (by omega), up_row (by decide)], fun j hj => e3 _ (by omega)⟩)
                    exact ⟨rfl, rfl, h9, h8⟩
                  · exact absurd (by omega) hc
                | succ f ih =>
                  intro j M1 hf e1 e2 e3
                  have g115 : S.2 87 43 = ((115 : Nat) : Int) := gM43
                  refine g_ild f_X10_tape_67 rfl ?_
                  refine g_const f_X10_tape_69 ?_
                  refine g_icmp_ge f_X10_tape_71 rfl (by omega) (by omega) (fun hc => ?_) (fun hc => ?_)
                  · exact absurd hc (by omega)
                  refine g_alv f_X10_tape_74 rfl ?_
                  refine g_getR f_X10_tape_75 (by assumption) (by assumption) ?_
                  refine g_const f_X10_tape_78 ?_
                  refine g_ild f_X10_tape_80 rfl ?_
                  refine g_imul f_X10_tape_81 ?_
                  refine g_ild f_X10_tape_82 rfl ?_
                  refine g_iadd f_X10_tape_84 ?_
                  refine g_lconst (z := 0) f_X10_tape_85 rfl ?_
                  refine g_las f_X10_tape_86 (by assumption) (60 * m + j) (by omega) (by omega) ?_
                  refine g_inc_4 f_X10_tape_87 (by decide) c1i ?_
                  refine g_goto f_X10_tape_90 ?_
                  refine ih (j + 1) _ (by omega) (fun r hr => by rw [up_row hr]; exact e1 r hr) (fun l hl => ?_) (fun x hx => by rw [up_n (by omega)]; exact e3 x hx)
                  by_cases q : l = j
                  · subst q; rw [up_s]
                  · rw [up_n (by omega)]; exact e2 l (by omega)
              refine lpE 60 0 _ rfl (fun r hr => rfl) (fun l hl => absurd hl (Nat.not_lt_zero _)) (fun x hx => by rw [up_row (by decide), up_row (by decide)])
          · refine g_ild f_X10_tape_35 rfl ?_
            refine g_if_ge f_X10_tape_36 rfl (by omega) (fun hn0 => ?_) (fun hn0 => ?_)
            · refine g_alv f_X10_tape_42 rfl ?_
              refine g_getR f_X10_tape_43 (by assumption) (by assumption) ?_
              refine g_ild f_X10_tape_46 rfl ?_
              refine g_ild f_X10_tape_47 rfl ?_
              refine g_ias f_X10_tape_48 (by assumption) m (by omega) (by omega) ?_
              refine g_alv f_X10_tape_49 rfl ?_
              refine g_getR f_X10_tape_50 (by assumption) (by assumption) ?_
              refine g_ild f_X10_tape_53 rfl ?_
              refine g_ild f_X10_tape_54 rfl ?_
              refine g_if_ge f_X10_tape_55 rfl (by omega) (fun hk2 => ?_) (fun hk2 => ?_)
              · refine g_ild f_X10_tape_62 rfl ?_
                refine g_ias f_X10_tape_63 (by assumption) m (by omega) (by omega) ?_
                refine g_const f_X10_tape_64 ?_
                refine g_ist_4 f_X10_tape_65 (by decide) c1i ?_
                obtain ⟨n, rfl⟩ := Int.eq_ofNat_of_zero_le (show 0 ≤ n by omega)
                have lpN : ∀ (f j : Nat) (M1 : Mm), j + f = 60 → (∀ r, r ≠ 115 → M1 r = (up (up M 113 m k) 114 m (n : Int)) r) → (∀ l, l < j → M1 115 (60 * m + l) = 0) → (∀ x, (x < 60 * m ∨ 60 * m + 60 ≤ x) → M1 115 x = M 115 x) → Go γ Ω mX10_tape (Zm γ Ω 1 0 0 (fun x S' M' => x = (a_tape s (m : Int) k n).1 ∧ S' = S ∧ RepM M' (a_tape s (m : Int) k n).2 ∧ mdl M M')) 0 0 S M1 67 [some (vr Ω 87), some (vi (m : Int)), some (vi k), some (vi n), some (vi (j : Int))] [] := by
                  intro f
                  induction f with
                  | zero =>
                    intro j M1 hf e1 e2 e3
                    have hj : j = 60 := by omega
                    subst hj
                    refine g_ild f_X10_tape_67 rfl ?_
                    refine g_const f_X10_tape_69 ?_
                    refine g_icmp_ge f_X10_tape_71 rfl (by omega) (by omega) (fun hc => ?_) (fun hc => ?_)
                    · refine g_const f_X10_tape_93 ?_
                      refine g_reti f_X10_tape_94 rfl ?_ (Nat.zero_le _) (Nat.zero_le _)
                      have e : a_tape s (m : Int) k n = (1, putK s m (k, n, fun _ => 0)) := (if_neg (fun h => h im)).trans ((if_neg (by omega)).trans ((if_neg (by omega)).trans (if_neg (by omega))))
                      rw [e]
                      obtain ⟨h9, h8⟩ := hW.tape (i := m) (q := (k, n, fun _ => 0)) hO0 (fun k a b c => by rw [e1 k c, up_row b, up_row a]) ⟨by rw [e1 113 (by decide), up_row (by decide), up_s], by have h7 := congrFun (e1 114 (by decide)) m; rw [up_s] at h7; exact h7, fun j hj => e2 j hj⟩ (fun l hl hne => ⟨by rw [e1 113 (by decide), up_row (by decide), up_n (by omega)], by rw [e1 114 (by decide), up_n (by omega), up_row (by decide)], fun j hj => e3 _ (by omega)⟩)
                      exact ⟨rfl, rfl, h9, h8⟩
                    · exact absurd (by omega) hc
                  | succ f ih =>
                    intro j M1 hf e1 e2 e3
                    have g115 : S.2 87 43 = ((115 : Nat) : Int) := gM43
                    refine g_ild f_X10_tape_67 rfl ?_
                    refine g_const f_X10_tape_69 ?_
                    refine g_icmp_ge f_X10_tape_71 rfl (by omega) (by omega) (fun hc => ?_) (fun hc => ?_)
                    · exact absurd hc (by omega)
                    refine g_alv f_X10_tape_74 rfl ?_
                    refine g_getR f_X10_tape_75 (by assumption) (by assumption) ?_
                    refine g_const f_X10_tape_78 ?_
                    refine g_ild f_X10_tape_80 rfl ?_
                    refine g_imul f_X10_tape_81 ?_
                    refine g_ild f_X10_tape_82 rfl ?_
                    refine g_iadd f_X10_tape_84 ?_
                    refine g_lconst (z := 0) f_X10_tape_85 rfl ?_
                    refine g_las f_X10_tape_86 (by assumption) (60 * m + j) (by omega) (by omega) ?_
                    refine g_inc_4 f_X10_tape_87 (by decide) c1i ?_
                    refine g_goto f_X10_tape_90 ?_
                    refine ih (j + 1) _ (by omega) (fun r hr => by rw [up_row hr]; exact e1 r hr) (fun l hl => ?_) (fun x hx => by rw [up_n (by omega)]; exact e3 x hx)
                    by_cases q : l = j
                    · subst q; rw [up_s]
                    · rw [up_n (by omega)]; exact e2 l (by omega)
                refine lpN 60 0 _ rfl (fun r hr => rfl) (fun l hl => absurd hl (Nat.not_lt_zero _)) (fun x hx => by rw [up_row (by decide), up_row (by decide)])
              · refine g_const f_X10_tape_58 ?_
                refine g_goto f_X10_tape_59 ?_
                refine g_ias f_X10_tape_63 (by assumption) m (by omega) (by omega) ?_
                refine g_const f_X10_tape_64 ?_
                refine g_ist_4 f_X10_tape_65 (by decide) c1i ?_
                obtain rfl : k = -1 := by omega
                have lpE : ∀ (f j : Nat) (M1 : Mm), j + f = 60 → (∀ r, r ≠ 115 → M1 r = (up (up M 113 m (-1)) 114 m (0 : Int)) r) → (∀ l, l < j → M1 115 (60 * m + l) = 0) → (∀ x, (x < 60 * m ∨ 60 * m + 60 ≤ x) → M1 115 x = M 115 x) → Go γ Ω mX10_tape (Zm γ Ω 1 0 0 (fun x S' M' => x = (a_tape s (m : Int) (-1) n).1 ∧ S' = S ∧ RepM M' (a_tape s (m : Int) (-1) n).2 ∧ mdl M M')) 0 0 S M1 67 [some (vr Ω 87), some (vi (m : Int)), some (vi (-1)), some (vi n), some (vi (j : Int))] [] := by
                  intro f
                  induction f with
                  | zero =>
                    intro j M1 hf e1 e2 e3
                    have hj : j = 60 := by omega
                    subst hj
                    refine g_ild f_X10_tape_67 rfl ?_
                    refine g_const f_X10_tape_69 ?_
                    refine g_icmp_ge f_X10_tape_71 rfl (by omega) (by omega) (fun hc => ?_) (fun hc => ?_)
                    · refine g_const f_X10_tape_93 ?_
                      refine g_reti f_X10_tape_94 rfl ?_ (Nat.zero_le _) (Nat.zero_le _)
                      have e : a_tape s (m : Int) (-1) n = (1, putK s m ((-1), 0, fun _ => 0)) := (if_neg (fun h => h im)).trans (if_pos rfl)
                      rw [e]
                      obtain ⟨h9, h8⟩ := hW.tape (i := m) (q := ((-1), 0, fun _ => 0)) hO0 (fun k a b c => by rw [e1 k c, up_row b, up_row a]) ⟨by rw [e1 113 (by decide), up_row (by decide), up_s], by have h7 := congrFun (e1 114 (by decide)) m; rw [up_s] at h7; exact h7, fun j hj => e2 j hj⟩ (fun l hl hne => ⟨by rw [e1 113 (by decide), up_row (by decide), up_n (by omega)], by rw [e1 114 (by decide), up_n (by omega), up_row (by decide)], fun j hj => e3 _ (by omega)⟩)
                      exact ⟨rfl, rfl, h9, h8⟩
                    · exact absurd (by omega) hc
                  | succ f ih =>
                    intro j M1 hf e1 e2 e3
                    have g115 : S.2 87 43 = ((115 : Nat) : Int) := gM43
                    refine g_ild f_X10_tape_67 rfl ?_
                    refine g_const f_X10_tape_69 ?_
                    refine g_icmp_ge f_X10_tape_71 rfl (by omega) (by omega) (fun hc => ?_) (fun hc => ?_)
                    · exact absurd hc (by omega)
                    refine g_alv f_X10_tape_74 rfl ?_
                    refine g_getR f_X10_tape_75 (by assumption) (by assumption) ?_
                    refine g_const f_X10_tape_78 ?_
                    refine g_ild f_X10_tape_80 rfl ?_
                    refine g_imul f_X10_tape_81 ?_
                    refine g_ild f_X10_tape_82 rfl ?_
                    refine g_iadd f_X10_tape_84 ?_
                    refine g_lconst (z := 0) f_X10_tape_85 rfl ?_
                    refine g_las f_X10_tape_86 (by assumption) (60 * m + j) (by omega) (by omega) ?_
                    refine g_inc_4 f_X10_tape_87 (by decide) c1i ?_
                    refine g_goto f_X10_tape_90 ?_
                    refine ih (j + 1) _ (by omega) (fun r hr => by rw [up_row hr]; exact e1 r hr) (fun l hl => ?_) (fun x hx => by rw [up_n (by omega)]; exact e3 x hx)
                    by_cases q : l = j
                    · subst q; rw [up_s]
                    · rw [up_n (by omega)]; exact e2 l (by omega)
                refine lpE 60 0 _ rfl (fun r hr => rfl) (fun l hl => absurd hl (Nat.not_lt_zero _)) (fun x hx => by rw [up_row (by decide), up_row (by decide)])
            · refine g_const f_X10_tape_39 ?_
              refine g_reti f_X10_tape_41 rfl ?_ (Nat.zero_le _) (Nat.zero_le _)
              have e : a_tape s (m : Int) k n = (-14, s) := (if_neg (fun h => h im)).trans ((if_neg (by omega)).trans ((if_neg (by omega)).trans (if_pos (by omega))))
              rw [e]
              exact ⟨rfl, rfl, hW, mdl.rf⟩
        · refine g_ild f_X10_tape_22 rfl ?_
          refine g_const f_X10_tape_23 ?_
          refine g_icmp_le f_X10_tape_25 rfl (by omega) (by omega) (fun hn60 => ?_) (fun hn60 => ?_)
          · refine g_ild f_X10_tape_31 rfl ?_
            refine g_if_lt f_X10_tape_32 rfl (by omega) (fun hk1 => ?_) (fun hk1 => ?_)
            · refine g_alv f_X10_tape_42 rfl ?_
              refine g_getR f_X10_tape_43 (by assumption) (by assumption) ?_
              refine g_ild f_X10_tape_46 rfl ?_
              refine g_ild f_X10_tape_47 rfl ?_
              refine g_ias f_X10_tape_48 (by assumption) m (by omega) (by omega) ?_
              refine g_alv f_X10_tape_49 rfl ?_
              refine g_getR f_X10_tape_50 (by assumption) (by assumption) ?_
              refine g_ild f_X10_tape_53 rfl ?_
              refine g_ild f_X10_tape_54 rfl ?_
              refine g_if_ge f_X10_tape_55 rfl (by omega) (fun hk2 => ?_) (fun hk2 => ?_)
              · refine g_ild f_X10_tape_62 rfl ?_
                refine g_ias f_X10_tape_63 (by assumption) m (by omega) (by omega) ?_
                refine g_const f_X10_tape_64 ?_
                refine g_ist_4 f_X10_tape_65 (by decide) c1i ?_
                obtain ⟨n, rfl⟩ := Int.eq_ofNat_of_zero_le (show 0 ≤ n by omega)
                have lpN : ∀ (f j : Nat) (M1 : Mm), j + f = 60 → (∀ r, r ≠ 115 → M1 r = (up (up M 113 m k) 114 m (n : Int)) r) → (∀ l, l < j → M1 115 (60 * m + l) = 0) → (∀ x, (x < 60 * m ∨ 60 * m + 60 ≤ x) → M1 115 x = M 115 x) → Go γ Ω mX10_tape (Zm γ Ω 1 0 0 (fun x S' M' => x = (a_tape s (m : Int) k n).1 ∧ S' = S ∧ RepM M' (a_tape s (m : Int) k n).2 ∧ mdl M M')) 0 0 S M1 67 [some (vr Ω 87), some (vi (m : Int)), some (vi k), some (vi n), some (vi (j : Int))] [] := by
                  intro f
                  induction f with
                  | zero =>
                    intro j M1 hf e1 e2 e3
                    have hj : j = 60 := by omega
                    subst hj
                    refine g_ild f_X10_tape_67 rfl ?_
                    refine g_const f_X10_tape_69 ?_
                    refine g_icmp_ge f_X10_tape_71 rfl (by omega) (by omega) (fun hc => ?_) (fun hc => ?_)
                    · refine g_const f_X10_tape_93 ?_
                      refine g_reti f_X10_tape_94 rfl ?_ (Nat.zero_le _) (Nat.zero_le _)
                      have e : a_tape s (m : Int) k n = (1, putK s m (k, n, fun _ => 0)) := (if_neg (fun h => h im)).trans ((if_neg (by omega)).trans ((if_neg (by omega)).trans (if_neg (by omega))))
                      rw [e]
                      obtain ⟨h9, h8⟩ := hW.tape (i := m) (q := (k, n, fun _ => 0)) hO0 (fun k a b c => by rw [e1 k c, up_row b, up_row a]) ⟨by rw [e1 113 (by decide), up_row (by decide), up_s], by have h7 := congrFun (e1 114 (by decide)) m; rw [up_s] at h7; exact h7, fun j hj => e2 j hj⟩ (fun l hl hne => ⟨by rw [e1 113 (by decide), up_row (by decide), up_n (by omega)], by rw [e1 114 (by decide), up_n (by omega), up_row (by decide)], fun j hj => e3 _ (by omega)⟩)
                      exact ⟨rfl, rfl, h9, h8⟩
                    · exact absurd (by omega) hc
                  | succ f ih =>
                    intro j M1 hf e1 e2 e3
                    have g115 : S.2 87 43 = ((115 : Nat) : Int) := gM43
                    refine g_ild f_X10_tape_67 rfl ?_
                    refine g_const f_X10_tape_69 ?_
                    refine g_icmp_ge f_X10_tape_71 rfl (by omega) (by omega) (fun hc => ?_) (fun hc => ?_)
                    · exact absurd hc (by omega)
                    refine g_alv f_X10_tape_74 rfl ?_
                    refine g_getR f_X10_tape_75 (by assumption) (by assumption) ?_
                    refine g_const f_X10_tape_78 ?_
                    refine g_ild f_X10_tape_80 rfl ?_
                    refine g_imul f_X10_tape_81 ?_
                    refine g_ild f_X10_tape_82 rfl ?_
                    refine g_iadd f_X10_tape_84 ?_
                    refine g_lconst (z := 0) f_X10_tape_85 rfl ?_
                    refine g_las f_X10_tape_86 (by assumption) (60 * m + j) (by omega) (by omega) ?_
                    refine g_inc_4 f_X10_tape_87 (by decide) c1i ?_
                    refine g_goto f_X10_tape_90 ?_
                    refine ih (j + 1) _ (by omega) (fun r hr => by rw [up_row hr]; exact e1 r hr) (fun l hl => ?_) (fun x hx => by rw [up_n (by omega)]; exact e3 x hx)
                    by_cases q : l = j
                    · subst q; rw [up_s]
                    · rw [up_n (by omega)]; exact e2 l (by omega)
                refine lpN 60 0 _ rfl (fun r hr => rfl) (fun l hl => absurd hl (Nat.not_lt_zero _)) (fun x hx => by rw [up_row (by decide), up_row (by decide)])
              · refine g_const f_X10_tape_58 ?_
                refine g_goto f_X10_tape_59 ?_
                refine g_ias f_X10_tape_63 (by assumption) m (by omega) (by omega) ?_
                refine g_const f_X10_tape_64 ?_
                refine g_ist_4 f_X10_tape_65 (by decide) c1i ?_
                obtain rfl : k = -1 := by omega
                have lpE : ∀ (f j : Nat) (M1 : Mm), j + f = 60 → (∀ r, r ≠ 115 → M1 r = (up (up M 113 m (-1)) 114 m (0 : Int)) r) → (∀ l, l < j → M1 115 (60 * m + l) = 0) → (∀ x, (x < 60 * m ∨ 60 * m + 60 ≤ x) → M1 115 x = M 115 x) → Go γ Ω mX10_tape (Zm γ Ω 1 0 0 (fun x S' M' => x = (a_tape s (m : Int) (-1) n).1 ∧ S' = S ∧ RepM M' (a_tape s (m : Int) (-1) n).2 ∧ mdl M M')) 0 0 S M1 67 [some (vr Ω 87), some (vi (m : Int)), some (vi (-1)), some (vi n), some (vi (j : Int))] [] := by
                  intro f
                  induction f with
                  | zero =>
                    intro j M1 hf e1 e2 e3
                    have hj : j = 60 := by omega
                    subst hj
                    refine g_ild f_X10_tape_67 rfl ?_
                    refine g_const f_X10_tape_69 ?_
                    refine g_icmp_ge f_X10_tape_71 rfl (by omega) (by omega) (fun hc => ?_) (fun hc => ?_)
                    · refine g_const f_X10_tape_93 ?_
                      refine g_reti f_X10_tape_94 rfl ?_ (Nat.zero_le _) (Nat.zero_le _)
                      have e : a_tape s (m : Int) (-1) n = (1, putK s m ((-1), 0, fun _ => 0)) := (if_neg (fun h => h im)).trans (if_pos rfl)
                      rw [e]
                      obtain ⟨h9, h8⟩ := hW.tape (i := m) (q := ((-1), 0, fun _ => 0)) hO0 (fun k a b c => by rw [e1 k c, up_row b, up_row a]) ⟨by rw [e1 113 (by decide), up_row (by decide), up_s], by have h7 := congrFun (e1 114 (by decide)) m; rw [up_s] at h7; exact h7, fun j hj => e2 j hj⟩ (fun l hl hne => ⟨by rw [e1 113 (by decide), up_row (by decide), up_n (by omega)], by rw [e1 114 (by decide), up_n (by omega), up_row (by decide)], fun j hj => e3 _ (by omega)⟩)
                      exact ⟨rfl, rfl, h9, h8⟩
                    · exact absurd (by omega) hc
                  | succ f ih =>
                    intro j M1 hf e1 e2 e3
                    have g115 : S.2 87 43 = ((115 : Nat) : Int) := gM43
                    refine g_ild f_X10_tape_67 rfl ?_
                    refine g_const f_X10_tape_69 ?_
                    refine g_icmp_ge f_X10_tape_71 rfl (by omega) (by omega) (fun hc => ?_) (fun hc => ?_)
                    · exact absurd hc (by omega)
                    refine g_alv f_X10_tape_74 rfl ?_
                    refine g_getR f_X10_tape_75 (by assumption) (by assumption) ?_
                    refine g_const f_X10_tape_78 ?_
                    refine g_ild f_X10_tape_80 rfl ?_
                    refine g_imul f_X10_tape_81 ?_
                    refine g_ild f_X10_tape_82 rfl ?_
                    refine g_iadd f_X10_tape_84 ?_
                    refine g_lconst (z := 0) f_X10_tape_85 rfl ?_
                    refine g_las f_X10_tape_86 (by assumption) (60 * m + j) (by omega) (by omega) ?_
                    refine g_inc_4 f_X10_tape_87 (by decide) c1i ?_
                    refine g_goto f_X10_tape_90 ?_
                    refine ih (j + 1) _ (by omega) (fun r hr => by rw [up_row hr]; exact e1 r hr) (fun l hl => ?_) (fun x hx => by rw [up_n (by omega)]; exact e3 x hx)
                    by_cases q : l = j
                    · subst q; rw [up_s]
                    · rw [up_n (by omega)]; exact e2 l (by omega)
                refine lpE 60 0 _ rfl (fun r hr => rfl) (fun l hl => absurd hl (Nat.not_lt_zero _)) (fun x hx => by rw [up_row (by decide), up_row (by decide)])
            · refine g_ild f_X10_tape_35 rfl ?_
              refine g_if_ge f_X10_tape_36 rfl (by omega) (fun hn0 => ?_) (fun hn0 => ?_)
              · refine g_alv f_X10_tape_42 rfl ?_
                refine g_getR f_X10_tape_43 (by assumption) (by assumption) ?_
                refine g_ild f_X10_tape_46 rfl ?_
                refine g_ild f_X10_tape_47 rfl ?_
                refine g_ias f_X10_tape_48 (by assumption) m (by omega) (by omega) ?_
                refine g_alv f_X10_tape_49 rfl ?_
                refine g_getR f_X10_tape_50 (by assumption) (by assumption) ?_
                refine g_ild f_X10_tape_53 rfl ?_
                refine g_ild f_X10_tape_54 rfl ?_
                refine g_if_ge f_X10_tape_55 rfl (by omega) (fun hk2 => ?_) (fun hk2 => ?_)
                · refine g_ild f_X10_tape_62 rfl ?_
                  refine g_ias f_X10_tape_63 (by assumption) m (by omega) (by omega) ?_
                  refine g_const f_X10_tape_64 ?_
                  refine g_ist_4 f_X10_tape_65 (by decide) c1i ?_
                  obtain ⟨n, rfl⟩ := Int.eq_ofNat_of_zero_le (show 0 ≤ n by omega)
                  have lpN : ∀ (f j : Nat) (M1 : Mm), j + f = 60 → (∀ r, r ≠ 115 → M1 r = (up (up M 113 m k) 114 m (n : Int)) r) → (∀ l, l < j → M1 115 (60 * m + l) = 0) → (∀ x, (x < 60 * m ∨ 60 * m + 60 ≤ x) → M1 115 x = M 115 x) → Go γ Ω mX10_tape (Zm γ Ω 1 0 0 (fun x S' M' => x = (a_tape s (m : Int) k n).1 ∧ S' = S ∧ RepM M' (a_tape s (m : Int) k n).2 ∧ mdl M M')) 0 0 S M1 67 [some (vr Ω 87), some (vi (m : Int)), some (vi k), some (vi n), some (vi (j : Int))] [] := by
                    intro f
                    induction f with
                    | zero =>
                      intro j M1 hf e1 e2 e3
                      have hj : j = 60 := by omega
                      subst hj
                      refine g_ild f_X10_tape_67 rfl ?_
                      refine g_const f_X10_tape_69 ?_
                      refine g_icmp_ge f_X10_tape_71 rfl (by omega) (by omega) (fun hc => ?_) (fun hc => ?_)
                      · refine g_const f_X10_tape_93 ?_
                        refine g_reti f_X10_tape_94 rfl ?_ (Nat.zero_le _) (Nat.zero_le _)
                        have e : a_tape s (m : Int) k n = (1, putK s m (k, n, fun _ => 0)) := (if_neg (fun h => h im)).trans ((if_neg (by omega)).trans ((if_neg (by omega)).trans (if_neg (by omega))))
                        rw [e]
                        obtain ⟨h9, h8⟩ := hW.tape (i := m) (q := (k, n, fun _ => 0)) hO0 (fun k a b c => by rw [e1 k c, up_row b, up_row a]) ⟨by rw [e1 113 (by decide), up_row (by decide), up_s], by have h7 := congrFun (e1 114 (by decide)) m; rw [up_s] at h7; exact h7, fun j hj => e2 j hj⟩ (fun l hl hne => ⟨by rw [e1 113 (by decide), up_row (by decide), up_n (by omega)], by rw [e1 114 (by decide), up_n (by omega), up_row (by decide)], fun j hj => e3 _ (by omega)⟩)
                        exact ⟨rfl, rfl, h9, h8⟩
                      · exact absurd (by omega) hc
                    | succ f ih =>
                      intro j M1 hf e1 e2 e3
                      have g115 : S.2 87 43 = ((115 : Nat) : Int) := gM43
                      refine g_ild f_X10_tape_67 rfl ?_
                      refine g_const f_X10_tape_69 ?_
                      refine g_icmp_ge f_X10_tape_71 rfl (by omega) (by omega) (fun hc => ?_) (fun hc => ?_)
                      · exact absurd hc (by omega)
                      refine g_alv f_X10_tape_74 rfl ?_
                      refine g_getR f_X10_tape_75 (by assumption) (by assumption) ?_
                      refine g_const f_X10_tape_78 ?_
                      refine g_ild f_X10_tape_80 rfl ?_
                      refine g_imul f_X10_tape_81 ?_
                      refine g_ild f_X10_tape_82 rfl ?_
                      refine g_iadd f_X10_tape_84 ?_
                      refine g_lconst (z := 0) f_X10_tape_85 rfl ?_
                      refine g_las f_X10_tape_86 (by assumption) (60 * m + j) (by omega) (by omega) ?_
                      refine g_inc_4 f_X10_tape_87 (by decide) c1i ?_
                      refine g_goto f_X10_tape_90 ?_
                      refine ih (j + 1) _ (by omega) (fun r hr => by rw [up_row hr]; exact e1 r hr) (fun l hl => ?_) (fun x hx => by rw [up_n (by omega)]; exact e3 x hx)
                      by_cases q : l = j
                      · subst q; rw [up_s]
                      · rw [up_n (by omega)]; exact e2 l (by omega)
                  refine lpN 60 0 _ rfl (fun r hr => rfl) (fun l hl => absurd hl (Nat.not_lt_zero _)) (fun x hx => by rw [up_row (by decide), up_row (by decide)])
                · refine g_const f_X10_tape_58 ?_
                  refine g_goto f_X10_tape_59 ?_
                  refine g_ias f_X10_tape_63 (by assumption) m (by omega) (by omega) ?_
                  refine g_const f_X10_tape_64 ?_
                  refine g_ist_4 f_X10_tape_65 (by decide) c1i ?_
                  obtain rfl : k = -1 := by omega
                  have lpE : ∀ (f j : Nat) (M1 : Mm), j + f = 60 → (∀ r, r ≠ 115 → M1 r = (up (up M 113 m (-1)) 114 m (0 : Int)) r) → (∀ l, l < j → M1 115 (60 * m + l) = 0) → (∀ x, (x < 60 * m ∨ 60 * m + 60 ≤ x) → M1 115 x = M 115 x) → Go γ Ω mX10_tape (Zm γ Ω 1 0 0 (fun x S' M' => x = (a_tape s (m : Int) (-1) n).1 ∧ S' = S ∧ RepM M' (a_tape s (m : Int) (-1) n).2 ∧ mdl M M')) 0 0 S M1 67 [some (vr Ω 87), some (vi (m : Int)), some (vi (-1)), some (vi n), some (vi (j : Int))] [] := by
                    intro f
                    induction f with
                    | zero =>
                      intro j M1 hf e1 e2 e3
                      have hj : j = 60 := by omega
                      subst hj
                      refine g_ild f_X10_tape_67 rfl ?_
                      refine g_const f_X10_tape_69 ?_
                      refine g_icmp_ge f_X10_tape_71 rfl (by omega) (by omega) (fun hc => ?_) (fun hc => ?_)
                      · refine g_const f_X10_tape_93 ?_
                        refine g_reti f_X10_tape_94 rfl ?_ (Nat.zero_le _) (Nat.zero_le _)
                        have e : a_tape s (m : Int) (-1) n = (1, putK s m ((-1), 0, fun _ => 0)) := (if_neg (fun h => h im)).trans (if_pos rfl)
                        rw [e]
                        obtain ⟨h9, h8⟩ := hW.tape (i := m) (q := ((-1), 0, fun _ => 0)) hO0 (fun k a b c => by rw [e1 k c, up_row b, up_row a]) ⟨by rw [e1 113 (by decide), up_row (by decide), up_s], by have h7 := congrFun (e1 114 (by decide)) m; rw [up_s] at h7; exact h7, fun j hj => e2 j hj⟩ (fun l hl hne => ⟨by rw [e1 113 (by decide), up_row (by decide), up_n (by omega)], by rw [e1 114 (by decide), up_n (by omega), up_row (by decide)], fun j hj => e3 _ (by omega)⟩)
                        exact ⟨rfl, rfl, h9, h8⟩
                      · exact absurd (by omega) hc
                    | succ f ih =>
                      intro j M1 hf e1 e2 e3
                      have g115 : S.2 87 43 = ((115 : Nat) : Int) := gM43
                      refine g_ild f_X10_tape_67 rfl ?_
                      refine g_const f_X10_tape_69 ?_
                      refine g_icmp_ge f_X10_tape_71 rfl (by omega) (by omega) (fun hc => ?_) (fun hc => ?_)
                      · exact absurd hc (by omega)
                      refine g_alv f_X10_tape_74 rfl ?_
                      refine g_getR f_X10_tape_75 (by assumption) (by assumption) ?_
                      refine g_const f_X10_tape_78 ?_
                      refine g_ild f_X10_tape_80 rfl ?_
                      refine g_imul f_X10_tape_81 ?_
                      refine g_ild f_X10_tape_82 rfl ?_
                      refine g_iadd f_X10_tape_84 ?_
                      refine g_lconst (z := 0) f_X10_tape_85 rfl ?_
                      refine g_las f_X10_tape_86 (by assumption) (60 * m + j) (by omega) (by omega) ?_
                      refine g_inc_4 f_X10_tape_87 (by decide) c1i ?_
                      refine g_goto f_X10_tape_90 ?_
                      refine ih (j + 1) _ (by omega) (fun r hr => by rw [up_row hr]; exact e1 r hr) (fun l hl => ?_) (fun x hx => by rw [up_n (by omega)]; exact e3 x hx)
                      by_cases q : l = j
                      · subst q; rw [up_s]
                      · rw [up_n (by omega)]; exact e2 l (by omega)
                  refine lpE 60 0 _ rfl (fun r hr => rfl) (fun l hl => absurd hl (Nat.not_lt_zero _)) (fun x hx => by rw [up_row (by decide), up_row (by decide)])
              · refine g_const f_X10_tape_39 ?_
                refine g_reti f_X10_tape_41 rfl ?_ (Nat.zero_le _) (Nat.zero_le _)
                have e : a_tape s (m : Int) k n = (-14, s) := (if_neg (fun h => h im)).trans ((if_neg (by omega)).trans ((if_neg (by omega)).trans (if_pos (by omega))))
                rw [e]
                exact ⟨rfl, rfl, hW, mdl.rf⟩
          · refine g_const f_X10_tape_28 ?_
            refine g_reti f_X10_tape_30 rfl ?_ (Nat.zero_le _) (Nat.zero_le _)
            have e : a_tape s (m : Int) k n = (-2, s) := (if_neg (fun h => h im)).trans ((if_neg (by omega)).trans (if_pos (by first | exact Or.inr (by omega) | exact Or.inl (by omega))))
            rw [e]
            exact ⟨rfl, rfl, hW, mdl.rf⟩
      · rw [if_neg hk4] at hx
        subst hx
        refine g_if_eq f_X10_tape_15 rfl (by omega) (fun hx => ?_) (fun hx => ?_)
        · refine g_const f_X10_tape_28 ?_
          refine g_reti f_X10_tape_30 rfl ?_ (Nat.zero_le _) (Nat.zero_le _)
          have e : a_tape s (m : Int) k n = (-2, s) := (if_neg (fun h => h im)).trans ((if_neg (by omega)).trans (if_pos (by first | exact Or.inr (by omega) | exact Or.inl (by omega))))
          rw [e]
          exact ⟨rfl, rfl, hW, mdl.rf⟩
        · exact absurd (by omega) hx
    · exact absurd (by omega) hx
  · rw [if_neg im] at hx
    subst hx
    refine g_if_ne f_X10_tape_4 rfl (by omega) (fun hx => ?_) (fun hx => ?_)
    · exact absurd hx (by omega)
    refine g_const f_X10_tape_7 ?_
    refine g_reti f_X10_tape_8 rfl ?_ (Nat.zero_le _) (Nat.zero_le _)
    have e : a_tape s t k n = (-1, s) := if_pos im
    rw [e]
    exact ⟨rfl, rfl, hW, mdl.rf⟩

set_option maxHeartbeats 4000000 in
set_option maxRecDepth 100000 in
theorem m_item {Ω : Ow} {S : Sg} {M : Mm} {s : Wt} (hG : Gr S) (hW : RepM M s) (hO0 : okW s) (t i v : Int) (ht : rg t) (hi : rg i) (hv : rgL v) : Ct Ω mX10_item 3 0 0 1 [vr Ω 87, vi t, vi i, vl v] S M (fun x S' M' => x = (a_item s t i v).1 ∧ S' = S ∧ RepM M' (a_item s t i v).2 ∧ mdl M M') := by
  refine Ct.mk (by decide) (Nat.le_of_ble_eq_true rfl) [some (vr Ω 87), some (vi t), some (vi i), some (vl v), none] (by intro q hq; exact hq) (fun γ hγ hz => ?_)
  have hX := hW.mx hO0
  have hO : okZ (wz s) := hO0.1.1
  have hD : zd (wz s) ≤ 9999 := hO0.1.2.1
  obtain ⟨x1, x2, x3, x4, x5⟩ := id hX
  obtain ⟨z1, z2, z3, z4, z5⟩ := id hO
  obtain ⟨lw, d1, d2, d3, d4, d5, d6, d7, d8⟩ := hW.dr hO0
  obtain ⟨lz, l5, l10, l8⟩ := hO0.1.len
  have sS : okSeen (wn s).2.1 := hO0.1.2.2.1
  have sP : okPlan (zc (wz s)) (wn s).2.2.1 := hO0.1.2.2.2.1
  have sB : okBook (wn s).2.2.2 := hO0.1.2.2.2.2.1
  have hTp := hW.tp
  have hOp := hO0.2.2.2.2
  have o87 := om87 hG
  have gM41 : _ = ((113 : Nat) : Int) := grn hG (k := 87) (j := 41) (by decide)
  have aM113 := arn hG (r := 113) (c := 12) (n := 6) (by decide +kernel)
  have gM42 : _ = ((114 : Nat) : Int) := grn hG (k := 87) (j := 42) (by decide)
  have aM114 := arn hG (r := 114) (c := 12) (n := 6) (by decide +kernel)
  have gM43 : _ = ((115 : Nat) : Int) := grn hG (k := 87) (j := 43) (by decide)
  have aM115 := arn hG (r := 115) (c := 13) (n := 360) (by decide +kernel)
  refine g_ild f_X10_item_0 rfl ?_
  refine g_cs1 hγ (c_misTape t (by omega)) f_X10_item_1 mo_X10_isTape mt_X10_isTape rfl (Nat.le_of_ble_eq_true rfl) ⟨by decide, by decide⟩ ⟨Nat.le_refl _, Nat.le_refl _⟩ (fun x S' M' hq9 => ?_)
  obtain ⟨hx, q1, q2⟩ := hq9
  obtain rfl := q1.symm
  obtain rfl := q2.symm
  by_cases im : 0 ≤ t ∧ t ≤ 5
  · rw [if_pos im] at hx
    subst hx
    obtain ⟨m, rfl⟩ := Int.eq_ofNat_of_zero_le im.1
    have hm6 : m < 6 := by omega
    obtain ⟨km1, km2, km3⟩ := id (hTp m hm6)
    obtain ⟨⟨jm1, jm2⟩, jm3, jm4⟩ := id (hOp m hm6)
    refine g_if_ne f_X10_item_4 rfl (by omega) (fun hx => ?_) (fun hx => ?_)
    · refine g_alv f_X10_item_9 rfl ?_
      refine g_getR f_X10_item_10 (by assumption) (by assumption) ?_
      refine g_ild f_X10_item_13 rfl ?_
      refine g_ial f_X10_item_14 (by assumption) m (by omega) (by omega) ?_
      rw [km1]
      refine g_if_ge f_X10_item_15 rfl (by omega) (fun hs => ?_) (fun hs => ?_)
      · refine g_ild f_X10_item_21 rfl ?_
        refine g_const f_X10_item_22 ?_
        refine g_alv f_X10_item_23 rfl ?_
        refine g_getR f_X10_item_24 (by assumption) (by assumption) ?_
        refine g_ild f_X10_item_27 rfl ?_
        refine g_ial f_X10_item_28 (by assumption) m (by omega) (by omega) ?_
        rw [km2]
        refine g_const f_X10_item_29 ?_
        refine g_isub f_X10_item_30 ?_
        refine g_cs1 hγ (c_mwithin i 0 (((wp s m).2.1 : Int) - 1) (by omega) (by omega) (by omega)) f_X10_item_31 mo_X10_within mt_X10_within rfl (Nat.le_of_ble_eq_true rfl) ⟨by decide, by decide⟩ ⟨Nat.le_refl _, Nat.le_refl _⟩ (fun x S' M' hq9 => ?_)
        obtain ⟨hx, q1, q2⟩ := hq9
        obtain rfl := q1.symm
        obtain rfl := q2.symm
        by_cases hr : 0 ≤ i ∧ i ≤ (((wp s m).2.1 : Int) - 1)
        · rw [if_pos hr] at hx
          subst hx
          refine g_if_ne f_X10_item_34 rfl (by omega) (fun hx => ?_) (fun hx => ?_)
          · obtain ⟨j, rfl⟩ := Int.eq_ofNat_of_zero_le hr.1
            have hj : j < 60 := by omega
            refine g_alv f_X10_item_40 rfl ?_
            refine g_getR f_X10_item_41 (by assumption) (by assumption) ?_
            refine g_const f_X10_item_44 ?_
            refine g_ild f_X10_item_46 rfl ?_
            refine g_imul f_X10_item_47 ?_
            refine g_ild f_X10_item_48 rfl ?_
            refine g_iadd f_X10_item_49 ?_
            refine g_alv f_X10_item_50 rfl ?_
            refine g_getR f_X10_item_51 (by assumption) (by assumption) ?_
            refine g_ild f_X10_item_54 rfl ?_
            refine g_ial f_X10_item_55 (by assumption) m (by omega) (by omega) ?_
            rw [km1]
            refine g_lld f_X10_item_56 rfl ?_
            refine g_cs2 hγ (c_mnar (wp s m).1 v (by omega) hv) f_X10_item_57 mo_X10_kept mt_X10_kept rfl (Nat.le_of_ble_eq_true rfl) ⟨by decide, by decide⟩ ⟨Nat.le_refl _, Nat.le_refl _⟩ (fun x S' M' hq2 => ?_)
            obtain ⟨rfl, q1, q2⟩ := hq2
            obtain rfl := q1.symm
            obtain rfl := q2.symm
            refine g_las f_X10_item_60 (by assumption) (60 * m + j) (by omega) (by omega) ?_
            refine g_const f_X10_item_61 ?_
            refine g_reti f_X10_item_62 rfl ?_ (Nat.zero_le _) (Nat.zero_le _)
            have e : a_item s (m : Int) (j : Int) v = (1, putK s m ((wp s m).1, (wp s m).2.1, fun k => if k = j then narK (wp s m).1 v else (wp s m).2.2 k)) := (if_neg (fun h => h im)).trans ((if_neg (by show ¬ (wp s m).1 = -1; omega)).trans (if_neg (fun h => h (by show hasK (wp s m) (j : Int) 1; exact ⟨by omega, by decide, by omega⟩))))
            rw [e]
            have hq : ∀ l, l < 60 → up M 115 (60 * m + j) (narK (wp s m).1 v) 115 (60 * m + l) = (if l = j then narK (wp s m).1 v else (wp s m).2.2 l) := fun l hl => by
              by_cases q : l = j
              · subst q; rw [up_s, if_pos rfl]
              · rw [up_n (by omega), if_neg q]; exact km3 l hl
            obtain ⟨h9, h8⟩ := hW.tape (M' := up M 115 (60 * m + j) (narK (wp s m).1 v)) (i := m) (q := ((wp s m).1, (wp s m).2.1, fun k => if k = j then narK (wp s m).1 v else (wp s m).2.2 k)) hO0 (fun k a b c => by rw [up_row c]) ⟨by rw [up_row (by decide)]; exact km1, by rw [up_row (by decide)]; exact km2, hq⟩ (fun l hl hne => ⟨by rw [up_row (by decide)], by rw [up_row (by decide)], fun x hx => by rw [up_n (by omega)]⟩)
            exact ⟨rfl, rfl, h9, h8⟩
          · exact absurd (by omega) hx
        · rw [if_neg hr] at hx
          subst hx
          refine g_if_ne f_X10_item_34 rfl (by omega) (fun hx => ?_) (fun hx => ?_)
          · exact absurd hx (by omega)
          refine g_const f_X10_item_37 ?_
          refine g_reti f_X10_item_39 rfl ?_ (Nat.zero_le _) (Nat.zero_le _)
          have e : a_item s (m : Int) i v = (-13, s) := (if_neg (fun h => h im)).trans ((if_neg (by show ¬ (wp s m).1 = -1; omega)).trans (if_pos (by show ¬ hasK (wp s m) i 1; intro h; exact hr ⟨h.1, by omega⟩)))
          rw [e]
          exact ⟨rfl, rfl, hW, mdl.rf⟩
      · refine g_const f_X10_item_18 ?_
        refine g_reti f_X10_item_20 rfl ?_ (Nat.zero_le _) (Nat.zero_le _)
        have e : a_item s (m : Int) i v = (-11, s) := (if_neg (fun h => h im)).trans (if_pos (by show (wp s m).1 = -1; omega))
        rw [e]
        exact ⟨rfl, rfl, hW, mdl.rf⟩
    · exact absurd (by omega) hx
  · rw [if_neg im] at hx
    subst hx
    refine g_if_ne f_X10_item_4 rfl (by omega) (fun hx => ?_) (fun hx => ?_)
    · exact absurd hx (by omega)
    refine g_const f_X10_item_7 ?_
    refine g_reti f_X10_item_8 rfl ?_ (Nat.zero_le _) (Nat.zero_le _)
    have e : a_item s t i v = (-1, s) := if_pos im
    rw [e]
    exact ⟨rfl, rfl, hW, mdl.rf⟩

set_option maxHeartbeats 4000000 in
set_option maxRecDepth 100000 in
theorem m_read {Ω : Ow} {S : Sg} {M : Mm} {s : Wt} (hG : Gr S) (hW : RepM M s) (hO0 : okW s) (t i : Int) (ht : rg t) (hi : rg i) : Ct Ω mX10_read 3 0 0 2 [vr Ω 87, vi t, vi i] S M (fun x S' M' => x = a_read s t i ∧ S' = S ∧ RepM M' s ∧ mdl M M') := by
  refine Ct.mk (by decide) (Nat.le_of_ble_eq_true rfl) [some (vr Ω 87), some (vi t), some (vi i)] (by intro q hq; exact hq) (fun γ hγ hz => ?_)
  have hX := hW.mx hO0
  have hO : okZ (wz s) := hO0.1.1
  have hD : zd (wz s) ≤ 9999 := hO0.1.2.1
  obtain ⟨x1, x2, x3, x4, x5⟩ := id hX
  obtain ⟨z1, z2, z3, z4, z5⟩ := id hO
  obtain ⟨lw, d1, d2, d3, d4, d5, d6, d7, d8⟩ := hW.dr hO0
  obtain ⟨lz, l5, l10, l8⟩ := hO0.1.len
  have sS : okSeen (wn s).2.1 := hO0.1.2.2.1
  have sP : okPlan (zc (wz s)) (wn s).2.2.1 := hO0.1.2.2.2.1
  have sB : okBook (wn s).2.2.2 := hO0.1.2.2.2.2.1
  have hTp := hW.tp
  have hOp := hO0.2.2.2.2
  have o87 := om87 hG
  have gM41 : _ = ((113 : Nat) : Int) := grn hG (k := 87) (j := 41) (by decide)
  have aM113 := arn hG (r := 113) (c := 12) (n := 6) (by decide +kernel)
  have gM42 : _ = ((114 : Nat) : Int) := grn hG (k := 87) (j := 42) (by decide)
  have aM114 := arn hG (r := 114) (c := 12) (n := 6) (by decide +kernel)
  have gM43 : _ = ((115 : Nat) : Int) := grn hG (k := 87) (j := 43) (by decide)
  have aM115 := arn hG (r := 115) (c := 13) (n := 360) (by decide +kernel)
  refine g_ild f_X10_read_0 rfl ?_
  refine g_cs1 hγ (c_misTape t (by omega)) f_X10_read_1 mo_X10_isTape mt_X10_isTape rfl (Nat.le_of_ble_eq_true rfl) ⟨by decide, by decide⟩ ⟨Nat.le_refl _, Nat.le_refl _⟩ (fun x S' M' hq9 => ?_)
  obtain ⟨hx, q1, q2⟩ := hq9
  obtain rfl := q1.symm
  obtain rfl := q2.symm
  by_cases im : 0 ≤ t ∧ t ≤ 5
  · rw [if_pos im] at hx
    subst hx
    obtain ⟨m, rfl⟩ := Int.eq_ofNat_of_zero_le im.1
    have hm6 : m < 6 := by omega
    obtain ⟨km1, km2, km3⟩ := id (hTp m hm6)
    obtain ⟨⟨jm1, jm2⟩, jm3, jm4⟩ := id (hOp m hm6)
    refine g_if_eq f_X10_read_4 rfl (by omega) (fun hx => ?_) (fun hx => ?_)
    · exact absurd hx (by omega)
    refine g_alv f_X10_read_7 rfl ?_
    refine g_getR f_X10_read_8 (by assumption) (by assumption) ?_
    refine g_ild f_X10_read_11 rfl ?_
    refine g_ial f_X10_read_12 (by assumption) m (by omega) (by omega) ?_
    rw [km1]
    refine g_if_lt f_X10_read_13 rfl (by omega) (fun hs => ?_) (fun hs => ?_)
    · refine g_ldc2 (z := -9223372036854775808) f_X10_read_46 (ldcL (by decide) w_1261) ?_
      refine g_retl f_X10_read_49 rfl ?_ (Nat.zero_le _) (Nat.zero_le _)
      first
      | (have e : a_read s t i = -9223372036854775808 := if_neg (by intro h; exact im h.1); rw [e]; exact ⟨rfl, rfl, hW, mdl.rf⟩)
      | (have e : a_read s (m : Int) i = -9223372036854775808 := if_neg (by intro h; exact h.2.1 (by show (wp s m).1 = -1; omega)); rw [e]; exact ⟨rfl, rfl, hW, mdl.rf⟩)
      | (have e : a_read s (m : Int) i = -9223372036854775808 := if_neg (by intro h; have h2 : hasK (wp s m) i 1 := h.2.2; exact hr ⟨h2.1, by omega⟩); rw [e]; exact ⟨rfl, rfl, hW, mdl.rf⟩)
    · refine g_ild f_X10_read_16 rfl ?_
      refine g_const f_X10_read_17 ?_
      refine g_alv f_X10_read_18 rfl ?_
      refine g_getR f_X10_read_19 (by assumption) (by assumption) ?_
      refine g_ild f_X10_read_22 rfl ?_
      refine g_ial f_X10_read_23 (by assumption) m (by omega) (by omega) ?_
      rw [km2]
      refine g_const f_X10_read_24 ?_
      refine g_isub f_X10_read_25 ?_
      refine g_cs1 hγ (c_mwithin i 0 (((wp s m).2.1 : Int) - 1) (by omega) (by omega) (by omega)) f_X10_read_26 mo_X10_within mt_X10_within rfl (Nat.le_of_ble_eq_true rfl) ⟨by decide, by decide⟩ ⟨Nat.le_refl _, Nat.le_refl _⟩ (fun x S' M' hq9 => ?_)
      obtain ⟨hx, q1, q2⟩ := hq9
      obtain rfl := q1.symm
      obtain rfl := q2.symm
      by_cases hr : 0 ≤ i ∧ i ≤ (((wp s m).2.1 : Int) - 1)
      · rw [if_pos hr] at hx
        subst hx
        refine g_if_eq f_X10_read_29 rfl (by omega) (fun hx => ?_) (fun hx => ?_)
        · exact absurd hx (by omega)
        obtain ⟨j, rfl⟩ := Int.eq_ofNat_of_zero_le hr.1
        have hj : j < 60 := by omega
        refine g_alv f_X10_read_32 rfl ?_
        refine g_getR f_X10_read_33 (by assumption) (by assumption) ?_
        refine g_const f_X10_read_36 ?_
        refine g_ild f_X10_read_38 rfl ?_
        refine g_imul f_X10_read_39 ?_
        refine g_ild f_X10_read_40 rfl ?_
        refine g_iadd f_X10_read_41 ?_
        refine g_lal f_X10_read_42 (by assumption) (60 * m + j) (by omega) (by omega) ?_
        rw [km3 j hj]
        refine g_goto f_X10_read_43 ?_
        refine g_retl f_X10_read_49 rfl ?_ (Nat.zero_le _) (Nat.zero_le _)
        have e : a_read s (m : Int) (j : Int) = (wp s m).2.2 j := if_pos ⟨im, by show (wp s m).1 ≠ -1; omega, by show hasK (wp s m) (j : Int) 1; exact ⟨by omega, by decide, by omega⟩⟩
        rw [e]
        exact ⟨rfl, rfl, hW, mdl.rf⟩
      · rw [if_neg hr] at hx
        subst hx
        refine g_if_eq f_X10_read_29 rfl (by omega) (fun hx => ?_) (fun hx => ?_)
        · refine g_ldc2 (z := -9223372036854775808) f_X10_read_46 (ldcL (by decide) w_1261) ?_
          refine g_retl f_X10_read_49 rfl ?_ (Nat.zero_le _) (Nat.zero_le _)
          first
          | (have e : a_read s t i = -9223372036854775808 := if_neg (by intro h; exact im h.1); rw [e]; exact ⟨rfl, rfl, hW, mdl.rf⟩)
          | (have e : a_read s (m : Int) i = -9223372036854775808 := if_neg (by intro h; exact h.2.1 (by show (wp s m).1 = -1; omega)); rw [e]; exact ⟨rfl, rfl, hW, mdl.rf⟩)
          | (have e : a_read s (m : Int) i = -9223372036854775808 := if_neg (by intro h; have h2 : hasK (wp s m) i 1 := h.2.2; exact hr ⟨h2.1, by omega⟩); rw [e]; exact ⟨rfl, rfl, hW, mdl.rf⟩)
        · exact absurd (by omega) hx
  · rw [if_neg im] at hx
    subst hx
    refine g_if_eq f_X10_read_4 rfl (by omega) (fun hx => ?_) (fun hx => ?_)
    · refine g_ldc2 (z := -9223372036854775808) f_X10_read_46 (ldcL (by decide) w_1261) ?_
      refine g_retl f_X10_read_49 rfl ?_ (Nat.zero_le _) (Nat.zero_le _)
      first
      | (have e : a_read s t i = -9223372036854775808 := if_neg (by intro h; exact im h.1); rw [e]; exact ⟨rfl, rfl, hW, mdl.rf⟩)
      | (have e : a_read s (m : Int) i = -9223372036854775808 := if_neg (by intro h; exact h.2.1 (by show (wp s m).1 = -1; omega)); rw [e]; exact ⟨rfl, rfl, hW, mdl.rf⟩)
      | (have e : a_read s (m : Int) i = -9223372036854775808 := if_neg (by intro h; have h2 : hasK (wp s m) i 1 := h.2.2; exact hr ⟨h2.1, by omega⟩); rw [e]; exact ⟨rfl, rfl, hW, mdl.rf⟩)
    · exact absurd (by omega) hx

set_option maxHeartbeats 4000000 in
set_option maxRecDepth 100000 in
theorem m_judge {Ω : Ow} {S : Sg} {M : Mm} {s : Wt} (hG : Gr S) (hW : RepM M s) (hO0 : okW s) (t i : Int) (ht : rg t) (hi : rg i) : Ct Ω mX10_judge 7 0 0 1 [vr Ω 87, vi t, vi i] S M (fun x S' M' => x = a_judge s t i ∧ S' = S ∧ RepM M' s ∧ mdl M M') := by
  refine Ct.mk (by decide) (Nat.le_of_ble_eq_true rfl) [some (vr Ω 87), some (vi t), some (vi i), none] (by intro q hq; exact hq) (fun γ hγ hz => ?_)
  have hX := hW.mx hO0
  have hO : okZ (wz s) := hO0.1.1
  have hD : zd (wz s) ≤ 9999 := hO0.1.2.1
  obtain ⟨x1, x2, x3, x4, x5⟩ := id hX
  obtain ⟨z1, z2, z3, z4, z5⟩ := id hO
  obtain ⟨lw, d1, d2, d3, d4, d5, d6, d7, d8⟩ := hW.dr hO0
  obtain ⟨lz, l5, l10, l8⟩ := hO0.1.len
  have sS : okSeen (wn s).2.1 := hO0.1.2.2.1
  have sP : okPlan (zc (wz s)) (wn s).2.2.1 := hO0.1.2.2.2.1
  have sB : okBook (wn s).2.2.2 := hO0.1.2.2.2.2.1
  have hTp := hW.tp
  have hOp := hO0.2.2.2.2
  have o87 := om87 hG
  have gM41 : _ = ((113 : Nat) : Int) := grn hG (k := 87) (j := 41) (by decide)
  have aM113 := arn hG (r := 113) (c := 12) (n := 6) (by decide +kernel)
  have gM42 : _ = ((114 : Nat) : Int) := grn hG (k := 87) (j := 42) (by decide)
  have aM114 := arn hG (r := 114) (c := 12) (n := 6) (by decide +kernel)
  have gM43 : _ = ((115 : Nat) : Int) := grn hG (k := 87) (j := 43) (by decide)
  have aM115 := arn hG (r := 115) (c := 13) (n := 360) (by decide +kernel)
  refine g_ild f_X10_judge_0 rfl ?_
  refine g_const f_X10_judge_1 ?_
  refine g_const f_X10_judge_2 ?_
  refine g_cs1 hγ (c_mwithin t 0 5 (by omega) (by omega) (by omega)) f_X10_judge_3 mo_X10_within mt_X10_within rfl (Nat.le_of_ble_eq_true rfl) ⟨by decide, by decide⟩ ⟨Nat.le_refl _, Nat.le_refl _⟩ (fun x S' M' hq9 => ?_)
  obtain ⟨hx, q1, q2⟩ := hq9
  obtain rfl := q1.symm
  obtain rfl := q2.symm
  by_cases im : 0 ≤ t ∧ t ≤ 5
  · rw [if_pos im] at hx
    subst hx
    obtain ⟨m, rfl⟩ := Int.eq_ofNat_of_zero_le im.1
    have hm6 : m < 6 := by omega
    obtain ⟨km1, km2, km3⟩ := id (hTp m hm6)
    obtain ⟨⟨jm1, jm2⟩, jm3, jm4⟩ := id (hOp m hm6)
    refine g_if_ne f_X10_judge_6 rfl (by omega) (fun hx => ?_) (fun hx => ?_)
    · have ej : (wp s m).1 = 0 → ∀ x, judF (wp s m) (wz s) i 12 0 = x → a_judge s (m : Int) i = x := fun h0 x hx => ((if_neg (fun h => h im)).trans ((if_neg (by show ¬ (wp s m).1 = -1; omega)).trans (if_neg (fun h => h h0)))).trans hx
      have e9 : (wp s m).1 = -1 → a_judge s (m : Int) i = 100 := fun h0 => (if_neg (fun h => h im)).trans (if_pos h0)
      have loop : ∀ (k n : Nat) (M1 : Mm), n + k = 12 → ((wp s m).1 = -1 → n = 0) → ((wp s m).1 = -1 ∨ (wp s m).1 = 0) → ask M M1 → judF (wp s m) (wz s) i k n = judF (wp s m) (wz s) i 12 0 → Go γ Ω mX10_judge (Zm γ Ω 1 0 0 (fun x S' M' => x = a_judge s (m : Int) i ∧ S' = S ∧ RepM M' s ∧ mdl M M')) 0 0 S M1 35 [some (vr Ω 87), some (vi (m : Int)), some (vi i), some (vi (n : Int))] [] := by
        intro k
        induction k with
        | zero =>
          intro n M1 hk hz0 hso ha hi0
          have hn : n = 12 := by omega
          subst hn
          refine g_ild f_X10_judge_35 rfl ?_
          refine g_const f_X10_judge_36 ?_
          refine g_icmp_ge f_X10_judge_38 rfl (by omega) (by omega) (fun hc => ?_) (fun hc => ?_)
          · refine g_const f_X10_judge_115 ?_
            refine g_reti f_X10_judge_117 rfl ?_ (Nat.zero_le _) (Nat.zero_le _)
            exact ⟨(ej (by omega) _ hi0.symm).symm, rfl, hW.askA hO0 ha.askA, ha.askA.mdl⟩
          · exact absurd (by omega) hc
        | succ k ih =>
          intro n M1 hk hz0 hso ha hi0
          have hn : n < 12 := by omega
          have hsl := seersN_lt (t := n) hO
          have y113 : M1 113 m = (wp s m).1 := by rw [ha 113 (by decide) (by decide)]; exact km1
          have y114 : M1 114 m = ((wp s m).2.1 : Int) := by rw [ha 114 (by decide) (by decide)]; exact km2
          have y115 := ha 115 (by decide) (by decide)
          have hlc := lcm_lt0 (a := i + (n : Int)) (b := ((wp s m).2.1 : Int))
          have hlr := lcm_rg (a := i + (n : Int)) (b := ((wp s m).2.1 : Int))
          refine g_ild f_X10_judge_35 rfl ?_
          refine g_const f_X10_judge_36 ?_
          refine g_icmp_ge f_X10_judge_38 rfl (by omega) (by omega) (fun hc => ?_) (fun hc => ?_)
          · exact absurd hc (by omega)
          refine g_alv f_X10_judge_41 rfl ?_
          refine g_getR f_X10_judge_42 (by assumption) (by assumption) ?_
          refine g_ild f_X10_judge_45 rfl ?_
          refine g_ial f_X10_judge_46 (by assumption) m (by omega) (by omega) ?_
          rw [y113]
          refine g_const f_X10_judge_47 ?_
          refine g_icmp_eq f_X10_judge_48 rfl (by omega) (by omega) (fun hs1 => ?_) (fun hs1 => ?_)
          · refine g_const f_X10_judge_71 ?_
            refine g_ild f_X10_judge_73 rfl ?_
            refine g_iadd f_X10_judge_74 ?_
            refine g_reti f_X10_judge_75 rfl ?_ (Nat.zero_le _) (Nat.zero_le _)
            first
            | (rw [e9 (by omega)]; exact ⟨by have := hz0 (by omega); omega, rfl, hW.askA hO0 ha.askA, ha.askA.mdl⟩)
            | exact ⟨(ej (by omega) _ (by rw [← hi0, judF, if_pos (by show ¬ hasK (wp s m) i ((n : Int) + 1); rintro ⟨a, b, c⟩; omega)])).symm, rfl, hW.askA hO0 ha.askA, ha.askA.mdl⟩
          · refine g_ild f_X10_judge_51 rfl ?_
            refine g_if_lt f_X10_judge_52 rfl (by omega) (fun hi1 => ?_) (fun hi1 => ?_)
            · refine g_const f_X10_judge_71 ?_
              refine g_ild f_X10_judge_73 rfl ?_
              refine g_iadd f_X10_judge_74 ?_
              refine g_reti f_X10_judge_75 rfl ?_ (Nat.zero_le _) (Nat.zero_le _)
              first
              | (rw [e9 (by omega)]; exact ⟨by have := hz0 (by omega); omega, rfl, hW.askA hO0 ha.askA, ha.askA.mdl⟩)
              | exact ⟨(ej (by omega) _ (by rw [← hi0, judF, if_pos (by show ¬ hasK (wp s m) i ((n : Int) + 1); rintro ⟨a, b, c⟩; omega)])).symm, rfl, hW.askA hO0 ha.askA, ha.askA.mdl⟩
            · refine g_ild f_X10_judge_55 rfl ?_
              refine g_i2l f_X10_judge_56 (by omega) ?_
              refine g_ild f_X10_judge_57 rfl ?_
              refine g_i2l f_X10_judge_58 (by omega) ?_
              refine g_ladd f_X10_judge_59 ?_
              refine g_alv f_X10_judge_60 rfl ?_
              refine g_getR f_X10_judge_61 (by assumption) (by assumption) ?_
              refine g_ild f_X10_judge_64 rfl ?_
              refine g_ial f_X10_judge_65 (by assumption) m (by omega) (by omega) ?_
              rw [y114]
              refine g_i2l f_X10_judge_66 (by omega) ?_
              refine g_lcmp f_X10_judge_67 (by omega) (by omega) ?_
              refine g_if_lt f_X10_judge_68 rfl (by omega) (fun hlt => ?_) (fun hlt => ?_)
              · obtain ⟨a, rfl⟩ := Int.eq_ofNat_of_zero_le (show 0 ≤ i by omega)
                have han : a + n < 60 := by omega
                have hjm := jm4 (a + n) han
                have hhk : hasK (wp s m) (a : Int) ((n : Int) + 1) := ⟨by omega, by omega, by omega⟩
                have hta : ((a : Int)).toNat = a := rfl
                refine g_alv f_X10_judge_76 rfl ?_
                refine g_getR f_X10_judge_77 (by assumption) (by assumption) ?_
                refine g_const f_X10_judge_80 ?_
                refine g_ild f_X10_judge_82 rfl ?_
                refine g_imul f_X10_judge_83 ?_
                refine g_ild f_X10_judge_84 rfl ?_
                refine g_iadd f_X10_judge_85 ?_
                refine g_ild f_X10_judge_86 rfl ?_
                refine g_iadd f_X10_judge_87 ?_
                refine g_lal f_X10_judge_88 (by assumption) (60 * m + (a + n)) (by omega) (by omega) ?_
                rw [y115, km3 (a + n) han]
                refine g_alv f_X10_judge_89 rfl ?_
                refine g_ild f_X10_judge_90 rfl ?_
                refine g_cv1 hγ (c_mseers hG (hX.ask ha) hO (t := n) hn) f_X10_judge_91 mo_X10_seers mv_X10_seers (by assumption) rfl rfl (Nat.le_of_ble_eq_true rfl) ⟨by decide, by decide⟩ ⟨Nat.le_refl _, Nat.le_refl _⟩ (fun x S' M2 hq2 => ?_)
                obtain ⟨rfl, q1, ha2⟩ := hq2
                obtain rfl := q1.symm
                refine g_if_ne f_X10_judge_94 rfl (by omega) (fun hs => ?_) (fun hs => ?_)
                · refine g_const f_X10_judge_101 ?_
                  have hd : dueN (wz s) n = 1 := if_neg (by omega)
                  refine g_i2l f_X10_judge_102 (by omega) ?_
                  refine g_lcmp f_X10_judge_103 (by omega) (by omega) ?_
                  have hl0 := lcm_0 (a := (wp s m).2.2 (a + n)) (b := dueN (wz s) n)
                  have hl1 := lcm_rg (a := (wp s m).2.2 (a + n)) (b := dueN (wz s) n)
                  rw [hd] at hl0 hl1
                  refine g_if_eq f_X10_judge_104 rfl (by omega) (fun hne => ?_) (fun hne => ?_)
                  · refine g_inc_3 f_X10_judge_109 (by decide) c1i ?_
                    refine g_goto f_X10_judge_112 ?_
                    exact ih (n + 1) M2 (by omega) (fun h => by omega) hso (ha.tr ha2) (by rw [← hi0, judF, if_neg (fun h => h hhk), if_neg (by rw [hd, hta]; omega)])
                  · refine g_ild f_X10_judge_107 rfl ?_
                    refine g_reti f_X10_judge_108 rfl ?_ (Nat.zero_le _) (Nat.zero_le _)
                    have ha9 := ha.tr ha2
                    exact ⟨(ej (by omega) _ (by rw [← hi0, judF, if_neg (fun h => h hhk), if_pos (by rw [hd, hta]; omega)])).symm, rfl, hW.askA hO0 ha9.askA, ha9.askA.mdl⟩
                · refine g_const f_X10_judge_97 ?_
                  have hd : dueN (wz s) n = 0 := if_pos (by omega)
                  refine g_goto f_X10_judge_98 ?_
                  refine g_i2l f_X10_judge_102 (by omega) ?_
                  refine g_lcmp f_X10_judge_103 (by omega) (by omega) ?_
                  have hl0 := lcm_0 (a := (wp s m).2.2 (a + n)) (b := dueN (wz s) n)
                  have hl1 := lcm_rg (a := (wp s m).2.2 (a + n)) (b := dueN (wz s) n)
                  rw [hd] at hl0 hl1
                  refine g_if_eq f_X10_judge_104 rfl (by omega) (fun hne => ?_) (fun hne => ?_)
                  · refine g_inc_3 f_X10_judge_109 (by decide) c1i ?_
                    refine g_goto f_X10_judge_112 ?_
                    exact ih (n + 1) M2 (by omega) (fun h => by omega) hso (ha.tr ha2) (by rw [← hi0, judF, if_neg (fun h => h hhk), if_neg (by rw [hd, hta]; omega)])
                  · refine g_ild f_X10_judge_107 rfl ?_
                    refine g_reti f_X10_judge_108 rfl ?_ (Nat.zero_le _) (Nat.zero_le _)
                    have ha9 := ha.tr ha2
                    exact ⟨(ej (by omega) _ (by rw [← hi0, judF, if_neg (fun h => h hhk), if_pos (by rw [hd, hta]; omega)])).symm, rfl, hW.askA hO0 ha9.askA, ha9.askA.mdl⟩
              · refine g_const f_X10_judge_71 ?_
                refine g_ild f_X10_judge_73 rfl ?_
                refine g_iadd f_X10_judge_74 ?_
                refine g_reti f_X10_judge_75 rfl ?_ (Nat.zero_le _) (Nat.zero_le _)
                first
                | (rw [e9 (by omega)]; exact ⟨by have := hz0 (by omega); omega, rfl, hW.askA hO0 ha.askA, ha.askA.mdl⟩)
                | exact ⟨(ej (by omega) _ (by rw [← hi0, judF, if_pos (by show ¬ hasK (wp s m) i ((n : Int) + 1); rintro ⟨a, b, c⟩; omega)])).symm, rfl, hW.askA hO0 ha.askA, ha.askA.mdl⟩
      refine g_alv f_X10_judge_11 rfl ?_
      refine g_getR f_X10_judge_12 (by assumption) (by assumption) ?_
      refine g_ild f_X10_judge_15 rfl ?_
      refine g_ial f_X10_judge_16 (by assumption) m (by omega) (by omega) ?_
      rw [km1]
      refine g_const f_X10_judge_17 ?_
      refine g_icmp_eq f_X10_judge_18 rfl (by omega) (by omega) (fun hs1 => ?_) (fun hs1 => ?_)
      · refine g_const f_X10_judge_33 ?_
        refine g_ist_3 f_X10_judge_34 (by decide) c1i ?_
        exact loop 12 0 M rfl (fun _ => rfl) (by omega) ask.rf rfl
      · refine g_alv f_X10_judge_21 rfl ?_
        refine g_getR f_X10_judge_22 (by assumption) (by assumption) ?_
        refine g_ild f_X10_judge_25 rfl ?_
        refine g_ial f_X10_judge_26 (by assumption) m (by omega) (by omega) ?_
        rw [km1]
        refine g_if_eq f_X10_judge_27 rfl (by omega) (fun hs2 => ?_) (fun hs2 => ?_)
        · refine g_const f_X10_judge_33 ?_
          refine g_ist_3 f_X10_judge_34 (by decide) c1i ?_
          exact loop 12 0 M rfl (fun _ => rfl) (by omega) ask.rf rfl
        · refine g_const f_X10_judge_30 ?_
          refine g_reti f_X10_judge_32 rfl ?_ (Nat.zero_le _) (Nat.zero_le _)
          have e : a_judge s (m : Int) i = -12 := (if_neg (fun h => h im)).trans ((if_neg (by show ¬ (wp s m).1 = -1; omega)).trans (if_pos (by show (wp s m).1 ≠ 0; omega)))
          rw [e]
          exact ⟨rfl, rfl, hW, mdl.rf⟩
    · exact absurd (by omega) hx
  · rw [if_neg im] at hx
    subst hx
    refine g_if_ne f_X10_judge_6 rfl (by omega) (fun hx => ?_) (fun hx => ?_)
    · exact absurd hx (by omega)
    refine g_const f_X10_judge_9 ?_
    refine g_reti f_X10_judge_10 rfl ?_ (Nat.zero_le _) (Nat.zero_le _)
    have e : a_judge s t i = -1 := if_pos im
    rw [e]
    exact ⟨rfl, rfl, hW, mdl.rf⟩

set_option maxHeartbeats 4000000 in
set_option maxRecDepth 100000 in
theorem m_shift {Ω : Ow} {S : Sg} {M : Mm} {s : Wt} (hG : Gr S) (hW : RepM M s) (hO0 : okW s) (t i u j n : Int) (ht : rg t) (hi : rg i) (hu : rg u) (hj : rg j) (hn : rg n) : Ct Ω mX10_shift 3 0 0 1 [vr Ω 87, vi t, vi i, vi u, vi j, vi n] S M (fun x S' M' => x = (a_shift s t i u j n).1 ∧ S' = S ∧ RepM M' (a_shift s t i u j n).2 ∧ mdl M M') := by
  refine Ct.mk (by decide) (Nat.le_of_ble_eq_true rfl) [some (vr Ω 87), some (vi t), some (vi i), some (vi u), some (vi j), some (vi n), none] (by intro q hq; exact hq) (fun γ hγ hz => ?_)
  have hX := hW.mx hO0
  have hO : okZ (wz s) := hO0.1.1
  have hD : zd (wz s) ≤ 9999 := hO0.1.2.1
  obtain ⟨x1, x2, x3, x4, x5⟩ := id hX
  obtain ⟨z1, z2, z3, z4, z5⟩ := id hO
  obtain ⟨lw, d1, d2, d3, d4, d5, d6, d7, d8⟩ := hW.dr hO0
  obtain ⟨lz, l5, l10, l8⟩ := hO0.1.len
  have sS : okSeen (wn s).2.1 := hO0.1.2.2.1
  have sP : okPlan (zc (wz s)) (wn s).2.2.1 := hO0.1.2.2.2.1
  have sB : okBook (wn s).2.2.2 := hO0.1.2.2.2.2.1
  have hTp := hW.tp
  have hOp := hO0.2.2.2.2
  have o87 := om87 hG
  have gM41 : _ = ((113 : Nat) : Int) := grn hG (k := 87) (j := 41) (by decide)
  have aM113 := arn hG (r := 113) (c := 12) (n := 6) (by decide +kernel)
  have gM42 : _ = ((114 : Nat) : Int) := grn hG (k := 87) (j := 42) (by decide)
  have aM114 := arn hG (r := 114) (c := 12) (n := 6) (by decide +kernel)
  have gM43 : _ = ((115 : Nat) : Int) := grn hG (k := 87) (j := 43) (by decide)
  have aM115 := arn hG (r := 115) (c := 13) (n := 360) (by decide +kernel)
  refine g_ild f_X10_shift_0 rfl ?_
  refine g_cs1 hγ (c_misTape t (by omega)) f_X10_shift_1 mo_X10_isTape mt_X10_isTape rfl (Nat.le_of_ble_eq_true rfl) ⟨by decide, by decide⟩ ⟨Nat.le_refl _, Nat.le_refl _⟩ (fun x S' M' hq9 => ?_)
  obtain ⟨hx, q1, q2⟩ := hq9
  obtain rfl := q1.symm
  obtain rfl := q2.symm
  by_cases im : 0 ≤ t ∧ t ≤ 5
  · rw [if_pos im] at hx
    subst hx
    obtain ⟨m, rfl⟩ := Int.eq_ofNat_of_zero_le im.1
    have hm6 : m < 6 := by omega
    obtain ⟨km1, km2, km3⟩ := id (hTp m hm6)
    obtain ⟨⟨jm1, jm2⟩, jm3, jm4⟩ := id (hOp m hm6)
    refine g_if_eq f_X10_shift_4 rfl (by omega) (fun hx => ?_) (fun hx => ?_)
    · exact absurd hx (by omega)
    refine g_ild f_X10_shift_7 rfl ?_
    refine g_cs1 hγ (c_misTape u (by omega)) f_X10_shift_8 mo_X10_isTape mt_X10_isTape rfl (Nat.le_of_ble_eq_true rfl) ⟨by decide, by decide⟩ ⟨Nat.le_refl _, Nat.le_refl _⟩ (fun x S' M' hq9 => ?_)
    obtain ⟨hx, q1, q2⟩ := hq9
    obtain rfl := q1.symm
    obtain rfl := q2.symm
    by_cases il : 0 ≤ u ∧ u ≤ 5
    · rw [if_pos il] at hx
      subst hx
      obtain ⟨l, rfl⟩ := Int.eq_ofNat_of_zero_le il.1
      have hl6 : l < 6 := by omega
      obtain ⟨kl1, kl2, kl3⟩ := id (hTp l hl6)
      obtain ⟨⟨jl1, jl2⟩, jl3, jl4⟩ := id (hOp l hl6)
      refine g_if_ne f_X10_shift_11 rfl (by omega) (fun hx => ?_) (fun hx => ?_)
      · refine g_alv f_X10_shift_16 rfl ?_
        refine g_getR f_X10_shift_17 (by assumption) (by assumption) ?_
        refine g_ild f_X10_shift_20 rfl ?_
        refine g_ial f_X10_shift_21 (by assumption) m (by omega) (by omega) ?_
        rw [km1]
        refine g_if_lt f_X10_shift_22 rfl (by omega) (fun hs1 => ?_) (fun hs1 => ?_)
        · refine g_const f_X10_shift_34 ?_
          refine g_reti f_X10_shift_36 rfl ?_ (Nat.zero_le _) (Nat.zero_le _)
          have e : a_shift s (m : Int) i (l : Int) j n = (-11, s) := (if_neg (fun h => h ⟨im, il⟩)).trans (if_pos (by show (wp s m).1 = -1 ∨ (wp s l).1 = -1; omega))
          rw [e]
          exact ⟨rfl, rfl, hW, mdl.rf⟩
        · refine g_alv f_X10_shift_25 rfl ?_
          refine g_getR f_X10_shift_26 (by assumption) (by assumption) ?_
          refine g_ild f_X10_shift_29 rfl ?_
          refine g_ial f_X10_shift_30 (by assumption) l (by omega) (by omega) ?_
          rw [kl1]
          refine g_if_ge f_X10_shift_31 rfl (by omega) (fun hs2 => ?_) (fun hs2 => ?_)
          · refine g_alv f_X10_shift_37 rfl ?_
            refine g_getR f_X10_shift_38 (by assumption) (by assumption) ?_
            refine g_ild f_X10_shift_41 rfl ?_
            refine g_ial f_X10_shift_42 (by assumption) m (by omega) (by omega) ?_
            rw [km1]
            refine g_alv f_X10_shift_43 rfl ?_
            refine g_getR f_X10_shift_44 (by assumption) (by assumption) ?_
            refine g_ild f_X10_shift_47 rfl ?_
            refine g_ial f_X10_shift_48 (by assumption) l (by omega) (by omega) ?_
            rw [kl1]
            refine g_icmp_eq f_X10_shift_49 rfl (by omega) (by omega) (fun hs3 => ?_) (fun hs3 => ?_)
            · refine g_ild f_X10_shift_55 rfl ?_
              refine g_if_lt f_X10_shift_57 rfl (by omega) (fun hn0 => ?_) (fun hn0 => ?_)
              · refine g_const f_X10_shift_104 ?_
                refine g_reti f_X10_shift_106 rfl ?_ (Nat.zero_le _) (Nat.zero_le _)
                have e : a_shift s (m : Int) i (l : Int) j n = (-13, s) := (if_neg (fun h => h ⟨im, il⟩)).trans ((if_neg (by show ¬ ((wp s m).1 = -1 ∨ (wp s l).1 = -1); omega)).trans ((if_neg (fun h => h (by show (wp s m).1 = (wp s l).1; omega))).trans (if_pos (by show ¬ (hasK (wp s m) i n ∧ hasK (wp s l) j n); rintro ⟨⟨a1, a2, a3⟩, b1, b2, b3⟩; omega))))
                rw [e]
                exact ⟨rfl, rfl, hW, mdl.rf⟩
              · refine g_ild f_X10_shift_60 rfl ?_
                refine g_if_lt f_X10_shift_61 rfl (by omega) (fun hi0 => ?_) (fun hi0 => ?_)
                · refine g_const f_X10_shift_104 ?_
                  refine g_reti f_X10_shift_106 rfl ?_ (Nat.zero_le _) (Nat.zero_le _)
                  have e : a_shift s (m : Int) i (l : Int) j n = (-13, s) := (if_neg (fun h => h ⟨im, il⟩)).trans ((if_neg (by show ¬ ((wp s m).1 = -1 ∨ (wp s l).1 = -1); omega)).trans ((if_neg (fun h => h (by show (wp s m).1 = (wp s l).1; omega))).trans (if_pos (by show ¬ (hasK (wp s m) i n ∧ hasK (wp s l) j n); rintro ⟨⟨a1, a2, a3⟩, b1, b2, b3⟩; omega))))
                  rw [e]
                  exact ⟨rfl, rfl, hW, mdl.rf⟩
                · refine g_ild f_X10_shift_64 rfl ?_
                  have g1 := lcm_gt0 (a := i + n) (b := ((wp s m).2.1 : Int))
                  have r1 := lcm_rg (a := i + n) (b := ((wp s m).2.1 : Int))
                  have g2 := lcm_gt0 (a := j + n) (b := ((wp s l).2.1 : Int))
                  have r2 := lcm_rg (a := j + n) (b := ((wp s l).2.1 : Int))
                  refine g_if_lt f_X10_shift_66 rfl (by omega) (fun hj0 => ?_) (fun hj0 => ?_)
                  · refine g_const f_X10_shift_104 ?_
                    refine g_reti f_X10_shift_106 rfl ?_ (Nat.zero_le _) (Nat.zero_le _)
                    have e : a_shift s (m : Int) i (l : Int) j n = (-13, s) := (if_neg (fun h => h ⟨im, il⟩)).trans ((if_neg (by show ¬ ((wp s m).1 = -1 ∨ (wp s l).1 = -1); omega)).trans ((if_neg (fun h => h (by show (wp s m).1 = (wp s l).1; omega))).trans (if_pos (by show ¬ (hasK (wp s m) i n ∧ hasK (wp s l) j n); rintro ⟨⟨a1, a2, a3⟩, b1, b2, b3⟩; omega))))
                    rw [e]
                    exact ⟨rfl, rfl, hW, mdl.rf⟩
                  · refine g_ild f_X10_shift_69 rfl ?_
                    refine g_i2l f_X10_shift_70 (by omega) ?_
                    refine g_ild f_X10_shift_71 rfl ?_
                    refine g_i2l f_X10_shift_73 (by omega) ?_
                    refine g_ladd f_X10_shift_74 ?_
                    refine g_alv f_X10_shift_75 rfl ?_
                    refine g_getR f_X10_shift_76 (by assumption) (by assumption) ?_
                    refine g_ild f_X10_shift_79 rfl ?_
                    refine g_ial f_X10_shift_80 (by assumption) m (by omega) (by omega) ?_
                    rw [km2]
                    refine g_i2l f_X10_shift_81 (by omega) ?_
                    refine g_lcmp f_X10_shift_82 (by omega) (by omega) ?_
                    refine g_if_gt f_X10_shift_83 rfl (by omega) (fun hg1 => ?_) (fun hg1 => ?_)
                    · refine g_const f_X10_shift_104 ?_
                      refine g_reti f_X10_shift_106 rfl ?_ (Nat.zero_le _) (Nat.zero_le _)
                      have e : a_shift s (m : Int) i (l : Int) j n = (-13, s) := (if_neg (fun h => h ⟨im, il⟩)).trans ((if_neg (by show ¬ ((wp s m).1 = -1 ∨ (wp s l).1 = -1); omega)).trans ((if_neg (fun h => h (by show (wp s m).1 = (wp s l).1; omega))).trans (if_pos (by show ¬ (hasK (wp s m) i n ∧ hasK (wp s l) j n); rintro ⟨⟨a1, a2, a3⟩, b1, b2, b3⟩; omega))))
                      rw [e]
                      exact ⟨rfl, rfl, hW, mdl.rf⟩
                    · refine g_ild f_X10_shift_86 rfl ?_
                      refine g_i2l f_X10_shift_88 (by omega) ?_
                      refine g_ild f_X10_shift_89 rfl ?_
                      refine g_i2l f_X10_shift_91 (by omega) ?_
                      refine g_ladd f_X10_shift_92 ?_
                      refine g_alv f_X10_shift_93 rfl ?_
                      refine g_getR f_X10_shift_94 (by assumption) (by assumption) ?_
                      refine g_ild f_X10_shift_97 rfl ?_
                      refine g_ial f_X10_shift_98 (by assumption) l (by omega) (by omega) ?_
                      rw [kl2]
                      refine g_i2l f_X10_shift_99 (by omega) ?_
                      refine g_lcmp f_X10_shift_100 (by omega) (by omega) ?_
                      refine g_if_le f_X10_shift_101 rfl (by omega) (fun hg2 => ?_) (fun hg2 => ?_)
                      · obtain ⟨i, rfl⟩ := Int.eq_ofNat_of_zero_le (show 0 ≤ i by omega)
                        obtain ⟨j, rfl⟩ := Int.eq_ofNat_of_zero_le (show 0 ≤ j by omega)
                        obtain ⟨n, rfl⟩ := Int.eq_ofNat_of_zero_le (show 0 ≤ n by omega)
                        have e0 : a_shift s (m : Int) (i : Int) (l : Int) (j : Int) (n : Int) = ((n : Int), putK s l ((wp s l).1, (wp s l).2.1, fun k => if j ≤ k ∧ k < j + n then (wp s m).2.2 (i + (k - j)) else (wp s l).2.2 k)) := (if_neg (fun h => h ⟨im, il⟩)).trans ((if_neg (by show ¬ ((wp s m).1 = -1 ∨ (wp s l).1 = -1); omega)).trans ((if_neg (fun h => h (by show (wp s m).1 = (wp s l).1; omega))).trans (if_neg (fun h => h ⟨by show hasK (wp s m) (i : Int) n; exact ⟨by omega, by omega, by omega⟩, by show hasK (wp s l) (j : Int) n; exact ⟨by omega, by omega, by omega⟩⟩))))
                        have fin : ∀ (M1 : Mm) (v6 : Option Value), (∀ r, r ≠ 115 → M1 r = M r) → M1 115 = cpT M (60 * l + j) (60 * m + i) 0 n → Go γ Ω mX10_shift (Zm γ Ω 1 0 0 (fun x S' M' => x = (a_shift s (m : Int) (i : Int) (l : Int) (j : Int) (n : Int)).1 ∧ S' = S ∧ RepM M' (a_shift s (m : Int) (i : Int) (l : Int) (j : Int) (n : Int)).2 ∧ mdl M M')) 0 0 S M1 212 [some (vr Ω 87), some (vi (m : Int)), some (vi (i : Int)), some (vi (l : Int)), some (vi (j : Int)), some (vi (n : Int)), v6] [] := by
                          intro M1 v6 e1 e2
                          refine g_ild f_X10_shift_212 rfl ?_
                          refine g_reti f_X10_shift_214 rfl ?_ (Nat.zero_le _) (Nat.zero_le _)
                          have hq : ∀ x, x < 60 → M1 115 (60 * l + x) = (if j ≤ x ∧ x < j + n then (wp s m).2.2 (i + (x - j)) else (wp s l).2.2 x) := fun x hx => by
                            rw [e2]
                            unfold cpT
                            by_cases q : j ≤ x ∧ x < j + n
                            · rw [if_pos q, if_pos (by omega), ← km3 (i + (x - j)) (by omega)]
                              congr 1
                              omega
                            · rw [if_neg q, if_neg (by omega)]; exact kl3 x hx
                          have hoq : ∀ y, y < 6 → y ≠ l → M1 113 y = M 113 y ∧ M1 114 y = M 114 y ∧ ∀ x, x < 60 → M1 115 (60 * y + x) = M 115 (60 * y + x) := fun y hy hne => ⟨by rw [e1 113 (by decide)], by rw [e1 114 (by decide)], fun x hx => by rw [e2]; unfold cpT; rw [if_neg (by omega)]⟩
                          obtain ⟨h9, h8⟩ := hW.tape (M' := M1) (i := l) (q := ((wp s l).1, (wp s l).2.1, fun k => if j ≤ k ∧ k < j + n then (wp s m).2.2 (i + (k - j)) else (wp s l).2.2 k)) hO0 (fun k a b c => e1 k c) ⟨by rw [e1 113 (by decide)]; exact kl1, by rw [e1 114 (by decide)]; exact kl2, hq⟩ hoq
                          rw [e0]
                          exact ⟨rfl, rfl, h9, h8⟩
                        have fwd : ¬ (m = l ∧ i < j) → ∀ (f k : Nat) (M1 : Mm), k + f = n → (∀ r, r ≠ 115 → M1 r = M r) → M1 115 = cpT M (60 * l + j) (60 * m + i) 0 k → Go γ Ω mX10_shift (Zm γ Ω 1 0 0 (fun x S' M' => x = (a_shift s (m : Int) (i : Int) (l : Int) (j : Int) (n : Int)).1 ∧ S' = S ∧ RepM M' (a_shift s (m : Int) (i : Int) (l : Int) (j : Int) (n : Int)).2 ∧ mdl M M')) 0 0 S M1 170 [some (vr Ω 87), some (vi (m : Int)), some (vi (i : Int)), some (vi (l : Int)), some (vi (j : Int)), some (vi (n : Int)), some (vi (k : Int))] [] := by
                          intro hd f
                          induction f with
                          | zero =>
                            intro k M1 hf e1 e2
                            have hk : k = n := by omega
                            subst hk
                            refine g_ild f_X10_shift_170 rfl ?_
                            refine g_ild f_X10_shift_172 rfl ?_
                            refine g_icmp_ge f_X10_shift_174 rfl (by omega) (by omega) (fun hc => ?_) (fun hc => ?_)
                            · exact fin M1 _ e1 e2
                            · exact absurd (by omega) hc
                          | succ f ih =>
                            intro k M1 hf e1 e2
                            have hrd : M1 115 (60 * m + i + k) = M 115 (60 * m + i + k) := by rw [e2]; unfold cpT; rw [if_neg (by omega)]
                            refine g_ild f_X10_shift_170 rfl ?_
                            refine g_ild f_X10_shift_172 rfl ?_
                            refine g_icmp_ge f_X10_shift_174 rfl (by omega) (by omega) (fun hc => ?_) (fun hc => ?_)
                            · exact absurd hc (by omega)
                            refine g_alv f_X10_shift_177 rfl ?_
                            refine g_getR f_X10_shift_178 (by assumption) (by assumption) ?_
                            refine g_const f_X10_shift_181 ?_
                            refine g_ild f_X10_shift_183 rfl ?_
                            refine g_imul f_X10_shift_184 ?_
                            refine g_ild f_X10_shift_185 rfl ?_
                            refine g_iadd f_X10_shift_187 ?_
                            refine g_ild f_X10_shift_188 rfl ?_
                            refine g_iadd f_X10_shift_190 ?_
                            refine g_alv f_X10_shift_191 rfl ?_
                            refine g_getR f_X10_shift_192 (by assumption) (by assumption) ?_
                            refine g_const f_X10_shift_195 ?_
                            refine g_ild f_X10_shift_197 rfl ?_
                            refine g_imul f_X10_shift_198 ?_
                            refine g_ild f_X10_shift_199 rfl ?_
                            refine g_iadd f_X10_shift_200 ?_
                            refine g_ild f_X10_shift_201 rfl ?_
                            refine g_iadd f_X10_shift_203 ?_
                            refine g_lal f_X10_shift_204 (by assumption) (60 * m + i + k) (by omega) (by omega) ?_
                            rw [hrd]
                            refine g_las f_X10_shift_205 (by assumption) (60 * l + j + k) (by omega) (by omega) ?_
                            refine g_inc_6 f_X10_shift_206 (by decide) c1i ?_
                            refine g_goto f_X10_shift_209 ?_
                            exact ih (k + 1) _ (by omega) (fun r hr => by rw [up_row hr]; exact e1 r hr) (cpT_up e2)
                        have bwd : m = l → i < j → ∀ (k : Nat) (M1 : Mm), k ≤ n → (∀ r, r ≠ 115 → M1 r = M r) → M1 115 = cpT M (60 * l + j) (60 * m + i) k n → Go γ Ω mX10_shift (Zm γ Ω 1 0 0 (fun x S' M' => x = (a_shift s (m : Int) (i : Int) (l : Int) (j : Int) (n : Int)).1 ∧ S' = S ∧ RepM M' (a_shift s (m : Int) (i : Int) (l : Int) (j : Int) (n : Int)).2 ∧ mdl M M')) 0 0 S M1 124 [some (vr Ω 87), some (vi (m : Int)), some (vi (i : Int)), some (vi (l : Int)), some (vi (j : Int)), some (vi (n : Int)), some (vi ((k : Int) - 1))] [] := by
                          intro hd hij k
                          induction k with
                          | zero =>
                            intro M1 hf e1 e2
                            refine g_ild f_X10_shift_124 rfl ?_
                            refine g_if_lt f_X10_shift_126 rfl (by omega) (fun hc => ?_) (fun hc => ?_)
                            · refine g_goto f_X10_shift_164 ?_
                              exact fin M1 _ e1 e2
                            · exact absurd (by omega) hc
                          | succ k ih =>
                            intro M1 hf e1 e2
                            have hrd : M1 115 (60 * m + i + k) = M 115 (60 * m + i + k) := by rw [e2]; unfold cpT; rw [if_neg (by omega)]
                            have h9 := ih (up M1 115 (60 * l + j + k) (M 115 (60 * m + i + k))) (by omega) (fun r hr => by rw [up_row hr]; exact e1 r hr) (cpT_dn (by omega) e2)
                            refine g_ild f_X10_shift_124 rfl ?_
                            refine g_if_lt f_X10_shift_126 rfl (by omega) (fun hc => ?_) (fun hc => ?_)
                            · exact absurd hc (by omega)
                            refine g_alv f_X10_shift_129 rfl ?_
                            refine g_getR f_X10_shift_130 (by assumption) (by assumption) ?_
                            refine g_const f_X10_shift_133 ?_
                            refine g_ild f_X10_shift_135 rfl ?_
                            refine g_imul f_X10_shift_136 ?_
                            refine g_ild f_X10_shift_137 rfl ?_
                            refine g_iadd f_X10_shift_139 ?_
                            refine g_ild f_X10_shift_140 rfl ?_
                            refine g_iadd f_X10_shift_142 ?_
                            refine g_alv f_X10_shift_143 rfl ?_
                            refine g_getR f_X10_shift_144 (by assumption) (by assumption) ?_
                            refine g_const f_X10_shift_147 ?_
                            refine g_ild f_X10_shift_149 rfl ?_
                            refine g_imul f_X10_shift_150 ?_
                            refine g_ild f_X10_shift_151 rfl ?_
                            refine g_iadd f_X10_shift_152 ?_
                            refine g_ild f_X10_shift_153 rfl ?_
                            refine g_iadd f_X10_shift_155 ?_
                            refine g_lal f_X10_shift_156 (by assumption) (60 * m + i + k) (by omega) (by omega) ?_
                            rw [hrd]
                            refine g_las f_X10_shift_157 (by assumption) (60 * l + j + k) (by omega) (by omega) ?_
                            refine g_inc_6 f_X10_shift_158 (by decide) c1i ?_
                            refine g_goto f_X10_shift_161 ?_
                            rw [show ((k + 1 : Nat) : Int) - 1 + -1 = (k : Int) - 1 by omega]
                            exact h9
                        refine g_ild f_X10_shift_107 rfl ?_
                        refine g_ild f_X10_shift_108 rfl ?_
                        refine g_icmp_ne f_X10_shift_109 rfl (by omega) (by omega) (fun hml => ?_) (fun hml => ?_)
                        · refine g_const f_X10_shift_167 ?_
                          refine g_ist_6 f_X10_shift_168 (by decide) c1i ?_
                          exact fwd (by omega) n 0 M (by omega) (fun _ _ => rfl) (cpT_0 _ _ _ _).symm
                        · refine g_ild f_X10_shift_112 rfl ?_
                          refine g_ild f_X10_shift_113 rfl ?_
                          refine g_icmp_ge f_X10_shift_115 rfl (by omega) (by omega) (fun hij => ?_) (fun hij => ?_)
                          · refine g_const f_X10_shift_167 ?_
                            refine g_ist_6 f_X10_shift_168 (by decide) c1i ?_
                            exact fwd (by omega) n 0 M (by omega) (fun _ _ => rfl) (cpT_0 _ _ _ _).symm
                          · refine g_ild f_X10_shift_118 rfl ?_
                            refine g_const f_X10_shift_120 ?_
                            refine g_isub f_X10_shift_121 ?_
                            refine g_ist_6 f_X10_shift_122 (by decide) c1i ?_
                            exact bwd (by omega) (by omega) n M (Nat.le_refl _) (fun _ _ => rfl) (cpT_0 _ _ _ _).symm
                      · refine g_const f_X10_shift_104 ?_
                        refine g_reti f_X10_shift_106 rfl ?_ (Nat.zero_le _) (Nat.zero_le _)
                        have e : a_shift s (m : Int) i (l : Int) j n = (-13, s) := (if_neg (fun h => h ⟨im, il⟩)).trans ((if_neg (by show ¬ ((wp s m).1 = -1 ∨ (wp s l).1 = -1); omega)).trans ((if_neg (fun h => h (by show (wp s m).1 = (wp s l).1; omega))).trans (if_pos (by show ¬ (hasK (wp s m) i n ∧ hasK (wp s l) j n); rintro ⟨⟨a1, a2, a3⟩, b1, b2, b3⟩; omega))))
                        rw [e]
                        exact ⟨rfl, rfl, hW, mdl.rf⟩
            · refine g_const f_X10_shift_52 ?_
              refine g_reti f_X10_shift_54 rfl ?_ (Nat.zero_le _) (Nat.zero_le _)
              have e : a_shift s (m : Int) i (l : Int) j n = (-12, s) := (if_neg (fun h => h ⟨im, il⟩)).trans ((if_neg (by show ¬ ((wp s m).1 = -1 ∨ (wp s l).1 = -1); omega)).trans (if_pos (by show (wp s m).1 ≠ (wp s l).1; omega)))
              rw [e]
              exact ⟨rfl, rfl, hW, mdl.rf⟩
          · refine g_const f_X10_shift_34 ?_
            refine g_reti f_X10_shift_36 rfl ?_ (Nat.zero_le _) (Nat.zero_le _)
            have e : a_shift s (m : Int) i (l : Int) j n = (-11, s) := (if_neg (fun h => h ⟨im, il⟩)).trans (if_pos (by show (wp s m).1 = -1 ∨ (wp s l).1 = -1; omega))
            rw [e]
            exact ⟨rfl, rfl, hW, mdl.rf⟩
      · exact absurd (by omega) hx
    · rw [if_neg il] at hx
      subst hx
      refine g_if_ne f_X10_shift_11 rfl (by omega) (fun hx => ?_) (fun hx => ?_)
      · exact absurd hx (by omega)
      refine g_const f_X10_shift_14 ?_
      refine g_reti f_X10_shift_15 rfl ?_ (Nat.zero_le _) (Nat.zero_le _)
      first
      | (have e : a_shift s t i u j n = (-1, s) := if_pos (by intro h; exact im h.1); rw [e]; exact ⟨rfl, rfl, hW, mdl.rf⟩)
      | (have e : a_shift s (m : Int) i u j n = (-1, s) := if_pos (by intro h; exact il h.2); rw [e]; exact ⟨rfl, rfl, hW, mdl.rf⟩)
  · rw [if_neg im] at hx
    subst hx
    refine g_if_eq f_X10_shift_4 rfl (by omega) (fun hx => ?_) (fun hx => ?_)
    · refine g_const f_X10_shift_14 ?_
      refine g_reti f_X10_shift_15 rfl ?_ (Nat.zero_le _) (Nat.zero_le _)
      first
      | (have e : a_shift s t i u j n = (-1, s) := if_pos (by intro h; exact im h.1); rw [e]; exact ⟨rfl, rfl, hW, mdl.rf⟩)
      | (have e : a_shift s (m : Int) i u j n = (-1, s) := if_pos (by intro h; exact il h.2); rw [e]; exact ⟨rfl, rfl, hW, mdl.rf⟩)
    · exact absurd (by omega) hx
