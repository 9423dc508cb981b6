set_option maxHeartbeats 4000000 in
set_option maxRecDepth 100000 in
theorem c_isWithin {Ω : Ow} {S : Sg} {M : Mm} (n last : Int) (h1 : rg n) (h2 : rg last) : Ct Ω mX9_isWithin 1 0 0 1 [vi n, vi last] S M (fun x S' M' => (x = if 0 ≤ n ∧ n ≤ last then 1 else 0) ∧ S' = S ∧ M' = M) := by
  refine Ct.mk (by decide) (Nat.le_of_ble_eq_true rfl) [some (vi n), some (vi last)] (by intro q hq; exact hq) (fun γ hγ hz => ?_)
  refine g_ild f_X9_isWithin_0 rfl ?_
  refine g_if_lt f_X9_isWithin_1 rfl (by omega) (fun c1 => ?_) (fun c1 => ?_)
  · refine g_const f_X9_isWithin_13 ?_
    refine g_retz f_X9_isWithin_14 rfl (by omega) ?_ (Nat.zero_le _) (Nat.zero_le _)
    exact ⟨by omega, rfl, rfl⟩
  · refine g_ild f_X9_isWithin_4 rfl ?_
    refine g_ild f_X9_isWithin_5 rfl ?_
    refine g_icmp_gt f_X9_isWithin_6 rfl (by omega) (by omega) (fun c2 => ?_) (fun c2 => ?_)
    · refine g_const f_X9_isWithin_13 ?_
      refine g_retz f_X9_isWithin_14 rfl (by omega) ?_ (Nat.zero_le _) (Nat.zero_le _)
      exact ⟨by omega, rfl, rfl⟩
    · refine g_const f_X9_isWithin_9 ?_
      refine g_goto f_X9_isWithin_10 ?_
      refine g_retz f_X9_isWithin_14 rfl (by omega) ?_ (Nat.zero_le _) (Nat.zero_le _)
      exact ⟨by omega, rfl, rfl⟩
