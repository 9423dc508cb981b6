/-! contracts: the model's street: within .. seers -/
set_option maxHeartbeats 4000000 in
set_option maxRecDepth 100000 in
theorem c_mwithin {Ω : Ow} {S : Sg} {M : Mm} (a b c : Int) (ha : rg a) (hb : rg b) (hc : rg c) : Ct Ω mX10_within 1 0 0 1 [vi a, vi b, vi c] S M (fun x S' M' => (x = if b ≤ a ∧ a ≤ c then 1 else 0) ∧ S' = S ∧ M' = M) := by
  refine Ct.mk (by decide) (Nat.le_of_ble_eq_true rfl) [some (vi a), some (vi b), some (vi c)] (by intro q hq; exact hq) (fun γ hγ hz => ?_)
  refine g_ild f_X10_within_0 rfl ?_
  refine g_ild f_X10_within_1 rfl ?_
  refine g_icmp_lt f_X10_within_2 rfl (by omega) (by omega) (fun c1 => ?_) (fun c1 => ?_)
  · refine g_const f_X10_within_14 ?_
    refine g_retz f_X10_within_15 rfl (by first | exact Or.inl rfl | exact Or.inr rfl) ?_ (Nat.zero_le _) (Nat.zero_le _)
    exact ⟨by split <;> omega, rfl, rfl⟩
  · refine g_ild f_X10_within_5 rfl ?_
    refine g_ild f_X10_within_6 rfl ?_
    refine g_icmp_gt f_X10_within_7 rfl (by omega) (by omega) (fun c2 => ?_) (fun c2 => ?_)
    · refine g_const f_X10_within_14 ?_
      refine g_retz f_X10_within_15 rfl (by first | exact Or.inl rfl | exact Or.inr rfl) ?_ (Nat.zero_le _) (Nat.zero_le _)
      exact ⟨by split <;> omega, rfl, rfl⟩
    · refine g_const f_X10_within_10 ?_
      refine g_goto f_X10_within_11 ?_
      refine g_retz f_X10_within_15 rfl (by first | exact Or.inl rfl | exact Or.inr rfl) ?_ (Nat.zero_le _) (Nat.zero_le _)
      exact ⟨by split <;> omega, rfl, rfl⟩

set_option maxHeartbeats 4000000 in
set_option maxRecDepth 100000 in
theorem c_misOne {Ω : Ow} {S : Sg} {M : Mm} {z : Ab} (hG : Gr S) (hX : MX M z) (hO : okZ z) (a : Int) (ha : rg a) : Ct Ω mX10_isOne 2 0 0 1 [vr Ω 87, vi a] S M (fun x S' M' => (x = if 0 ≤ a ∧ a < (zc z : Int) then 1 else 0) ∧ S' = S ∧ M' = M) := by
  refine Ct.mk (by decide) (Nat.le_of_ble_eq_true rfl) [some (vr Ω 87), some (vi a)] (by intro q hq; exact hq) (fun γ hγ hz => ?_)
  obtain ⟨x1, x2, x3, x4, x5⟩ := id hX
  obtain ⟨z1, z2, z3, z4, z5⟩ := id hO
  have o87 := om87 hG
  refine g_ild f_X10_isOne_0 rfl ?_
  refine g_const f_X10_isOne_1 ?_
  refine g_alv f_X10_isOne_2 rfl ?_
  refine g_getI f_X10_isOne_3 (by assumption) ?_
  rw [x1]
  refine g_const f_X10_isOne_6 ?_
  refine g_isub f_X10_isOne_7 ?_
  refine g_cs1 hγ (c_mwithin a 0 ((zc z : Int) - 1) (by omega) (by omega) (by omega)) f_X10_isOne_8 mo_X10_within mt_X10_within rfl (Nat.le_of_ble_eq_true rfl) ⟨by decide, by decide⟩ ⟨Nat.le_refl _, Nat.le_refl _⟩ (fun x S' M' hq2 => ?_)
  obtain ⟨rfl, q1, q2⟩ := hq2
  obtain rfl := q1.symm
  obtain rfl := q2.symm
  refine g_retz f_X10_isOne_11 rfl (by split <;> simp) ?_ (Nat.zero_le _) (Nat.zero_le _)
  exact ⟨by split <;> split <;> omega, rfl, rfl⟩

set_option maxHeartbeats 4000000 in
set_option maxRecDepth 100000 in
theorem c_misPlace {Ω : Ow} {S : Sg} {M : Mm} (a : Int) (ha : rg a) : Ct Ω mX10_isPlace 2 0 0 1 [vi a] S M (fun x S' M' => (x = if 0 ≤ a ∧ a ≤ 11 then 1 else 0) ∧ S' = S ∧ M' = M) := by
  refine Ct.mk (by decide) (Nat.le_of_ble_eq_true rfl) [some (vi a)] (by intro q hq; exact hq) (fun γ hγ hz => ?_)
  refine g_ild f_X10_isPlace_0 rfl ?_
  refine g_const f_X10_isPlace_1 ?_
  refine g_const f_X10_isPlace_2 ?_
  refine g_cs1 hγ (c_mwithin a 0 11 (by omega) (by omega) (by omega)) f_X10_isPlace_4 mo_X10_within mt_X10_within rfl (Nat.le_of_ble_eq_true rfl) ⟨by decide, by decide⟩ ⟨Nat.le_refl _, Nat.le_refl _⟩ (fun x S' M' hq2 => ?_)
  obtain ⟨rfl, q1, q2⟩ := hq2
  obtain rfl := q1.symm
  obtain rfl := q2.symm
  refine g_retz f_X10_isPlace_7 rfl (by split <;> simp) ?_ (Nat.zero_le _) (Nat.zero_le _)
  exact ⟨rfl, rfl, rfl⟩

set_option maxHeartbeats 4000000 in
set_option maxRecDepth 100000 in
theorem c_mletter {Ω : Ow} {S : Sg} {M : Mm} {z : Ab} (hG : Gr S) (hX : MX M z) (hO : okZ z) {p : Nat} (hp : p < zc z) {j : Nat} (hj : j < 6) : Ct Ω mX10_letterOf 1 0 0 1 [vr Ω 87, vi (p : Int), vi (j : Int)] S M (fun x S' M' => x = (sbj (zP z p) p (zd z) j : Int) ∧ S' = S ∧ M' = M) := by
  refine Ct.mk (by decide) (Nat.le_of_ble_eq_true rfl) [some (vr Ω 87), some (vi (p : Int)), some (vi (j : Int))] (by intro q hq; exact hq) (fun γ hγ hz => ?_)
  obtain ⟨x1, x2, x3, x4, x5⟩ := id hX
  obtain ⟨z1, z2, z3, z4, z5⟩ := id hO
  have hp6 : p < 6 := by omega
  obtain ⟨r0, r1, r2, r3, r4, r5⟩ := id (x4 p hp)
  obtain ⟨b1, b2, b3, b4, b5, b6⟩ := id (z4 p hp)
  have o87 := om87 hG
  have gM1 : _ = ((88 : Nat) : Int) := grn hG (k := 87) (j := 1) (by decide)
  have aM88 := arn hG (r := 88) (c := 12) (n := 6) (by decide +kernel)
  have gM2 : _ = ((89 : Nat) : Int) := grn hG (k := 87) (j := 2) (by decide)
  have aM89 := arn hG (r := 89) (c := 12) (n := 6) (by decide +kernel)
  have gM3 : _ = ((90 : Nat) : Int) := grn hG (k := 87) (j := 3) (by decide)
  have aM90 := arn hG (r := 90) (c := 12) (n := 6) (by decide +kernel)
  have gM4 : _ = ((91 : Nat) : Int) := grn hG (k := 87) (j := 4) (by decide)
  have aM91 := arn hG (r := 91) (c := 12) (n := 6) (by decide +kernel)
  refine g_ild f_X10_letterOf_0 rfl ?_
  refine g_tab f_X10_letterOf_1 (by omega) (fun cj => ?_) (casC (fun cj => ?_) (casC (fun cj => ?_) (casC (fun cj => ?_) (casC (fun cj => ?_) (casC (fun cj => ?_) casN)))))
  · refine g_alv f_X10_letterOf_69 rfl ?_
    refine g_getI f_X10_letterOf_70 (by assumption) ?_
    rw [x3]
    refine g_const f_X10_letterOf_73 ?_
    refine g_irem f_X10_letterOf_75 (by omega) (by omega) ?_
    refine g_reti f_X10_letterOf_76 rfl ?_ (Nat.zero_le _) (Nat.zero_le _)
    have hj5 : j = 5 := by
      have q0 : (j : Int) ≠ 0 := cj (0, 36) (by simp)
      have q1 : (j : Int) ≠ 1 := cj (1, 38) (by simp)
      have q2 : (j : Int) ≠ 2 := cj (2, 45) (by simp)
      have q3 : (j : Int) ≠ 3 := cj (3, 52) (by simp)
      have q4 : (j : Int) ≠ 4 := cj (4, 59) (by simp)
      omega
    subst hj5
    exact ⟨(Int.natCast_emod _ _).symm, rfl, rfl⟩
  · refine g_ild f_X10_letterOf_36 rfl ?_
    refine g_reti f_X10_letterOf_37 rfl ?_ (Nat.zero_le _) (Nat.zero_le _)
    have hj0 : j = 0 := by omega
    subst hj0
    exact ⟨rfl, rfl, rfl⟩
  · refine g_alv f_X10_letterOf_38 rfl ?_
    refine g_getR f_X10_letterOf_39 (by assumption) (by assumption) ?_
    refine g_ild f_X10_letterOf_42 rfl ?_
    refine g_ial f_X10_letterOf_43 (by assumption) _ rfl (by omega) ?_
    rw [r0]
    refine g_reti f_X10_letterOf_44 rfl ?_ (Nat.zero_le _) (Nat.zero_le _)
    have hj1 : j = 1 := by omega
    subst hj1
    exact ⟨rfl, rfl, rfl⟩
  · refine g_alv f_X10_letterOf_45 rfl ?_
    refine g_getR f_X10_letterOf_46 (by assumption) (by assumption) ?_
    refine g_ild f_X10_letterOf_49 rfl ?_
    refine g_ial f_X10_letterOf_50 (by assumption) _ rfl (by omega) ?_
    rw [r1]
    refine g_reti f_X10_letterOf_51 rfl ?_ (Nat.zero_le _) (Nat.zero_le _)
    have hj2 : j = 2 := by omega
    subst hj2
    exact ⟨rfl, rfl, rfl⟩
  · refine g_alv f_X10_letterOf_52 rfl ?_
    refine g_getR f_X10_letterOf_53 (by assumption) (by assumption) ?_
    refine g_ild f_X10_letterOf_56 rfl ?_
    refine g_ial f_X10_letterOf_57 (by assumption) _ rfl (by omega) ?_
    rw [r2]
    refine g_reti f_X10_letterOf_58 rfl ?_ (Nat.zero_le _) (Nat.zero_le _)
    have hj3 : j = 3 := by omega
    subst hj3
    exact ⟨rfl, rfl, rfl⟩
  · refine g_alv f_X10_letterOf_59 rfl ?_
    refine g_getR f_X10_letterOf_60 (by assumption) (by assumption) ?_
    refine g_ild f_X10_letterOf_63 rfl ?_
    refine g_ial f_X10_letterOf_64 (by assumption) _ rfl (by omega) ?_
    rw [r3]
    refine g_const f_X10_letterOf_65 ?_
    refine g_idiv f_X10_letterOf_67 (by omega) (by omega) ?_
    refine g_reti f_X10_letterOf_68 rfl ?_ (Nat.zero_le _) (Nat.zero_le _)
    have hj4 : j = 4 := by omega
    subst hj4
    exact ⟨(Int.natCast_ediv _ _).symm, rfl, rfl⟩

theorem code_cases {d e : Nat} {c : Int} {stk : List Bool} (hst : stepD (some d) c = some e) (hl : stk.length = d) : (c = -3 ∧ ∃ b t, stk = b :: t) ∨ (c = -1 ∧ ∃ b a t, stk = b :: a :: t) ∨ (c = -2 ∧ ∃ b a t, stk = b :: a :: t) ∨ ∃ m : Nat, m < 1800 ∧ c = (m : Int) ∧ d < 31 := by
  have two : 2 ≤ d → ∃ b a t, stk = b :: a :: t := fun h => by
    match stk, hl with
    | b :: a :: t, _ => exact ⟨b, a, t, rfl⟩
    | [_], h2 => simp at h2; omega
    | [], h2 => simp at h2; omega
  unfold stepD at hst
  simp only at hst
  split at hst
  · split at hst
    · refine Or.inl ⟨by assumption, ?_⟩
      match stk, hl with
      | b :: t, _ => exact ⟨b, t, rfl⟩
      | [], h2 => simp at h2; omega
    · cases hst
  · split at hst
    · split at hst
      · rename_i h1 h2
        rcases h1 with h1 | h1
        · exact Or.inr (Or.inl ⟨h1, two h2⟩)
        · exact Or.inr (Or.inr (Or.inl ⟨h1, two h2⟩))
      · cases hst
    · split at hst
      · rename_i h1
        exact Or.inr (Or.inr (Or.inr ⟨c.toNat, by omega, by omega, h1.2.2⟩))
      · cases hst
theorem sbj_le {z : Ab} {p : Nat} (hO : okZ z) (hp : p < zc z) (j : Nat) (hj : j < 6) : sbj (zP z p) p (zd z) j ≤ 20000 := by
  obtain ⟨z1, z2, z3, z4, z5⟩ := hO
  obtain ⟨b1, b2, b3, b4, b5, b6⟩ := z4 p hp
  unfold sbj
  split
  · omega
  split
  · omega
  split
  · omega
  split
  · omega
  split <;> omega
set_option maxHeartbeats 4000000 in
set_option maxRecDepth 100000 in
theorem c_mtrue {Ω : Ow} {S : Sg} {M : Mm} {z : Ab} (hG : Gr S) (hX : MX M z) (hO : okZ z) {p : Nat} (hp : p < zc z) {c b : Nat} {cs : List Int} (hc : c < 61) (hb : M 98 c = (b : Int)) (hl : M 99 c = (cs.length : Int)) (hbl : b + cs.length ≤ 700) (hcode : ∀ (i : Nat) (hi : i < cs.length), M 100 (b + i) = mcode cs[i]) (hwf : wfC cs) : Ct Ω mX10_isTrue 2 0 0 1 [vr Ω 87, vi (p : Int), vi (c : Int)] S M (fun x S' M' => x = ((holdsC (sbj (zP z p) p (zd z)) cs).toNat : Int) ∧ S' = S ∧ ∀ k, k ≠ 101 → M' k = M k) := by
  refine Ct.mk (by decide) (Nat.le_of_ble_eq_true rfl) [some (vr Ω 87), some (vi (p : Int)), some (vi (c : Int)), none, none, none, none, none, none] (by intro q hq; exact hq) (fun γ hγ hz => ?_)
  obtain ⟨x1, x2, x3, x4, x5⟩ := id hX
  obtain ⟨z1, z2, z3, z4, z5⟩ := id hO
  have o87 := om87 hG
  have gM20 : _ = ((98 : Nat) : Int) := grn hG (k := 87) (j := 20) (by decide)
  have aM98 := arn hG (r := 98) (c := 12) (n := 61) (by decide +kernel)
  have gM21 : _ = ((99 : Nat) : Int) := grn hG (k := 87) (j := 21) (by decide)
  have aM99 := arn hG (r := 99) (c := 12) (n := 61) (by decide +kernel)
  have gM22 : _ = ((100 : Nat) : Int) := grn hG (k := 87) (j := 22) (by decide)
  have aM100 := arn hG (r := 100) (c := 12) (n := 800) (by decide +kernel)
  have gM24 : _ = ((101 : Nat) : Int) := grn hG (k := 87) (j := 24) (by decide)
  have aM101 := arn hG (r := 101) (c := 14) (n := 110) (by decide +kernel)
  have loop : ∀ (k n : Nat) (M1 : Mm) (v5 v6 v7 v8 : Option Value), n + k = cs.length → cat1 v5 → cat1 v6 → cat1 v7 → cat1 v8 → stkR M1 (evC (sbj (zP z p) p (zd z)) (cs.take n)) → (∀ k, k ≠ 101 → M1 k = M k) → Go γ Ω mX10_isTrue (Zm γ Ω 1 0 0 (fun x S' M' => x = ((holdsC (sbj (zP z p) p (zd z)) cs).toNat : Int) ∧ S' = S ∧ ∀ k, k ≠ 101 → M' k = M k)) 0 0 S M1 10 [some (vr Ω 87), some (vi (p : Int)), some (vi (c : Int)), some (vi ((evC (sbj (zP z p) p (zd z)) (cs.take n)).length : Int)), some (vi (((b + n : Nat) : Int))), v5, v6, v7, v8] [] := by
    intro k
    induction k with
    | zero =>
      intro n M1 v5 v6 v7 v8 hk q5 q6 q7 q8 hs hM
      have hM98 : M1 98 = M 98 := hM 98 (by decide)
      have hM99 : M1 99 = M 99 := hM 99 (by decide)
      have hM100 : M1 100 = M 100 := hM 100 (by decide)
      have hM87 : M1 87 = M 87 := hM 87 (by decide)
      obtain ⟨d, hd1, hd2⟩ := wf_take (s := sbj (zP z p) p (zd z)) hwf n (by omega)
      have htk : cs.take n = cs := List.take_of_length_le (by omega)
      rw [htk] at hd1 hd2 hs ⊢
      have hd : d = 1 := Option.some.inj (hd1.symm.trans hwf)
      obtain ⟨bb, hb1⟩ : ∃ bb, evC (sbj (zP z p) p (zd z)) cs = [bb] := by
        match h : evC (sbj (zP z p) p (zd z)) cs, hd2 with
        | [bb], _ => exact ⟨bb, rfl⟩
        | [], h2 => simp at h2; omega
        | _ :: _ :: _, h2 => simp at h2; omega
      have hH : holdsC (sbj (zP z p) p (zd z)) cs = bb := by rw [holdsC, hb1]; rfl
      rw [hb1] at hs ⊢
      have hs0 : M1 101 0 = (bb.toNat : Int) := hs.1
      refine g_ild f_X10_isTrue_10 rfl ?_
      refine g_alv f_X10_isTrue_12 rfl ?_
      refine g_getR f_X10_isTrue_13 (by assumption) (by assumption) ?_
      refine g_ild f_X10_isTrue_16 rfl ?_
      refine g_ial f_X10_isTrue_17 (by assumption) _ rfl (by omega) ?_
      rw [hM98, hb]
      refine g_alv f_X10_isTrue_18 rfl ?_
      refine g_getR f_X10_isTrue_19 (by assumption) (by assumption) ?_
      refine g_ild f_X10_isTrue_22 rfl ?_
      refine g_ial f_X10_isTrue_23 (by assumption) _ rfl (by omega) ?_
      rw [hM99, hl]
      refine g_iadd f_X10_isTrue_24 ?_
      refine g_icmp_ge f_X10_isTrue_25 rfl (by omega) (by omega) (fun hc1 => ?_) (fun hc1 => ?_)
      · refine g_alv f_X10_isTrue_251 rfl ?_
        refine g_getR f_X10_isTrue_252 (by assumption) (by assumption) ?_
        refine g_const f_X10_isTrue_255 ?_
        refine g_zal f_X10_isTrue_256 (by assumption) 0 rfl (by omega) ?_
        rw [hs0]
        refine g_retz f_X10_isTrue_257 rfl (by cases bb <;> simp) ?_ (Nat.zero_le _) (Nat.zero_le _)
        exact ⟨by rw [hH], rfl, hM⟩
      · exact absurd (by omega) hc1
    | succ k ih =>
      intro n M1 v5 v6 v7 v8 hk q5 q6 q7 q8 hs hM
      have hM98 : M1 98 = M 98 := hM 98 (by decide)
      have hM99 : M1 99 = M 99 := hM 99 (by decide)
      have hM100 : M1 100 = M 100 := hM 100 (by decide)
      have hM87 : M1 87 = M 87 := hM 87 (by decide)
      have hn : n < cs.length := by omega
      obtain ⟨d, hd1, hd2⟩ := wf_take (s := sbj (zP z p) p (zd z)) hwf n (by omega)
      obtain ⟨e, he1, he2⟩ := wf_take (s := sbj (zP z p) p (zd z)) hwf (n + 1) (by omega)
      have hev := ev_take (s := sbj (zP z p) p (zd z)) hn
      have hst : stepD (some d) cs[n] = some e := by rw [← he1, List.take_succ, List.getElem?_eq_getElem hn, List.foldl_append, hd1]; rfl
      have hd31 : d ≤ 31 := foldD_le _ 0 d (by decide) hd1
      have nx : ∀ (M2 : Mm) (tp : Int) (v5 v6 v7 v8 : Option Value), cat1 v5 → cat1 v6 → cat1 v7 → cat1 v8 → tp = ((stepC (sbj (zP z p) p (zd z)) (evC (sbj (zP z p) p (zd z)) (cs.take n)) cs[n]).length : Int) → stkR M2 (stepC (sbj (zP z p) p (zd z)) (evC (sbj (zP z p) p (zd z)) (cs.take n)) cs[n]) → (∀ k, k ≠ 101 → M2 k = M k) → Go γ Ω mX10_isTrue (Zm γ Ω 1 0 0 (fun x S' M' => x = ((holdsC (sbj (zP z p) p (zd z)) cs).toNat : Int) ∧ S' = S ∧ ∀ k, k ≠ 101 → M' k = M k)) 0 0 S M2 245 [some (vr Ω 87), some (vi (p : Int)), some (vi (c : Int)), some (vi tp), some (vi (((b + n : Nat) : Int))), v5, v6, v7, v8] [] := by
        intro M2 tp v5 v6 v7 v8 q5 q6 q7 q8 htp hs2 hM2
        subst htp
        refine g_inc_4 f_X10_isTrue_245 (by decide) c1i ?_
        refine g_goto f_X10_isTrue_248 ?_
        rw [← hev] at hs2 ⊢
        exact ih (n + 1) M2 v5 v6 v7 v8 (by omega) q5 q6 q7 q8 hs2 hM2
      have hcn := hcode n hn
      generalize cs[n] = c0 at hst nx hcn
      generalize evC (sbj (zP z p) p (zd z)) (cs.take n) = stk at hd2 nx hs ⊢
      have hcr := mcode_rg (stepD_rg hst)
      obtain ⟨T, hT⟩ : ∃ T : Nat, T = stk.length := ⟨_, rfl⟩
      rw [← hT]
      rcases code_cases hst hd2 with ⟨rfl, b0, t, rfl⟩ | ⟨rfl, b0, a0, t, rfl⟩ | ⟨rfl, b0, a0, t, rfl⟩ | ⟨m, hm, rfl, hd3⟩
      · have hT1 : T = t.length + 1 := hT
        have hs1 : M1 101 t.length = (b0.toNat : Int) := hs.1
        have hs2 := hs.2
        have hT31 : T ≤ 31 := by omega
        have bn : (!b0).toNat = 1 - b0.toNat := by cases b0 <;> rfl
        have bl : b0.toNat ≤ 1 := by cases b0 <;> decide
        have j171 : ∀ (v : Int) (v5 v6 v7 v8 : Option Value), cat1 v5 → cat1 v6 → cat1 v7 → cat1 v8 → v = ((!b0).toNat : Int) → Go γ Ω mX10_isTrue (Zm γ Ω 1 0 0 (fun x S' M' => x = ((holdsC (sbj (zP z p) p (zd z)) cs).toNat : Int) ∧ S' = S ∧ ∀ k, k ≠ 101 → M' k = M k)) 0 0 S M1 171 [some (vr Ω 87), some (vi (p : Int)), some (vi (c : Int)), some (vi (T : Int)), some (vi (((b + n : Nat) : Int))), v5, v6, v7, v8] [vi v, vi ((T : Int) - 1), vr Ω 101] := by
          intro v v5 v6 v7 v8 q5 q6 q7 q8 hv
          refine g_zas f_X10_isTrue_171 (by assumption) t.length (by omega) (by omega) (by omega) ?_
          refine g_goto f_X10_isTrue_172 ?_
          refine nx _ _ v5 v6 v7 v8 q5 q6 q7 q8 ?_ ⟨?_, ?_⟩ (fun k hk => by rw [up_row hk]; exact hM k hk)
          · show (T : Int) = ((t.length + 1 : Nat) : Int); omega
          · rw [up_s]; exact hv
          · exact stkR_up (Nat.le_refl _) hs2
        refine g_ild f_X10_isTrue_10 rfl ?_
        refine g_alv f_X10_isTrue_12 rfl ?_
        refine g_getR f_X10_isTrue_13 (by assumption) (by assumption) ?_
        refine g_ild f_X10_isTrue_16 rfl ?_
        refine g_ial f_X10_isTrue_17 (by assumption) _ rfl (by omega) ?_
        rw [hM98, hb]
        refine g_alv f_X10_isTrue_18 rfl ?_
        refine g_getR f_X10_isTrue_19 (by assumption) (by assumption) ?_
        refine g_ild f_X10_isTrue_22 rfl ?_
        refine g_ial f_X10_isTrue_23 (by assumption) _ rfl (by omega) ?_
        rw [hM99, hl]
        refine g_iadd f_X10_isTrue_24 ?_
        refine g_icmp_ge f_X10_isTrue_25 rfl (by omega) (by omega) (fun hc1 => ?_) (fun hc1 => ?_)
        · exact absurd hc1 (by omega)
        refine g_alv f_X10_isTrue_28 rfl ?_
        refine g_getR f_X10_isTrue_29 (by assumption) (by assumption) ?_
        refine g_ild f_X10_isTrue_32 rfl ?_
        refine g_ial f_X10_isTrue_34 (by assumption) (b + n) (by omega) (by omega) ?_
        rw [hM100, hcn, show mcode (-3) = 0 from rfl]
        refine g_ist_5 f_X10_isTrue_35 (by decide) c1i ?_
        refine g_ild f_X10_isTrue_37 rfl ?_
        refine g_const f_X10_isTrue_39 ?_
        refine g_icmp_lt f_X10_isTrue_40 rfl (by omega) (by omega) (fun hc2 => ?_) (fun hc2 => ?_)
        · refine g_ild f_X10_isTrue_143 rfl ?_
          refine g_if_ne f_X10_isTrue_145 rfl (by omega) (fun hc3 => ?_) (fun hc3 => ?_)
          · exact absurd hc3 (by omega)
          refine g_alv f_X10_isTrue_148 rfl ?_
          refine g_getR f_X10_isTrue_149 (by assumption) (by assumption) ?_
          refine g_ild f_X10_isTrue_152 rfl ?_
          refine g_const f_X10_isTrue_153 ?_
          refine g_isub f_X10_isTrue_154 ?_
          refine g_alv f_X10_isTrue_155 rfl ?_
          refine g_getR f_X10_isTrue_156 (by assumption) (by assumption) ?_
          refine g_ild f_X10_isTrue_159 rfl ?_
          refine g_const f_X10_isTrue_160 ?_
          refine g_isub f_X10_isTrue_161 ?_
          refine g_zal f_X10_isTrue_162 (by assumption) t.length (by omega) (by omega) ?_
          rw [hs1]
          refine g_if_ne f_X10_isTrue_163 rfl (by omega) (fun hc4 => ?_) (fun hc4 => ?_)
          · refine g_const f_X10_isTrue_170 ?_
            exact j171 _ _ _ _ _ (by first | exact c1i | assumption) (by first | exact c1i | assumption) (by first | exact c1i | assumption) (by first | exact c1i | assumption) (by omega)
          · refine g_const f_X10_isTrue_166 ?_
            refine g_goto f_X10_isTrue_167 ?_
            exact j171 _ _ _ _ _ (by first | exact c1i | assumption) (by first | exact c1i | assumption) (by first | exact c1i | assumption) (by first | exact c1i | assumption) (by omega)
        · exact absurd (by omega) hc2
      · have hT1 : T = t.length + 1 + 1 := hT
        have hs1 : M1 101 (t.length + 1) = (b0.toNat : Int) := hs.1
        have hs2 : M1 101 t.length = (a0.toNat : Int) := hs.2.1
        have hs3 := hs.2.2
        have hT31 : T ≤ 31 := by omega
        have bl : b0.toNat ≤ 1 := by cases b0 <;> decide
        have al : a0.toNat ≤ 1 := by cases a0 <;> decide
        have ab1 : a0.toNat = 0 → (a0 && b0).toNat = 0 := by cases a0 <;> cases b0 <;> decide
        have ab2 : a0.toNat ≠ 0 → (a0 && b0).toNat = b0.toNat := by cases a0 <;> cases b0 <;> decide
        have j244 : ∀ (v : Int) (v5 v6 v7 v8 : Option Value), cat1 v5 → cat1 v6 → cat1 v7 → cat1 v8 → v = ((a0 && b0).toNat : Int) → Go γ Ω mX10_isTrue (Zm γ Ω 1 0 0 (fun x S' M' => x = ((holdsC (sbj (zP z p) p (zd z)) cs).toNat : Int) ∧ S' = S ∧ ∀ k, k ≠ 101 → M' k = M k)) 0 0 S M1 244 [some (vr Ω 87), some (vi (p : Int)), some (vi (c : Int)), some (vi ((T : Int) + -1)), some (vi (((b + n : Nat) : Int))), v5, v6, v7, v8] [vi v, vi ((T : Int) + -1 - 1), vr Ω 101] := by
          intro v v5 v6 v7 v8 q5 q6 q7 q8 hv
          have hvv : v = 0 ∨ v = 1 := by omega
          refine g_zas f_X10_isTrue_244 (by assumption) t.length (by omega) (by omega) (by omega) ?_
          refine nx _ _ v5 v6 v7 v8 q5 q6 q7 q8 ?_ ⟨?_, ?_⟩ (fun k hk => by rw [up_row hk]; exact hM k hk)
          · show (T : Int) + -1 = ((t.length + 1 : Nat) : Int); omega
          · rw [up_s]; exact hv
          · exact stkR_up (Nat.le_refl _) hs3
        refine g_ild f_X10_isTrue_10 rfl ?_
        refine g_alv f_X10_isTrue_12 rfl ?_
        refine g_getR f_X10_isTrue_13 (by assumption) (by assumption) ?_
        refine g_ild f_X10_isTrue_16 rfl ?_
        refine g_ial f_X10_isTrue_17 (by assumption) _ rfl (by omega) ?_
        rw [hM98, hb]
        refine g_alv f_X10_isTrue_18 rfl ?_
        refine g_getR f_X10_isTrue_19 (by assumption) (by assumption) ?_
        refine g_ild f_X10_isTrue_22 rfl ?_
        refine g_ial f_X10_isTrue_23 (by assumption) _ rfl (by omega) ?_
        rw [hM99, hl]
        refine g_iadd f_X10_isTrue_24 ?_
        refine g_icmp_ge f_X10_isTrue_25 rfl (by omega) (by omega) (fun hc1 => ?_) (fun hc1 => ?_)
        · exact absurd hc1 (by omega)
        refine g_alv f_X10_isTrue_28 rfl ?_
        refine g_getR f_X10_isTrue_29 (by assumption) (by assumption) ?_
        refine g_ild f_X10_isTrue_32 rfl ?_
        refine g_ial f_X10_isTrue_34 (by assumption) (b + n) (by omega) (by omega) ?_
        rw [hM100, hcn, show mcode (-1) = 1 from rfl]
        refine g_ist_5 f_X10_isTrue_35 (by decide) c1i ?_
        refine g_ild f_X10_isTrue_37 rfl ?_
        refine g_const f_X10_isTrue_39 ?_
        refine g_icmp_lt f_X10_isTrue_40 rfl (by omega) (by omega) (fun hc2 => ?_) (fun hc2 => ?_)
        · refine g_ild f_X10_isTrue_143 rfl ?_
          refine g_if_ne f_X10_isTrue_145 rfl (by omega) (fun hc3 => ?_) (fun hc3 => ?_)
          · refine g_inc_3 f_X10_isTrue_175 (by decide) c1i ?_
            refine g_alv f_X10_isTrue_178 rfl ?_
            refine g_getR f_X10_isTrue_179 (by assumption) (by assumption) ?_
            refine g_ild f_X10_isTrue_182 rfl ?_
            refine g_const f_X10_isTrue_183 ?_
            refine g_isub f_X10_isTrue_184 ?_
            refine g_ild f_X10_isTrue_185 rfl ?_
            refine g_const f_X10_isTrue_187 ?_
            refine g_icmp_ne f_X10_isTrue_188 rfl (by omega) (by omega) (fun hc5 => ?_) (fun hc5 => ?_)
            · exact absurd hc5 (by omega)
            refine g_alv f_X10_isTrue_191 rfl ?_
            refine g_getR f_X10_isTrue_192 (by assumption) (by assumption) ?_
            refine g_ild f_X10_isTrue_195 rfl ?_
            refine g_const f_X10_isTrue_196 ?_
            refine g_isub f_X10_isTrue_197 ?_
            refine g_zal f_X10_isTrue_198 (by assumption) t.length (by omega) (by omega) ?_
            rw [hs2]
            refine g_if_eq f_X10_isTrue_199 rfl (by omega) (fun hc6 => ?_) (fun hc6 => ?_)
            · refine g_const f_X10_isTrue_215 ?_
              refine g_goto f_X10_isTrue_216 ?_
              exact j244 _ _ _ _ _ (by first | exact c1i | assumption) (by first | exact c1i | assumption) (by first | exact c1i | assumption) (by first | exact c1i | assumption) (by omega)
            · refine g_alv f_X10_isTrue_202 rfl ?_
              refine g_getR f_X10_isTrue_203 (by assumption) (by assumption) ?_
              refine g_ild f_X10_isTrue_206 rfl ?_
              refine g_zal f_X10_isTrue_207 (by assumption) (t.length + 1) (by omega) (by omega) ?_
              rw [hs1]
              refine g_if_eq f_X10_isTrue_208 rfl (by omega) (fun hc7 => ?_) (fun hc7 => ?_)
              · refine g_const f_X10_isTrue_215 ?_
                refine g_goto f_X10_isTrue_216 ?_
                exact j244 _ _ _ _ _ (by first | exact c1i | assumption) (by first | exact c1i | assumption) (by first | exact c1i | assumption) (by first | exact c1i | assumption) (by omega)
              · refine g_const f_X10_isTrue_211 ?_
                refine g_goto f_X10_isTrue_212 ?_
                exact j244 _ _ _ _ _ (by first | exact c1i | assumption) (by first | exact c1i | assumption) (by first | exact c1i | assumption) (by first | exact c1i | assumption) (by omega)
          · exact absurd (by omega) hc3
        · exact absurd (by omega) hc2
      · have hT1 : T = t.length + 1 + 1 := hT
        have hs1 : M1 101 (t.length + 1) = (b0.toNat : Int) := hs.1
        have hs2 : M1 101 t.length = (a0.toNat : Int) := hs.2.1
        have hs3 := hs.2.2
        have hT31 : T ≤ 31 := by omega
        have bl : b0.toNat ≤ 1 := by cases b0 <;> decide
        have al : a0.toNat ≤ 1 := by cases a0 <;> decide
        have ab1 : a0.toNat = 0 → (a0 || b0).toNat = b0.toNat := by cases a0 <;> cases b0 <;> decide
        have ab2 : a0.toNat ≠ 0 → (a0 || b0).toNat = 1 := by cases a0 <;> cases b0 <;> decide
        have j244 : ∀ (v : Int) (v5 v6 v7 v8 : Option Value), cat1 v5 → cat1 v6 → cat1 v7 → cat1 v8 → v = ((a0 || b0).toNat : Int) → Go γ Ω mX10_isTrue (Zm γ Ω 1 0 0 (fun x S' M' => x = ((holdsC (sbj (zP z p) p (zd z)) cs).toNat : Int) ∧ S' = S ∧ ∀ k, k ≠ 101 → M' k = M k)) 0 0 S M1 244 [some (vr Ω 87), some (vi (p : Int)), some (vi (c : Int)), some (vi ((T : Int) + -1)), some (vi (((b + n : Nat) : Int))), v5, v6, v7, v8] [vi v, vi ((T : Int) + -1 - 1), vr Ω 101] := by
          intro v v5 v6 v7 v8 q5 q6 q7 q8 hv
          have hvv : v = 0 ∨ v = 1 := by omega
          refine g_zas f_X10_isTrue_244 (by assumption) t.length (by omega) (by omega) (by omega) ?_
          refine nx _ _ v5 v6 v7 v8 q5 q6 q7 q8 ?_ ⟨?_, ?_⟩ (fun k hk => by rw [up_row hk]; exact hM k hk)
          · show (T : Int) + -1 = ((t.length + 1 : Nat) : Int); omega
          · rw [up_s]; exact hv
          · exact stkR_up (Nat.le_refl _) hs3
        refine g_ild f_X10_isTrue_10 rfl ?_
        refine g_alv f_X10_isTrue_12 rfl ?_
        refine g_getR f_X10_isTrue_13 (by assumption) (by assumption) ?_
        refine g_ild f_X10_isTrue_16 rfl ?_
        refine g_ial f_X10_isTrue_17 (by assumption) _ rfl (by omega) ?_
        rw [hM98, hb]
        refine g_alv f_X10_isTrue_18 rfl ?_
        refine g_getR f_X10_isTrue_19 (by assumption) (by assumption) ?_
        refine g_ild f_X10_isTrue_22 rfl ?_
        refine g_ial f_X10_isTrue_23 (by assumption) _ rfl (by omega) ?_
        rw [hM99, hl]
        refine g_iadd f_X10_isTrue_24 ?_
        refine g_icmp_ge f_X10_isTrue_25 rfl (by omega) (by omega) (fun hc1 => ?_) (fun hc1 => ?_)
        · exact absurd hc1 (by omega)
        refine g_alv f_X10_isTrue_28 rfl ?_
        refine g_getR f_X10_isTrue_29 (by assumption) (by assumption) ?_
        refine g_ild f_X10_isTrue_32 rfl ?_
        refine g_ial f_X10_isTrue_34 (by assumption) (b + n) (by omega) (by omega) ?_
        rw [hM100, hcn, show mcode (-2) = 2 from rfl]
        refine g_ist_5 f_X10_isTrue_35 (by decide) c1i ?_
        refine g_ild f_X10_isTrue_37 rfl ?_
        refine g_const f_X10_isTrue_39 ?_
        refine g_icmp_lt f_X10_isTrue_40 rfl (by omega) (by omega) (fun hc2 => ?_) (fun hc2 => ?_)
        · refine g_ild f_X10_isTrue_143 rfl ?_
          refine g_if_ne f_X10_isTrue_145 rfl (by omega) (fun hc3 => ?_) (fun hc3 => ?_)
          · refine g_inc_3 f_X10_isTrue_175 (by decide) c1i ?_
            refine g_alv f_X10_isTrue_178 rfl ?_
            refine g_getR f_X10_isTrue_179 (by assumption) (by assumption) ?_
            refine g_ild f_X10_isTrue_182 rfl ?_
            refine g_const f_X10_isTrue_183 ?_
            refine g_isub f_X10_isTrue_184 ?_
            refine g_ild f_X10_isTrue_185 rfl ?_
            refine g_const f_X10_isTrue_187 ?_
            refine g_icmp_ne f_X10_isTrue_188 rfl (by omega) (by omega) (fun hc5 => ?_) (fun hc5 => ?_)
            · refine g_alv f_X10_isTrue_219 rfl ?_
              refine g_getR f_X10_isTrue_220 (by assumption) (by assumption) ?_
              refine g_ild f_X10_isTrue_223 rfl ?_
              refine g_const f_X10_isTrue_224 ?_
              refine g_isub f_X10_isTrue_225 ?_
              refine g_zal f_X10_isTrue_226 (by assumption) t.length (by omega) (by omega) ?_
              rw [hs2]
              refine g_if_ne f_X10_isTrue_227 rfl (by omega) (fun hc6 => ?_) (fun hc6 => ?_)
              · refine g_const f_X10_isTrue_239 ?_
                refine g_goto f_X10_isTrue_240 ?_
                exact j244 _ _ _ _ _ (by first | exact c1i | assumption) (by first | exact c1i | assumption) (by first | exact c1i | assumption) (by first | exact c1i | assumption) (by omega)
              · refine g_alv f_X10_isTrue_230 rfl ?_
                refine g_getR f_X10_isTrue_231 (by assumption) (by assumption) ?_
                refine g_ild f_X10_isTrue_234 rfl ?_
                refine g_zal f_X10_isTrue_235 (by assumption) (t.length + 1) (by omega) (by omega) ?_
                rw [hs1]
                refine g_if_eq f_X10_isTrue_236 rfl (by omega) (fun hc7 => ?_) (fun hc7 => ?_)
                · refine g_const f_X10_isTrue_243 ?_
                  exact j244 _ _ _ _ _ (by first | exact c1i | assumption) (by first | exact c1i | assumption) (by first | exact c1i | assumption) (by first | exact c1i | assumption) (by omega)
                · refine g_const f_X10_isTrue_239 ?_
                  refine g_goto f_X10_isTrue_240 ?_
                  exact j244 _ _ _ _ _ (by first | exact c1i | assumption) (by first | exact c1i | assumption) (by first | exact c1i | assumption) (by first | exact c1i | assumption) (by omega)
            · exact absurd (by omega) hc5
          · exact absurd (by omega) hc3
        · exact absurd (by omega) hc2
      · have hT31 : T ≤ 31 := by omega
        have hmc := mcode_test m
        have j139 : ∀ (v : Int) (v5 v6 v7 v8 : Option Value), cat1 v5 → cat1 v6 → cat1 v7 → cat1 v8 → v = ((testV (sbj (zP z p) p (zd z)) m).toNat : Int) → Go γ Ω mX10_isTrue (Zm γ Ω 1 0 0 (fun x S' M' => x = ((holdsC (sbj (zP z p) p (zd z)) cs).toNat : Int) ∧ S' = S ∧ ∀ k, k ≠ 101 → M' k = M k)) 0 0 S M1 139 [some (vr Ω 87), some (vi (p : Int)), some (vi (c : Int)), some (vi ((T : Int) + 1)), some (vi (((b + n : Nat) : Int))), v5, v6, v7, v8] [vi v, vi (T : Int), vr Ω 101] := by
          intro v v5 v6 v7 v8 q5 q6 q7 q8 hv
          have hvl : (testV (sbj (zP z p) p (zd z)) m).toNat ≤ 1 := by cases testV (sbj (zP z p) p (zd z)) m <;> decide
          rw [stepC_test] at nx
          refine g_zas f_X10_isTrue_139 (by assumption) T (by omega) (by omega) (by omega) ?_
          refine g_goto f_X10_isTrue_140 ?_
          refine nx _ _ v5 v6 v7 v8 q5 q6 q7 q8 ?_ ⟨?_, ?_⟩ (fun k hk => by rw [up_row hk]; exact hM k hk)
          · show (T : Int) + 1 = ((stk.length + 1 : Nat) : Int); omega
          · rw [← hT, up_s]; exact hv
          · exact stkR_up (by omega) hs
        have hX1 : MX M1 z := hX.ask (fun k h1 _ => hM k h1)
        have hsl : sbj (zP z p) p (zd z) (m / 300) ≤ 20000 := sbj_le hO hp _ (by omega)
        refine g_ild f_X10_isTrue_10 rfl ?_
        refine g_alv f_X10_isTrue_12 rfl ?_
        refine g_getR f_X10_isTrue_13 (by assumption) (by assumption) ?_
        refine g_ild f_X10_isTrue_16 rfl ?_
        refine g_ial f_X10_isTrue_17 (by assumption) _ rfl (by omega) ?_
        rw [hM98, hb]
        refine g_alv f_X10_isTrue_18 rfl ?_
        refine g_getR f_X10_isTrue_19 (by assumption) (by assumption) ?_
        refine g_ild f_X10_isTrue_22 rfl ?_
        refine g_ial f_X10_isTrue_23 (by assumption) _ rfl (by omega) ?_
        rw [hM99, hl]
        refine g_iadd f_X10_isTrue_24 ?_
        refine g_icmp_ge f_X10_isTrue_25 rfl (by omega) (by omega) (fun hc1 => ?_) (fun hc1 => ?_)
        · exact absurd hc1 (by omega)
        refine g_alv f_X10_isTrue_28 rfl ?_
        refine g_getR f_X10_isTrue_29 (by assumption) (by assumption) ?_
        refine g_ild f_X10_isTrue_32 rfl ?_
        refine g_ial f_X10_isTrue_34 (by assumption) (b + n) (by omega) (by omega) ?_
        rw [hM100, hcn, hmc]
        refine g_ist_5 f_X10_isTrue_35 (by decide) c1i ?_
        refine g_ild f_X10_isTrue_37 rfl ?_
        refine g_const f_X10_isTrue_39 ?_
        refine g_icmp_lt f_X10_isTrue_40 rfl (by omega) (by omega) (fun hc2 => ?_) (fun hc2 => ?_)
        · exact absurd hc2 (by omega)
        refine g_alv f_X10_isTrue_43 rfl ?_
        refine g_ild f_X10_isTrue_44 rfl ?_
        refine g_ild f_X10_isTrue_45 rfl ?_
        refine g_const f_X10_isTrue_47 ?_
        refine g_isub f_X10_isTrue_48 ?_
        refine g_const f_X10_isTrue_49 ?_
        refine g_idiv f_X10_isTrue_52 (by omega) (by omega) ?_
        refine g_as (show ((m : Int) + 3 - 3) / 300 = ((m / 300 : Nat) : Int) by omega) ?_
        refine g_cv1 hγ (c_mletter hG hX1 hO hp (j := m / 300) (by omega)) f_X10_isTrue_53 mo_X10_letterOf mv_X10_letterOf (by assumption) rfl rfl (Nat.le_of_ble_eq_true rfl) ⟨by decide, by decide⟩ ⟨Nat.le_refl _, Nat.le_refl _⟩ (fun x S' M4 hq2 => ?_)
        obtain ⟨rfl, q1, q2⟩ := hq2
        obtain rfl := q1.symm
        obtain rfl := q2.symm
        refine g_ist_6 f_X10_isTrue_56 (by decide) c1i ?_
        refine g_ild f_X10_isTrue_58 rfl ?_
        refine g_const f_X10_isTrue_60 ?_
        refine g_isub f_X10_isTrue_61 ?_
        refine g_const f_X10_isTrue_62 ?_
        refine g_irem f_X10_isTrue_64 (by omega) (by omega) ?_
        refine g_as (show ((m : Int) + 3 - 3) % 100 = ((m % 100 : Nat) : Int) by omega) ?_
        refine g_ist_7 f_X10_isTrue_65 (by decide) c1i ?_
        refine g_ild f_X10_isTrue_67 rfl ?_
        refine g_const f_X10_isTrue_69 ?_
        refine g_isub f_X10_isTrue_70 ?_
        refine g_const f_X10_isTrue_71 ?_
        refine g_idiv f_X10_isTrue_73 (by omega) (by omega) ?_
        refine g_as (show ((m : Int) + 3 - 3) / 100 = ((m / 100 : Nat) : Int) by omega) ?_
        refine g_const f_X10_isTrue_74 ?_
        refine g_irem f_X10_isTrue_75 (by omega) (by omega) ?_
        refine g_as (show ((m / 100 : Nat) : Int) % 3 = ((m / 100 % 3 : Nat) : Int) by omega) ?_
        refine g_ist_8 f_X10_isTrue_76 (by decide) c1i ?_
        refine g_alv f_X10_isTrue_78 rfl ?_
        refine g_getR f_X10_isTrue_79 (by assumption) (by assumption) ?_
        refine g_ild f_X10_isTrue_82 rfl ?_
        refine g_inc_3 f_X10_isTrue_83 (by decide) c1i ?_
        refine g_ild f_X10_isTrue_86 rfl ?_
        refine g_if_ne f_X10_isTrue_88 rfl (by omega) (fun hr0 => ?_) (fun hr0 => ?_)
        · refine g_ild f_X10_isTrue_106 rfl ?_
          refine g_const f_X10_isTrue_108 ?_
          refine g_icmp_ne f_X10_isTrue_109 rfl (by omega) (by omega) (fun hr1 => ?_) (fun hr1 => ?_)
          · refine g_ild f_X10_isTrue_127 rfl ?_
            refine g_ild f_X10_isTrue_129 rfl ?_
            refine g_icmp_le f_X10_isTrue_131 rfl (by omega) (by omega) (fun hr2 => ?_) (fun hr2 => ?_)
            · refine g_const f_X10_isTrue_138 ?_
              refine j139 _ _ _ _ _ (by first | exact c1i | assumption) (by first | exact c1i | assumption) (by first | exact c1i | assumption) (by first | exact c1i | assumption) ?_
              unfold testV
              rw [relV_t]
              generalize sbj (zP z p) p (zd z) (m / 300) = sv at *
              generalize m % 100 = mm at *
              first
              | (rw [if_pos (by omega), decide_eq_true (by omega)]; rfl)
              | (rw [if_pos (by omega), decide_eq_false (by omega)]; rfl)
              | (rw [if_neg (by omega), if_pos (by omega), decide_eq_true (by omega)]; rfl)
              | (rw [if_neg (by omega), if_pos (by omega), decide_eq_false (by omega)]; rfl)
              | (rw [if_neg (by omega), if_neg (by omega), decide_eq_true (by omega)]; rfl)
              | (rw [if_neg (by omega), if_neg (by omega), decide_eq_false (by omega)]; rfl)
            · refine g_const f_X10_isTrue_134 ?_
              refine g_goto f_X10_isTrue_135 ?_
              refine j139 _ _ _ _ _ (by first | exact c1i | assumption) (by first | exact c1i | assumption) (by first | exact c1i | assumption) (by first | exact c1i | assumption) ?_
              unfold testV
              rw [relV_t]
              generalize sbj (zP z p) p (zd z) (m / 300) = sv at *
              generalize m % 100 = mm at *
              first
              | (rw [if_pos (by omega), decide_eq_true (by omega)]; rfl)
              | (rw [if_pos (by omega), decide_eq_false (by omega)]; rfl)
              | (rw [if_neg (by omega), if_pos (by omega), decide_eq_true (by omega)]; rfl)
              | (rw [if_neg (by omega), if_pos (by omega), decide_eq_false (by omega)]; rfl)
              | (rw [if_neg (by omega), if_neg (by omega), decide_eq_true (by omega)]; rfl)
              | (rw [if_neg (by omega), if_neg (by omega), decide_eq_false (by omega)]; rfl)
          · refine g_ild f_X10_isTrue_112 rfl ?_
            refine g_ild f_X10_isTrue_114 rfl ?_
            refine g_icmp_ne f_X10_isTrue_116 rfl (by omega) (by omega) (fun hr2 => ?_) (fun hr2 => ?_)
            · refine g_const f_X10_isTrue_123 ?_
              refine g_goto f_X10_isTrue_124 ?_
              refine j139 _ _ _ _ _ (by first | exact c1i | assumption) (by first | exact c1i | assumption) (by first | exact c1i | assumption) (by first | exact c1i | assumption) ?_
              unfold testV
              rw [relV_t]
              generalize sbj (zP z p) p (zd z) (m / 300) = sv at *
              generalize m % 100 = mm at *
              first
              | (rw [if_pos (by omega), decide_eq_true (by omega)]; rfl)
              | (rw [if_pos (by omega), decide_eq_false (by omega)]; rfl)
              | (rw [if_neg (by omega), if_pos (by omega), decide_eq_true (by omega)]; rfl)
              | (rw [if_neg (by omega), if_pos (by omega), decide_eq_false (by omega)]; rfl)
              | (rw [if_neg (by omega), if_neg (by omega), decide_eq_true (by omega)]; rfl)
              | (rw [if_neg (by omega), if_neg (by omega), decide_eq_false (by omega)]; rfl)
            · refine g_const f_X10_isTrue_119 ?_
              refine g_goto f_X10_isTrue_120 ?_
              refine j139 _ _ _ _ _ (by first | exact c1i | assumption) (by first | exact c1i | assumption) (by first | exact c1i | assumption) (by first | exact c1i | assumption) ?_
              unfold testV
              rw [relV_t]
              generalize sbj (zP z p) p (zd z) (m / 300) = sv at *
              generalize m % 100 = mm at *
              first
              | (rw [if_pos (by omega), decide_eq_true (by omega)]; rfl)
              | (rw [if_pos (by omega), decide_eq_false (by omega)]; rfl)
              | (rw [if_neg (by omega), if_pos (by omega), decide_eq_true (by omega)]; rfl)
              | (rw [if_neg (by omega), if_pos (by omega), decide_eq_false (by omega)]; rfl)
              | (rw [if_neg (by omega), if_neg (by omega), decide_eq_true (by omega)]; rfl)
              | (rw [if_neg (by omega), if_neg (by omega), decide_eq_false (by omega)]; rfl)
        · refine g_ild f_X10_isTrue_91 rfl ?_
          refine g_ild f_X10_isTrue_93 rfl ?_
          refine g_icmp_ge f_X10_isTrue_95 rfl (by (first | omega)) (by (first | omega)) (fun hr2 => ?_) (fun hr2 => ?_)
          · refine g_const f_X10_isTrue_102 ?_
            refine g_goto f_X10_isTrue_103 ?_
            refine j139 _ _ _ _ _ (by first | exact c1i | assumption) (by first | exact c1i | assumption) (by first | exact c1i | assumption) (by first | exact c1i | assumption) ?_
            unfold testV
            rw [relV_t]
            generalize sbj (zP z p) p (zd z) (m / 300) = sv at *
            generalize m % 100 = mm at *
            first
            | (rw [if_pos (by omega), decide_eq_true (by omega)]; rfl)
            | (rw [if_pos (by omega), decide_eq_false (by omega)]; rfl)
            | (rw [if_neg (by omega), if_pos (by omega), decide_eq_true (by omega)]; rfl)
            | (rw [if_neg (by omega), if_pos (by omega), decide_eq_false (by omega)]; rfl)
            | (rw [if_neg (by omega), if_neg (by omega), decide_eq_true (by omega)]; rfl)
            | (rw [if_neg (by omega), if_neg (by omega), decide_eq_false (by omega)]; rfl)
          · refine g_const f_X10_isTrue_98 ?_
            refine g_goto f_X10_isTrue_99 ?_
            refine j139 _ _ _ _ _ (by first | exact c1i | assumption) (by first | exact c1i | assumption) (by first | exact c1i | assumption) (by first | exact c1i | assumption) ?_
            unfold testV
            rw [relV_t]
            generalize sbj (zP z p) p (zd z) (m / 300) = sv at *
            generalize m % 100 = mm at *
            first
            | (rw [if_pos (by omega), decide_eq_true (by omega)]; rfl)
            | (rw [if_pos (by omega), decide_eq_false (by omega)]; rfl)
            | (rw [if_neg (by omega), if_pos (by omega), decide_eq_true (by omega)]; rfl)
            | (rw [if_neg (by omega), if_pos (by omega), decide_eq_false (by omega)]; rfl)
            | (rw [if_neg (by omega), if_neg (by omega), decide_eq_true (by omega)]; rfl)
            | (rw [if_neg (by omega), if_neg (by omega), decide_eq_false (by omega)]; rfl)
  refine g_const f_X10_isTrue_0 ?_
  refine g_ist_3 f_X10_isTrue_1 (by decide) c1i ?_
  refine g_alv f_X10_isTrue_2 rfl ?_
  refine g_getR f_X10_isTrue_3 (by assumption) (by assumption) ?_
  refine g_ild f_X10_isTrue_6 rfl ?_
  refine g_ial f_X10_isTrue_7 (by assumption) _ rfl (by omega) ?_
  rw [hb]
  refine g_ist_4 f_X10_isTrue_8 (by decide) c1i ?_
  exact loop cs.length 0 M none none none none (by omega) c1n c1n c1n c1n trivial (fun _ _ => rfl)
