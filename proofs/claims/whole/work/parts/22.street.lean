/-! contracts: Street, what looks -/
set_option maxHeartbeats 4000000 in
set_option maxRecDepth 100000 in
theorem c_reachOf {Ω : Ow} {S : Sg} {M : Mm} {B : Nat} {z : Ab} (hG : Gr S) (hB : isB B) (hX : RepX S M B z) (hO : okZ z) {p : Nat} (hp : p < zc z) {Λ : Nat} (x6 : S.2 B 4 = (Λ : Int)) (x7 : isLaw Λ) (x8 : Λ + 6 ≤ S.1) (x9 : RepLaw M Λ (zL z)) : Ct Ω mX5_reachOf 4 0 0 1 [vr Ω B, vr Ω (pe B p)] S M (fun x S' M' => x = reachI (zP z p 0) (sumL (sbj (zP z p) p (zd z)) (zL z)) (zP z p (5 + zd z % 4)) (zd z) ∧ S' = S ∧ ∀ k, k ≠ Λ + 5 → M' k = M k) := by
  refine Ct.mk (by decide) (Nat.le_of_ble_eq_true rfl) [some (vr Ω B), some (vr Ω (pe B p))] (by intro q hq; exact hq) (fun γ hγ hz => ?_)
  have oB := obB hG hB
  obtain ⟨x1, x2, x3, x4, x5, -⟩ := id hX
  obtain ⟨z1, z2, z3, z4, z5⟩ := id hO
  obtain ⟨oL, -⟩ := obLaw (S := S) x7 x8
  have hp6 : p < 6 := by have := hO.1; omega
  have oP := obP hG hB hp6
  have aP := arP hG hB hp6
  have gP := ((hG.2.2.1 B hB).2 p hp6).2
  obtain ⟨r1, r2, r3, r4, r5, r6⟩ := hX.2.2.2.1 p hp
  obtain ⟨o1, o2, o3, o4, o5, o6⟩ := hO.2.2.2.1 p hp
  have hnP : pe B p ≠ Λ + 5 := fun e => by have := (sh_pe hB hp6).1; rw [e, sh_subj ⟨Λ, x7, rfl⟩] at this; simp at this
  have hnR : pe B p + 1 ≠ Λ + 5 := fun e => by have := (sh_pe hB hp6).2.1; rw [e, sh_subj ⟨Λ, x7, rfl⟩] at this; simp at this
  have hnB : B ≠ Λ + 5 := fun e => by have := (sh_pe hB hp6).2.2; rw [e, sh_subj ⟨Λ, x7, rfl⟩] at this; simp at this
  refine g_alv f_X5_reachOf_0 rfl ?_
  refine g_alv f_X5_reachOf_1 rfl ?_
  refine g_getR f_X5_reachOf_2 (by assumption) (by assumption) ?_
  refine g_alv f_X5_reachOf_5 rfl ?_
  refine g_alv f_X5_reachOf_6 rfl ?_
  refine g_getI f_X5_reachOf_7 (by assumption) ?_
  rw [x3]
  refine g_cv1 hγ (c_sum (P := zP z p) (L := zL z) hG x7 x8 oP (x5 p (by omega)) r1 r2 r3 r4 ⟨by omega, o1, o2, o3, o4, z3⟩ x9 z5) f_X5_reachOf_10 mo_X1_sum mv_X1_sum (by assumption) rfl rfl (Nat.le_of_ble_eq_true rfl) ⟨by decide, by decide⟩ ⟨Nat.le_refl _, Nat.le_refl _⟩ (fun x S' M1 hq2 => ?_)
  obtain ⟨rfl, rfl, hm⟩ := hq2
  refine g_alv f_X5_reachOf_13 rfl ?_
  refine g_getI f_X5_reachOf_14 (by assumption) ?_
  rw [hm B hnB, x3]
  refine g_cv1 hγ (c_reach (P := zP z p) (day := zd z) oP aP gP (by rw [hm _ hnP]; exact r1) o1 (fun j hj => by rw [hm _ hnR]; exact r6 j hj) o6 (sumL (sbj (zP z p) p (zd z)) (zL z)) (by have h1 := sumL_rg (s := sbj (zP z p) p (zd z)) (zL z) 2 z5.2.1; have h2 := z5.1; unfold sumL; omega) z3) f_X5_reachOf_17 mo_X3_reach mv_X3_reach (by assumption) rfl rfl (Nat.le_of_ble_eq_true rfl) ⟨by decide, by decide⟩ ⟨Nat.le_refl _, Nat.le_refl _⟩ (fun x S' M2 hq2 => ?_)
  obtain ⟨rfl, rfl, rfl⟩ := hq2
  refine g_reti f_X5_reachOf_20 rfl ?_ (Nat.zero_le _) (Nat.zero_le _)
  exact ⟨rfl, rfl, hm⟩

set_option maxHeartbeats 4000000 in
set_option maxRecDepth 100000 in
theorem c_lookBy {Ω : Ow} {S : Sg} {M : Mm} {B : Nat} {z : Ab} (hG : Gr S) (hB : isB B) (hX : RepX S M B z) (hO : okZ z) {p : Nat} (hp : p < zc z) : Ct Ω mX5_lookBy 5 0 0 0 [vr Ω B, vr Ω (pe B p)] S M (fun _ S' M' => S' = S ∧ eyc B M M' ∧ M' (pe B p) 7 = eyeZ z p ∧ (∀ q, q < 6 → q ≠ p → M' (pe B q) 7 = M (pe B q) 7) ∧ RepX S M' B z) := by
  refine Ct.mk (by decide) (Nat.le_of_ble_eq_true rfl) [some (vr Ω B), some (vr Ω (pe B p))] (by intro q hq; exact hq) (fun γ hγ hz => ?_)
  obtain ⟨x1, x2, x3, x4, x5, Λ, x6, x7, x8, x9⟩ := id hX
  have oB := obB hG hB
  have hp6 : p < 6 := by have := hO.1; omega
  have oP := obP hG hB hp6
  have aP := arP hG hB hp6
  have gP := ((hG.2.2.1 B hB).2 p hp6).2
  obtain ⟨r1, r2, r3, r4, r5, r6⟩ := hX.2.2.2.1 p hp
  obtain ⟨o1, o2, o3, o4, o5, o6⟩ := hO.2.2.2.1 p hp
  have hnp : ∀ q, q < 6 → pe B q ≠ Λ + 5 := fun q hq e => by have := (sh_pe hB hq).1; rw [e, sh_subj ⟨Λ, x7, rfl⟩] at this; simp at this
  have fin : ∀ (M1 : Mm) (e : Int), (∀ k, k ≠ Λ + 5 → M1 k = M k) → e = eyeZ z p → Go γ Ω mX5_lookBy (Zm γ Ω 0 0 0 (fun _ S' M' => S' = S ∧ eyc B M M' ∧ M' (pe B p) 7 = eyeZ z p ∧ (∀ q, q < 6 → q ≠ p → M' (pe B q) 7 = M (pe B q) 7) ∧ RepX S M' B z)) 0 0 S M1 17 [some (vr Ω B), some (vr Ω (pe B p))] [vi e, vr Ω (pe B p)] := by
    intro M1 e hm he
    have he2 : eyc B M (up M1 (pe B p) 7 e) := fun k j h1 h2 => by
      rw [up_n (by rintro ⟨rfl, rfl⟩; exact h2 ⟨rfl, p, hp6, rfl⟩), hm k (fun q => h1 ⟨Λ, x7, q⟩)]
    refine g_putI f_X5_lookBy_17 rfl (by assumption) ?_
    refine g_ret0 (κ := 0) f_X5_lookBy_20 rfl 0 ?_ (Nat.zero_le _) (Nat.zero_le _)
    exact ⟨rfl, he2, by rw [up_s]; exact he, fun q hq hqp => by rw [up_n (by rintro ⟨h, -⟩; exact hqp (pe_inj h)), hm _ (hnp q hq)], hX.eyc hO.1 hB hB he2⟩
  refine g_alv f_X5_lookBy_0 rfl ?_
  refine g_alv f_X5_lookBy_1 rfl ?_
  refine g_getI f_X5_lookBy_2 (by assumption) ?_
  rw [r5]
  refine g_if_eq f_X5_lookBy_5 rfl (by omega) (fun hg => ?_) (fun hg => ?_)
  · refine g_alv f_X5_lookBy_12 rfl ?_
    refine g_alv f_X5_lookBy_13 rfl ?_
    refine g_cv1 hγ (c_reachOf hG hB hX hO hp x6 x7 x8 x9) f_X5_lookBy_14 mo_X5_reachOf mv_X5_reachOf (by assumption) rfl rfl (Nat.le_of_ble_eq_true rfl) ⟨by decide, by decide⟩ ⟨Nat.le_refl _, Nat.le_refl _⟩ (fun x S' M1 hq2 => ?_)
    obtain ⟨rfl, rfl, hm⟩ := hq2
    exact fin M1 _ hm (by unfold eyeZ eyeP; rw [if_neg (by omega)])
  · refine g_const f_X5_lookBy_8 ?_
    refine g_goto f_X5_lookBy_9 ?_
    exact fin M _ (fun k hk => rfl) (by unfold eyeZ eyeP; rw [if_pos (by omega)])

set_option maxHeartbeats 4000000 in
set_option maxRecDepth 100000 in
theorem c_look {Ω : Ow} {S : Sg} {M : Mm} {B : Nat} {z : Ab} (hG : Gr S) (hB : isB B) (hX : RepX S M B z) (hO : okZ z) : Ct Ω mX5_look 6 0 0 0 [vr Ω B] S M (fun _ S' M' => S' = S ∧ eyc B M M' ∧ eyeOK M' B z ∧ RepX S M' B z) := by
  refine Ct.mk (by decide) (Nat.le_of_ble_eq_true rfl) [some (vr Ω B), none] (by intro q hq; exact hq) (fun γ hγ hz => ?_)
  obtain ⟨x1, x2, x3, x4, x5, Λ, x6, x7, x8, x9⟩ := id hX
  obtain ⟨z1, z2, z3, z4, z5⟩ := id hO
  have oB := obB hG hB
  have aB := arB hG hB
  have g0 := (hG.2.2.1 B hB).1
  have loop : ∀ (k n : Nat) (M1 : Mm), n + k = zc z → eyc B M M1 → (∀ p, p < n → M1 (pe B p) 7 = eyeZ z p) → RepX S M1 B z → Go γ Ω mX5_look (Zm γ Ω 0 0 0 (fun _ S' M' => S' = S ∧ eyc B M M' ∧ eyeOK M' B z ∧ RepX S M' B z)) 0 0 S M1 2 [some (vr Ω B), some (vi (n : Int))] [] := by
    intro k
    induction k with
    | zero =>
      intro n M1 hk he hy hX1
      obtain ⟨y1, -⟩ := id hX1
      refine g_ild f_X5_look_2 rfl ?_
      refine g_alv f_X5_look_3 rfl ?_
      refine g_getI f_X5_look_4 (by assumption) ?_
      rw [y1]
      refine g_icmp_ge f_X5_look_7 rfl (by omega) (by omega) (fun hc => ?_) (fun hc => ?_)
      · refine g_ret0 (κ := 0) f_X5_look_26 rfl 0 ?_ (Nat.zero_le _) (Nat.zero_le _)
        exact ⟨rfl, he, fun p hp => hy p (by omega), hX1⟩
      · exact absurd (by omega) hc
    | succ k ih =>
      intro n M1 hk he hy hX1
      obtain ⟨y1, -⟩ := id hX1
      have hn : n < zc z := by omega
      have gn := ((hG.2.2.1 B hB).2 n (by omega)).1
      have oN := obP (p := n) hG hB (by omega)
      refine g_ild f_X5_look_2 rfl ?_
      refine g_alv f_X5_look_3 rfl ?_
      refine g_getI f_X5_look_4 (by assumption) ?_
      rw [y1]
      refine g_icmp_ge f_X5_look_7 rfl (by omega) (by omega) (fun hc => ?_) (fun hc => ?_)
      · exact absurd hc (by omega)
      refine g_alv f_X5_look_10 rfl ?_
      refine g_alv f_X5_look_11 rfl ?_
      refine g_getR f_X5_look_12 (by assumption) (by assumption) ?_
      refine g_ild f_X5_look_15 rfl ?_
      refine g_aal f_X5_look_16 (by assumption) (Or.inl rfl) _ rfl (by omega) (by assumption) ?_
      refine g_cv0 hγ (c_lookBy hG hB hX1 hO hn) f_X5_look_17 mo_X5_lookBy mv_X5_lookBy (by assumption) rfl rfl (Nat.le_of_ble_eq_true rfl) ⟨by decide, by decide⟩ ⟨Nat.le_refl _, Nat.le_refl _⟩ (fun x S' M2 hq2 => ?_)
      obtain ⟨rfl, e1, e2, e3, e4⟩ := hq2
      refine g_inc_1 f_X5_look_20 (by decide) c1v ?_
      refine g_goto f_X5_look_23 ?_
      refine ih (n + 1) M2 (by omega) (he.tr e1) (fun p hp => ?_) e4
      by_cases h : p = n
      · subst h; exact e2
      · rw [e3 p (by omega) h]; exact hy p (by omega)
  refine g_const f_X5_look_0 ?_
  refine g_ist_1 f_X5_look_1 (by decide) c1v ?_
  exact loop (zc z) 0 M (by omega) eyc.rf (fun p hp => absurd hp (by omega)) hX

set_option maxHeartbeats 4000000 in
set_option maxRecDepth 100000 in
theorem c_seersBehind {Ω : Ow} {S : Sg} {M : Mm} {B : Nat} {z : Ab} (hG : Gr S) (hB : isB B) (hX : RepX S M B z) (hO : okZ z) (hE : eyeOK M B z) {t w : Nat} (ht : t < 12) (hw : w < 4096) : Ct Ω mX5_seersBehind 3 0 0 1 [vr Ω B, vi (t : Int), vi (w : Int)] S M (fun x S' M' => x = (seersW w z t : Int) ∧ S' = S ∧ M' = M) := by
  refine Ct.mk (by decide) (Nat.le_of_ble_eq_true rfl) [some (vr Ω B), some (vi (t : Int)), some (vi (w : Int)), none, none] (by intro q hq; exact hq) (fun γ hγ hz => ?_)
  obtain ⟨x1, x2, x3, x4, x5, Λ, x6, x7, x8, x9⟩ := id hX
  obtain ⟨z1, z2, z3, z4, z5⟩ := id hO
  have oB := obB hG hB
  have aB := arB hG hB
  have g0 := (hG.2.2.1 B hB).1
  have loop : ∀ (k n : Nat), n + k = zc z → Go γ Ω mX5_seersBehind (Zm γ Ω 1 0 0 (fun x S' M' => x = (seersW w z t : Int) ∧ S' = S ∧ M' = M)) 0 0 S M 5 [some (vr Ω B), some (vi (t : Int)), some (vi (w : Int)), some (vi (bitsP n (fun p => seeW w z p t) : Int)), some (vi (n : Int))] [] := by
    intro k
    induction k with
    | zero =>
      intro n hk
      have hn : n = zc z := by omega
      subst hn
      refine g_ild f_X5_seersBehind_5 rfl ?_
      refine g_alv f_X5_seersBehind_7 rfl ?_
      refine g_getI f_X5_seersBehind_8 (by assumption) ?_
      rw [x1]
      refine g_icmp_ge f_X5_seersBehind_11 rfl (by omega) (by omega) (fun hc => ?_) (fun hc => ?_)
      · refine g_ild f_X5_seersBehind_42 rfl ?_
        refine g_reti f_X5_seersBehind_43 rfl ?_ (Nat.zero_le _) (Nat.zero_le _)
        exact ⟨rfl, rfl, rfl⟩
      · exact absurd (by omega) hc
    | succ k ih =>
      intro n hk
      have hn : n < zc z := by omega
      have hn6 : n < 6 := by omega
      have gn := ((hG.2.2.1 B hB).2 n hn6).1
      have oN := obP (p := n) hG hB hn6
      have hr := x4 n hn
      have ho := z4 n hn
      have hb := bitsP_lt (fun p => seeW w z p t) n
      have hb2 : 2 ^ n ≤ 2048 := p2le (by omega)
      have nx : Go γ Ω mX5_seersBehind (Zm γ Ω 1 0 0 (fun x S' M' => x = (seersW w z t : Int) ∧ S' = S ∧ M' = M)) 0 0 S M 36 [some (vr Ω B), some (vi (t : Int)), some (vi (w : Int)), some (vi (bitsP (n + 1) (fun p => seeW w z p t) : Int)), some (vi (n : Int))] [] := by
        refine g_inc_4 f_X5_seersBehind_36 (by decide) c1i ?_
        refine g_goto f_X5_seersBehind_39 ?_
        exact ih (n + 1) (by omega)
      refine g_ild f_X5_seersBehind_5 rfl ?_
      refine g_alv f_X5_seersBehind_7 rfl ?_
      refine g_getI f_X5_seersBehind_8 (by assumption) ?_
      rw [x1]
      refine g_icmp_ge f_X5_seersBehind_11 rfl (by omega) (by omega) (fun hc => ?_) (fun hc => ?_)
      · exact absurd hc (by omega)
      refine g_alv f_X5_seersBehind_14 rfl ?_
      refine g_getR f_X5_seersBehind_15 (by assumption) (by assumption) ?_
      refine g_ild f_X5_seersBehind_18 rfl ?_
      refine g_aal f_X5_seersBehind_20 (by assumption) (Or.inl rfl) _ rfl (by omega) (by assumption) ?_
      refine g_ild f_X5_seersBehind_21 rfl ?_
      refine g_ild f_X5_seersBehind_22 rfl ?_
      refine g_cv1 hγ (c_sees (K := zP z n 0) (pl := zP z n 2) (e := eyeZ z n) oN hr.1 hr.2.2.1 (hE n hn) ho.1 (by have := ho.2.2.1; omega) ht hw (eyeZ_rg z n)) f_X5_seersBehind_23 mo_X3_sees mv_X3_sees (by assumption) rfl rfl (Nat.le_of_ble_eq_true rfl) ⟨by decide, by decide⟩ ⟨Nat.le_refl _, Nat.le_refl _⟩ (fun x S' M' hq2 => ?_)
      obtain ⟨rfl, rfl, rfl⟩ := hq2
      rw [show seesB w (zP z n 0) (zP z n 2) (eyeZ z n) t = seeW w z n t from rfl]
      refine g_if_eq f_X5_seersBehind_26 rfl (by cases seeW w z n t <;> decide) (fun hs => ?_) (fun hs => ?_)
      · rw [bitsP_skip (fun p => seeW w z p t) n (show ¬ seeW w z n t = true by revert hs; cases seeW w z n t <;> simp)]
        exact nx
      · refine g_ild f_X5_seersBehind_29 rfl ?_
        refine g_const f_X5_seersBehind_30 ?_
        refine g_ild f_X5_seersBehind_31 rfl ?_
        refine g_ishl f_X5_seersBehind_33 ?_
        rw [show (1 : Int) = ((1 : Nat) : Int) from rfl, bshl_n (by omega) (by omega), Nat.one_mul]
        refine g_ior f_X5_seersBehind_34 ?_
        rw [bor_n (by omega) (by omega), bitsP_or (fun p => seeW w z p t) n (show seeW w z n t = true by revert hs; cases seeW w z n t <;> simp)]
        refine g_ist_3 f_X5_seersBehind_35 (by decide) c1i ?_
        exact nx
  refine g_const f_X5_seersBehind_0 ?_
  refine g_ist_3 f_X5_seersBehind_1 (by decide) c1i ?_
  refine g_const f_X5_seersBehind_2 ?_
  refine g_ist_4 f_X5_seersBehind_3 (by decide) c1i ?_
  exact loop (zc z) 0 (by omega)

set_option maxHeartbeats 4000000 in
set_option maxRecDepth 100000 in
theorem c_seersInView {Ω : Ow} {S : Sg} {M : Mm} {B : Nat} {z : Ab} (hG : Gr S) (hB : isB B) (hX : RepX S M B z) (hO : okZ z) (hE : eyeOK M B z) {t : Nat} (ht : t < 12) : Ct Ω mX5_seersInView 4 0 0 1 [vr Ω B, vi (t : Int)] S M (fun x S' M' => x = (seersN z t : Int) ∧ S' = S ∧ M' = M) := by
  refine Ct.mk (by decide) (Nat.le_of_ble_eq_true rfl) [some (vr Ω B), some (vi (t : Int))] (by intro q hq; exact hq) (fun γ hγ hz => ?_)
  obtain ⟨x1, x2, x3, x4, x5, Λ, x6, x7, x8, x9⟩ := id hX
  obtain ⟨z1, z2, z3, z4, z5⟩ := id hO
  have oB := obB hG hB
  have aB := arB hG hB
  have g0 := (hG.2.2.1 B hB).1
  refine g_alv f_X5_seersInView_0 rfl ?_
  refine g_ild f_X5_seersInView_1 rfl ?_
  refine g_alv f_X5_seersInView_2 rfl ?_
  refine g_getI f_X5_seersInView_3 (by assumption) ?_
  rw [x2]
  refine g_cv1 hγ (c_seersBehind hG hB hX hO hE ht z2) f_X5_seersInView_6 mo_X5_seersBehind mv_X5_seersBehind (by assumption) rfl rfl (Nat.le_of_ble_eq_true rfl) ⟨by decide, by decide⟩ ⟨Nat.le_refl _, Nat.le_refl _⟩ (fun x S' M' hq2 => ?_)
  obtain ⟨rfl, rfl, rfl⟩ := hq2
  refine g_reti f_X5_seersInView_9 rfl ?_ (Nat.zero_le _) (Nat.zero_le _)
  exact ⟨rfl, rfl, rfl⟩

set_option maxHeartbeats 4000000 in
set_option maxRecDepth 100000 in
theorem c_seers {Ω : Ow} {S : Sg} {M : Mm} {B : Nat} {z : Ab} (hG : Gr S) (hB : isB B) (hX : RepX S M B z) (hO : okZ z) {t : Nat} (ht : t < 12) : Ct Ω mX5_seers 7 0 0 1 [vr Ω B, vi (t : Int)] S M (fun x S' M' => x = (seersN z t : Int) ∧ S' = S ∧ eyc B M M' ∧ eyeOK M' B z ∧ RepX S M' B z) := by
  refine Ct.mk (by decide) (Nat.le_of_ble_eq_true rfl) [some (vr Ω B), some (vi (t : Int))] (by intro q hq; exact hq) (fun γ hγ hz => ?_)
  obtain ⟨x1, x2, x3, x4, x5, Λ, x6, x7, x8, x9⟩ := id hX
  obtain ⟨z1, z2, z3, z4, z5⟩ := id hO
  have oB := obB hG hB
  have aB := arB hG hB
  have g0 := (hG.2.2.1 B hB).1
  refine g_alv f_X5_seers_0 rfl ?_
  refine g_cv0 hγ (c_look hG hB hX hO) f_X5_seers_1 mo_X5_look mv_X5_look (by assumption) rfl rfl (Nat.le_of_ble_eq_true rfl) ⟨by decide, by decide⟩ ⟨Nat.le_refl _, Nat.le_refl _⟩ (fun x S' M1 hq2 => ?_)
  obtain ⟨rfl, l1, l2, l3⟩ := hq2
  obtain ⟨y1, y2, -⟩ := id l3
  refine g_alv f_X5_seers_4 rfl ?_
  refine g_ild f_X5_seers_5 rfl ?_
  refine g_alv f_X5_seers_6 rfl ?_
  refine g_getI f_X5_seers_7 (by assumption) ?_
  rw [y2]
  refine g_cv1 hγ (c_seersBehind hG hB l3 hO l2 ht z2) f_X5_seers_10 mo_X5_seersBehind mv_X5_seersBehind (by assumption) rfl rfl (Nat.le_of_ble_eq_true rfl) ⟨by decide, by decide⟩ ⟨Nat.le_refl _, Nat.le_refl _⟩ (fun x S' M' hq2 => ?_)
  obtain ⟨rfl, rfl, rfl⟩ := hq2
  refine g_reti f_X5_seers_13 rfl ?_ (Nat.zero_le _) (Nat.zero_le _)
  exact ⟨rfl, rfl, l1, l2, l3⟩

set_option maxHeartbeats 4000000 in
set_option maxRecDepth 100000 in
theorem c_sightOf {Ω : Ow} {S : Sg} {M : Mm} {B : Nat} {z : Ab} (hG : Gr S) (hB : isB B) (hX : RepX S M B z) (hO : okZ z) {p : Nat} (hp : p < zc z) : Ct Ω mX5_sightOf 6 0 0 1 [vr Ω B, vr Ω (pe B p)] S M (fun x S' M' => x = (sightN z p : Int) ∧ S' = S ∧ eyc B M M' ∧ RepX S M' B z) := by
  refine Ct.mk (by decide) (Nat.le_of_ble_eq_true rfl) [some (vr Ω B), some (vr Ω (pe B p))] (by intro q hq; exact hq) (fun γ hγ hz => ?_)
  obtain ⟨x1, x2, x3, x4, x5, Λ, x6, x7, x8, x9⟩ := id hX
  obtain ⟨z1, z2, z3, z4, z5⟩ := id hO
  have oB := obB hG hB
  have aB := arB hG hB
  have g0 := (hG.2.2.1 B hB).1
  have hp6 : p < 6 := by have := hO.1; omega
  have oP := obP hG hB hp6
  have aP := arP hG hB hp6
  have gP := ((hG.2.2.1 B hB).2 p hp6).2
  obtain ⟨r1, r2, r3, r4, r5, r6⟩ := hX.2.2.2.1 p hp
  obtain ⟨o1, o2, o3, o4, o5, o6⟩ := hO.2.2.2.1 p hp
  refine g_alv f_X5_sightOf_0 rfl ?_
  refine g_alv f_X5_sightOf_1 rfl ?_
  refine g_cv0 hγ (c_lookBy hG hB hX hO hp) f_X5_sightOf_2 mo_X5_lookBy mv_X5_lookBy (by assumption) rfl rfl (Nat.le_of_ble_eq_true rfl) ⟨by decide, by decide⟩ ⟨Nat.le_refl _, Nat.le_refl _⟩ (fun x S' M1 hq2 => ?_)
  obtain ⟨rfl, l1, l2, l3, l4⟩ := hq2
  obtain ⟨y1, y2, -, y4, -⟩ := id l4
  have hr := y4 p hp
  refine g_alv f_X5_sightOf_5 rfl ?_
  refine g_alv f_X5_sightOf_6 rfl ?_
  refine g_getI f_X5_sightOf_7 (by assumption) ?_
  rw [y2]
  refine g_cv1 hγ (c_sight (K := zP z p 0) (pl := zP z p 2) (e := eyeZ z p) oP hr.1 hr.2.2.1 l2 o1 (by omega) z2 (eyeZ_rg z p)) f_X5_sightOf_10 mo_X3_sight mv_X3_sight (by assumption) rfl rfl (Nat.le_of_ble_eq_true rfl) ⟨by decide, by decide⟩ ⟨Nat.le_refl _, Nat.le_refl _⟩ (fun x S' M' hq2 => ?_)
  obtain ⟨rfl, rfl, rfl⟩ := hq2
  refine g_reti f_X5_sightOf_13 rfl ?_ (Nat.zero_le _) (Nat.zero_le _)
  exact ⟨rfl, rfl, l1, l4⟩
