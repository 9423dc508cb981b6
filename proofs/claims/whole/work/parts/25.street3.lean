/-! contracts: Street: places; what changes it -/
set_option maxHeartbeats 4000000 in
set_option maxRecDepth 100000 in
theorem c_firstUnseen {Ω : Ow} {S : Sg} {M : Mm} {B : Nat} {z : Ab} (hG : Gr S) (hB : isB B) (hX : RepX S M B z) (hO : okZ z) : Ct Ω mX5_firstUnseen 8 0 0 1 [vr Ω B] S M (fun x S' M' => x = fstF 12 0 (fun t => decide (seersN z t = 0)) ∧ S' = S ∧ eyc B M M' ∧ eyeOK M' B z ∧ RepX S M' B z) := by
  refine Ct.mk (by decide) (Nat.le_of_ble_eq_true rfl) [some (vr Ω B), none] (by intro q hq; exact hq) (fun γ hγ hz => ?_)
  obtain ⟨x1, x2, x3, x4, x5, Λ, x6, x7, x8, x9⟩ := id hX
  obtain ⟨z1, z2, z3, z4, z5⟩ := id hO
  have oB := obB hG hB
  have aB := arB hG hB
  have g0 := (hG.2.2.1 B hB).1
  refine g_alv f_X5_firstUnseen_0 rfl ?_
  refine g_cv0 hγ (c_look hG hB hX hO) f_X5_firstUnseen_1 mo_X5_look mv_X5_look (by assumption) rfl rfl (Nat.le_of_ble_eq_true rfl) ⟨by decide, by decide⟩ ⟨Nat.le_refl _, Nat.le_refl _⟩ (fun x S' M1 hq2 => ?_)
  obtain ⟨q1, l1, l2, l3⟩ := hq2
  obtain rfl := q1.symm
  have loop : ∀ (k n : Nat), n + k = 12 → fstF k n (fun t => decide (seersN z t = 0)) = fstF 12 0 (fun t => decide (seersN z t = 0)) → Go γ Ω mX5_firstUnseen (Zm γ Ω 1 0 0 (fun x S' M' => x = fstF 12 0 (fun t => decide (seersN z t = 0)) ∧ S' = S ∧ eyc B M M' ∧ eyeOK M' B z ∧ RepX S M' B z)) 0 0 S M1 6 [some (vr Ω B), some (vi (n : Int))] [] := by
    intro k
    induction k with
    | zero =>
      intro n hk hi
      have hn : n = 12 := by omega
      subst hn
      refine g_ild f_X5_firstUnseen_6 rfl ?_
      refine g_const f_X5_firstUnseen_7 ?_
      refine g_icmp_ge f_X5_firstUnseen_9 rfl (by omega) (by omega) (fun hc => ?_) (fun hc => ?_)
      · refine g_const f_X5_firstUnseen_28 ?_
        refine g_reti f_X5_firstUnseen_30 rfl ?_ (Nat.zero_le _) (Nat.zero_le _)
        exact ⟨hi, rfl, l1, l2, l3⟩
      · exact absurd (by omega) hc
    | succ k ih =>
      intro n hk hi
      have hn : n < 12 := by omega
      have hsl := seersN_lt (t := n) hO
      refine g_ild f_X5_firstUnseen_6 rfl ?_
      refine g_const f_X5_firstUnseen_7 ?_
      refine g_icmp_ge f_X5_firstUnseen_9 rfl (by omega) (by omega) (fun hc => ?_) (fun hc => ?_)
      · exact absurd hc (by omega)
      refine g_alv f_X5_firstUnseen_12 rfl ?_
      refine g_ild f_X5_firstUnseen_13 rfl ?_
      refine g_cv1 hγ (c_seersInView hG hB l3 hO l2 (t := n) (by omega)) f_X5_firstUnseen_14 mo_X5_seersInView mv_X5_seersInView (by assumption) rfl rfl (Nat.le_of_ble_eq_true rfl) ⟨by decide, by decide⟩ ⟨Nat.le_refl _, Nat.le_refl _⟩ (fun x S' M' hq2 => ?_)
      obtain ⟨rfl, q1, q2⟩ := hq2
      obtain rfl := q1.symm
      obtain rfl := q2.symm
      refine g_if_ne f_X5_firstUnseen_17 rfl (by omega) (fun hs => ?_) (fun hs => ?_)
      · rw [fstF, if_neg (by simp; omega)] at hi
        refine g_inc_1 f_X5_firstUnseen_22 (by decide) c1v ?_
        refine g_goto f_X5_firstUnseen_25 ?_
        exact ih (n + 1) (by omega) hi
      · refine g_ild f_X5_firstUnseen_20 rfl ?_
        refine g_reti f_X5_firstUnseen_21 rfl ?_ (Nat.zero_le _) (Nat.zero_le _)
        exact ⟨by rw [← hi, fstF, if_pos (by simp; omega)], rfl, l1, l2, l3⟩
  refine g_const f_X5_firstUnseen_4 ?_
  refine g_ist_1 f_X5_firstUnseen_5 (by decide) c1v ?_
  exact loop 12 0 rfl rfl

set_option maxHeartbeats 4000000 in
set_option maxRecDepth 100000 in
theorem c_firstOnly {Ω : Ow} {S : Sg} {M : Mm} {B : Nat} {z : Ab} (hG : Gr S) (hB : isB B) (hX : RepX S M B z) (hO : okZ z) {p : Nat} (hp : p < zc z) : Ct Ω mX5_firstSeenOnlyBy 8 0 0 1 [vr Ω B, vr Ω (pe B p)] S M (fun x S' M' => x = fstF 12 0 (fun t => decide (seersN z t = 2 ^ p)) ∧ S' = S ∧ eyc B M M' ∧ eyeOK M' B z ∧ RepX S M' B z) := by
  refine Ct.mk (by decide) (Nat.le_of_ble_eq_true rfl) [some (vr Ω B), some (vr Ω (pe B p)), none] (by intro q hq; exact hq) (fun γ hγ hz => ?_)
  obtain ⟨x1, x2, x3, x4, x5, Λ, x6, x7, x8, x9⟩ := id hX
  obtain ⟨z1, z2, z3, z4, z5⟩ := id hO
  have oB := obB hG hB
  have aB := arB hG hB
  have g0 := (hG.2.2.1 B hB).1
  refine g_alv f_X5_firstSeenOnlyBy_0 rfl ?_
  refine g_cv0 hγ (c_look hG hB hX hO) f_X5_firstSeenOnlyBy_1 mo_X5_look mv_X5_look (by assumption) rfl rfl (Nat.le_of_ble_eq_true rfl) ⟨by decide, by decide⟩ ⟨Nat.le_refl _, Nat.le_refl _⟩ (fun x S' M1 hq2 => ?_)
  obtain ⟨q1, l1, l2, l3⟩ := hq2
  obtain rfl := q1.symm
  have loop : ∀ (k n : Nat), n + k = 12 → fstF k n (fun t => decide (seersN z t = 2 ^ p)) = fstF 12 0 (fun t => decide (seersN z t = 2 ^ p)) → Go γ Ω mX5_firstSeenOnlyBy (Zm γ Ω 1 0 0 (fun x S' M' => x = fstF 12 0 (fun t => decide (seersN z t = 2 ^ p)) ∧ S' = S ∧ eyc B M M' ∧ eyeOK M' B z ∧ RepX S M' B z)) 0 0 S M1 6 [some (vr Ω B), some (vr Ω (pe B p)), some (vi (n : Int))] [] := by
    intro k
    induction k with
    | zero =>
      intro n hk hi
      have hn : n = 12 := by omega
      subst hn
      refine g_ild f_X5_firstSeenOnlyBy_6 rfl ?_
      refine g_const f_X5_firstSeenOnlyBy_7 ?_
      refine g_icmp_ge f_X5_firstSeenOnlyBy_9 rfl (by omega) (by omega) (fun hc => ?_) (fun hc => ?_)
      · refine g_const f_X5_firstSeenOnlyBy_34 ?_
        refine g_reti f_X5_firstSeenOnlyBy_36 rfl ?_ (Nat.zero_le _) (Nat.zero_le _)
        exact ⟨hi, rfl, l1, l2, l3⟩
      · exact absurd (by omega) hc
    | succ k ih =>
      intro n hk hi
      have hn : n < 12 := by omega
      have hsl := seersN_lt (t := n) hO
      have hp6 : p < 6 := by omega
      have oP := obP hG hB hp6
      have hb2 : 2 ^ p ≤ 2048 := p2le (by omega)
      have hb3 := Nat.two_pow_pos p
      refine g_ild f_X5_firstSeenOnlyBy_6 rfl ?_
      refine g_const f_X5_firstSeenOnlyBy_7 ?_
      refine g_icmp_ge f_X5_firstSeenOnlyBy_9 rfl (by omega) (by omega) (fun hc => ?_) (fun hc => ?_)
      · exact absurd hc (by omega)
      refine g_alv f_X5_firstSeenOnlyBy_12 rfl ?_
      refine g_ild f_X5_firstSeenOnlyBy_13 rfl ?_
      refine g_cv1 hγ (c_seersInView hG hB l3 hO l2 (t := n) (by omega)) f_X5_firstSeenOnlyBy_14 mo_X5_seersInView mv_X5_seersInView (by assumption) rfl rfl (Nat.le_of_ble_eq_true rfl) ⟨by decide, by decide⟩ ⟨Nat.le_refl _, Nat.le_refl _⟩ (fun x S' M' hq2 => ?_)
      obtain ⟨rfl, q1, q2⟩ := hq2
      obtain rfl := q1.symm
      obtain rfl := q2.symm
      refine g_const f_X5_firstSeenOnlyBy_17 ?_
      refine g_alv f_X5_firstSeenOnlyBy_18 rfl ?_
      refine g_getI f_X5_firstSeenOnlyBy_19 (by assumption) ?_
      rw [l3.2.2.2.2.1 p hp6]
      refine g_ishl f_X5_firstSeenOnlyBy_22 ?_
      rw [show (1 : Int) = ((1 : Nat) : Int) from rfl, bshl_n (by omega) (by omega), Nat.one_mul]
      refine g_icmp_ne f_X5_firstSeenOnlyBy_23 rfl (by omega) (by omega) (fun hs => ?_) (fun hs => ?_)
      · rw [fstF, if_neg (by simp; omega)] at hi
        refine g_inc_2 f_X5_firstSeenOnlyBy_28 (by decide) c1v ?_
        refine g_goto f_X5_firstSeenOnlyBy_31 ?_
        exact ih (n + 1) (by omega) hi
      · refine g_ild f_X5_firstSeenOnlyBy_26 rfl ?_
        refine g_reti f_X5_firstSeenOnlyBy_27 rfl ?_ (Nat.zero_le _) (Nat.zero_le _)
        exact ⟨by rw [← hi, fstF, if_pos (by simp; omega)], rfl, l1, l2, l3⟩
  refine g_const f_X5_firstSeenOnlyBy_4 ?_
  refine g_ist_2 f_X5_firstSeenOnlyBy_5 (by decide) c1v ?_
  exact loop 12 0 rfl rfl

set_option maxHeartbeats 4000000 in
set_option maxRecDepth 100000 in
theorem c_unseen {Ω : Ow} {S : Sg} {M : Mm} {B : Nat} {z : Ab} (hG : Gr S) (hB : isB B) (hX : RepX S M B z) (hO : okZ z) : Ct Ω mX5_unseenPlaces 8 0 0 1 [vr Ω B] S M (fun x S' M' => x = (cntF 12 (fun t => decide (seersN z t = 0)) : Int) ∧ S' = S ∧ eyc B M M' ∧ eyeOK M' B z ∧ RepX S M' B z) := by
  refine Ct.mk (by decide) (Nat.le_of_ble_eq_true rfl) [some (vr Ω B), none, none] (by intro q hq; exact hq) (fun γ hγ hz => ?_)
  obtain ⟨x1, x2, x3, x4, x5, Λ, x6, x7, x8, x9⟩ := id hX
  obtain ⟨z1, z2, z3, z4, z5⟩ := id hO
  have oB := obB hG hB
  have aB := arB hG hB
  have g0 := (hG.2.2.1 B hB).1
  refine g_alv f_X5_unseenPlaces_0 rfl ?_
  refine g_cv0 hγ (c_look hG hB hX hO) f_X5_unseenPlaces_1 mo_X5_look mv_X5_look (by assumption) rfl rfl (Nat.le_of_ble_eq_true rfl) ⟨by decide, by decide⟩ ⟨Nat.le_refl _, Nat.le_refl _⟩ (fun x S' M1 hq2 => ?_)
  obtain ⟨q1, l1, l2, l3⟩ := hq2
  obtain rfl := q1.symm
  have loop : ∀ (k n : Nat), n + k = 12 → Go γ Ω mX5_unseenPlaces (Zm γ Ω 1 0 0 (fun x S' M' => x = (cntF 12 (fun t => decide (seersN z t = 0)) : Int) ∧ S' = S ∧ eyc B M M' ∧ eyeOK M' B z ∧ RepX S M' B z)) 0 0 S M1 8 [some (vr Ω B), some (vi (cntF n (fun t => decide (seersN z t = 0)) : Int)), some (vi (n : Int))] [] := by
    intro k
    induction k with
    | zero =>
      intro n hk
      have hn : n = 12 := by omega
      subst hn
      refine g_ild f_X5_unseenPlaces_8 rfl ?_
      refine g_const f_X5_unseenPlaces_9 ?_
      refine g_icmp_ge f_X5_unseenPlaces_11 rfl (by omega) (by omega) (fun hc => ?_) (fun hc => ?_)
      · refine g_ild f_X5_unseenPlaces_31 rfl ?_
        refine g_reti f_X5_unseenPlaces_32 rfl ?_ (Nat.zero_le _) (Nat.zero_le _)
        exact ⟨rfl, rfl, l1, l2, l3⟩
      · exact absurd (by omega) hc
    | succ k ih =>
      intro n hk
      have hn : n < 12 := by omega
      have hsl := seersN_lt (t := n) hO
      have nx : Go γ Ω mX5_unseenPlaces (Zm γ Ω 1 0 0 (fun x S' M' => x = (cntF 12 (fun t => decide (seersN z t = 0)) : Int) ∧ S' = S ∧ eyc B M M' ∧ eyeOK M' B z ∧ RepX S M' B z)) 0 0 S M1 25 [some (vr Ω B), some (vi (cntF (n + 1) (fun t => decide (seersN z t = 0)) : Int)), some (vi (n : Int))] [] := by
        refine g_inc_2 f_X5_unseenPlaces_25 (by decide) c1i ?_
        refine g_goto f_X5_unseenPlaces_28 ?_
        exact ih (n + 1) (by omega)
      refine g_ild f_X5_unseenPlaces_8 rfl ?_
      refine g_const f_X5_unseenPlaces_9 ?_
      refine g_icmp_ge f_X5_unseenPlaces_11 rfl (by omega) (by omega) (fun hc => ?_) (fun hc => ?_)
      · exact absurd hc (by omega)
      refine g_alv f_X5_unseenPlaces_14 rfl ?_
      refine g_ild f_X5_unseenPlaces_15 rfl ?_
      refine g_cv1 hγ (c_seersInView hG hB l3 hO l2 (t := n) (by omega)) f_X5_unseenPlaces_16 mo_X5_seersInView mv_X5_seersInView (by assumption) rfl rfl (Nat.le_of_ble_eq_true rfl) ⟨by decide, by decide⟩ ⟨Nat.le_refl _, Nat.le_refl _⟩ (fun x S' M' hq2 => ?_)
      obtain ⟨rfl, q1, q2⟩ := hq2
      obtain rfl := q1.symm
      obtain rfl := q2.symm
      refine g_if_ne f_X5_unseenPlaces_19 rfl (by omega) (fun hs => ?_) (fun hs => ?_)
      · rw [show cntF (n + 1) (fun t => decide (seersN z t = 0)) = cntF n (fun t => decide (seersN z t = 0))  by rw [cntF, if_neg (by simp; omega)]; rfl] at nx
        exact nx
      · refine g_inc_1 f_X5_unseenPlaces_22 (by decide) c1v ?_
        rw [show cntF (n + 1) (fun t => decide (seersN z t = 0)) = cntF n (fun t => decide (seersN z t = 0)) + 1 by rw [cntF, if_pos (by simp; omega)]] at nx
        exact nx
  refine g_const f_X5_unseenPlaces_4 ?_
  refine g_ist_1 f_X5_unseenPlaces_5 (by decide) c1v ?_
  refine g_const f_X5_unseenPlaces_6 ?_
  refine g_ist_2 f_X5_unseenPlaces_7 (by decide) c1i ?_
  exact loop 12 0 rfl

set_option maxHeartbeats 4000000 in
set_option maxRecDepth 100000 in
theorem c_most {Ω : Ow} {S : Sg} {M : Mm} {B : Nat} {z : Ab} (hG : Gr S) (hB : isB B) (hX : RepX S M B z) (hO : okZ z) : Ct Ω mX5_mostSeenPlace 8 0 0 1 [vr Ω B] S M (fun x S' M' => x = ((maxF 12 (fun t => bcN (seersN z t))).1 : Int) ∧ S' = S ∧ eyc B M M' ∧ eyeOK M' B z ∧ RepX S M' B z) := by
  refine Ct.mk (by decide) (Nat.le_of_ble_eq_true rfl) [some (vr Ω B), none, none, none, none] (by intro q hq; exact hq) (fun γ hγ hz => ?_)
  obtain ⟨x1, x2, x3, x4, x5, Λ, x6, x7, x8, x9⟩ := id hX
  obtain ⟨z1, z2, z3, z4, z5⟩ := id hO
  have oB := obB hG hB
  have aB := arB hG hB
  have g0 := (hG.2.2.1 B hB).1
  refine g_alv f_X5_mostSeenPlace_0 rfl ?_
  refine g_cv0 hγ (c_look hG hB hX hO) f_X5_mostSeenPlace_1 mo_X5_look mv_X5_look (by assumption) rfl rfl (Nat.le_of_ble_eq_true rfl) ⟨by decide, by decide⟩ ⟨Nat.le_refl _, Nat.le_refl _⟩ (fun x S' M1 hq2 => ?_)
  obtain ⟨q1, l1, l2, l3⟩ := hq2
  obtain rfl := q1.symm
  have loop : ∀ (k n : Nat) (v : Option Value), n + k = 12 → Go γ Ω mX5_mostSeenPlace (Zm γ Ω 1 0 0 (fun x S' M' => x = ((maxF 12 (fun t => bcN (seersN z t))).1 : Int) ∧ S' = S ∧ eyc B M M' ∧ eyeOK M' B z ∧ RepX S M' B z)) 0 0 S M1 10 [some (vr Ω B), some (vi ((maxF n (fun t => bcN (seersN z t))).1 : Int)), some (vi (maxF n (fun t => bcN (seersN z t))).2), some (vi (n : Int)), v] [] := by
    intro k
    induction k with
    | zero =>
      intro n v hk
      have hn : n = 12 := by omega
      subst hn
      refine g_ild f_X5_mostSeenPlace_10 rfl ?_
      refine g_const f_X5_mostSeenPlace_11 ?_
      refine g_icmp_ge f_X5_mostSeenPlace_13 rfl (by omega) (by omega) (fun hc => ?_) (fun hc => ?_)
      · refine g_ild f_X5_mostSeenPlace_43 rfl ?_
        refine g_reti f_X5_mostSeenPlace_44 rfl ?_ (Nat.zero_le _) (Nat.zero_le _)
        exact ⟨rfl, rfl, l1, l2, l3⟩
      · exact absurd (by omega) hc
    | succ k ih =>
      intro n v hk
      have hn : n < 12 := by omega
      have hsl := seersN_lt (t := n) hO
      have hmr := maxF_rg (f := (fun t => bcN (seersN z t))) (c := 12) n (fun i hi => bcN_le _)
      have hfn : (fun t => bcN (seersN z t)) n ≤ 12 := bcN_le _
      have nx : ∀ v, Go γ Ω mX5_mostSeenPlace (Zm γ Ω 1 0 0 (fun x S' M' => x = ((maxF 12 (fun t => bcN (seersN z t))).1 : Int) ∧ S' = S ∧ eyc B M M' ∧ eyeOK M' B z ∧ RepX S M' B z)) 0 0 S M1 37 [some (vr Ω B), some (vi ((maxF (n + 1) (fun t => bcN (seersN z t))).1 : Int)), some (vi (maxF (n + 1) (fun t => bcN (seersN z t))).2), some (vi (n : Int)), v] [] := by
        intro v
        refine g_inc_3 f_X5_mostSeenPlace_37 (by decide) c1i ?_
        refine g_goto f_X5_mostSeenPlace_40 ?_
        exact ih (n + 1) v (by omega)
      refine g_ild f_X5_mostSeenPlace_10 rfl ?_
      refine g_const f_X5_mostSeenPlace_11 ?_
      refine g_icmp_ge f_X5_mostSeenPlace_13 rfl (by omega) (by omega) (fun hc => ?_) (fun hc => ?_)
      · exact absurd hc (by omega)
      refine g_alv f_X5_mostSeenPlace_16 rfl ?_
      refine g_ild f_X5_mostSeenPlace_17 rfl ?_
      refine g_cv1 hγ (c_seersInView hG hB l3 hO l2 (t := n) (by omega)) f_X5_mostSeenPlace_18 mo_X5_seersInView mv_X5_seersInView (by assumption) rfl rfl (Nat.le_of_ble_eq_true rfl) ⟨by decide, by decide⟩ ⟨Nat.le_refl _, Nat.le_refl _⟩ (fun x S' M' hq2 => ?_)
      obtain ⟨rfl, q1, q2⟩ := hq2
      obtain rfl := q1.symm
      obtain rfl := q2.symm
      refine g_cs1 hγ (c_bitCount (a := seersN z n) (by omega)) f_X5_mostSeenPlace_21 mo_J6_bitCount_0f7a4 mt_J6_bitCount_0f7a4 rfl (Nat.le_of_ble_eq_true rfl) ⟨by decide, by decide⟩ ⟨Nat.le_refl _, Nat.le_refl _⟩ (fun x S' M' hq2 => ?_)
      obtain ⟨rfl, q1, q2⟩ := hq2
      obtain rfl := q1.symm
      obtain rfl := q2.symm
      refine g_ist_4 f_X5_mostSeenPlace_24 (by decide) c1i ?_
      refine g_ild f_X5_mostSeenPlace_26 rfl ?_
      refine g_ild f_X5_mostSeenPlace_28 rfl ?_
      refine g_icmp_le f_X5_mostSeenPlace_29 rfl (by dsimp only at hfn; omega) (by dsimp only at hfn; omega) (fun hs => ?_) (fun hs => ?_)
      · rw [show maxF (n + 1) (fun t => bcN (seersN z t)) = maxF n (fun t => bcN (seersN z t)) by rw [maxF, if_neg (by omega)]] at nx
        exact nx _
      · refine g_ild f_X5_mostSeenPlace_32 rfl ?_
        refine g_ist_2 f_X5_mostSeenPlace_34 (by decide) c1i ?_
        refine g_ild f_X5_mostSeenPlace_35 rfl ?_
        refine g_ist_1 f_X5_mostSeenPlace_36 (by decide) c1v ?_
        rw [show maxF (n + 1) (fun t => bcN (seersN z t)) = (n, ((fun t => bcN (seersN z t)) n : Int)) by rw [maxF, if_pos (by omega)]] at nx
        exact nx _
  refine g_const f_X5_mostSeenPlace_4 ?_
  refine g_ist_1 f_X5_mostSeenPlace_5 (by decide) c1v ?_
  refine g_const f_X5_mostSeenPlace_6 ?_
  refine g_ist_2 f_X5_mostSeenPlace_7 (by decide) c1i ?_
  refine g_const f_X5_mostSeenPlace_8 ?_
  refine g_ist_3 f_X5_mostSeenPlace_9 (by decide) c1i ?_
  exact loop 12 0 none rfl

theorem paidN_le {z : Ab} (hO : okZ z) {who : Nat} : paidN z who ≤ 60000 := by
  have h := sumF_le (f := fun p => payN (zP z p) (fineL (zL z)) who p) (c := 9999) (zc z) (fun i hi => Nat.le_trans (payN_le _ _ _ _) (hO.2.2.2.1 i hi).2.2.2.1)
  have h2 : zc z * 9999 ≤ 6 * 9999 := Nat.mul_le_mul_right _ hO.1
  unfold paidN
  omega
set_option maxHeartbeats 4000000 in
set_option maxRecDepth 100000 in
theorem c_dear {Ω : Ow} {S : Sg} {M : Mm} {B : Nat} {z : Ab} (hG : Gr S) (hB : isB B) (hX : RepX S M B z) (hO : okZ z) : Ct Ω mX5_dearestPlace 8 0 0 1 [vr Ω B] S M (fun x S' M' => x = ((maxF 12 (fun t => paidN z (seersN z t))).1 : Int) ∧ S' = S ∧ eyc B M M' ∧ eyeOK M' B z ∧ RepX S M' B z) := by
  refine Ct.mk (by decide) (Nat.le_of_ble_eq_true rfl) [some (vr Ω B), none, none, none, none] (by intro q hq; exact hq) (fun γ hγ hz => ?_)
  obtain ⟨x1, x2, x3, x4, x5, Λ, x6, x7, x8, x9⟩ := id hX
  obtain ⟨z1, z2, z3, z4, z5⟩ := id hO
  have oB := obB hG hB
  have aB := arB hG hB
  have g0 := (hG.2.2.1 B hB).1
  refine g_alv f_X5_dearestPlace_0 rfl ?_
  refine g_cv0 hγ (c_look hG hB hX hO) f_X5_dearestPlace_1 mo_X5_look mv_X5_look (by assumption) rfl rfl (Nat.le_of_ble_eq_true rfl) ⟨by decide, by decide⟩ ⟨Nat.le_refl _, Nat.le_refl _⟩ (fun x S' M1 hq2 => ?_)
  obtain ⟨q1, l1, l2, l3⟩ := hq2
  obtain rfl := q1.symm
  have loop : ∀ (k n : Nat) (v : Option Value), n + k = 12 → Go γ Ω mX5_dearestPlace (Zm γ Ω 1 0 0 (fun x S' M' => x = ((maxF 12 (fun t => paidN z (seersN z t))).1 : Int) ∧ S' = S ∧ eyc B M M' ∧ eyeOK M' B z ∧ RepX S M' B z)) 0 0 S M1 10 [some (vr Ω B), some (vi ((maxF n (fun t => paidN z (seersN z t))).1 : Int)), some (vi (maxF n (fun t => paidN z (seersN z t))).2), some (vi (n : Int)), v] [] := by
    intro k
    induction k with
    | zero =>
      intro n v hk
      have hn : n = 12 := by omega
      subst hn
      refine g_ild f_X5_dearestPlace_10 rfl ?_
      refine g_const f_X5_dearestPlace_11 ?_
      refine g_icmp_ge f_X5_dearestPlace_13 rfl (by omega) (by omega) (fun hc => ?_) (fun hc => ?_)
      · refine g_ild f_X5_dearestPlace_44 rfl ?_
        refine g_reti f_X5_dearestPlace_45 rfl ?_ (Nat.zero_le _) (Nat.zero_le _)
        exact ⟨rfl, rfl, l1, l2, l3⟩
      · exact absurd (by omega) hc
    | succ k ih =>
      intro n v hk
      have hn : n < 12 := by omega
      have hsl := seersN_lt (t := n) hO
      have hmr := maxF_rg (f := (fun t => paidN z (seersN z t))) (c := 60000) n (fun i hi => paidN_le hO)
      have hfn : (fun t => paidN z (seersN z t)) n ≤ 60000 := paidN_le hO
      have nx : ∀ v, Go γ Ω mX5_dearestPlace (Zm γ Ω 1 0 0 (fun x S' M' => x = ((maxF 12 (fun t => paidN z (seersN z t))).1 : Int) ∧ S' = S ∧ eyc B M M' ∧ eyeOK M' B z ∧ RepX S M' B z)) 0 0 S M1 38 [some (vr Ω B), some (vi ((maxF (n + 1) (fun t => paidN z (seersN z t))).1 : Int)), some (vi (maxF (n + 1) (fun t => paidN z (seersN z t))).2), some (vi (n : Int)), v] [] := by
        intro v
        refine g_inc_3 f_X5_dearestPlace_38 (by decide) c1i ?_
        refine g_goto f_X5_dearestPlace_41 ?_
        exact ih (n + 1) v (by omega)
      refine g_ild f_X5_dearestPlace_10 rfl ?_
      refine g_const f_X5_dearestPlace_11 ?_
      refine g_icmp_ge f_X5_dearestPlace_13 rfl (by omega) (by omega) (fun hc => ?_) (fun hc => ?_)
      · exact absurd hc (by omega)
      refine g_alv f_X5_dearestPlace_16 rfl ?_
      refine g_alv f_X5_dearestPlace_17 rfl ?_
      refine g_ild f_X5_dearestPlace_18 rfl ?_
      refine g_cv1 hγ (c_seersInView hG hB l3 hO l2 (t := n) (by omega)) f_X5_dearestPlace_19 mo_X5_seersInView mv_X5_seersInView (by assumption) rfl rfl (Nat.le_of_ble_eq_true rfl) ⟨by decide, by decide⟩ ⟨Nat.le_refl _, Nat.le_refl _⟩ (fun x S' M' hq2 => ?_)
      obtain ⟨rfl, q1, q2⟩ := hq2
      obtain rfl := q1.symm
      obtain rfl := q2.symm
      refine g_cv1 hγ (c_paidBy hG hB l3 hO hsl) f_X5_dearestPlace_22 mo_X5_paidBy mv_X5_paidBy (by assumption) rfl rfl (Nat.le_of_ble_eq_true rfl) ⟨by decide, by decide⟩ ⟨Nat.le_refl _, Nat.le_refl _⟩ (fun x S' M' hq2 => ?_)
      obtain ⟨rfl, q1, q2⟩ := hq2
      obtain rfl := q1.symm
      obtain rfl := q2.symm
      refine g_ist_4 f_X5_dearestPlace_25 (by decide) c1i ?_
      refine g_ild f_X5_dearestPlace_27 rfl ?_
      refine g_ild f_X5_dearestPlace_29 rfl ?_
      refine g_icmp_le f_X5_dearestPlace_30 rfl (by dsimp only at hfn; omega) (by dsimp only at hfn; omega) (fun hs => ?_) (fun hs => ?_)
      · rw [show maxF (n + 1) (fun t => paidN z (seersN z t)) = maxF n (fun t => paidN z (seersN z t)) by rw [maxF, if_neg (by omega)]] at nx
        exact nx _
      · refine g_ild f_X5_dearestPlace_33 rfl ?_
        refine g_ist_2 f_X5_dearestPlace_35 (by decide) c1i ?_
        refine g_ild f_X5_dearestPlace_36 rfl ?_
        refine g_ist_1 f_X5_dearestPlace_37 (by decide) c1v ?_
        rw [show maxF (n + 1) (fun t => paidN z (seersN z t)) = (n, ((fun t => paidN z (seersN z t)) n : Int)) by rw [maxF, if_pos (by omega)]] at nx
        exact nx _
  refine g_const f_X5_dearestPlace_4 ?_
  refine g_ist_1 f_X5_dearestPlace_5 (by decide) c1v ?_
  refine g_const f_X5_dearestPlace_6 ?_
  refine g_ist_2 f_X5_dearestPlace_7 (by decide) c1i ?_
  refine g_const f_X5_dearestPlace_8 ?_
  refine g_ist_3 f_X5_dearestPlace_9 (by decide) c1i ?_
  exact loop 12 0 none rfl
