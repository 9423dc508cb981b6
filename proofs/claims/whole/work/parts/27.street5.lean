/-! contracts: Street: what goes on, copies -/
set_option maxHeartbeats 4000000 in
set_option maxRecDepth 100000 in
theorem c_banish {Ω : Ow} {S : Sg} {M : Mm} {B : Nat} {z : Ab} (hG : Gr S) (hB : isB B) (hX : RepX S M B z) (hO : okZ z) {p : Nat} (hp : p < zc z) : Ct Ω mX5_banish 2 0 0 0 [vr Ω B, vi (p : Int)] S M (fun _ S' M' => S' = S ∧ blk B M M' ∧ RepX S M' B (setP z p 4 1)) := by
  refine Ct.mk (by decide) (Nat.le_of_ble_eq_true rfl) [some (vr Ω B), some (vi (p : Int)), none] (by intro q hq; exact hq) (fun γ hγ hz => ?_)
  obtain ⟨x1, x2, x3, x4, x5, Λ, x6, x7, x8, x9⟩ := id hX
  obtain ⟨z1, z2, z3, z4, z5⟩ := id hO
  have oB := obB hG hB
  have aB := arB hG hB
  have g0 := (hG.2.2.1 B hB).1
  have hp6 : p < 6 := by omega
  have oP := obP hG hB hp6
  refine g_alv f_X5_banish_0 rfl ?_
  refine g_ild f_X5_banish_1 rfl ?_
  refine g_cv3 hγ (c_person hG hB hX hO (p : Int) (by omega)) f_X5_banish_2 mo_X5_person mv_X5_person (by assumption) rfl rfl (Nat.le_of_ble_eq_true rfl) ⟨by decide, by decide⟩ ⟨Nat.le_refl _, Nat.le_refl _⟩ (fun x S' M' hq2 => ?_)
  obtain ⟨hq2, q1, q2⟩ := hq2
  obtain rfl := q1.symm
  obtain rfl := q2.symm
  obtain ⟨p2, hp2, e1, rfl⟩ : ∃ p2 : Nat, p2 < zc z ∧ (p : Int) = (p2 : Int) ∧ x = (pe B p2 : Int) := by
    rcases hq2 with h | h
    · exact h
    · omega
  obtain rfl : p = p2 := by omega
  rw [rv_nat]
  refine g_ast_2 f_X5_banish_5 (by decide) c1i ?_
  refine g_alv f_X5_banish_6 rfl ?_
  refine g_ifnull f_X5_banish_7 rfl ?_
  refine g_alv f_X5_banish_10 rfl ?_
  refine g_const f_X5_banish_11 ?_
  refine g_putZ f_X5_banish_12 rfl (Or.inr rfl) (by assumption) ?_
  refine g_ret0 (κ := 0) f_X5_banish_15 rfl 0 ?_ (Nat.zero_le _) (Nat.zero_le _)
  exact ⟨rfl, blk_upM ⟨(pe_in hp6).1, (pe_in hp6).2.1⟩, RepX_setP (a := 4) (v := 1) hX hB hO.1 hp6 (by decide)⟩

/-- the first n have walked, the DAY is as it was -/
def walkU (z : Ab) (d n : Nat) : Ab := (zc z, zw z, zd z, fun p a => if p < n ∧ a = 2 then walkP (zP z p) d else zP z p a, zL z)
theorem walkU_0 (z : Ab) (d : Nat) : walkU z d 0 = z := by
  unfold walkU
  have : (fun p a => if p < 0 ∧ a = 2 then walkP (zP z p) d else zP z p a) = zP z := by funext p a; rw [if_neg (by omega)]
  rw [this]
theorem walkU_S (z : Ab) (d n : Nat) : walkU z d (n + 1) = setP (walkU z d n) n 2 (walkP (zP z n) d) := by
  unfold walkU setP
  refine congrArg _ (congrArg _ (congrArg _ (congrArg (fun f => (f, zL z)) ?_)))
  funext p a
  by_cases h : p = n ∧ a = 2
  · obtain ⟨rfl, rfl⟩ := h
    rw [if_pos ⟨by omega, rfl⟩, if_pos ⟨rfl, rfl⟩]
  · rw [if_neg h]
    by_cases h2 : p < n ∧ a = 2
    · rw [if_pos ⟨by omega, h2.2⟩]; show _ = (if p < n ∧ a = 2 then _ else _); rw [if_pos h2]
    · rw [if_neg (by omega)]; show _ = (if p < n ∧ a = 2 then _ else _); rw [if_neg h2]
theorem walkU_n (z : Ab) (d n : Nat) : zP (walkU z d n) n = zP z n := by
  funext a
  show (if n < n ∧ a = 2 then _ else _) = _
  rw [if_neg (by omega)]
theorem okZ_walkU {z : Ab} {d : Nat} (h : okZ z) : ∀ n, n ≤ zc z → okZ (walkU z d n)
  | 0, _ => by rw [walkU_0]; exact h
  | n + 1, hn => by
    rw [walkU_S]
    exact okZ_setP (okZ_walkU h n (by omega)) (Or.inr (Or.inr (Or.inl ⟨rfl, walkP_le (h.2.2.2.1 n (by omega)).2.2.1⟩)))
/-- the DAY, the WALLS -/
theorem RepX_scal {S : Sg} {M : Mm} {B : Nat} {z : Ab} (h : RepX S M B z) (hB : isB B) (hc : zc z ≤ 6) (w d : Nat) {M' : Mm} (e1 : M' B 1 = M B 1) (e2 : M' B 2 = (w : Int)) (e3 : M' B 3 = (d : Int)) (e : ∀ k, k ≠ B → M' k = M k) : RepX S M' B (zc z, w, d, zP z, zL z) := by
  obtain ⟨h1, h2, h3, h4, h5, Λ, h6, h7, h8, h9⟩ := h
  refine ⟨by rw [e1]; exact h1, e2, e3, fun p hp => ?_, fun p hp => by rw [e _ (by unfold pe; omega)]; exact h5 p hp, Λ, h6, h7, h8, RepLaw.far h9 hB h7 (fun k a b => e k (by omega))⟩
  have h := h4 p hp
  unfold RepP at h ⊢
  rw [e _ (by unfold pe; omega), e _ (by unfold pe; omega)]
  exact h
/-- what lies beyond the PEOPLE doesn't matter -/
theorem RepX_cut {S : Sg} {M : Mm} {B c w d : Nat} {P1 P2 : Nat → Nat → Nat} {L : LawC} (h : RepX S M B (c, w, d, P1, L)) (e : ∀ p, p < c → ∀ a, P1 p a = P2 p a) : RepX S M B (c, w, d, P2, L) := by
  obtain ⟨h1, h2, h3, h4, h5⟩ := h
  refine ⟨h1, h2, h3, fun p hp => ?_, h5⟩
  have h := h4 p hp
  have e2 : P1 p = P2 p := funext (e p hp)
  have h' : RepP M (pe B p) (P1 p) := h
  rw [e2] at h'
  exact h'
set_option maxHeartbeats 4000000 in
set_option maxRecDepth 100000 in
theorem c_goOn {Ω : Ow} {S : Sg} {M : Mm} {B : Nat} {z : Ab} (hG : Gr S) (hB : isB B) (hX : RepX S M B z) (hO : okZ z) {d : Nat} (hd : d ≤ 60) : Ct Ω mX5_goOn 3 0 0 0 [vr Ω B, vi (d : Int)] S M (fun _ S' M' => S' = S ∧ blk B M M' ∧ RepX S M' B (walkZ z d)) := by
  refine Ct.mk (by decide) (Nat.le_of_ble_eq_true rfl) [some (vr Ω B), some (vi (d : Int)), none] (by intro q hq; exact hq) (fun γ hγ hz => ?_)
  obtain ⟨x1, x2, x3, x4, x5, Λ, x6, x7, x8, x9⟩ := id hX
  obtain ⟨z1, z2, z3, z4, z5⟩ := id hO
  have oB := obB hG hB
  have aB := arB hG hB
  have g0 := (hG.2.2.1 B hB).1
  have loop : ∀ (k n : Nat) (M1 : Mm), n + k = zc z → blk B M M1 → RepX S M1 B (walkU z d n) → Go γ Ω mX5_goOn (Zm γ Ω 0 0 0 (fun _ S' M' => S' = S ∧ blk B M M' ∧ RepX S M' B (walkZ z d))) 0 0 S M1 2 [some (vr Ω B), some (vi (d : Int)), some (vi (n : Int))] [] := by
    intro k
    induction k with
    | zero =>
      intro n M1 hk hb hX1
      have hn : n = zc z := by omega
      subst hn
      obtain ⟨y1, y2, y3, -⟩ := id hX1
      have y1 : M1 B 1 = (zc z : Int) := y1
      have y2 : M1 B 2 = (zw z : Int) := y2
      have y3 : M1 B 3 = (zd z : Int) := y3
      refine g_ild f_X5_goOn_2 rfl ?_
      refine g_alv f_X5_goOn_3 rfl ?_
      refine g_getI f_X5_goOn_4 (by assumption) ?_
      rw [y1]
      refine g_icmp_ge f_X5_goOn_7 rfl (by omega) (by omega) (fun hc => ?_) (fun hc => ?_)
      · refine g_alv f_X5_goOn_26 rfl ?_
        refine g_dup f_X5_goOn_27 rfl ?_
        refine g_getI f_X5_goOn_28 (by assumption) ?_
        rw [y3]
        refine g_ild f_X5_goOn_31 rfl ?_
        refine g_iadd f_X5_goOn_32 ?_
        refine g_putI f_X5_goOn_33 rfl (by assumption) ?_
        refine g_ret0 (κ := 0) f_X5_goOn_36 rfl 0 ?_ (Nat.zero_le _) (Nat.zero_le _)
        refine ⟨rfl, blk_up hb ⟨by omega, by omega⟩, ?_⟩
        have h := RepX_scal hX1 hB hO.1 (zw z) (zd z + d) (M' := up M1 B 3 ((zd z : Int) + (d : Int))) (up_n (by omega)) (by rw [up_n (by omega)]; exact y2) (by rw [up_s]; push_cast; rfl) (fun k2 a => up_row a)
        have e : (zc (walkU z d (zc z)), zw z, zd z + d, zP (walkU z d (zc z)), zL (walkU z d (zc z))) = ((zc z, zw z, zd z + d, zP (walkU z d (zc z)), zL z) : Ab) := rfl
        rw [e] at h
        exact RepX_cut h (fun p hp a => by show (if p < zc z ∧ a = 2 then _ else _) = (if a = 2 then _ else _); by_cases q : a = 2; (rw [if_pos ⟨hp, q⟩, if_pos q]); (rw [if_neg (fun x => q x.2), if_neg q]))
      · exact absurd (by omega) hc
    | succ k ih =>
      intro n M1 hk hb hX1
      obtain ⟨y1, y2, y3, y4, -⟩ := id hX1
      have y1 : M1 B 1 = (zc z : Int) := y1
      have y2 : M1 B 2 = (zw z : Int) := y2
      have y3 : M1 B 3 = (zd z : Int) := y3
      have hn : n < zc z := by omega
      have hn6 : n < 6 := by omega
      have gn := ((hG.2.2.1 B hB).2 n hn6).1
      have oN := obP (p := n) hG hB hn6
      have hw := okZ_walkU (d := d) hO n (by omega)
      refine g_ild f_X5_goOn_2 rfl ?_
      refine g_alv f_X5_goOn_3 rfl ?_
      refine g_getI f_X5_goOn_4 (by assumption) ?_
      rw [y1]
      refine g_icmp_ge f_X5_goOn_7 rfl (by omega) (by omega) (fun hc => ?_) (fun hc => ?_)
      · exact absurd hc (by omega)
      refine g_alv f_X5_goOn_10 rfl ?_
      refine g_getR f_X5_goOn_11 (by assumption) (by assumption) ?_
      refine g_ild f_X5_goOn_14 rfl ?_
      refine g_aal f_X5_goOn_15 (by assumption) (Or.inl rfl) _ rfl (by omega) (by assumption) ?_
      refine g_ild f_X5_goOn_16 rfl ?_
      refine g_cv0 hγ (c_walk (P := zP z n) (n := d) oN (by have h := y4 n hn; rw [walkU_n] at h; exact h) (z4 n hn) hd) f_X5_goOn_17 mo_X3_walk mv_X3_walk (by assumption) rfl rfl (Nat.le_of_ble_eq_true rfl) ⟨by decide, by decide⟩ ⟨Nat.le_refl _, Nat.le_refl _⟩ (fun x S' M2 hq2 => ?_)
      obtain ⟨q1, rfl⟩ := hq2
      obtain rfl := q1.symm
      refine g_inc_2 f_X5_goOn_20 (by decide) c1i ?_
      refine g_goto f_X5_goOn_23 ?_
      exact ih (n + 1) _ (by omega) (blk_up hb ⟨(pe_in hn6).1, (pe_in hn6).2.1⟩) (by rw [walkU_S]; exact RepX_setP (a := 2) hX1 hB hO.1 hn6 (by decide))
  refine g_const f_X5_goOn_0 ?_
  refine g_ist_2 f_X5_goOn_1 (by decide) c1i ?_
  exact loop (zc z) 0 M (by omega) blk.rf (by rw [walkU_0]; exact hX)

/-- the first n have paid -/
def paidU (z : Ab) (who n : Nat) : Ab := (zc z, zw z, zd z, fun p a => if p < n ∧ a = 3 then zP z p 3 - payN (zP z p) (fineL (zL z)) who p else zP z p a, zL z)
theorem paidU_0 (z : Ab) (d : Nat) : paidU z d 0 = z := by
  unfold paidU
  have : (fun p a => if p < 0 ∧ a = 3 then zP z p 3 - payN (zP z p) (fineL (zL z)) d p else zP z p a) = zP z := by funext p a; rw [if_neg (by omega)]
  rw [this]
theorem paidU_S (z : Ab) (d n : Nat) : paidU z d (n + 1) = setP (paidU z d n) n 3 (zP z n 3 - payN (zP z n) (fineL (zL z)) d n) := by
  unfold paidU setP
  refine congrArg _ (congrArg _ (congrArg _ (congrArg (fun f => (f, zL z)) ?_)))
  funext p a
  by_cases h : p = n ∧ a = 3
  · obtain ⟨rfl, rfl⟩ := h
    rw [if_pos ⟨by omega, rfl⟩, if_pos ⟨rfl, rfl⟩]
  · rw [if_neg h]
    by_cases h2 : p < n ∧ a = 3
    · rw [if_pos ⟨by omega, h2.2⟩]; show _ = (if p < n ∧ a = 3 then _ else _); rw [if_pos h2]
    · rw [if_neg (by omega)]; show _ = (if p < n ∧ a = 3 then _ else _); rw [if_neg h2]
theorem paidU_n (z : Ab) (d n : Nat) : zP (paidU z d n) n = zP z n := by
  funext a
  show (if n < n ∧ a = 3 then _ else _) = _
  rw [if_neg (by omega)]
theorem okZ_paidU {z : Ab} {d : Nat} (h : okZ z) : ∀ n, n ≤ zc z → okZ (paidU z d n)
  | 0, _ => by rw [paidU_0]; exact h
  | n + 1, hn => by
    rw [paidU_S]
    have := (h.2.2.2.1 n (by omega)).2.2.2.1
    exact okZ_setP (okZ_paidU h n (by omega)) (Or.inr (Or.inr (Or.inr (Or.inl ⟨rfl, by omega⟩))))
set_option maxHeartbeats 4000000 in
set_option maxRecDepth 100000 in
theorem c_collect {Ω : Ow} {S : Sg} {M : Mm} {B : Nat} {z : Ab} (hG : Gr S) (hB : isB B) (hX : RepX S M B z) (hO : okZ z) {t : Nat} (ht : t < 12) : Ct Ω mX5_collect 8 0 0 1 [vr Ω B, vi (t : Int)] S M (fun x S' M' => x = (paidN z (seersN z t) : Int) ∧ S' = S ∧ blk B M M' ∧ RepX S M' B (paidZ z (seersN z t))) := by
  refine Ct.mk (by decide) (Nat.le_of_ble_eq_true rfl) [some (vr Ω B), some (vi (t : Int)), none, none, none, none] (by intro q hq; exact hq) (fun γ hγ hz => ?_)
  obtain ⟨x1, x2, x3, x4, x5, Λ, x6, x7, x8, x9⟩ := id hX
  obtain ⟨z1, z2, z3, z4, z5⟩ := id hO
  have oB := obB hG hB
  have aB := arB hG hB
  have g0 := (hG.2.2.1 B hB).1
  have hsl := seersN_lt (t := t) hO
  have loop : ∀ (k n : Nat) (M2 : Mm) (v : Option Value), n + k = zc z → blk B M M2 → RepX S M2 B (paidU z (seersN z t) n) → Go γ Ω mX5_collect (Zm γ Ω 1 0 0 (fun x S' M' => x = (paidN z (seersN z t) : Int) ∧ S' = S ∧ blk B M M' ∧ RepX S M' B (paidZ z (seersN z t)))) 0 0 S M2 15 [some (vr Ω B), some (vi (t : Int)), some (vi (seersN z t : Int)), some (vi (sumF n (fun p => payN (zP z p) (fineL (zL z)) (seersN z t) p) : Int)), some (vi (n : Int)), v] [] := by
    intro k
    induction k with
    | zero =>
      intro n M2 v hk hb hX1
      have hn : n = zc z := by omega
      subst hn
      obtain ⟨y1, y2, y3, -⟩ := id hX1
      have y1 : M2 B 1 = (zc z : Int) := y1
      have y2 : M2 B 2 = (zw z : Int) := y2
      have y3 : M2 B 3 = (zd z : Int) := y3
      refine g_ild f_X5_collect_15 rfl ?_
      refine g_alv f_X5_collect_17 rfl ?_
      refine g_getI f_X5_collect_18 (by assumption) ?_
      rw [y1]
      refine g_icmp_ge f_X5_collect_21 rfl (by omega) (by omega) (fun hc => ?_) (fun hc => ?_)
      · refine g_ild f_X5_collect_66 rfl ?_
        refine g_reti f_X5_collect_67 rfl ?_ (Nat.zero_le _) (Nat.zero_le _)
        exact ⟨rfl, rfl, hb, RepX_cut hX1 (fun p hp a => by show (if p < zc z ∧ a = 3 then _ else _) = (if a = 3 then _ else _); by_cases q : a = 3; (rw [if_pos ⟨hp, q⟩, if_pos q]); (rw [if_neg (fun x => q x.2), if_neg q]))⟩
      · exact absurd (by omega) hc
    | succ k ih =>
      intro n M2 v hk hb hX1
      obtain ⟨y1, y2, y3, y4, -⟩ := id hX1
      have y1 : M2 B 1 = (zc z : Int) := y1
      have y2 : M2 B 2 = (zw z : Int) := y2
      have y3 : M2 B 3 = (zd z : Int) := y3
      have hn : n < zc z := by omega
      have hn6 : n < 6 := by omega
      have gn := ((hG.2.2.1 B hB).2 n hn6).1
      have oN := obP (p := n) hG hB hn6
      have hw := okZ_paidU (d := seersN z t) hO n (by omega)
      have hr := y4 n hn
      rw [paidU_n] at hr
      have hle := payN_le (zP z n) (fineL (zL z)) (seersN z t) n
      refine g_ild f_X5_collect_15 rfl ?_
      refine g_alv f_X5_collect_17 rfl ?_
      refine g_getI f_X5_collect_18 (by assumption) ?_
      rw [y1]
      refine g_icmp_ge f_X5_collect_21 rfl (by omega) (by omega) (fun hc => ?_) (fun hc => ?_)
      · exact absurd hc (by omega)
      refine g_alv f_X5_collect_24 rfl ?_
      refine g_alv f_X5_collect_25 rfl ?_
      refine g_getR f_X5_collect_26 (by assumption) (by assumption) ?_
      refine g_ild f_X5_collect_29 rfl ?_
      refine g_aal f_X5_collect_31 (by assumption) (Or.inl rfl) _ rfl (by omega) (by assumption) ?_
      refine g_ild f_X5_collect_32 rfl ?_
      refine g_cv1 hγ (c_paidByOne hG hB hX1 hw (p := n) hn hsl) f_X5_collect_33 mo_X5_paidByOne mv_X5_paidByOne (by assumption) rfl rfl (Nat.le_of_ble_eq_true rfl) ⟨by decide, by decide⟩ ⟨Nat.le_refl _, Nat.le_refl _⟩ (fun x S' M3 hq2 => ?_)
      obtain ⟨rfl, q1, q2⟩ := hq2
      obtain rfl := q1.symm
      obtain rfl := q2.symm
      rw [paidU_n, show zL (paidU z (seersN z t) n) = zL z from rfl]
      refine g_ist_5 f_X5_collect_36 (by decide) c1i ?_
      refine g_alv f_X5_collect_38 rfl ?_
      refine g_getR f_X5_collect_39 (by assumption) (by assumption) ?_
      refine g_ild f_X5_collect_42 rfl ?_
      refine g_aal f_X5_collect_44 (by assumption) (Or.inl rfl) _ rfl (by omega) (by assumption) ?_
      refine g_dup f_X5_collect_45 rfl ?_
      refine g_getI f_X5_collect_46 (by assumption) ?_
      rw [hr.2.2.2.1]
      refine g_ild f_X5_collect_49 rfl ?_
      refine g_isub f_X5_collect_51 ?_
      rw [show ((zP z n 3 : Int) - (payN (zP z n) (fineL (zL z)) (seersN z t) n : Int)) = ((zP z n 3 - payN (zP z n) (fineL (zL z)) (seersN z t) n : Nat) : Int) by omega]
      refine g_putI f_X5_collect_52 rfl (by assumption) ?_
      refine g_ild f_X5_collect_55 rfl ?_
      refine g_ild f_X5_collect_56 rfl ?_
      refine g_iadd f_X5_collect_58 ?_
      refine g_ist_3 f_X5_collect_59 (by decide) c1i ?_
      refine g_inc_4 f_X5_collect_60 (by decide) c1i ?_
      refine g_goto f_X5_collect_63 ?_
      exact ih (n + 1) _ _ (by omega) (blk_up hb ⟨(pe_in hn6).1, (pe_in hn6).2.1⟩) (by rw [paidU_S]; exact RepX_setP (a := 3) hX1 hB hO.1 hn6 (by decide))
  refine g_alv f_X5_collect_0 rfl ?_
  refine g_cv0 hγ (c_look hG hB hX hO) f_X5_collect_1 mo_X5_look mv_X5_look (by assumption) rfl rfl (Nat.le_of_ble_eq_true rfl) ⟨by decide, by decide⟩ ⟨Nat.le_refl _, Nat.le_refl _⟩ (fun x S' M1 hq2 => ?_)
  obtain ⟨q1, l1, l2, l3⟩ := hq2
  obtain rfl := q1.symm
  refine g_alv f_X5_collect_4 rfl ?_
  refine g_ild f_X5_collect_5 rfl ?_
  refine g_cv1 hγ (c_seersInView hG hB l3 hO l2 (t := t) (by omega)) f_X5_collect_6 mo_X5_seersInView mv_X5_seersInView (by assumption) rfl rfl (Nat.le_of_ble_eq_true rfl) ⟨by decide, by decide⟩ ⟨Nat.le_refl _, Nat.le_refl _⟩ (fun x S' M' hq2 => ?_)
  obtain ⟨rfl, q1, q2⟩ := hq2
  obtain rfl := q1.symm
  obtain rfl := q2.symm
  refine g_ist_2 f_X5_collect_9 (by decide) c1i ?_
  refine g_const f_X5_collect_10 ?_
  refine g_ist_3 f_X5_collect_11 (by decide) c1i ?_
  refine g_const f_X5_collect_12 ?_
  refine g_ist_4 f_X5_collect_13 (by decide) c1i ?_
  exact loop (zc z) 0 M1 none (by omega) l1.blk (by rw [paidU_0]; exact l3)

set_option maxHeartbeats 4000000 in
set_option maxRecDepth 100000 in
theorem c_plike {Ω : Ow} {S : Sg} {M : Mm} {q r : Nat} {P : Nat → Nat} (hq : Ob S q 3) (ha : Ar S (q + 1) 12 4) (hg : S.2 q 6 = ((q + 1 : Nat) : Int)) (hr : Ob S r 3) (ha2 : Ar S (r + 1) 12 4) (hg2 : S.2 r 6 = ((r + 1 : Nat) : Int)) (hne : r ≠ q) (hne2 : r + 1 ≠ q) (hR : RepP M r P) (hg4 : P 4 ≤ 1) : Ct Ω mX3_becomeLike 1 0 0 0 [vr Ω q, vr Ω r] S M (fun _ S' M' => S' = S ∧ (∀ k, k ≠ q → k ≠ q + 1 → M' k = M k) ∧ M' q 0 = M q 0 ∧ M' q 7 = M q 7 ∧ RepP M' q P) := by
  refine Ct.mk (by decide) (Nat.le_of_ble_eq_true rfl) [some (vr Ω q), some (vr Ω r)] (by intro q hq; exact hq) (fun γ hγ hz => ?_)
  refine g_alv f_X3_becomeLike_0 rfl ?_
  refine g_alv f_X3_becomeLike_1 rfl ?_
  refine g_getI f_X3_becomeLike_2 (by assumption) ?_
  rw [hR.1]
  refine g_putI f_X3_becomeLike_5 rfl (by assumption) ?_
  refine g_alv f_X3_becomeLike_8 rfl ?_
  refine g_alv f_X3_becomeLike_9 rfl ?_
  refine g_getI f_X3_becomeLike_10 (by assumption) ?_
  simp only [up_row hne]
  rw [hR.2.1]
  refine g_putI f_X3_becomeLike_13 rfl (by assumption) ?_
  refine g_alv f_X3_becomeLike_16 rfl ?_
  refine g_alv f_X3_becomeLike_17 rfl ?_
  refine g_getI f_X3_becomeLike_18 (by assumption) ?_
  simp only [up_row hne]
  rw [hR.2.2.1]
  refine g_putI f_X3_becomeLike_21 rfl (by assumption) ?_
  refine g_alv f_X3_becomeLike_24 rfl ?_
  refine g_alv f_X3_becomeLike_25 rfl ?_
  refine g_getI f_X3_becomeLike_26 (by assumption) ?_
  simp only [up_row hne]
  rw [hR.2.2.2.1]
  refine g_putI f_X3_becomeLike_29 rfl (by assumption) ?_
  refine g_alv f_X3_becomeLike_32 rfl ?_
  refine g_alv f_X3_becomeLike_33 rfl ?_
  refine g_getI f_X3_becomeLike_34 (by assumption) ?_
  simp only [up_row hne]
  rw [hR.2.2.2.2.1]
  refine g_putZ f_X3_becomeLike_37 rfl (by have := hg4; omega) (by assumption) ?_
  refine g_alv f_X3_becomeLike_40 rfl ?_
  refine g_getR f_X3_becomeLike_41 (by assumption) (by assumption) ?_
  refine g_const f_X3_becomeLike_44 ?_
  refine g_alv f_X3_becomeLike_45 rfl ?_
  refine g_getR f_X3_becomeLike_46 (by assumption) (by assumption) ?_
  refine g_const f_X3_becomeLike_49 ?_
  refine g_const f_X3_becomeLike_50 ?_
  refine g_acopyI (sp := 0) (dp := 0) (n := 4) f_X3_becomeLike_51 (by assumption) (by assumption) (by omega) (by omega) (by rw [hγ]; exact ⟨by decide, by decide⟩) (by omega) ?_
  refine g_ret0 (κ := 0) f_X3_becomeLike_54 rfl 0 ?_ (Nat.zero_le _) (Nat.zero_le _)
  refine ⟨rfl, fun k a b => ?_, ?_, ?_, ?_⟩
  · rw [cpM_row b]; simp only [up_row a]
  · rw [cpM_row (by omega)]; simp [up]
  · rw [cpM_row (by omega)]; simp [up]
  · unfold RepP
    rw [cpM_row (show q ≠ q + 1 by omega)]
    refine ⟨by simp [up], by simp [up], by simp [up], by simp [up], by simp [up], fun j hj => ?_⟩
    unfold cpM
    rw [if_pos ⟨rfl, by omega, by omega⟩, show 0 + (j - 0) = j by omega]
    simp only [up_row hne2]
    exact hR.2.2.2.2.2 j hj

theorem blike {S : Sg} {M M1 : Mm} {B C n : Nat} {z : Ab} (h : RepX S M B z) : True := trivial
/-- B is as C up to the n-th of the PEOPLE -/
def LikeTo (S : Sg) (M M1 : Mm) (B C : Nat) (z : Ab) (n : Nat) : Prop := M1 B 1 = (zc z : Int) ∧ M1 B 2 = (zw z : Int) ∧ M1 B 3 = (zd z : Int) ∧ (∀ p, p < n → RepP M1 (pe B p) (zP z p)) ∧ (∀ p, p < 6 → M1 (pe B p) 0 = (p : Int)) ∧ blk B M M1
set_option maxHeartbeats 4000000 in
set_option maxRecDepth 100000 in
theorem c_slike {Ω : Ow} {S : Sg} {M : Mm} {B C : Nat} {z : Ab} (hG : Gr S) (hB : isB B) (hC : isB C) (hBC : B ≠ C) (hX : RepX S M C z) (hO : okZ z) (hN : ∀ p, p < 6 → M (pe B p) 0 = (p : Int)) : Ct Ω mX5_becomeLike 2 0 0 0 [vr Ω B, vr Ω C] S M (fun _ S' M' => S' = (S.1, up S.2 B 4 (S.2 C 4)) ∧ blk B M M' ∧ RepX S' M' B z) := by
  refine Ct.mk (by decide) (Nat.le_of_ble_eq_true rfl) [some (vr Ω B), some (vr Ω C), none] (by intro q hq; exact hq) (fun γ hγ hz => ?_)
  obtain ⟨x1, x2, x3, x4, x5, Λ, x6, x7, x8, x9⟩ := id hX
  obtain ⟨z1, z2, z3, z4, z5⟩ := id hO
  have oB := obB hG hB
  have oC := obB hG hC
  have hf := B_far hB hC hBC
  have hS2 : ∃ S2 : Sg, S2 = (S.1, up S.2 B 4 (S.2 C 4)) := ⟨_, rfl⟩
  obtain ⟨S2, hS2⟩ := hS2
  have hG2 : Gr S2 := by rw [hS2]; exact Gr.upLaw hG hB _
  have oB2 := obB hG2 hB
  have oC2 := obB hG2 hC
  have aB2 := arB hG2 hB
  have aC2 := arB hG2 hC
  have g02 := (hG2.2.2.1 B hB).1
  have g0C := (hG2.2.2.1 C hC).1
  have loop : ∀ (k n : Nat) (M1 : Mm), n + k = zc z → LikeTo S M M1 B C z n → Go γ Ω mX5_becomeLike (Zm γ Ω 0 0 0 (fun _ S' M' => S' = (S.1, up S.2 B 4 (S.2 C 4)) ∧ blk B M M' ∧ RepX S' M' B z)) 0 0 S2 M1 34 [some (vr Ω B), some (vr Ω C), some (vi (n : Int))] [] := by
    intro k
    induction k with
    | zero =>
      intro n M1 hk hl
      have hn : n = zc z := by omega
      subst hn
      obtain ⟨y1, y2, y3, y4, y5, y6⟩ := id hl
      refine g_ild f_X5_becomeLike_34 rfl ?_
      refine g_alv f_X5_becomeLike_35 rfl ?_
      refine g_getI f_X5_becomeLike_36 (by assumption) ?_
      rw [y1]
      refine g_icmp_ge f_X5_becomeLike_39 rfl (by omega) (by omega) (fun hc => ?_) (fun hc => ?_)
      · refine g_ret0 (κ := 0) f_X5_becomeLike_63 rfl 0 ?_ (Nat.zero_le _) (Nat.zero_le _)
        refine ⟨hS2, y6, y1, y2, y3, y4, y5, Λ, ?_, x7, by rw [hS2]; exact x8, x9.far hB x7 y6⟩
        rw [hS2]; show up S.2 B 4 (S.2 C 4) B 4 = _; rw [up_s]; exact x6
      · exact absurd (by omega) hc
    | succ k ih =>
      intro n M1 hk hl
      obtain ⟨y1, y2, y3, y4, y5, y6⟩ := id hl
      have hn : n < zc z := by omega
      have hn6 : n < 6 := by omega
      have gn := ((hG2.2.2.1 B hB).2 n hn6).1
      have gC := ((hG2.2.2.1 C hC).2 n hn6).1
      have oN := obP (p := n) hG2 hB hn6
      have oNC := obP (p := n) hG2 hC hn6
      have hin := pe_in (B := B) hn6
      have hinC := pe_in (B := C) hn6
      have hPC : RepP M1 (pe C n) (zP z n) := by
        have h := x4 n hn
        unfold RepP at h ⊢
        rw [y6.at (sh_pe hC hn6).1 (by decide) (by omega), y6.at (sh_pe hC hn6).2.1 (by decide) (by omega)]
        exact h
      refine g_ild f_X5_becomeLike_34 rfl ?_
      refine g_alv f_X5_becomeLike_35 rfl ?_
      refine g_getI f_X5_becomeLike_36 (by assumption) ?_
      rw [y1]
      refine g_icmp_ge f_X5_becomeLike_39 rfl (by omega) (by omega) (fun hc => ?_) (fun hc => ?_)
      · exact absurd hc (by omega)
      refine g_alv f_X5_becomeLike_42 rfl ?_
      refine g_getR f_X5_becomeLike_43 (by assumption) (by assumption) ?_
      refine g_ild f_X5_becomeLike_46 rfl ?_
      refine g_aal f_X5_becomeLike_47 (by assumption) (Or.inl rfl) _ rfl (by omega) (by assumption) ?_
      refine g_alv f_X5_becomeLike_48 rfl ?_
      refine g_getR f_X5_becomeLike_49 (by assumption) (by assumption) ?_
      refine g_ild f_X5_becomeLike_52 rfl ?_
      refine g_aal f_X5_becomeLike_53 (by assumption) (Or.inl rfl) _ rfl (by omega) (by assumption) ?_
      refine g_cv0 hγ (c_plike oN (arP hG2 hB hn6) ((hG2.2.2.1 B hB).2 n hn6).2 oNC (arP hG2 hC hn6) ((hG2.2.2.1 C hC).2 n hn6).2 (by omega) (by omega) hPC (z4 n hn).2.2.2.2.1) f_X5_becomeLike_54 mo_X3_becomeLike mv_X3_becomeLike (by assumption) rfl rfl (Nat.le_of_ble_eq_true rfl) ⟨by decide, by decide⟩ ⟨Nat.le_refl _, Nat.le_refl _⟩ (fun x S' M2 hq2 => ?_)
      obtain ⟨q1, e1, e2, e3, e4⟩ := hq2
      obtain rfl := q1.symm
      refine g_inc_2 f_X5_becomeLike_57 (by decide) c1v ?_
      refine g_goto f_X5_becomeLike_60 ?_
      have eB : M2 B = M1 B := e1 B (by unfold pe; omega) (by unfold pe; omega)
      refine ih (n + 1) M2 (by omega) ⟨by rw [eB]; exact y1, by rw [eB]; exact y2, by rw [eB]; exact y3, fun p hp => ?_, fun p hp => ?_, y6.tr (fun k2 a b => e1 k2 (by omega) (by omega))⟩
      · by_cases h : p = n
        · subst h; exact e4
        · have h3 := y4 p (by omega)
          unfold RepP at h3 ⊢
          rw [e1 (pe B p) (by unfold pe; omega) (by unfold pe; omega), e1 (pe B p + 1) (by unfold pe; omega) (by unfold pe; omega)]
          exact h3
      · by_cases h : p = n
        · subst h; rw [e2]; exact y5 p hp
        · rw [e1 (pe B p) (by unfold pe; omega) (by unfold pe; omega)]; exact y5 p hp
  have nCB : C ≠ B := fun e => hBC e.symm
  refine g_alv f_X5_becomeLike_0 rfl ?_
  refine g_alv f_X5_becomeLike_1 rfl ?_
  refine g_getI f_X5_becomeLike_2 (by assumption) ?_
  rw [x1]
  refine g_putI f_X5_becomeLike_5 rfl (by assumption) ?_
  refine g_alv f_X5_becomeLike_8 rfl ?_
  refine g_alv f_X5_becomeLike_9 rfl ?_
  refine g_getI f_X5_becomeLike_10 (by assumption) ?_
  rw [up_row nCB, x2]
  refine g_putI f_X5_becomeLike_13 rfl (by assumption) ?_
  refine g_alv f_X5_becomeLike_16 rfl ?_
  refine g_alv f_X5_becomeLike_17 rfl ?_
  refine g_getI f_X5_becomeLike_18 (by assumption) ?_
  rw [up_row nCB, up_row nCB, x3]
  refine g_putI f_X5_becomeLike_21 rfl (by assumption) ?_
  refine g_alv f_X5_becomeLike_24 rfl ?_
  refine g_alv f_X5_becomeLike_25 rfl ?_
  refine g_getR f_X5_becomeLike_26 (by assumption) x6 ?_
  refine g_putR f_X5_becomeLike_29 (by first | exact Or.inl ⟨_, rfl⟩ | exact Or.inr ⟨_, rfl⟩) (by assumption) ?_
  rw [show (S.1, up S.2 B 4 (Λ : Int)) = S2 by rw [hS2, x6]]
  refine g_const f_X5_becomeLike_32 ?_
  refine g_ist_2 f_X5_becomeLike_33 (by decide) c1v ?_
  refine loop (zc z) 0 _ (by omega) ⟨by simp [up], by simp [up], by simp [up], fun p hp => by omega, fun p hp => ?_, fun k2 a b => ?_⟩
  · rw [up_row (by unfold pe; omega), up_row (by unfold pe; omega), up_row (by unfold pe; omega)]; exact hN p hp
  · rw [up_row (by omega), up_row (by omega), up_row (by omega)]
