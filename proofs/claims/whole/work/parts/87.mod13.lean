/-! contracts: the model's statute -/
def sfr (w b : Nat) (M M' : Mm) : Prop := (∀ k, k ≠ 87 → (k < 96 ∨ 101 ≤ k) → M' k = M k) ∧ (∀ k, 96 ≤ k → k ≤ 99 → ∀ j, j < 10 * w → M' k j = M k j) ∧ (∀ j, j < b → M' 100 j = M 100 j) ∧ ∀ j, j ≠ 11 → j ≠ 12 → j ≠ 13 → j ≠ 14 → j ≠ 23 → M' 87 j = M 87 j
theorem sfr.clf {w b i : Nat} {M M1 M2 : Mm} (h : sfr w b M M1) (hi : 10 * w ≤ i) (e : cfr i b M1 M2) : sfr w b M M2 := ⟨fun k a c => (e.1 k a c).trans (h.1 k a c), fun k a c j d => (e.2.1 k a c j (by omega)).trans (h.2.1 k a c j d), fun j d => (e.2.2.1 j d).trans (h.2.2.1 j d), fun j a c d g f => (e.2.2.2 j a c d g f).trans (h.2.2.2 j a c d g f)⟩
theorem ent_add {M1 M2 : Mm} {w K : Nat} {L : LawC} {q : Nat × Nat × List Int} (he : ∀ (m : Nat) (hm : m < L.length), entM M1 (10 * w + m) L[m] (K + lenTo L m)) (e : cfr (10 * w + L.length) K M1 M2) (hq : entM M2 (10 * w + L.length) q (K + (flatL L).length)) : ∀ (m : Nat) (hm : m < (L ++ [q]).length), entM M2 (10 * w + m) (L ++ [q])[m] (K + lenTo (L ++ [q]) m) := by
  intro m hm
  rw [List.length_append] at hm
  simp only [List.length_cons, List.length_nil] at hm
  rw [lenTo_app L q m (by omega)]
  by_cases h : m < L.length
  · rw [List.getElem_append_left h]
    obtain ⟨e1, e2, e3, e4⟩ := he m h
    exact ⟨by rw [e.2.1 96 (by decide) (by decide) _ (by omega)]; exact e1, by rw [e.2.1 97 (by decide) (by decide) _ (by omega)]; exact e2, by rw [e.2.1 98 (by decide) (by decide) _ (by omega)]; exact e3, by rw [e.2.1 99 (by decide) (by decide) _ (by omega)]; exact e4⟩
  · obtain rfl : m = L.length := by omega
    have eq : (L ++ [q])[L.length] = q := by simp
    rw [eq, lenTo_all]
    exact hq
theorem ent_cfr {M1 M2 : Mm} {w K b : Nat} {L : LawC} (he : ∀ (m : Nat) (hm : m < L.length), entM M1 (10 * w + m) L[m] (K + lenTo L m)) (e : pfr b M1 M2) : ∀ (m : Nat) (hm : m < L.length), entM M2 (10 * w + m) L[m] (K + lenTo L m) := by
  intro m hm
  obtain ⟨e1, e2, e3, e4⟩ := he m hm
  exact ⟨by rw [e.1 96 (by decide) (by decide)]; exact e1, by rw [e.1 97 (by decide) (by decide)]; exact e2, by rw [e.1 98 (by decide) (by decide)]; exact e3, by rw [e.1 99 (by decide) (by decide)]; exact e4⟩
set_option maxHeartbeats 4000000 in
set_option maxRecDepth 100000 in
theorem m_statute {Ω : Ow} {S : Sg} {M : Mm} {s : Wt} (hG : Gr S) (hW : RepM M s) (hO0 : okW s) : Ct Ω mX10_statute 22 0 0 1 [vr Ω 87] S M (fun x S' M' => x = (a_statute s).1 ∧ S' = S ∧ RepM M' (a_statute s).2 ∧ mdl M M') := by
  refine Ct.mk (by decide) (Nat.le_of_ble_eq_true rfl) [some (vr Ω 87), none, none, none, none] (by intro q hq; exact hq) (fun γ hγ hz => ?_)
  have hX := hW.mx hO0
  have hO : okZ (wz s) := hO0.1.1
  have hD : zd (wz s) ≤ 9999 := hO0.1.2.1
  obtain ⟨x1, x2, x3, x4, x5⟩ := id hX
  obtain ⟨z1, z2, z3, z4, z5⟩ := id hO
  obtain ⟨lw, d1, d2, d3, d4, d5, d6, d7, d8⟩ := hW.dr hO0
  obtain ⟨lz, l5, l10, l8⟩ := hO0.1.len
  have sS : okSeen (wn s).2.1 := hO0.1.2.2.1
  have sP : okPlan (zc (wz s)) (wn s).2.2.1 := hO0.1.2.2.2.1
  have sB : okBook (wn s).2.2.2 := hO0.1.2.2.2.2.1
  obtain ⟨Lt, K, g1, g2, g3, -⟩ := id hW
  have hlw6 : wl s ≤ 6 := hO0.2.2.1
  have hK600 : K ≤ 600 := by have := g1.1; omega
  have o87 := om87 hG
  have gM17 : _ = ((95 : Nat) : Int) := grn hG (k := 87) (j := 17) (by decide)
  have aM95 := arn hG (r := 95) (c := 12) (n := 6) (by decide +kernel)
  refine g_alv f_X10_statute_0 rfl ?_
  refine g_getI f_X10_statute_1 (by assumption) ?_
  rw [g3]
  refine g_const f_X10_statute_4 ?_
  refine g_icmp_ne f_X10_statute_6 rfl (by omega) (by omega) (fun h6 => ?_) (fun h6 => ?_)
  · have hne6 : ¬ wl s = 6 := by omega
    have hT := hO0.2.2.2.1
    have hl6 : wl s ≤ 6 := hO0.2.2.1
    have fail : ∀ (M1 : Mm) (n a1 : Nat) (cs1 : List Int) (o1 : Int), PM S M1 (wx s) K cs1 a1 o1 → sfr (wl s) K M M1 → lawOf (wx s) = .inr a1 → Go γ Ω mX10_statute (Zm γ Ω 1 0 0 (fun x S' M' => x = (a_statute s).1 ∧ S' = S ∧ RepM M' (a_statute s).2 ∧ mdl M M')) 0 0 S M1 29 [some (vr Ω 87), some (vi (K : Int)), some (vi (n : Int)), some (vi 0), some (vi 0)] [] := by
      intro M1 n a1 cs1 o1 k f he
      have y11 := k.2.2.2.2.1
      have hal := k.2.2.2.2.2.1
      have htl := hT.1
      refine g_ild f_X10_statute_29 rfl ?_
      refine g_if_eq f_X10_statute_30 rfl (by omega) (fun hx => ?_) (fun hx => ?_)
      · refine g_alv f_X10_statute_123 rfl ?_
        refine g_const f_X10_statute_124 ?_
        refine g_putI f_X10_statute_125 rfl (by assumption) ?_
        refine g_ild f_X10_statute_128 rfl ?_
        refine g_if_ne f_X10_statute_130 rfl (by omega) (fun hy => ?_) (fun hy => ?_)
        · exact absurd hy (by omega)
        refine g_alv f_X10_statute_133 rfl ?_
        refine g_ild f_X10_statute_134 rfl ?_
        refine g_putI f_X10_statute_135 rfl (by assumption) ?_
        refine g_const f_X10_statute_138 ?_
        refine g_alv f_X10_statute_140 rfl ?_
        refine g_getI f_X10_statute_141 (by assumption) ?_
        rw [up_n (by omega), up_n (by omega), y11]
        refine g_isub f_X10_statute_144 ?_
        refine g_reti f_X10_statute_145 rfl ?_ (Nat.zero_le _) (Nat.zero_le _)
        have e : a_statute s = (-10 - (a1 : Int), putX s []) := by
          unfold a_statute
          rw [if_neg hne6, he]
        rw [e]
        obtain ⟨h9, h8⟩ := hW.stat0 (M' := up (up M1 87 9 0) 87 23 (K : Int)) hO0 g2 (fun k a b => by rw [up_row a, up_row a]; exact f.1 k a b) (fun k a b j c => by rw [up_row (by omega), up_row (by omega)]; exact f.2.1 k a b j c) (fun j c => by rw [up_row (by decide), up_row (by decide)]; exact f.2.2.1 j c) (fun j a b c d e => by
          by_cases q : j = 23
          · subst q; rw [up_s]; exact g2.symm
          · rw [up_n (by omega), up_n (by omega)]; exact f.2.2.2 j b c d e q) (by rw [up_n (by omega), up_s])
        exact ⟨rfl, rfl, h9, h8⟩
      · exact absurd (by omega) hx
    have good : ∀ (M1 : Mm) (L : LawC) (o1 : Int), L.length ≤ 10 → PM S M1 (wx s) K (flatL L) (wx s).length o1 → sfr (wl s) K M M1 → (∀ (m : Nat) (hm : m < L.length), entM M1 (10 * wl s + m) L[m] (K + lenTo L m)) → lawOf (wx s) = .inl L → Go γ Ω mX10_statute (Zm γ Ω 1 0 0 (fun x S' M' => x = (a_statute s).1 ∧ S' = S ∧ RepM M' (a_statute s).2 ∧ mdl M M')) 0 0 S M1 29 [some (vr Ω 87), some (vi (K : Int)), some (vi (L.length : Int)), some (vi 1), some (vi 1)] [] := by
      intro M1 L o1 hL10 k f hent he
      have y23 := k.2.2.2.2.2.2.2.1
      have y15 : M1 87 15 = (wl s : Int) := by rw [f.2.2.2 15 (by decide) (by decide) (by decide) (by decide) (by decide)]; exact g3
      have hokL := lawOf_ok hT he
      have y100 := k.2.2.2.2.2.2.2.2.2.2
      refine g_ild f_X10_statute_29 rfl ?_
      refine g_if_eq f_X10_statute_30 rfl (by omega) (fun hx => ?_) (fun hx => ?_)
      · exact absurd hx (by omega)
      refine g_ild f_X10_statute_33 rfl ?_
      refine g_if_ne f_X10_statute_35 rfl (by omega) (fun hx2 => ?_) (fun hx2 => ?_)
      · refine g_alv f_X10_statute_123 rfl ?_
        refine g_const f_X10_statute_124 ?_
        refine g_putI f_X10_statute_125 rfl (by assumption) ?_
        refine g_ild f_X10_statute_128 rfl ?_
        refine g_if_ne f_X10_statute_130 rfl (by omega) (fun hy => ?_) (fun hy => ?_)
        · refine g_alv f_X10_statute_146 rfl ?_
          refine g_getR f_X10_statute_147 (by assumption) (by assumption) ?_
          refine g_alv f_X10_statute_150 rfl ?_
          refine g_getI f_X10_statute_151 (by assumption) ?_
          rw [up_n (by omega), y15]
          refine g_ild f_X10_statute_154 rfl ?_
          refine g_ias f_X10_statute_155 (by assumption) (wl s) (by omega) (by omega) ?_
          refine g_alv f_X10_statute_156 rfl ?_
          refine g_alv f_X10_statute_157 rfl ?_
          refine g_getI f_X10_statute_158 (by assumption) ?_
          rw [up_row (by decide), up_n (by omega), y15]
          refine g_putI f_X10_statute_161 rfl (by assumption) ?_
          refine g_alv f_X10_statute_164 rfl ?_
          refine g_dup f_X10_statute_165 rfl ?_
          refine g_getI f_X10_statute_166 (by assumption) ?_
          rw [up_n (by omega), up_row (by decide), up_n (by omega), y15]
          refine g_dup_x1 f_X10_statute_169 rfl rfl ?_
          refine g_const f_X10_statute_170 ?_
          refine g_iadd f_X10_statute_171 ?_
          refine g_putI f_X10_statute_172 rfl (by assumption) ?_
          refine g_reti f_X10_statute_175 rfl ?_ (Nat.zero_le _) (Nat.zero_le _)
          have e : a_statute s = ((wl s : Int), putL s L) := by
            unfold a_statute
            rw [if_neg hne6, he]
          rw [e]
          have hrow : ∀ r, r ≠ 87 → r ≠ 95 → (up (up (up (up M1 87 9 0) 95 (wl s) (L.length : Int)) 87 16 (wl s : Int)) 87 15 ((wl s : Int) + 1)) r = M1 r := fun r a b => by rw [up_row a, up_row a, up_row b, up_row a]
          have h95 : ∀ j, j ≠ wl s → (up (up (up (up M1 87 9 0) 95 (wl s) (L.length : Int)) 87 16 (wl s : Int)) 87 15 ((wl s : Int) + 1)) 95 j = M1 95 j := fun j hj => by rw [up_row (by decide), up_row (by decide), up_n (by omega), up_row (by decide)]
          have h87 : ∀ j, j ≠ 9 → j ≠ 15 → j ≠ 16 → (up (up (up (up M1 87 9 0) 95 (wl s) (L.length : Int)) 87 16 (wl s : Int)) 87 15 ((wl s : Int) + 1)) 87 j = M1 87 j := fun j a b c => by rw [up_n (by omega), up_n (by omega), up_row (by decide), up_n (by omega)]
          have hT9 : LTat (up (up (up (up M1 87 9 0) 95 (wl s) (L.length : Int)) 87 16 (wl s : Int)) 87 15 ((wl s : Int) + 1)) (K + (flatL L).length) (wl s) L := by
            refine LTat_mk (by rw [up_row (by decide), up_row (by decide), up_s]) (fun m hm => ?_) (fun i hi => ?_)
            · obtain ⟨e1, e2, e3, e4⟩ := hent m hm
              exact ⟨by rw [hrow 96 (by decide) (by decide)]; exact e1, by rw [hrow 97 (by decide) (by decide)]; exact e2, by rw [hrow 98 (by decide) (by decide)]; exact e3, by rw [hrow 99 (by decide) (by decide)]; exact e4⟩
            · rw [hrow 100 (by decide) (by decide)]; exact y100 i hi
          obtain ⟨h9, h8⟩ := hW.stat1 (M' := (up (up (up (up M1 87 9 0) 95 (wl s) (L.length : Int)) 87 16 (wl s : Int)) 87 15 ((wl s : Int) + 1))) hO0 (by omega) hokL g2 (fun k a b => by rw [hrow k a (by omega)]; exact f.1 k a (by omega)) (fun j hj => by rw [h95 j hj, f.1 95 (by decide) (by decide)]) (fun k a b j c => by rw [hrow k (by omega) (by omega)]; exact f.2.1 k a b j c) (fun j c => by rw [hrow 100 (by decide) (by decide)]; exact f.2.2.1 j c) (fun j a b c d e g h i => by rw [h87 j a g h]; exact f.2.2.2 j b c d e i) (by rw [up_n (by omega), up_n (by omega), up_row (by decide), up_s]) (up_s _ _ _ _) (by rw [up_n (by omega), up_s]) (by rw [h87 23 (by decide) (by decide) (by decide)]; exact y23) hT9
          exact ⟨rfl, rfl, h9, h8⟩
        · exact absurd (by omega) hy
      · exact absurd (by omega) hx2
    have loop : ∀ (k n a1 : Nat) (L : LawC) (M1 : Mm) (o1 : Int), n + k = 9 → L.length = n → (∀ q ∈ L, okC q) → PM S M1 (wx s) K (flatL L) a1 o1 → sfr (wl s) K M M1 → (∀ (m : Nat) (hm : m < L.length), entM M1 (10 * wl s + m) L[m] (K + lenTo L m)) → nxt (wx s) k a1 L = pLaw (wx s) → Go γ Ω mX10_statute (Zm γ Ω 1 0 0 (fun x S' M' => x = (a_statute s).1 ∧ S' = S ∧ RepM M' (a_statute s).2 ∧ mdl M M')) 0 0 S M1 29 [some (vr Ω 87), some (vi (K : Int)), some (vi (n : Int)), some (vi 1), some (vi 0)] [] := by
      intro k
      induction k with
      | zero =>
        intro n a1 L M1 o1 hk hLn hok k9 f hent hnx
        have htl := hT.1
        have y15 : M1 87 15 = (wl s : Int) := by rw [f.2.2.2 15 (by decide) (by decide) (by decide) (by decide) (by decide)]; exact g3
        have hca := k9.2.2.2.2.2.2.2.2.1
        have hal := k9.2.2.2.2.2.1
        obtain ⟨p1, p2, p3, p4, p5, p6⟩ := pCl_ok (tx := wx s) (a := a1) (L := L) hal hok hca
        unfold nxt at hnx
        refine g_ild f_X10_statute_29 rfl ?_
        refine g_if_eq f_X10_statute_30 rfl (by omega) (fun hx => ?_) (fun hx => ?_)
        · exact absurd hx (by omega)
        refine g_ild f_X10_statute_33 rfl ?_
        refine g_if_ne f_X10_statute_35 rfl (by omega) (fun hx2 => ?_) (fun hx2 => ?_)
        · exact absurd hx2 (by omega)
        refine g_ild f_X10_statute_38 rfl ?_
        refine g_const f_X10_statute_39 ?_
        refine g_icmp_ge f_X10_statute_41 rfl (by omega) (by omega) (fun hx3 => ?_) (fun hx3 => ?_)
        · exact absurd hx3 (by omega)
        refine g_alv f_X10_statute_44 rfl ?_
        refine g_const f_X10_statute_45 ?_
        refine g_alv f_X10_statute_47 rfl ?_
        refine g_getI f_X10_statute_48 (by assumption) ?_
        rw [y15]
        refine g_imul f_X10_statute_51 ?_
        refine g_ild f_X10_statute_52 rfl ?_
        refine g_iadd f_X10_statute_53 ?_
        refine g_as (show (10 : Int) * (wl s : Int) + (n : Int) = ((10 * wl s + n : Nat) : Int) by omega) ?_
        refine g_cv1 hγ (c_mclause k9 (i := 10 * wl s + n) (by omega)) f_X10_statute_54 mo_X10_isClause mv_X10_isClause (by assumption) rfl rfl (Nat.le_of_ble_eq_true rfl) ⟨by decide, by decide⟩ ⟨Nat.le_refl _, Nat.le_refl _⟩ (fun x S' M3 hq2 => ?_)
        obtain ⟨hxx, q1, fc, cs2, o2, kc, hcs⟩ := hq2
        obtain rfl := q1.symm
        subst hxx
        have f3 := f.clf (by omega) fc
        rcases Bool.eq_false_or_eq_true (pCl (wx s) a1 L).1 with hb | hb
        · rw [if_pos hb] at hnx
          refine g_as (show (((pCl (wx s) a1 L).1.toNat : Nat) : Int) = 1 by rw [hb]; rfl) ?_
          obtain ⟨rfl, q, hLq, hq⟩ := hcs hb
          have hent2 := ent_add (q := q) hent (by rw [hLn]; exact fc) (by rw [hLn]; exact hq)
          rw [← hLq] at hent2
          have hln2 : (pCl (wx s) a1 L).2.2.length = n + 1 := by rw [hLq, List.length_append, hLn]; rfl
          have y9 : M3 87 9 = ((wx s).length : Int) := kc.2.2.1
          have y11 : M3 87 11 = (((pCl (wx s) a1 L).2.1 : Nat) : Int) := kc.2.2.2.2.1
          refine g_if_eq f_X10_statute_57 rfl (by omega) (fun hx4 => ?_) (fun hx4 => ?_)
          · exact absurd hx4 (by omega)
          refine g_const f_X10_statute_60 ?_
          refine g_goto f_X10_statute_61 ?_
          refine g_ist_3 f_X10_statute_65 (by decide) c1i ?_
          refine g_ild f_X10_statute_66 rfl ?_
          refine g_if_ne f_X10_statute_67 rfl (by omega) (fun hx5 => ?_) (fun hx5 => ?_)
          · refine g_inc_2 f_X10_statute_73 (by decide) c1i ?_
            refine g_alv f_X10_statute_76 rfl ?_
            refine g_getI f_X10_statute_77 (by assumption) ?_
            rw [y11]
            refine g_alv f_X10_statute_80 rfl ?_
            refine g_getI f_X10_statute_81 (by assumption) ?_
            rw [y9]
            refine g_icmp_ne f_X10_statute_84 rfl (by omega) (by omega) (fun h84 => ?_) (fun h84 => ?_)
            · refine g_const f_X10_statute_91 ?_
              refine g_ist_4 f_X10_statute_92 (by decide) c1i ?_
              refine g_ild f_X10_statute_94 rfl ?_
              refine g_if_ne f_X10_statute_96 rfl (by omega) (fun hx6 => ?_) (fun hx6 => ?_)
              · exact absurd hx6 (by omega)
              refine g_ild f_X10_statute_99 rfl ?_
              refine g_const f_X10_statute_100 ?_
              refine g_icmp_ge f_X10_statute_102 rfl (by omega) (by omega) (fun hx7 => ?_) (fun hx7 => ?_)
              · refine g_const f_X10_statute_118 ?_
                refine g_ist_3 f_X10_statute_119 (by decide) c1i ?_
                refine g_goto f_X10_statute_120 ?_
                have hnx : (true, (pCl (wx s) a1 L).2.1, (pCl (wx s) a1 L).2.2) = pLaw (wx s) := hnx
                have eL : lawOf (wx s) = .inr (pCl (wx s) a1 L).2.1 := by
                  unfold lawOf
                  rw [← hnx]
                  exact if_neg (fun h => by have h2 : (pCl (wx s) a1 L).2.1 = (wx s).length := h.2; omega)
                exact fail M3 (n + 1) _ _ o2 kc f3 eL
              · exact absurd (by omega) hx7
            · refine g_const f_X10_statute_87 ?_
              refine g_goto f_X10_statute_88 ?_
              refine g_ist_4 f_X10_statute_92 (by decide) c1i ?_
              refine g_ild f_X10_statute_94 rfl ?_
              refine g_if_ne f_X10_statute_96 rfl (by omega) (fun hx6 => ?_) (fun hx6 => ?_)
              · refine g_const f_X10_statute_114 ?_
                refine g_goto f_X10_statute_115 ?_
                refine g_ist_3 f_X10_statute_119 (by decide) c1i ?_
                refine g_goto f_X10_statute_120 ?_
                have ea : (pCl (wx s) a1 L).2.1 = (wx s).length := by omega
                rw [pLs_N (isC_end (by omega))] at hnx
                have eL : lawOf (wx s) = .inl (pCl (wx s) a1 L).2.2 := by
                  unfold lawOf
                  rw [← hnx]
                  exact if_pos ⟨rfl, ea⟩
                rw [ea] at kc
                have h9 := good M3 _ o2 (by omega) kc f3 hent2 eL
                rw [hln2] at h9
                exact h9
              · exact absurd (by omega) hx6
          · exact absurd (by omega) hx5
        · rw [if_neg (by rw [hb]; decide)] at hnx
          refine g_as (show (((pCl (wx s) a1 L).1.toNat : Nat) : Int) = 0 by rw [hb]; rfl) ?_
          refine g_if_eq f_X10_statute_57 rfl (by omega) (fun hx4 => ?_) (fun hx4 => ?_)
          · refine g_const f_X10_statute_64 ?_
            refine g_ist_3 f_X10_statute_65 (by decide) c1i ?_
            refine g_ild f_X10_statute_66 rfl ?_
            refine g_if_ne f_X10_statute_67 rfl (by omega) (fun hx5 => ?_) (fun hx5 => ?_)
            · exact absurd hx5 (by omega)
            refine g_goto f_X10_statute_70 ?_
            have eL : lawOf (wx s) = .inr (pCl (wx s) a1 L).2.1 := by
              unfold lawOf
              rw [← hnx]
              exact if_neg (fun h => by cases h.1)
            exact fail M3 n _ cs2 o2 kc f3 eL
          · exact absurd (by omega) hx4
      | succ k ih =>
        intro n a1 L M1 o1 hk hLn hok k9 f hent hnx
        have htl := hT.1
        have y15 : M1 87 15 = (wl s : Int) := by rw [f.2.2.2 15 (by decide) (by decide) (by decide) (by decide) (by decide)]; exact g3
        have hca := k9.2.2.2.2.2.2.2.2.1
        have hal := k9.2.2.2.2.2.1
        obtain ⟨p1, p2, p3, p4, p5, p6⟩ := pCl_ok (tx := wx s) (a := a1) (L := L) hal hok hca
        unfold nxt at hnx
        refine g_ild f_X10_statute_29 rfl ?_
        refine g_if_eq f_X10_statute_30 rfl (by omega) (fun hx => ?_) (fun hx => ?_)
        · exact absurd hx (by omega)
        refine g_ild f_X10_statute_33 rfl ?_
        refine g_if_ne f_X10_statute_35 rfl (by omega) (fun hx2 => ?_) (fun hx2 => ?_)
        · exact absurd hx2 (by omega)
        refine g_ild f_X10_statute_38 rfl ?_
        refine g_const f_X10_statute_39 ?_
        refine g_icmp_ge f_X10_statute_41 rfl (by omega) (by omega) (fun hx3 => ?_) (fun hx3 => ?_)
        · exact absurd hx3 (by omega)
        refine g_alv f_X10_statute_44 rfl ?_
        refine g_const f_X10_statute_45 ?_
        refine g_alv f_X10_statute_47 rfl ?_
        refine g_getI f_X10_statute_48 (by assumption) ?_
        rw [y15]
        refine g_imul f_X10_statute_51 ?_
        refine g_ild f_X10_statute_52 rfl ?_
        refine g_iadd f_X10_statute_53 ?_
        refine g_as (show (10 : Int) * (wl s : Int) + (n : Int) = ((10 * wl s + n : Nat) : Int) by omega) ?_
        refine g_cv1 hγ (c_mclause k9 (i := 10 * wl s + n) (by omega)) f_X10_statute_54 mo_X10_isClause mv_X10_isClause (by assumption) rfl rfl (Nat.le_of_ble_eq_true rfl) ⟨by decide, by decide⟩ ⟨Nat.le_refl _, Nat.le_refl _⟩ (fun x S' M3 hq2 => ?_)
        obtain ⟨hxx, q1, fc, cs2, o2, kc, hcs⟩ := hq2
        obtain rfl := q1.symm
        subst hxx
        have f3 := f.clf (by omega) fc
        rcases Bool.eq_false_or_eq_true (pCl (wx s) a1 L).1 with hb | hb
        · rw [if_pos hb] at hnx
          refine g_as (show (((pCl (wx s) a1 L).1.toNat : Nat) : Int) = 1 by rw [hb]; rfl) ?_
          obtain ⟨rfl, q, hLq, hq⟩ := hcs hb
          have hent2 := ent_add (q := q) hent (by rw [hLn]; exact fc) (by rw [hLn]; exact hq)
          rw [← hLq] at hent2
          have hln2 : (pCl (wx s) a1 L).2.2.length = n + 1 := by rw [hLq, List.length_append, hLn]; rfl
          have y9 : M3 87 9 = ((wx s).length : Int) := kc.2.2.1
          have y11 : M3 87 11 = (((pCl (wx s) a1 L).2.1 : Nat) : Int) := kc.2.2.2.2.1
          refine g_if_eq f_X10_statute_57 rfl (by omega) (fun hx4 => ?_) (fun hx4 => ?_)
          · exact absurd hx4 (by omega)
          refine g_const f_X10_statute_60 ?_
          refine g_goto f_X10_statute_61 ?_
          refine g_ist_3 f_X10_statute_65 (by decide) c1i ?_
          refine g_ild f_X10_statute_66 rfl ?_
          refine g_if_ne f_X10_statute_67 rfl (by omega) (fun hx5 => ?_) (fun hx5 => ?_)
          · refine g_inc_2 f_X10_statute_73 (by decide) c1i ?_
            refine g_alv f_X10_statute_76 rfl ?_
            refine g_getI f_X10_statute_77 (by assumption) ?_
            rw [y11]
            refine g_alv f_X10_statute_80 rfl ?_
            refine g_getI f_X10_statute_81 (by assumption) ?_
            rw [y9]
            refine g_icmp_ne f_X10_statute_84 rfl (by omega) (by omega) (fun h84 => ?_) (fun h84 => ?_)
            · refine g_const f_X10_statute_91 ?_
              refine g_ist_4 f_X10_statute_92 (by decide) c1i ?_
              refine g_ild f_X10_statute_94 rfl ?_
              refine g_if_ne f_X10_statute_96 rfl (by omega) (fun hx6 => ?_) (fun hx6 => ?_)
              · exact absurd hx6 (by omega)
              refine g_ild f_X10_statute_99 rfl ?_
              refine g_const f_X10_statute_100 ?_
              refine g_icmp_ge f_X10_statute_102 rfl (by omega) (by omega) (fun hx7 => ?_) (fun hx7 => ?_)
              · exact absurd hx7 (by omega)
              refine g_alv f_X10_statute_105 rfl ?_
              refine g_const f_X10_statute_106 ?_
              refine g_cv1 hγ (c_mis kc (c := 59) (by decide)) f_X10_statute_108 mo_X10_is mv_X10_is (by assumption) rfl rfl (Nat.le_of_ble_eq_true rfl) ⟨by omega, by decide⟩ ⟨Nat.le_refl _, Nat.le_refl _⟩ (fun x S' M37 hq7 => ?_)
              obtain ⟨rfl, q1, k7, fn⟩ := hq7
              obtain rfl := q1.symm
              rcases Bool.eq_false_or_eq_true (isC (wx s) (pCl (wx s) a1 L).2.1 59) with hb7 | hb7
              · rw [if_pos hb7] at k7
                refine g_as (show (((isC (wx s) (pCl (wx s) a1 L).2.1 59).toNat : Nat) : Int) = 1 by rw [hb7]; rfl) ?_
                refine g_if_eq f_X10_statute_111 rfl (by omega) (fun hx8 => ?_) (fun hx8 => ?_)
                · exact absurd hx8 (by omega)
                refine g_const f_X10_statute_114 ?_
                refine g_goto f_X10_statute_115 ?_
                refine g_ist_3 f_X10_statute_119 (by decide) c1i ?_
                refine g_goto f_X10_statute_120 ?_
                rw [pLs_S hb7] at hnx
                exact ih (n + 1) _ (pCl (wx s) a1 L).2.2 M37 o2 (by omega) hln2 p4 k7 (f3.clf (i := 10 * wl s) (by omega) fn.cfr) (ent_cfr hent2 fn) hnx
              · rw [if_neg (by rw [hb7]; decide)] at k7
                refine g_as (show (((isC (wx s) (pCl (wx s) a1 L).2.1 59).toNat : Nat) : Int) = 0 by rw [hb7]; rfl) ?_
                refine g_if_eq f_X10_statute_111 rfl (by omega) (fun hx8 => ?_) (fun hx8 => ?_)
                · refine g_const f_X10_statute_118 ?_
                  refine g_ist_3 f_X10_statute_119 (by decide) c1i ?_
                  refine g_goto f_X10_statute_120 ?_
                  rw [pLs_N hb7] at hnx
                  have eL : lawOf (wx s) = .inr (pCl (wx s) a1 L).2.1 := by
                    unfold lawOf
                    rw [← hnx]
                    exact if_neg (fun h => by have h2 : (pCl (wx s) a1 L).2.1 = (wx s).length := h.2; omega)
                  exact fail M37 (n + 1) _ _ o2 k7 (f3.clf (i := 10 * wl s) (by omega) fn.cfr) eL
                · exact absurd (by omega) hx8
            · refine g_const f_X10_statute_87 ?_
              refine g_goto f_X10_statute_88 ?_
              refine g_ist_4 f_X10_statute_92 (by decide) c1i ?_
              refine g_ild f_X10_statute_94 rfl ?_
              refine g_if_ne f_X10_statute_96 rfl (by omega) (fun hx6 => ?_) (fun hx6 => ?_)
              · refine g_const f_X10_statute_114 ?_
                refine g_goto f_X10_statute_115 ?_
                refine g_ist_3 f_X10_statute_119 (by decide) c1i ?_
                refine g_goto f_X10_statute_120 ?_
                have ea : (pCl (wx s) a1 L).2.1 = (wx s).length := by omega
                rw [pLs_N (isC_end (by omega))] at hnx
                have eL : lawOf (wx s) = .inl (pCl (wx s) a1 L).2.2 := by
                  unfold lawOf
                  rw [← hnx]
                  exact if_pos ⟨rfl, ea⟩
                rw [ea] at kc
                have h9 := good M3 _ o2 (by omega) kc f3 hent2 eL
                rw [hln2] at h9
                exact h9
              · exact absurd (by omega) hx6
          · exact absurd (by omega) hx5
        · rw [if_neg (by rw [hb]; decide)] at hnx
          refine g_as (show (((pCl (wx s) a1 L).1.toNat : Nat) : Int) = 0 by rw [hb]; rfl) ?_
          refine g_if_eq f_X10_statute_57 rfl (by omega) (fun hx4 => ?_) (fun hx4 => ?_)
          · refine g_const f_X10_statute_64 ?_
            refine g_ist_3 f_X10_statute_65 (by decide) c1i ?_
            refine g_ild f_X10_statute_66 rfl ?_
            refine g_if_ne f_X10_statute_67 rfl (by omega) (fun hx5 => ?_) (fun hx5 => ?_)
            · exact absurd hx5 (by omega)
            refine g_goto f_X10_statute_70 ?_
            have eL : lawOf (wx s) = .inr (pCl (wx s) a1 L).2.1 := by
              unfold lawOf
              rw [← hnx]
              exact if_neg (fun h => by cases h.1)
            exact fail M3 n _ cs2 o2 kc f3 eL
          · exact absurd (by omega) hx4
    refine g_alv f_X10_statute_12 rfl ?_
    refine g_getI f_X10_statute_13 (by assumption) ?_
    rw [g2]
    refine g_ist_1 f_X10_statute_16 (by decide) c1v ?_
    refine g_alv f_X10_statute_17 rfl ?_
    refine g_const f_X10_statute_18 ?_
    refine g_putI f_X10_statute_19 rfl (by assumption) ?_
    have hP0 : PM S (up M 87 11 0) (wx s) K (flatL []) 0 (M 87 14) := ⟨hG, hO0.2.2.2.1, by rw [up_n (by omega)]; exact hW.tx.1, fun j hj => by rw [up_row (by decide)]; exact hW.tx.2 j hj, up_s _ _ _ _, Nat.zero_le _, up_n (by omega), by rw [up_n (by omega), g2]; rfl, Nat.le_refl _, by have := g1.1; omega, fun i hi => absurd hi (Nat.not_lt_zero _)⟩
    have hf0 : sfr (wl s) K M (up M 87 11 0) := ⟨fun k a b => up_row a, fun k a b j c => by rw [up_row (by omega)], fun j c => by rw [up_row (by decide)], fun j a b c d e => up_n (by omega)⟩
    refine g_const f_X10_statute_22 ?_
    refine g_ist_2 f_X10_statute_23 (by decide) c1i ?_
    refine g_const f_X10_statute_24 ?_
    refine g_ist_3 f_X10_statute_25 (by decide) c1i ?_
    refine g_const f_X10_statute_26 ?_
    refine g_ist_4 f_X10_statute_27 (by decide) c1i ?_
    exact loop 9 0 0 [] _ _ rfl rfl (fun q h => by cases h) hP0 hf0 (fun m hm => absurd hm (Nat.not_lt_zero _)) (nxt_law _)
  · refine g_const f_X10_statute_9 ?_
    refine g_reti f_X10_statute_11 rfl ?_ (Nat.zero_le _) (Nat.zero_le _)
    have e : a_statute s = (-4, s) := if_pos (by omega)
    rw [e]
    exact ⟨rfl, rfl, hW, mdl.rf⟩
