/-! contracts: the model's CLAUSES, statute -/
set_option maxHeartbeats 4000000 in
set_option maxRecDepth 100000 in
theorem c_mclause {Ω : Ow} {S : Sg} {M : Mm} {tx : List Nat} {b a : Nat} {o : Int} {L : LawC} (hP : PM S M tx b (flatL L) a o) {i : Nat} (hi : i < 60) : Ct Ω mX10_isClause 21 0 0 1 [vr Ω 87, vi (i : Int)] S M (fun x S' M' => x = ((pCl tx a L).1.toNat : Int) ∧ S' = S ∧ cfr i b M M' ∧ ∃ (cs2 : List Int) (o2 : Int), PM S M' tx b cs2 (pCl tx a L).2.1 o2 ∧ ((pCl tx a L).1 = true → cs2 = flatL (pCl tx a L).2.2 ∧ ∃ q, (pCl tx a L).2.2 = L ++ [q] ∧ entM M' i q (b + (flatL L).length))) := by
  refine Ct.mk (by decide) (Nat.le_of_ble_eq_true rfl) [some (vr Ω 87), some (vi (i : Int)), none, none] (by intro q hq; exact hq) (fun γ hγ hz => ?_)
  have k := hP
  have f : pfr b M M := pfr.rf
  obtain ⟨hG, hT, p9, p94, p11, pal, p14, p23, pca, pb, p100⟩ := id hP
  have htl := hT.1
  have o87 := om87 hG
  have gM10 : _ = ((94 : Nat) : Int) := grn hG (k := 87) (j := 10) (by decide)
  have aM94 := arn hG (r := 94) (c := 12) (n := 100) (by decide +kernel)
  have gM18 : _ = ((96 : Nat) : Int) := grn hG (k := 87) (j := 18) (by decide)
  have aM96 := arn hG (r := 96) (c := 12) (n := 61) (by decide +kernel)
  have gM19 : _ = ((97 : Nat) : Int) := grn hG (k := 87) (j := 19) (by decide)
  have aM97 := arn hG (r := 97) (c := 12) (n := 61) (by decide +kernel)
  have gM20 : _ = ((98 : Nat) : Int) := grn hG (k := 87) (j := 20) (by decide)
  have aM98 := arn hG (r := 98) (c := 12) (n := 61) (by decide +kernel)
  have gM21 : _ = ((99 : Nat) : Int) := grn hG (k := 87) (j := 21) (by decide)
  have aM99 := arn hG (r := 99) (c := 12) (n := 61) (by decide +kernel)
  obtain ⟨hd1, hd2, hd3⟩ := pHead_ok tx a pal
  obtain ⟨nm1, nm2, nm3, nm4⟩ := pNum_ok tx (pHead tx a).2 hd2
  have j201 : ∀ (M1 : Mm) (q : Nat × Nat × List Int) (a2 : Nat) (w v3 : Int) (o2 : Int), pCl tx a L = (true, a2, L ++ [q]) → PM S M1 tx b (flatL (L ++ [q])) a2 o2 → cfr i b M M1 → M1 96 i = (q.1 : Int) → M1 97 i = (q.2.1 : Int) → M1 98 i = ((b + (flatL L).length : Nat) : Int) → Go γ Ω mX10_isClause (Zm γ Ω 1 0 0 (fun x S' M' => x = ((pCl tx a L).1.toNat : Int) ∧ S' = S ∧ cfr i b M M' ∧ ∃ (cs2 : List Int) (o2 : Int), PM S M' tx b cs2 (pCl tx a L).2.1 o2 ∧ ((pCl tx a L).1 = true → cs2 = flatL (pCl tx a L).2.2 ∧ ∃ q, (pCl tx a L).2.2 = L ++ [q] ∧ entM M' i q (b + (flatL L).length)))) 0 0 S M1 201 [some (vr Ω 87), some (vi (i : Int)), some (vi w), some (vi v3)] [] := by
    intro M1 q a2 w v3 o2 he k f e1 e2 e3
    have y23 := k.2.2.2.2.2.2.2.1
    have hfl : (flatL (L ++ [q])).length = (flatL L).length + q.2.2.length := by rw [flatL_app, List.length_append]
    have hca := k.2.2.2.2.2.2.2.2.1
    have hal := k.2.2.2.2.2.1
    refine g_alv f_X10_isClause_201 rfl ?_
    refine g_getR f_X10_isClause_202 (by assumption) (by assumption) ?_
    refine g_ild f_X10_isClause_205 rfl ?_
    refine g_alv f_X10_isClause_206 rfl ?_
    refine g_getI f_X10_isClause_207 (by assumption) ?_
    rw [y23]
    refine g_alv f_X10_isClause_210 rfl ?_
    refine g_getR f_X10_isClause_211 (by assumption) (by assumption) ?_
    refine g_ild f_X10_isClause_214 rfl ?_
    refine g_ial f_X10_isClause_215 (by assumption) i (by omega) (by omega) ?_
    rw [e3]
    refine g_isub f_X10_isClause_216 ?_
    refine g_as (show ((b + (flatL (L ++ [q])).length : Nat) : Int) - ((b + (flatL L).length : Nat) : Int) = (q.2.2.length : Int) by omega) ?_
    refine g_ias f_X10_isClause_217 (by assumption) i (by omega) (by omega) ?_
    refine g_const f_X10_isClause_218 ?_
    refine g_retz f_X10_isClause_219 rfl (Or.inr rfl) ?_ (Nat.zero_le _) (Nat.zero_le _)
    rw [he]
    exact ⟨rfl, rfl, f.upR ⟨by decide, by decide⟩, _, o2, k.row ⟨by decide, by decide⟩, fun _ => ⟨rfl, q, rfl, by rw [up_row (by decide)]; exact e1, by rw [up_row (by decide)]; exact e2, by rw [up_row (by decide)]; exact e3, up_s _ _ _ _⟩⟩
  have j132 : ∀ (M1 : Mm) (w v : Int) (v3 : Option Value), PM S M1 tx b (flatL L) (pHead tx a).2 o → pfr b M M1 → ((v = 0 ∧ (pHead tx a).1 = 3) ∨ (v = 1 ∧ (pHead tx a).1 ≠ 3 ∧ w = ((pHead tx a).1 : Int))) → Go γ Ω mX10_isClause (Zm γ Ω 1 0 0 (fun x S' M' => x = ((pCl tx a L).1.toNat : Int) ∧ S' = S ∧ cfr i b M M' ∧ ∃ (cs2 : List Int) (o2 : Int), PM S M' tx b cs2 (pCl tx a L).2.1 o2 ∧ ((pCl tx a L).1 = true → cs2 = flatL (pCl tx a L).2.2 ∧ ∃ q, (pCl tx a L).2.2 = L ++ [q] ∧ entM M' i q (b + (flatL L).length)))) 0 0 S M1 132 [some (vr Ω 87), some (vi (i : Int)), some (vi w), v3] [vi v] := by
    intro M1 w v v3 k0 f0 hv
    have k := k0
    have f : cfr i b M M1 := f0.cfr
    rcases hv with ⟨rfl, h3⟩ | ⟨rfl, h3, rfl⟩
    · refine g_ist_3 f_X10_isClause_132 (by decide) c1i ?_
      refine g_ild f_X10_isClause_133 rfl ?_
      refine g_if_eq f_X10_isClause_134 rfl (by omega) (fun hx => ?_) (fun hx => ?_)
      · refine g_const f_X10_isClause_144 ?_
        refine g_retz f_X10_isClause_145 rfl (Or.inl rfl) ?_ (Nat.zero_le _) (Nat.zero_le _)
        have e : pCl tx a L = (false, (pHead tx a).2, L) := if_pos h3
        rw [e]
        exact ⟨rfl, rfl, f, _, o, k, fun h => by cases h⟩
      · exact absurd (by omega) hx
    · refine g_ist_3 f_X10_isClause_132 (by decide) c1i ?_
      refine g_ild f_X10_isClause_133 rfl ?_
      refine g_if_eq f_X10_isClause_134 rfl (by omega) (fun hx0 => ?_) (fun hx0 => ?_)
      · exact absurd hx0 (by omega)
      refine g_alv f_X10_isClause_137 rfl ?_
      refine g_cv1 hγ (c_mnum k) f_X10_isClause_138 mo_X10_isNumber mv_X10_isNumber (by assumption) rfl rfl (Nat.le_of_ble_eq_true rfl) ⟨by omega, by decide⟩ ⟨Nat.le_refl _, Nat.le_refl _⟩ (fun x S' M2 hq2 => ?_)
      obtain ⟨hx, q1, k2, fn, hval⟩ := hq2
      obtain rfl := q1.symm
      replace f := f.tr fn.cfr
      clear fn
      by_cases hn : (pNum tx (pHead tx a).2).1 = -1
      · have hx0 : x = 0 := hx.trans (if_pos hn)
        subst hx0
        refine g_if_ne f_X10_isClause_141 rfl (by omega) (fun hx9 => ?_) (fun hx9 => ?_)
        · exact absurd hx9 (by omega)
        refine g_const f_X10_isClause_144 ?_
        refine g_retz f_X10_isClause_145 rfl (Or.inl rfl) ?_ (Nat.zero_le _) (Nat.zero_le _)
        have e : pCl tx a L = (false, (pNum tx (pHead tx a).2).2, L) := (if_neg h3).trans (if_pos hn)
        rw [e]
        exact ⟨rfl, rfl, f, _, o, k2, fun h => by cases h⟩
      · have hx1 : x = 1 := hx.trans (if_neg hn)
        subst hx1
        refine g_if_ne f_X10_isClause_141 rfl (by omega) (fun hx9 => ?_) (fun hx9 => ?_)
        · have hv9 := hval hn
          obtain ⟨nn, hnn⟩ := Int.eq_ofNat_of_zero_le (show 0 ≤ (pNum tx (pHead tx a).2).1 by omega)
          have hnt : (pNum tx (pHead tx a).2).1.toNat = nn := by omega
          refine g_alv f_X10_isClause_146 rfl ?_
          refine g_getR f_X10_isClause_147 (by assumption) (by assumption) ?_
          refine g_ild f_X10_isClause_150 rfl ?_
          refine g_ild f_X10_isClause_151 rfl ?_
          refine g_ias f_X10_isClause_152 (by assumption) i (by omega) (by omega) ?_
          refine g_alv f_X10_isClause_153 rfl ?_
          refine g_getR f_X10_isClause_154 (by assumption) (by assumption) ?_
          refine g_ild f_X10_isClause_157 rfl ?_
          refine g_alv f_X10_isClause_158 rfl ?_
          refine g_getI f_X10_isClause_159 (by assumption) ?_
          rw [up_row (by decide), hv9, hnn]
          refine g_ias f_X10_isClause_162 (by assumption) i (by omega) (by omega) ?_
          refine g_alv f_X10_isClause_163 rfl ?_
          refine g_getR f_X10_isClause_164 (by assumption) (by assumption) ?_
          refine g_ild f_X10_isClause_167 rfl ?_
          refine g_alv f_X10_isClause_168 rfl ?_
          refine g_getI f_X10_isClause_169 (by assumption) ?_
          rw [up_row (by decide), up_row (by decide), k2.2.2.2.2.2.2.2.1]
          refine g_ias f_X10_isClause_172 (by assumption) i (by omega) (by omega) ?_
          refine g_alv f_X10_isClause_173 rfl ?_
          refine g_const f_X10_isClause_174 ?_
          refine g_putI f_X10_isClause_175 rfl (by assumption) ?_
          have kr : PM S (up (up (up M2 96 i ((pHead tx a).1 : Int)) 97 i (nn : Int)) 98 i ((b + (flatL L).length : Nat) : Int)) tx b (flatL L) (pNum tx (pHead tx a).2).2 o := ((k2.row ⟨by decide, by decide⟩).row ⟨by decide, by decide⟩).row ⟨by decide, by decide⟩
          obtain ⟨k3, f3⟩ := kr.op (o2 := 0) rfl
          replace f := (((f.upR (k := 96) (v := ((pHead tx a).1 : Int)) ⟨by decide, by decide⟩).upR (k := 97) (v := (nn : Int)) ⟨by decide, by decide⟩).upR (k := 98) (v := ((b + (flatL L).length : Nat) : Int)) ⟨by decide, by decide⟩).tr f3.cfr
          have e96 : up (up (up (up M2 96 i ((pHead tx a).1 : Int)) 97 i (nn : Int)) 98 i ((b + (flatL L).length : Nat) : Int)) 87 14 0 96 i = ((pHead tx a).1 : Int) := by rw [up_row (by decide), up_row (by decide), up_row (by decide), up_s]
          have e97 : up (up (up (up M2 96 i ((pHead tx a).1 : Int)) 97 i (nn : Int)) 98 i ((b + (flatL L).length : Nat) : Int)) 87 14 0 97 i = (nn : Int) := by rw [up_row (by decide), up_row (by decide), up_s]
          have e98 : up (up (up (up M2 96 i ((pHead tx a).1 : Int)) 97 i (nn : Int)) 98 i ((b + (flatL L).length : Nat) : Int)) 87 14 0 98 i = ((b + (flatL L).length : Nat) : Int) := by rw [up_row (by decide), up_s]
          generalize up (up (up (up M2 96 i ((pHead tx a).1 : Int)) 97 i (nn : Int)) 98 i ((b + (flatL L).length : Nat) : Int)) 87 14 0 = M3 at *
          clear f3
          refine g_ild f_X10_isClause_178 rfl ?_
          refine g_const f_X10_isClause_179 ?_
          refine g_icmp_ge f_X10_isClause_180 rfl (by omega) (by omega) (fun hw2 => ?_) (fun hw2 => ?_)
          · have e2 : (pHead tx a).1 = 2 := by omega
            have e : pCl tx a L = (true, (pNum tx (pHead tx a).2).2, L ++ [(2, nn, [])]) := by rw [← hnt]; exact (if_neg h3).trans ((if_neg hn).trans (if_pos e2))
            refine j201 M3 (2, nn, []) _ _ _ 0 e (by rw [flatL_app, List.append_nil]; exact k3) f (by rw [e96, e2]) e97 e98
          · refine g_alv f_X10_isClause_183 rfl ?_
            refine g_const f_X10_isClause_184 ?_
            refine g_cv1 hγ (c_mis k3 (c := 32) (by decide)) f_X10_isClause_186 mo_X10_is mv_X10_is (by assumption) rfl rfl (Nat.le_of_ble_eq_true rfl) ⟨by omega, by decide⟩ ⟨Nat.le_refl _, Nat.le_refl _⟩ (fun x S' M3186 hq186 => ?_)
            obtain ⟨rfl, q1, k186, fn⟩ := hq186
            obtain rfl := q1.symm
            have g186 : ∀ k, 96 ≤ k ∧ k ≤ 99 → M3186 k = M3 k := fun k hk => fn.1 k (by omega) (by omega)
            replace f := f.tr fn.cfr
            clear fn
            rcases Bool.eq_false_or_eq_true (isC tx ((pNum tx (pHead tx a).2).2) 32) with hb186 | hb186
            · rw [if_pos hb186] at k186
              refine g_as (show (((isC tx (pNum tx (pHead tx a).2).2 32).toNat : Nat) : Int) = 1 by rw [hb186]; rfl) ?_
              refine g_if_eq f_X10_isClause_189 rfl (by omega) (fun hx7 => ?_) (fun hx7 => ?_)
              · exact absurd hx7 (by omega)
              refine g_alv f_X10_isClause_192 rfl ?_
              refine g_cv1 hγ (c_meither 4 (by decide) (o := 0) (by decide) k186) f_X10_isClause_193 mo_X10_isE mv_X10_isE (by assumption) rfl rfl (Nat.le_of_ble_eq_true rfl) ⟨by omega, by decide⟩ ⟨Nat.le_refl _, Nat.le_refl _⟩ (fun x S' M5 hq5 => ?_)
              obtain ⟨hxE, q1, kE, fn⟩ := hq5
              obtain rfl := q1.symm
              replace f := f.tr fn.cfr
              have f5 := fn
              clear fn
              have hpre := (good_E (good_F tx 4) ((pNum tx (pHead tx a).2).2 + 1) [] (isC_lt hb186).1).2.2.2 (flatL L)
              rw [List.append_nil] at hpre
              change pE tx 4 ((pNum tx (pHead tx a).2).2 + 1) (flatL L) = ((pE tx 4 ((pNum tx (pHead tx a).2).2 + 1) []).1, (pE tx 4 ((pNum tx (pHead tx a).2).2 + 1) []).2.1, flatL L ++ (pE tx 4 ((pNum tx (pHead tx a).2).2 + 1) []).2.2) at hpre
              change x = ((pE tx 4 ((pNum tx (pHead tx a).2).2 + 1) (flatL L)).1.toNat : Int) at hxE
              change PM S M5 tx b (pE tx 4 ((pNum tx (pHead tx a).2).2 + 1) (flatL L)).2.2 (pE tx 4 ((pNum tx (pHead tx a).2).2 + 1) (flatL L)).2.1 0 at kE
              rw [hpre] at hxE kE
              dsimp only at hxE kE
              subst hxE
              rcases Bool.eq_false_or_eq_true (pE tx 4 ((pNum tx (pHead tx a).2).2 + 1) []).1 with hb | hb
              · refine g_as (show (((pE tx 4 ((pNum tx (pHead tx a).2).2 + 1) []).1.toNat : Nat) : Int) = 1 by rw [hb]; rfl) ?_
                refine g_if_ne f_X10_isClause_196 rfl (by omega) (fun hx8 => ?_) (fun hx8 => ?_)
                · have e : pCl tx a L = (true, (pE tx 4 ((pNum tx (pHead tx a).2).2 + 1) []).2.1, L ++ [((pHead tx a).1, nn, (pE tx 4 ((pNum tx (pHead tx a).2).2 + 1) []).2.2)]) := by rw [← hnt]; exact (if_neg h3).trans ((if_neg hn).trans ((if_neg (by omega)).trans ((if_pos hb186).trans (if_pos hb))))
                  refine j201 M5 ((pHead tx a).1, nn, (pE tx 4 ((pNum tx (pHead tx a).2).2 + 1) []).2.2) _ _ _ 0 e (by rw [flatL_app]; exact kE) f ?_ ?_ ?_
                  · rw [f5.1 96 (by decide) (by decide), g186 96 ⟨by decide, by decide⟩]; exact e96
                  · rw [f5.1 97 (by decide) (by decide), g186 97 ⟨by decide, by decide⟩]; exact e97
                  · rw [f5.1 98 (by decide) (by decide), g186 98 ⟨by decide, by decide⟩]; exact e98
                · exact absurd (by omega) hx8
              · refine g_as (show (((pE tx 4 ((pNum tx (pHead tx a).2).2 + 1) []).1.toNat : Nat) : Int) = 0 by rw [hb]; rfl) ?_
                refine g_if_ne f_X10_isClause_196 rfl (by omega) (fun hx8 => ?_) (fun hx8 => ?_)
                · exact absurd hx8 (by omega)
                refine g_const f_X10_isClause_199 ?_
                refine g_retz f_X10_isClause_200 rfl (Or.inl rfl) ?_ (Nat.zero_le _) (Nat.zero_le _)
                have e : pCl tx a L = (false, (pE tx 4 ((pNum tx (pHead tx a).2).2 + 1) []).2.1, L) := (if_neg h3).trans ((if_neg hn).trans ((if_neg (by omega)).trans ((if_pos hb186).trans (if_neg (by rw [hb]; decide)))))
                rw [e]
                exact ⟨rfl, rfl, f, _, 0, kE, fun h => by cases h⟩
            · rw [if_neg (by rw [hb186]; decide)] at k186
              refine g_as (show (((isC tx (pNum tx (pHead tx a).2).2 32).toNat : Nat) : Int) = 0 by rw [hb186]; rfl) ?_
              refine g_if_eq f_X10_isClause_189 rfl (by omega) (fun hx7 => ?_) (fun hx7 => ?_)
              · refine g_const f_X10_isClause_199 ?_
                refine g_retz f_X10_isClause_200 rfl (Or.inl rfl) ?_ (Nat.zero_le _) (Nat.zero_le _)
                have e : pCl tx a L = (false, (pNum tx (pHead tx a).2).2, L) := (if_neg h3).trans ((if_neg hn).trans ((if_neg (by omega)).trans (if_neg (by rw [hb186]; decide))))
                rw [e]
                exact ⟨rfl, rfl, f, _, 0, k186, fun h => by cases h⟩
              · exact absurd (by omega) hx7
        · exact absurd (by omega) hx9
  have htx := tx_le hT a
  have htx1 := tx_le hT (a + 1)
  have hz : (cS γ).heap.size ≤ bs Ω + S.1 := by omega
  by_cases hlen : a < tx.length
  · refine g_const f_X10_isClause_0 ?_
    refine g_ist_2 f_X10_isClause_1 (by decide) c1i ?_
    refine g_alv f_X10_isClause_2 rfl ?_
    refine g_getI f_X10_isClause_3 (by assumption) ?_
    rw [p11]
    refine g_alv f_X10_isClause_6 rfl ?_
    refine g_getI f_X10_isClause_7 (by assumption) ?_
    rw [p9]
    refine g_icmp_ge f_X10_isClause_10 rfl (by omega) (by omega) (fun c1 => ?_) (fun c1 => ?_)
    · exact absurd c1 (by omega)
    refine g_alv f_X10_isClause_13 rfl ?_
    refine g_getR f_X10_isClause_14 (by assumption) (by assumption) ?_
    refine g_alv f_X10_isClause_17 rfl ?_
    refine g_getI f_X10_isClause_18 (by assumption) ?_
    rw [p11]
    refine g_ial f_X10_isClause_21 (by assumption) a (by omega) (by omega) ?_
    rw [p94 a (by omega)]
    refine g_const f_X10_isClause_22 ?_
    refine g_icmp_ne f_X10_isClause_24 rfl (by omega) (by omega) (fun c2 => ?_) (fun c2 => ?_)
    · have h1 : isC tx a 110 = false := by rw [isC_at hlen]; exact decide_eq_false (by omega)
      refine g_alv f_X10_isClause_31 rfl ?_
      refine g_getR f_X10_isClause_32 (by assumption) (by assumption) ?_
      refine g_alv f_X10_isClause_35 rfl ?_
      refine g_getI f_X10_isClause_36 (by assumption) ?_
      rw [p11]
      refine g_ial f_X10_isClause_39 (by assumption) a (by omega) (by omega) ?_
      rw [p94 a (by omega)]
      refine g_const f_X10_isClause_40 ?_
      refine g_icmp_ne f_X10_isClause_42 rfl (by omega) (by omega) (fun c3 => ?_) (fun c3 => ?_)
      · have h2 : isC tx a 102 = false := by rw [isC_at hlen]; exact decide_eq_false (by omega)
        refine g_const f_X10_isClause_49 ?_
        refine g_ist_2 f_X10_isClause_50 (by decide) c1i ?_
        refine g_ild f_X10_isClause_51 rfl ?_
        refine g_if_ne f_X10_isClause_52 rfl (by omega) (fun c4 => ?_) (fun c4 => ?_)
        · refine g_ild f_X10_isClause_86 rfl ?_
          refine g_if_ne f_X10_isClause_87 rfl (by omega) (fun c7 => ?_) (fun c7 => ?_)
          · refine g_ild f_X10_isClause_99 rfl ?_
            refine g_const f_X10_isClause_100 ?_
            refine g_icmp_ne f_X10_isClause_101 rfl (by omega) (by omega) (fun c8 => ?_) (fun c8 => ?_)
            · refine g_ild f_X10_isClause_113 rfl ?_
              refine g_const f_X10_isClause_114 ?_
              refine g_icmp_ne f_X10_isClause_115 rfl (by omega) (by omega) (fun c9 => ?_) (fun c9 => ?_)
              · refine g_const f_X10_isClause_131 ?_
                first
                | exact j132 M6 _ 1 _ (by rw [hh]; exact k6) f6 (Or.inr ⟨rfl, (fun q => by rw [hh] at q; simp at q), by rw [hh]; rfl⟩)
                | exact j132 M6 _ 0 _ (by rw [hh]; exact k6) f6 (Or.inl ⟨rfl, by rw [hh]⟩)
                | exact j132 M _ 0 _ (by rw [head_x h1 h2]; exact k) f (Or.inl ⟨rfl, by rw [head_x h1 h2]⟩)
              · exact absurd (by omega) c9
            · exact absurd (by omega) c8
          · exact absurd (by omega) c7
        · exact absurd (by omega) c4
      · have h2 : isC tx a 102 = true := by rw [isC_at hlen]; exact decide_eq_true (by omega)
        refine g_const f_X10_isClause_45 ?_
        refine g_goto f_X10_isClause_46 ?_
        refine g_ist_2 f_X10_isClause_50 (by decide) c1i ?_
        refine g_ild f_X10_isClause_51 rfl ?_
        refine g_if_ne f_X10_isClause_52 rfl (by omega) (fun c4 => ?_) (fun c4 => ?_)
        · exact absurd c4 (by omega)
        refine g_alv f_X10_isClause_55 rfl ?_
        refine g_getI f_X10_isClause_56 (by assumption) ?_
        rw [p11]
        refine g_const f_X10_isClause_59 ?_
        refine g_iadd f_X10_isClause_60 ?_
        refine g_alv f_X10_isClause_61 rfl ?_
        refine g_getI f_X10_isClause_62 (by assumption) ?_
        rw [p9]
        refine g_icmp_ge f_X10_isClause_65 rfl (by omega) (by omega) (fun c5 => ?_) (fun c5 => ?_)
        · have h3 : isC tx (a + 1) 105 = false := by
            by_cases q : a + 1 < tx.length
            · rw [isC_at q]; exact decide_eq_false (by omega)
            · exact isC_end (by omega)
          refine g_ild f_X10_isClause_86 rfl ?_
          refine g_if_ne f_X10_isClause_87 rfl (by omega) (fun c7 => ?_) (fun c7 => ?_)
          · exact absurd c7 (by omega)
          refine g_alv f_X10_isClause_90 rfl ?_
          refine g_ldcS (i := 4) (by decide) f_X10_isClause_91 rfl ?_
          refine g_cv1 hγ (c_mall hP (i := 4) (by decide)) f_X10_isClause_93 mo_X10_isAll mv_X10_isAll (by assumption) rfl rfl (Nat.le_of_ble_eq_true rfl) ⟨by omega, by decide⟩ ⟨Nat.le_refl _, Nat.le_refl _⟩ (fun x S' M6 hq6 => ?_)
          obtain ⟨hx6, q1, k6, f6⟩ := hq6
          obtain rfl := q1.symm
          change x = ((allS tx 4 4 0 a).1.toNat : Int) at hx6
          change PM S M6 tx b (flatL L) (allS tx 4 4 0 a).2 o at k6
          subst hx6
          have hh := head_a h1 h2 h3
          rcases Bool.eq_false_or_eq_true (allS tx 4 4 0 a).1 with hb | hb
          · rw [if_pos hb] at hh
            refine g_as (show (((allS tx 4 4 0 a).1.toNat : Nat) : Int) = 1 by rw [hb]; rfl) ?_
            refine g_goto f_X10_isClause_96 ?_
            first
            | exact j132 M6 _ 1 _ (by rw [hh]; exact k6) f6 (Or.inr ⟨rfl, (fun q => by rw [hh] at q; simp at q), by rw [hh]; rfl⟩)
            | exact j132 M6 _ 0 _ (by rw [hh]; exact k6) f6 (Or.inl ⟨rfl, by rw [hh]⟩)
            | exact j132 M _ 0 _ (by rw [head_x h1 h2]; exact k) f (Or.inl ⟨rfl, by rw [head_x h1 h2]⟩)
          · rw [if_neg (by rw [hb]; decide)] at hh
            refine g_as (show (((allS tx 4 4 0 a).1.toNat : Nat) : Int) = 0 by rw [hb]; rfl) ?_
            refine g_goto f_X10_isClause_96 ?_
            first
            | exact j132 M6 _ 1 _ (by rw [hh]; exact k6) f6 (Or.inr ⟨rfl, (fun q => by rw [hh] at q; simp at q), by rw [hh]; rfl⟩)
            | exact j132 M6 _ 0 _ (by rw [hh]; exact k6) f6 (Or.inl ⟨rfl, by rw [hh]⟩)
            | exact j132 M _ 0 _ (by rw [head_x h1 h2]; exact k) f (Or.inl ⟨rfl, by rw [head_x h1 h2]⟩)
        · refine g_alv f_X10_isClause_68 rfl ?_
          refine g_getR f_X10_isClause_69 (by assumption) (by assumption) ?_
          refine g_alv f_X10_isClause_72 rfl ?_
          refine g_getI f_X10_isClause_73 (by assumption) ?_
          rw [p11]
          refine g_const f_X10_isClause_76 ?_
          refine g_iadd f_X10_isClause_77 ?_
          refine g_ial f_X10_isClause_78 (by assumption) (a + 1) (by omega) (by omega) ?_
          rw [p94 (a + 1) (by omega)]
          refine g_const f_X10_isClause_79 ?_
          refine g_icmp_ne f_X10_isClause_81 rfl (by omega) (by omega) (fun c6 => ?_) (fun c6 => ?_)
          · have h3 : isC tx (a + 1) 105 = false := by
              by_cases q : a + 1 < tx.length
              · rw [isC_at q]; exact decide_eq_false (by omega)
              · exact isC_end (by omega)
            refine g_ild f_X10_isClause_86 rfl ?_
            refine g_if_ne f_X10_isClause_87 rfl (by omega) (fun c7 => ?_) (fun c7 => ?_)
            · exact absurd c7 (by omega)
            refine g_alv f_X10_isClause_90 rfl ?_
            refine g_ldcS (i := 4) (by decide) f_X10_isClause_91 rfl ?_
            refine g_cv1 hγ (c_mall hP (i := 4) (by decide)) f_X10_isClause_93 mo_X10_isAll mv_X10_isAll (by assumption) rfl rfl (Nat.le_of_ble_eq_true rfl) ⟨by omega, by decide⟩ ⟨Nat.le_refl _, Nat.le_refl _⟩ (fun x S' M6 hq6 => ?_)
            obtain ⟨hx6, q1, k6, f6⟩ := hq6
            obtain rfl := q1.symm
            change x = ((allS tx 4 4 0 a).1.toNat : Int) at hx6
            change PM S M6 tx b (flatL L) (allS tx 4 4 0 a).2 o at k6
            subst hx6
            have hh := head_a h1 h2 h3
            rcases Bool.eq_false_or_eq_true (allS tx 4 4 0 a).1 with hb | hb
            · rw [if_pos hb] at hh
              refine g_as (show (((allS tx 4 4 0 a).1.toNat : Nat) : Int) = 1 by rw [hb]; rfl) ?_
              refine g_goto f_X10_isClause_96 ?_
              first
              | exact j132 M6 _ 1 _ (by rw [hh]; exact k6) f6 (Or.inr ⟨rfl, (fun q => by rw [hh] at q; simp at q), by rw [hh]; rfl⟩)
              | exact j132 M6 _ 0 _ (by rw [hh]; exact k6) f6 (Or.inl ⟨rfl, by rw [hh]⟩)
              | exact j132 M _ 0 _ (by rw [head_x h1 h2]; exact k) f (Or.inl ⟨rfl, by rw [head_x h1 h2]⟩)
            · rw [if_neg (by rw [hb]; decide)] at hh
              refine g_as (show (((allS tx 4 4 0 a).1.toNat : Nat) : Int) = 0 by rw [hb]; rfl) ?_
              refine g_goto f_X10_isClause_96 ?_
              first
              | exact j132 M6 _ 1 _ (by rw [hh]; exact k6) f6 (Or.inr ⟨rfl, (fun q => by rw [hh] at q; simp at q), by rw [hh]; rfl⟩)
              | exact j132 M6 _ 0 _ (by rw [hh]; exact k6) f6 (Or.inl ⟨rfl, by rw [hh]⟩)
              | exact j132 M _ 0 _ (by rw [head_x h1 h2]; exact k) f (Or.inl ⟨rfl, by rw [head_x h1 h2]⟩)
          · have h3 : isC tx (a + 1) 105 = true := by rw [isC_at (by omega)]; exact decide_eq_true (by omega)
            refine g_const f_X10_isClause_84 ?_
            refine g_ist_2 f_X10_isClause_85 (by decide) c1i ?_
            refine g_ild f_X10_isClause_86 rfl ?_
            refine g_if_ne f_X10_isClause_87 rfl (by omega) (fun c7 => ?_) (fun c7 => ?_)
            · refine g_ild f_X10_isClause_99 rfl ?_
              refine g_const f_X10_isClause_100 ?_
              refine g_icmp_ne f_X10_isClause_101 rfl (by omega) (by omega) (fun c8 => ?_) (fun c8 => ?_)
              · refine g_ild f_X10_isClause_113 rfl ?_
                refine g_const f_X10_isClause_114 ?_
                refine g_icmp_ne f_X10_isClause_115 rfl (by omega) (by omega) (fun c9 => ?_) (fun c9 => ?_)
                · exact absurd c9 (by omega)
                refine g_alv f_X10_isClause_118 rfl ?_
                refine g_ldcS (i := 6) (by decide) f_X10_isClause_119 rfl ?_
                refine g_cv1 hγ (c_mall hP (i := 6) (by decide)) f_X10_isClause_121 mo_X10_isAll mv_X10_isAll (by assumption) rfl rfl (Nat.le_of_ble_eq_true rfl) ⟨by omega, by decide⟩ ⟨Nat.le_refl _, Nat.le_refl _⟩ (fun x S' M6 hq6 => ?_)
                obtain ⟨hx6, q1, k6, f6⟩ := hq6
                obtain rfl := q1.symm
                change x = ((allS tx 6 5 0 a).1.toNat : Int) at hx6
                change PM S M6 tx b (flatL L) (allS tx 6 5 0 a).2 o at k6
                subst hx6
                have hh := head_i h1 h2 h3
                rcases Bool.eq_false_or_eq_true (allS tx 6 5 0 a).1 with hb | hb
                · rw [if_pos hb] at hh
                  refine g_as (show (((allS tx 6 5 0 a).1.toNat : Nat) : Int) = 1 by rw [hb]; rfl) ?_
                  refine g_if_eq f_X10_isClause_124 rfl (by omega) (fun hx => ?_) (fun hx => ?_)
                  · exact absurd hx (by omega)
                  refine g_const f_X10_isClause_127 ?_
                  refine g_goto f_X10_isClause_128 ?_
                  first
                  | exact j132 M6 _ 1 _ (by rw [hh]; exact k6) f6 (Or.inr ⟨rfl, (fun q => by rw [hh] at q; simp at q), by rw [hh]; rfl⟩)
                  | exact j132 M6 _ 0 _ (by rw [hh]; exact k6) f6 (Or.inl ⟨rfl, by rw [hh]⟩)
                  | exact j132 M _ 0 _ (by rw [head_x h1 h2]; exact k) f (Or.inl ⟨rfl, by rw [head_x h1 h2]⟩)
                · rw [if_neg (by rw [hb]; decide)] at hh
                  refine g_as (show (((allS tx 6 5 0 a).1.toNat : Nat) : Int) = 0 by rw [hb]; rfl) ?_
                  refine g_if_eq f_X10_isClause_124 rfl (by omega) (fun hx => ?_) (fun hx => ?_)
                  · refine g_const f_X10_isClause_131 ?_
                    first
                    | exact j132 M6 _ 1 _ (by rw [hh]; exact k6) f6 (Or.inr ⟨rfl, (fun q => by rw [hh] at q; simp at q), by rw [hh]; rfl⟩)
                    | exact j132 M6 _ 0 _ (by rw [hh]; exact k6) f6 (Or.inl ⟨rfl, by rw [hh]⟩)
                    | exact j132 M _ 0 _ (by rw [head_x h1 h2]; exact k) f (Or.inl ⟨rfl, by rw [head_x h1 h2]⟩)
                  · exact absurd (by omega) hx
              · exact absurd (by omega) c8
            · exact absurd (by omega) c7
    · have h1 : isC tx a 110 = true := by rw [isC_at hlen]; exact decide_eq_true (by omega)
      refine g_const f_X10_isClause_27 ?_
      refine g_goto f_X10_isClause_28 ?_
      refine g_ist_2 f_X10_isClause_50 (by decide) c1i ?_
      refine g_ild f_X10_isClause_51 rfl ?_
      refine g_if_ne f_X10_isClause_52 rfl (by omega) (fun c4 => ?_) (fun c4 => ?_)
      · refine g_ild f_X10_isClause_86 rfl ?_
        refine g_if_ne f_X10_isClause_87 rfl (by omega) (fun c7 => ?_) (fun c7 => ?_)
        · refine g_ild f_X10_isClause_99 rfl ?_
          refine g_const f_X10_isClause_100 ?_
          refine g_icmp_ne f_X10_isClause_101 rfl (by omega) (by omega) (fun c8 => ?_) (fun c8 => ?_)
          · exact absurd c8 (by omega)
          refine g_alv f_X10_isClause_104 rfl ?_
          refine g_ldcS (i := 5) (by decide) f_X10_isClause_105 rfl ?_
          refine g_cv1 hγ (c_mall hP (i := 5) (by decide)) f_X10_isClause_107 mo_X10_isAll mv_X10_isAll (by assumption) rfl rfl (Nat.le_of_ble_eq_true rfl) ⟨by omega, by decide⟩ ⟨Nat.le_refl _, Nat.le_refl _⟩ (fun x S' M6 hq6 => ?_)
          obtain ⟨hx6, q1, k6, f6⟩ := hq6
          obtain rfl := q1.symm
          change x = ((allS tx 5 5 0 a).1.toNat : Int) at hx6
          change PM S M6 tx b (flatL L) (allS tx 5 5 0 a).2 o at k6
          subst hx6
          have hh := head_n h1
          rcases Bool.eq_false_or_eq_true (allS tx 5 5 0 a).1 with hb | hb
          · rw [if_pos hb] at hh
            refine g_as (show (((allS tx 5 5 0 a).1.toNat : Nat) : Int) = 1 by rw [hb]; rfl) ?_
            refine g_goto f_X10_isClause_110 ?_
            first
            | exact j132 M6 _ 1 _ (by rw [hh]; exact k6) f6 (Or.inr ⟨rfl, (fun q => by rw [hh] at q; simp at q), by rw [hh]; rfl⟩)
            | exact j132 M6 _ 0 _ (by rw [hh]; exact k6) f6 (Or.inl ⟨rfl, by rw [hh]⟩)
            | exact j132 M _ 0 _ (by rw [head_x h1 h2]; exact k) f (Or.inl ⟨rfl, by rw [head_x h1 h2]⟩)
          · rw [if_neg (by rw [hb]; decide)] at hh
            refine g_as (show (((allS tx 5 5 0 a).1.toNat : Nat) : Int) = 0 by rw [hb]; rfl) ?_
            refine g_goto f_X10_isClause_110 ?_
            first
            | exact j132 M6 _ 1 _ (by rw [hh]; exact k6) f6 (Or.inr ⟨rfl, (fun q => by rw [hh] at q; simp at q), by rw [hh]; rfl⟩)
            | exact j132 M6 _ 0 _ (by rw [hh]; exact k6) f6 (Or.inl ⟨rfl, by rw [hh]⟩)
            | exact j132 M _ 0 _ (by rw [head_x h1 h2]; exact k) f (Or.inl ⟨rfl, by rw [head_x h1 h2]⟩)
        · exact absurd (by omega) c7
      · exact absurd (by omega) c4
  · refine g_const f_X10_isClause_0 ?_
    refine g_ist_2 f_X10_isClause_1 (by decide) c1i ?_
    refine g_alv f_X10_isClause_2 rfl ?_
    refine g_getI f_X10_isClause_3 (by assumption) ?_
    rw [p11]
    refine g_alv f_X10_isClause_6 rfl ?_
    refine g_getI f_X10_isClause_7 (by assumption) ?_
    rw [p9]
    refine g_icmp_ge f_X10_isClause_10 rfl (by omega) (by omega) (fun c1 => ?_) (fun c1 => ?_)
    · refine g_ild f_X10_isClause_51 rfl ?_
      refine g_if_ne f_X10_isClause_52 rfl (by omega) (fun c4 => ?_) (fun c4 => ?_)
      · refine g_ild f_X10_isClause_86 rfl ?_
        refine g_if_ne f_X10_isClause_87 rfl (by omega) (fun c7 => ?_) (fun c7 => ?_)
        · refine g_ild f_X10_isClause_99 rfl ?_
          refine g_const f_X10_isClause_100 ?_
          refine g_icmp_ne f_X10_isClause_101 rfl (by omega) (by omega) (fun c8 => ?_) (fun c8 => ?_)
          · refine g_ild f_X10_isClause_113 rfl ?_
            refine g_const f_X10_isClause_114 ?_
            refine g_icmp_ne f_X10_isClause_115 rfl (by omega) (by omega) (fun c9 => ?_) (fun c9 => ?_)
            · refine g_const f_X10_isClause_131 ?_
              have hh := head_x (tx := tx) (a := a) (isC_end (by omega)) (isC_end (by omega))
              exact j132 M _ 0 _ (by rw [hh]; exact k) f (Or.inl ⟨rfl, by rw [hh]⟩)
            · exact absurd (by omega) c9
          · exact absurd (by omega) c8
        · exact absurd (by omega) c7
      · exact absurd (by omega) c4
    · exact absurd (by omega) c1
