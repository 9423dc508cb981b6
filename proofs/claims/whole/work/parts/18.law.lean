/-! contracts: Law.holds, Law.sum -/
theorem tstB (s : Nat → Nat) {m : Nat} (b : Bool) (h : b = true ↔ (((m : Int) % 300 / 100 = 0 ∧ (s (m / 300) : Int) < (m : Int) % 100) ∨ ((m : Int) % 300 / 100 = 1 ∧ (s (m / 300) : Int) = (m : Int) % 100) ∨ ((m : Int) % 300 / 100 = 2 ∧ (m : Int) % 100 < (s (m / 300) : Int)))) : testV s m = b := by
  unfold testV relV
  have h3 : m % 300 / 100 < 3 := by omega
  have e1 : ((m : Int) % 300 / 100) = ((m % 300 / 100 : Nat) : Int) := by omega
  have e2 : ((m : Int) % 100) = ((m % 100 : Nat) : Int) := by omega
  rw [e1, e2] at h
  generalize m % 300 / 100 = r at h h3 ⊢
  generalize s (m / 300) = a at h ⊢
  generalize m % 100 = c at h ⊢
  rw [Bool.eq_iff_iff, h]
  rcases (show r = 0 ∨ r = 1 ∨ r = 2 by omega) with rfl | rfl | rfl
  · simp only [if_true, decide_eq_true_eq]
    omega
  · simp only [show ¬ (1 : Nat) = 0 by decide, if_false, if_true, decide_eq_true_eq]
    omega
  · simp only [show ¬ (2 : Nat) = 0 by decide, show ¬ (2 : Nat) = 1 by decide, if_false, decide_eq_true_eq]
    omega

set_option maxHeartbeats 4000000 in
set_option maxRecDepth 100000 in
theorem c_holds {Ω : Ow} {S : Sg} {M : Mm} {Λ : Nat} (s : Nat → Nat) (cs : List Int) (st bh : Nat) (hbh : bh = st + cs.length) (hO : Ob S Λ 1) (hA4 : Ar S (Λ + 4) 12 100) (hA5 : Ar S (Λ + 5) 12 6) (g4 : S.2 Λ 6 = ((Λ + 4 : Nat) : Int)) (g5 : S.2 Λ 7 = ((Λ + 5 : Nat) : Int)) (hcode : ∀ (n : Nat) (h : n < cs.length), M (Λ + 4) (st + n) = cs[n]) (hsub : ∀ j, j < 6 → M (Λ + 5) j = (s j : Int)) (hs : ∀ j, j < 6 → s j ≤ 20000) (hwf : wfC cs) (hl : bh ≤ 100) : Ct Ω mX1_holds 2 0 0 1 [vr Ω Λ, vi (st : Int), vi (bh : Int)] S M (fun x S' M' => (x = ((holdsC s cs).toNat : Int)) ∧ S' = S ∧ M' = M) := by
  refine Ct.mk (by decide) (Nat.le_of_ble_eq_true rfl) [some (vr Ω Λ), some (vi (st : Int)), some (vi (bh : Int)), none, none, none, none, none, none, none, none] (by intro q hq; exact hq) (fun γ hγ hz => ?_)
  have loop : ∀ (k n : Nat) (v5 v6 v7 v8 v9 v10 : Option Value), n + k = cs.length → cat1 v5 → cat1 v6 → cat1 v7 → cat1 v8 → cat1 v9 → Go γ Ω mX1_holds (Zm γ Ω 1 0 0 (fun x S' M' => (x = ((holdsC s cs).toNat : Int)) ∧ S' = S ∧ M' = M)) 0 0 S M 5 [some (vr Ω Λ), some (vi (st : Int)), some (vi (bh : Int)), some (vi ((toB (evC s (cs.take n)) : Int))), some (vi (((st + n : Nat) : Int))), v5, v6, v7, v8, v9, v10] [] := by
    intro k
    induction k with
    | zero =>
      intro n v5 v6 v7 v8 v9 v10 hk q5 q6 q7 q8 q9
      obtain ⟨d, hd1, hd2⟩ := wf_take (s := s) hwf n (by omega)
      have htk : cs.take n = cs := List.take_of_length_le (by omega)
      rw [htk] at hd1 hd2 ⊢
      have hd : d = 1 := Option.some.inj (hd1.symm.trans hwf)
      obtain ⟨b, hb⟩ : ∃ b, evC s cs = [b] := by
        match h : evC s cs, hd2 with
        | [b], _ => exact ⟨b, rfl⟩
        | [], h2 => simp at h2; omega
        | _ :: _ :: _, h2 => simp at h2; omega
      have hH : holdsC s cs = b := by rw [holdsC, hb]; rfl
      rw [hb]
      refine g_ild f_X1_holds_5 rfl ?_
      refine g_ild f_X1_holds_7 rfl ?_
      refine g_icmp_ge f_X1_holds_8 rfl (by omega) (by omega) (fun hc => ?_) (fun hc => ?_)
      · refine g_ild f_X1_holds_195 rfl ?_
        refine g_const f_X1_holds_196 ?_
        refine g_iand f_X1_holds_197 ?_
        rw [t_low (by decide)]
        refine g_const f_X1_holds_198 ?_
        refine g_icmp_ne f_X1_holds_199 rfl (by cases b <;> decide) (by cases b <;> decide) (fun hv => ?_) (fun hv => ?_)
        · refine g_const f_X1_holds_206 ?_
          refine g_retz f_X1_holds_207 rfl (by omega) ?_ (Nat.zero_le _) (Nat.zero_le _)
          exact ⟨by rw [hH]; revert hv; cases b <;> simp, rfl, rfl⟩
        · refine g_const f_X1_holds_202 ?_
          refine g_goto f_X1_holds_203 ?_
          refine g_retz f_X1_holds_207 rfl (by omega) ?_ (Nat.zero_le _) (Nat.zero_le _)
          exact ⟨by rw [hH]; revert hv; cases b <;> simp, rfl, rfl⟩
      · exact absurd (by omega) hc
    | succ k ih =>
      intro n v5 v6 v7 v8 v9 v10 hk q5 q6 q7 q8 q9
      have hn : n < cs.length := by omega
      obtain ⟨d, hd1, hd2⟩ := wf_take (s := s) hwf n (by omega)
      obtain ⟨e, he1, he2⟩ := wf_take (s := s) hwf (n + 1) (by omega)
      have hev := ev_take (s := s) hn
      have hst : stepD (some d) cs[n] = some e := by rw [← he1, List.take_succ, List.getElem?_eq_getElem hn, List.foldl_append, hd1]; rfl
      have nx : ∀ (v5 v6 v7 v8 v9 v10 : Option Value) (T : Int), cat1 v5 → cat1 v6 → cat1 v7 → cat1 v8 → cat1 v9 → T = (toB (evC s (cs.take (n + 1))) : Int) → Go γ Ω mX1_holds (Zm γ Ω 1 0 0 (fun x S' M' => (x = ((holdsC s cs).toNat : Int)) ∧ S' = S ∧ M' = M)) 0 0 S M 189 [some (vr Ω Λ), some (vi (st : Int)), some (vi (bh : Int)), some (vi (T)), some (vi (((st + n : Nat) : Int))), v5, v6, v7, v8, v9, v10] [] := by
        intro v5 v6 v7 v8 v9 v10 T q5 q6 q7 q8 q9 hT
        subst hT
        refine g_inc_4 f_X1_holds_189 (by decide) c1i ?_
        refine g_goto f_X1_holds_192 ?_
        exact ih (n + 1) v5 v6 v7 v8 v9 v10 (by omega) q5 q6 q7 q8 q9
      rw [hev] at nx
      have hcn := hcode n hn
      generalize cs[n] = c at hst nx hcn
      generalize evC s (cs.take n) = stk at hd2 nx ⊢
      have hcr := stepD_rg hst
      refine g_ild f_X1_holds_5 rfl ?_
      refine g_ild f_X1_holds_7 rfl ?_
      refine g_icmp_ge f_X1_holds_8 rfl (by omega) (by omega) (fun hc => ?_) (fun hc => ?_)
      · exact absurd hc (by omega)
      refine g_alv f_X1_holds_11 rfl ?_
      refine g_getR f_X1_holds_12 (by assumption) (by assumption) ?_
      refine g_ild f_X1_holds_15 rfl ?_
      refine g_ial f_X1_holds_17 (by assumption) (st + n) rfl (by omega) ?_
      rw [hcn]
      refine g_ist_5 f_X1_holds_18 (by decide) c1i ?_
      refine g_ild f_X1_holds_20 rfl ?_
      refine g_const f_X1_holds_22 ?_
      refine g_icmp_ne f_X1_holds_24 rfl (by omega) (by omega) (fun e3 => ?_) (fun e3 => ?_)
      · refine g_ild f_X1_holds_34 rfl ?_
        refine g_const f_X1_holds_36 ?_
        refine g_icmp_ne f_X1_holds_37 rfl (by omega) (by omega) (fun e1 => ?_) (fun e1 => ?_)
        · refine g_ild f_X1_holds_52 rfl ?_
          refine g_const f_X1_holds_54 ?_
          refine g_icmp_ne f_X1_holds_56 rfl (by omega) (by omega) (fun e2 => ?_) (fun e2 => ?_)
          · have hc2 : 0 ≤ c ∧ c < 1800 ∧ d < 31 := by
              unfold stepD at hst
              simp only [e3, e1, e2, or_self, if_false] at hst
              split at hst
              · assumption
              · cases hst
            obtain ⟨m, rfl⟩ := Int.eq_ofNat_of_zero_le hc2.1
            have hm : m < 1800 := by omega
            have hsm := hs (m / 300) (by omega)
            refine g_ild f_X1_holds_70 rfl ?_
            refine g_const f_X1_holds_72 ?_
            refine g_idiv f_X1_holds_75 (by omega) (by omega) ?_
            refine g_ist_6 f_X1_holds_76 (by decide) c1i ?_
            refine g_ild f_X1_holds_78 rfl ?_
            refine g_alv f_X1_holds_80 rfl ?_
            refine g_getR f_X1_holds_81 (by assumption) (by assumption) ?_
            refine g_alen f_X1_holds_84 (by assumption) (by decide) ?_
            refine g_icmp_ge f_X1_holds_85 rfl (by omega) (by omega) (fun hq => ?_) (fun hq => ?_)
            · exact absurd hq (by omega)
            refine g_alv f_X1_holds_88 rfl ?_
            refine g_getR f_X1_holds_89 (by assumption) (by assumption) ?_
            refine g_ild f_X1_holds_92 rfl ?_
            refine g_ial f_X1_holds_94 (by assumption) (m / 300) (by omega) (by omega) ?_
            rw [hsub (m / 300) (by omega)]
            refine g_goto f_X1_holds_95 ?_
            refine g_ist_7 f_X1_holds_99 (by decide) c1i ?_
            refine g_ild f_X1_holds_101 rfl ?_
            refine g_const f_X1_holds_103 ?_
            refine g_irem f_X1_holds_106 (by omega) (by omega) ?_
            refine g_const f_X1_holds_107 ?_
            refine g_idiv f_X1_holds_109 (by omega) (by omega) ?_
            refine g_ist_8 f_X1_holds_110 (by decide) c1i ?_
            refine g_ild f_X1_holds_112 rfl ?_
            refine g_const f_X1_holds_114 ?_
            refine g_irem f_X1_holds_116 (by omega) (by omega) ?_
            refine g_ist_9 f_X1_holds_117 (by decide) c1i ?_
            refine g_ild f_X1_holds_119 rfl ?_
            refine g_if_ne f_X1_holds_121 rfl (by omega) (fun c6 => ?_) (fun c6 => ?_)
            · refine g_ild f_X1_holds_139 rfl ?_
              refine g_const f_X1_holds_141 ?_
              refine g_icmp_ne f_X1_holds_142 rfl (by omega) (by omega) (fun c7 => ?_) (fun c7 => ?_)
              · refine g_ild f_X1_holds_160 rfl ?_
                refine g_ild f_X1_holds_162 rfl ?_
                refine g_icmp_le f_X1_holds_164 rfl (by omega) (by omega) (fun c8 => ?_) (fun c8 => ?_)
                · refine g_const f_X1_holds_171 ?_
                  refine g_ist_10 f_X1_holds_172 (by decide) c1i ?_
                  refine g_ild f_X1_holds_174 rfl ?_
                  refine g_const f_X1_holds_175 ?_
                  refine g_ishl f_X1_holds_176 ?_
                  refine g_ild f_X1_holds_177 rfl ?_
                  refine g_if_eq f_X1_holds_179 rfl (by omega) (fun hv => ?_) (fun hv => ?_)
                  · refine g_const f_X1_holds_186 ?_
                    refine g_ior f_X1_holds_187 ?_
                    refine g_ist_3 f_X1_holds_188 (by decide) c1i ?_
                    refine nx _ _ _ _ _ _ _ (by first | exact c1i | assumption) (by first | exact c1i | assumption) (by first | exact c1i | assumption) (by first | exact c1i | assumption) (by first | exact c1i | assumption) ?_
                    rw [stepC_test, tstB s false (iff_of_false (by decide) (by omega))]; exact t_push (b := false) (by omega)
                  · exact absurd (by omega) hv
                · refine g_const f_X1_holds_167 ?_
                  refine g_goto f_X1_holds_168 ?_
                  refine g_ist_10 f_X1_holds_172 (by decide) c1i ?_
                  refine g_ild f_X1_holds_174 rfl ?_
                  refine g_const f_X1_holds_175 ?_
                  refine g_ishl f_X1_holds_176 ?_
                  refine g_ild f_X1_holds_177 rfl ?_
                  refine g_if_eq f_X1_holds_179 rfl (by omega) (fun hv => ?_) (fun hv => ?_)
                  · exact absurd hv (by omega)
                  refine g_const f_X1_holds_182 ?_
                  refine g_goto f_X1_holds_183 ?_
                  refine g_ior f_X1_holds_187 ?_
                  refine g_ist_3 f_X1_holds_188 (by decide) c1i ?_
                  refine nx _ _ _ _ _ _ _ (by first | exact c1i | assumption) (by first | exact c1i | assumption) (by first | exact c1i | assumption) (by first | exact c1i | assumption) (by first | exact c1i | assumption) ?_
                  rw [stepC_test, tstB s true (iff_of_true rfl (by omega))]; exact t_push (b := true) (by omega)
              · refine g_ild f_X1_holds_145 rfl ?_
                refine g_ild f_X1_holds_147 rfl ?_
                refine g_icmp_ne f_X1_holds_149 rfl (by omega) (by omega) (fun c11 => ?_) (fun c11 => ?_)
                · refine g_const f_X1_holds_156 ?_
                  refine g_goto f_X1_holds_157 ?_
                  refine g_ist_10 f_X1_holds_172 (by decide) c1i ?_
                  refine g_ild f_X1_holds_174 rfl ?_
                  refine g_const f_X1_holds_175 ?_
                  refine g_ishl f_X1_holds_176 ?_
                  refine g_ild f_X1_holds_177 rfl ?_
                  refine g_if_eq f_X1_holds_179 rfl (by omega) (fun hv => ?_) (fun hv => ?_)
                  · refine g_const f_X1_holds_186 ?_
                    refine g_ior f_X1_holds_187 ?_
                    refine g_ist_3 f_X1_holds_188 (by decide) c1i ?_
                    refine nx _ _ _ _ _ _ _ (by first | exact c1i | assumption) (by first | exact c1i | assumption) (by first | exact c1i | assumption) (by first | exact c1i | assumption) (by first | exact c1i | assumption) ?_
                    rw [stepC_test, tstB s false (iff_of_false (by decide) (by omega))]; exact t_push (b := false) (by omega)
                  · exact absurd (by omega) hv
                · refine g_const f_X1_holds_152 ?_
                  refine g_goto f_X1_holds_153 ?_
                  refine g_ist_10 f_X1_holds_172 (by decide) c1i ?_
                  refine g_ild f_X1_holds_174 rfl ?_
                  refine g_const f_X1_holds_175 ?_
                  refine g_ishl f_X1_holds_176 ?_
                  refine g_ild f_X1_holds_177 rfl ?_
                  refine g_if_eq f_X1_holds_179 rfl (by omega) (fun hv => ?_) (fun hv => ?_)
                  · exact absurd hv (by omega)
                  refine g_const f_X1_holds_182 ?_
                  refine g_goto f_X1_holds_183 ?_
                  refine g_ior f_X1_holds_187 ?_
                  refine g_ist_3 f_X1_holds_188 (by decide) c1i ?_
                  refine nx _ _ _ _ _ _ _ (by first | exact c1i | assumption) (by first | exact c1i | assumption) (by first | exact c1i | assumption) (by first | exact c1i | assumption) (by first | exact c1i | assumption) ?_
                  rw [stepC_test, tstB s true (iff_of_true rfl (by omega))]; exact t_push (b := true) (by omega)
            · refine g_ild f_X1_holds_124 rfl ?_
              refine g_ild f_X1_holds_126 rfl ?_
              refine g_icmp_ge f_X1_holds_128 rfl (by omega) (by omega) (fun c14 => ?_) (fun c14 => ?_)
              · refine g_const f_X1_holds_135 ?_
                refine g_goto f_X1_holds_136 ?_
                refine g_ist_10 f_X1_holds_172 (by decide) c1i ?_
                refine g_ild f_X1_holds_174 rfl ?_
                refine g_const f_X1_holds_175 ?_
                refine g_ishl f_X1_holds_176 ?_
                refine g_ild f_X1_holds_177 rfl ?_
                refine g_if_eq f_X1_holds_179 rfl (by omega) (fun hv => ?_) (fun hv => ?_)
                · refine g_const f_X1_holds_186 ?_
                  refine g_ior f_X1_holds_187 ?_
                  refine g_ist_3 f_X1_holds_188 (by decide) c1i ?_
                  refine nx _ _ _ _ _ _ _ (by first | exact c1i | assumption) (by first | exact c1i | assumption) (by first | exact c1i | assumption) (by first | exact c1i | assumption) (by first | exact c1i | assumption) ?_
                  rw [stepC_test, tstB s false (iff_of_false (by decide) (by omega))]; exact t_push (b := false) (by omega)
                · exact absurd (by omega) hv
              · refine g_const f_X1_holds_131 ?_
                refine g_goto f_X1_holds_132 ?_
                refine g_ist_10 f_X1_holds_172 (by decide) c1i ?_
                refine g_ild f_X1_holds_174 rfl ?_
                refine g_const f_X1_holds_175 ?_
                refine g_ishl f_X1_holds_176 ?_
                refine g_ild f_X1_holds_177 rfl ?_
                refine g_if_eq f_X1_holds_179 rfl (by omega) (fun hv => ?_) (fun hv => ?_)
                · exact absurd hv (by omega)
                refine g_const f_X1_holds_182 ?_
                refine g_goto f_X1_holds_183 ?_
                refine g_ior f_X1_holds_187 ?_
                refine g_ist_3 f_X1_holds_188 (by decide) c1i ?_
                refine nx _ _ _ _ _ _ _ (by first | exact c1i | assumption) (by first | exact c1i | assumption) (by first | exact c1i | assumption) (by first | exact c1i | assumption) (by first | exact c1i | assumption) ?_
                rw [stepC_test, tstB s true (iff_of_true rfl (by omega))]; exact t_push (b := true) (by omega)
          · have e2 := Classical.not_not.mp e2
            subst e2
            obtain ⟨b, a, t, rfl⟩ : ∃ b a t, stk = b :: a :: t := by
              match stk, hd2 with
              | b :: a :: t, _ => exact ⟨b, a, t, rfl⟩
              | [_], h2 => subst h2; simp [stepD] at hst
              | [], h2 => subst h2; simp [stepD] at hst
            have hlt : t.length + 2 ≤ 31 := by
              have : d ≤ 31 := foldD_le _ 0 d (by decide) hd1
              simp at hd2; omega
            refine g_ild f_X1_holds_59 rfl ?_
            refine g_const f_X1_holds_60 ?_
            refine g_ishr f_X1_holds_61 ?_
            refine g_ild f_X1_holds_62 rfl ?_
            refine g_const f_X1_holds_63 ?_
            refine g_iand f_X1_holds_64 ?_
            refine g_ior f_X1_holds_65 ?_
            refine g_ist_3 f_X1_holds_66 (by decide) c1i ?_
            refine g_goto f_X1_holds_67 ?_
            refine nx _ _ _ _ _ _ _ (by first | exact c1i | assumption) (by first | exact c1i | assumption) (by first | exact c1i | assumption) (by first | exact c1i | assumption) (by first | exact c1i | assumption) ?_
            exact t_or hlt
        · have e1 := Classical.not_not.mp e1
          subst e1
          obtain ⟨b, a, t, rfl⟩ : ∃ b a t, stk = b :: a :: t := by
            match stk, hd2 with
            | b :: a :: t, _ => exact ⟨b, a, t, rfl⟩
            | [_], h2 => subst h2; simp [stepD] at hst
            | [], h2 => subst h2; simp [stepD] at hst
          have hlt : t.length + 2 ≤ 31 := by
            have : d ≤ 31 := foldD_le _ 0 d (by decide) hd1
            simp at hd2; omega
          refine g_ild f_X1_holds_40 rfl ?_
          refine g_const f_X1_holds_41 ?_
          refine g_ishr f_X1_holds_42 ?_
          refine g_ild f_X1_holds_43 rfl ?_
          refine g_const f_X1_holds_44 ?_
          refine g_ior f_X1_holds_46 ?_
          refine g_iand f_X1_holds_47 ?_
          refine g_ist_3 f_X1_holds_48 (by decide) c1i ?_
          refine g_goto f_X1_holds_49 ?_
          refine nx _ _ _ _ _ _ _ (by first | exact c1i | assumption) (by first | exact c1i | assumption) (by first | exact c1i | assumption) (by first | exact c1i | assumption) (by first | exact c1i | assumption) ?_
          exact t_and hlt
      · have e3 := Classical.not_not.mp e3
        subst e3
        obtain ⟨b, t, rfl⟩ : ∃ b t, stk = b :: t := by
          match stk, hd2 with
          | b :: t, _ => exact ⟨b, t, rfl⟩
          | [], h2 => subst h2; simp [stepD] at hst
        have hlt : t.length + 1 ≤ 31 := by
          have : d ≤ 31 := foldD_le _ 0 d (by decide) hd1
          simp at hd2; omega
        refine g_ild f_X1_holds_27 rfl ?_
        refine g_const f_X1_holds_28 ?_
        refine g_ixor f_X1_holds_29 ?_
        refine g_ist_3 f_X1_holds_30 (by decide) c1i ?_
        refine g_goto f_X1_holds_31 ?_
        refine nx _ _ _ _ _ _ _ (by first | exact c1i | assumption) (by first | exact c1i | assumption) (by first | exact c1i | assumption) (by first | exact c1i | assumption) (by first | exact c1i | assumption) ?_
        exact t_not hlt
  refine g_const f_X1_holds_0 ?_
  refine g_ist_3 f_X1_holds_1 (by decide) c1i ?_
  refine g_ild f_X1_holds_2 rfl ?_
  refine g_ist_4 f_X1_holds_3 (by decide) c1i ?_
  exact loop cs.length 0 none none none none none none (by omega) c1n c1n c1n c1n c1n

set_option maxHeartbeats 4000000 in
set_option maxRecDepth 100000 in
theorem c_sum {Ω : Ow} {S : Sg} {M : Mm} {Λ q p day : Nat} {P : Nat → Nat} {L : LawC} (hG : Gr S) (hΛ : isLaw Λ) (hn : Λ + 6 ≤ S.1) (hq : Ob S q 3) (h0 : M q 0 = (p : Int)) (h1 : M q 1 = (P 0 : Int)) (h2 : M q 2 = (P 1 : Int)) (h3 : M q 3 = (P 2 : Int)) (h4 : M q 4 = (P 3 : Int)) (hb : p ≤ 5 ∧ P 0 ≤ 6 ∧ P 1 ≤ 9 ∧ P 2 ≤ 11 ∧ P 3 ≤ 9999 ∧ day ≤ 20000) (hR : RepLaw M Λ L) (hL : okL L) : Ct Ω mX1_sum 3 0 0 1 [vr Ω Λ, vr Ω q, vi (day : Int)] S M (fun x S' M' => x = sumL (sbj P p day) L ∧ S' = S ∧ ∀ k, k ≠ Λ + 5 → M' k = M k) := by
  refine Ct.mk (by decide) (Nat.le_of_ble_eq_true rfl) [some (vr Ω Λ), some (vr Ω q), some (vi (day : Int)), none, none, none] (by intro q hq; exact hq) (fun γ hγ hz => ?_)
  obtain ⟨oΛ, a1, a2, a3, a4, a5⟩ := obLaw (S := S) hΛ hn
  obtain ⟨g2, g3, g4, g6, g7⟩ := hG.2.2.2 Λ hΛ hn
  have hqn : q ≠ Λ + 5 := fun e => ne_subj hq.1 ⟨Λ, hΛ, e⟩
  have hLl : L.length ≤ 10 := hL.1
  have K : ∀ M2 : Mm, (∀ k, k ≠ Λ + 5 → M2 k = M k) → (∀ j, j < 6 → M2 (Λ + 5) j = (sbj P p day j : Int)) → Go γ Ω mX1_sum (Zm γ Ω 1 0 0 (fun x S' M' => x = sumL (sbj P p day) L ∧ S' = S ∧ ∀ k, k ≠ Λ + 5 → M' k = M k)) 0 0 S M2 63 [some (vr Ω Λ), some (vr Ω q), some (vi (day : Int)), none, none, none] [] := by
    intro M2 hM hS
    have e0 : M2 Λ = M Λ := hM _ (by omega)
    have e1 : M2 (Λ + 1) = M (Λ + 1) := hM _ (by omega)
    have e2 : M2 (Λ + 2) = M (Λ + 2) := hM _ (by omega)
    have e3 : M2 (Λ + 3) = M (Λ + 3) := hM _ (by omega)
    have e4 : M2 (Λ + 4) = M (Λ + 4) := hM _ (by omega)
    have hsb : ∀ j, j < 6 → sbj P p day j ≤ 20000 := by
      intro j hj
      unfold sbj
      split
      · omega
      split
      · omega
      split
      · omega
      split
      · omega
      split <;> omega
    have loop : ∀ (k n : Nat) (sm : Int), n + k = L.length → sm = (L.take n).foldl (clV (sbj P p day)) 2 → -1000 ≤ sm - 2 + 99 * k → (sm ≤ 2 + 99 * n ∧ 2 - 99 * n ≤ sm) → Go γ Ω mX1_sum (Zm γ Ω 1 0 0 (fun x S' M' => x = sumL (sbj P p day) L ∧ S' = S ∧ ∀ k, k ≠ Λ + 5 → M' k = M k)) 0 0 S M2 71 [some (vr Ω Λ), some (vr Ω q), some (vi (day : Int)), some (vi sm), some (vi (lenTo L n : Int)), some (vi (n : Int))] [] := by
      intro k
      induction k with
      | zero =>
        intro n sm hk hsm _ hbs
        have hn2 : n = L.length := by omega
        rw [List.take_of_length_le (by omega)] at hsm
        refine g_ild f_X1_sum_71 rfl ?_
        refine g_alv f_X1_sum_73 rfl ?_
        refine g_getI f_X1_sum_74 (by assumption) ?_
        rw [e0, hR.2.1]
        refine g_icmp_ge f_X1_sum_77 rfl (by omega) (by omega) (fun hc => ?_) (fun hc => ?_)
        · refine g_ild f_X1_sum_153 rfl ?_
          refine g_reti f_X1_sum_154 rfl ?_ (Nat.zero_le _) (Nat.zero_le _)
          exact ⟨hsm, rfl, hM⟩
        · exact absurd (by omega) hc
      | succ k ih =>
        intro n sm hk hsm hbd hbs
        have hn2 : n < L.length := by omega
        obtain ⟨r1, r2, r3, r4⟩ := hR.2.2 n hn2
        have hok := hL.2.1 L[n] (List.getElem_mem hn2)
        have hlS := lenTo_S hn2
        have hlb : lenTo L (n + 1) ≤ 100 := Nat.le_trans (lenTo_le _) hL.2.2
        have nx : ∀ sm2 : Int, sm2 = clV (sbj P p day) sm L[n] → Go γ Ω mX1_sum (Zm γ Ω 1 0 0 (fun x S' M' => x = sumL (sbj P p day) L ∧ S' = S ∧ ∀ k, k ≠ Λ + 5 → M' k = M k)) 0 0 S M2 138 [some (vr Ω Λ), some (vr Ω q), some (vi (day : Int)), some (vi sm2), some (vi (lenTo L n : Int)), some (vi (n : Int))] [] := by
          intro sm2 h2
          refine g_alv f_X1_sum_138 rfl ?_
          refine g_getR f_X1_sum_139 (by assumption) (by assumption) ?_
          refine g_ild f_X1_sum_142 rfl ?_
          refine g_ial f_X1_sum_144 (by assumption) _ rfl (by omega) ?_
          rw [e3, r3]
          refine g_ist_4 f_X1_sum_145 (by decide) c1i ?_
          refine g_inc_5 f_X1_sum_147 (by decide) c1i ?_
          refine g_goto f_X1_sum_150 ?_
          refine ih (n + 1) sm2 (by omega) (by rw [h2, hsm, List.take_succ, List.getElem?_eq_getElem hn2, List.foldl_append]; rfl) ?_ ?_
          · have hc := hok.2.1; rw [h2]; unfold clV; split <;> (try split) <;> omega
          · have hc := hok.2.1; rw [h2]; unfold clV; split <;> (try split) <;> omega
        refine g_ild f_X1_sum_71 rfl ?_
        refine g_alv f_X1_sum_73 rfl ?_
        refine g_getI f_X1_sum_74 (by assumption) ?_
        rw [e0, hR.2.1]
        refine g_icmp_ge f_X1_sum_77 rfl (by omega) (by omega) (fun hc => ?_) (fun hc => ?_)
        · exact absurd hc (by omega)
        refine g_alv f_X1_sum_80 rfl ?_
        refine g_getR f_X1_sum_81 (by assumption) (by assumption) ?_
        refine g_ild f_X1_sum_84 rfl ?_
        refine g_ial f_X1_sum_86 (by assumption) _ rfl (by omega) ?_
        rw [e1, r1]
        refine g_const f_X1_sum_87 ?_
        refine g_icmp_eq f_X1_sum_88 rfl (by have := hok.1; omega) (by have := hok.1; omega) (fun hw => ?_) (fun hw => ?_)
        · exact nx sm (by unfold clV; rw [if_neg (by omega)])
        · refine g_alv f_X1_sum_91 rfl ?_
          refine g_ild f_X1_sum_92 rfl ?_
          refine g_alv f_X1_sum_94 rfl ?_
          refine g_getR f_X1_sum_95 (by assumption) (by assumption) ?_
          refine g_ild f_X1_sum_98 rfl ?_
          refine g_ial f_X1_sum_100 (by assumption) _ rfl (by omega) ?_
          rw [e3, r3]
          refine g_cv1 hγ (c_holds (sbj P p day) L[n].2.2 (lenTo L n) (lenTo L (n + 1)) hlS oΛ a4 a5 g6 g7 (fun i hi => by rw [e4]; exact r4 i hi) hS hsb (hok.2.2 (by omega)) hlb) f_X1_sum_101 mo_X1_holds mv_X1_holds (by assumption) rfl rfl (Nat.le_of_ble_eq_true rfl) ⟨by decide, by decide⟩ ⟨Nat.le_refl _, Nat.le_refl _⟩ (fun x S' M' hq2 => ?_)
          obtain ⟨hx, rfl, rfl⟩ := hq2
          subst hx
          refine g_if_eq f_X1_sum_104 rfl (by (cases holdsC (sbj P p day) L[n].2.2 <;> decide)) (fun hh => ?_) (fun hh => ?_)
          · exact nx sm (by unfold clV; rw [if_neg (by intro q; rw [q.2] at hh; exact absurd hh (by decide))])
          · refine g_ild f_X1_sum_107 rfl ?_
            refine g_alv f_X1_sum_108 rfl ?_
            refine g_getR f_X1_sum_109 (by assumption) (by assumption) ?_
            refine g_ild f_X1_sum_112 rfl ?_
            refine g_ial f_X1_sum_114 (by assumption) _ rfl (by omega) ?_
            rw [e1, r1]
            refine g_if_ne f_X1_sum_115 rfl (by have := hok.1; omega) (fun hz1 => ?_) (fun hz1 => ?_)
            · refine g_alv f_X1_sum_128 rfl ?_
              refine g_getR f_X1_sum_129 (by assumption) (by assumption) ?_
              refine g_ild f_X1_sum_132 rfl ?_
              refine g_ial f_X1_sum_134 (by assumption) _ rfl (by omega) ?_
              rw [e2, r2]
              refine g_ineg f_X1_sum_135 ?_
              refine g_iadd f_X1_sum_136 ?_
              refine g_ist_3 f_X1_sum_137 (by decide) c1i ?_
              exact nx _ (by unfold clV; rw [if_pos ⟨by omega, by revert hh; cases holdsC (sbj P p day) L[n].2.2 <;> simp⟩, if_neg (by omega)]; omega)
            · refine g_alv f_X1_sum_118 rfl ?_
              refine g_getR f_X1_sum_119 (by assumption) (by assumption) ?_
              refine g_ild f_X1_sum_122 rfl ?_
              refine g_ial f_X1_sum_124 (by assumption) _ rfl (by omega) ?_
              rw [e2, r2]
              refine g_goto f_X1_sum_125 ?_
              refine g_iadd f_X1_sum_136 ?_
              refine g_ist_3 f_X1_sum_137 (by decide) c1i ?_
              exact nx _ (by unfold clV; rw [if_pos ⟨by omega, by revert hh; cases holdsC (sbj P p day) L[n].2.2 <;> simp⟩, if_pos (by omega)])
    refine g_const f_X1_sum_63 ?_
    refine g_ist_3 f_X1_sum_64 (by decide) c1i ?_
    refine g_const f_X1_sum_65 ?_
    refine g_ist_4 f_X1_sum_66 (by decide) c1i ?_
    refine g_const f_X1_sum_68 ?_
    refine g_ist_5 f_X1_sum_69 (by decide) c1i ?_
    exact loop L.length 0 2 (by omega) rfl (by omega) (by omega)
  refine g_alv f_X1_sum_0 rfl ?_
  refine g_getR f_X1_sum_1 (by assumption) (by assumption) ?_
  refine g_const f_X1_sum_4 ?_
  refine g_alv f_X1_sum_5 rfl ?_
  refine g_getI f_X1_sum_6 (by assumption) ?_
  rw [h0]
  refine g_ias f_X1_sum_9 (by assumption) 0 rfl (by omega) ?_
  refine g_alv f_X1_sum_10 rfl ?_
  refine g_getR f_X1_sum_11 (by assumption) (by assumption) ?_
  refine g_const f_X1_sum_14 ?_
  refine g_alv f_X1_sum_15 rfl ?_
  refine g_getI f_X1_sum_16 (by assumption) ?_
  simp only [up_row hqn]
  rw [h1]
  refine g_ias f_X1_sum_19 (by assumption) 1 rfl (by omega) ?_
  refine g_alv f_X1_sum_20 rfl ?_
  refine g_getR f_X1_sum_21 (by assumption) (by assumption) ?_
  refine g_const f_X1_sum_24 ?_
  refine g_alv f_X1_sum_25 rfl ?_
  refine g_getI f_X1_sum_26 (by assumption) ?_
  simp only [up_row hqn]
  rw [h2]
  refine g_ias f_X1_sum_29 (by assumption) 2 rfl (by omega) ?_
  refine g_alv f_X1_sum_30 rfl ?_
  refine g_getR f_X1_sum_31 (by assumption) (by assumption) ?_
  refine g_const f_X1_sum_34 ?_
  refine g_alv f_X1_sum_35 rfl ?_
  refine g_getI f_X1_sum_36 (by assumption) ?_
  simp only [up_row hqn]
  rw [h3]
  refine g_ias f_X1_sum_39 (by assumption) 3 rfl (by omega) ?_
  refine g_alv f_X1_sum_40 rfl ?_
  refine g_getR f_X1_sum_41 (by assumption) (by assumption) ?_
  refine g_const f_X1_sum_44 ?_
  refine g_alv f_X1_sum_45 rfl ?_
  refine g_getI f_X1_sum_46 (by assumption) ?_
  simp only [up_row hqn]
  rw [h4]
  refine g_const f_X1_sum_49 ?_
  refine g_idiv f_X1_sum_51 (by omega) (by omega) ?_
  refine g_ias f_X1_sum_52 (by assumption) 4 rfl (by omega) ?_
  refine g_alv f_X1_sum_53 rfl ?_
  refine g_getR f_X1_sum_54 (by assumption) (by assumption) ?_
  refine g_const f_X1_sum_57 ?_
  refine g_ild f_X1_sum_58 rfl ?_
  refine g_const f_X1_sum_59 ?_
  refine g_irem f_X1_sum_61 (by omega) (by omega) ?_
  refine g_ias f_X1_sum_62 (by assumption) 5 rfl (by omega) ?_
  refine K _ (fun k hk => by simp only [up_row hk]) (fun j hj => ?_)
  rcases (show j = 0 ∨ j = 1 ∨ j = 2 ∨ j = 3 ∨ j = 4 ∨ j = 5 by omega) with rfl | rfl | rfl | rfl | rfl | rfl <;> simp [up, sbj]
