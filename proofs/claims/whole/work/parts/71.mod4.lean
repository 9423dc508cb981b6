/-! contracts: the model's keep, again -/
set_option maxHeartbeats 4000000 in
set_option maxRecDepth 100000 in
theorem c_mkeep {Ω : Ow} {S : Sg} {M : Mm} (hG : Gr S) {r : Nat} (hr : r = 110 ∨ r = 111) : Ct Ω mX10_keep 1 0 0 0 [vr Ω 87, vr Ω r] S M (fun _ S' M' => S' = S ∧ (∀ k, k ≠ r → M' k = M k) ∧ ∀ j, j < 112 → M' r j = snp M j) := by
  refine Ct.mk (by decide) (Nat.le_of_ble_eq_true rfl) [some (vr Ω 87), some (vr Ω r), none] (by intro q hq; exact hq) (fun γ hγ hz => ?_)
  have aR : Ar S r 12 112 := by
    rcases hr with rfl | rfl
    · exact arn hG (by decide +kernel)
    · exact arn hG (by decide +kernel)
  have o87 := om87 hG
  have gM1 : _ = ((88 : Nat) : Int) := grn hG (k := 87) (j := 1) (by decide)
  have aM88 := arn hG (r := 88) (c := 12) (n := 6) (by decide +kernel)
  have gM2 : _ = ((89 : Nat) : Int) := grn hG (k := 87) (j := 2) (by decide)
  have aM89 := arn hG (r := 89) (c := 12) (n := 6) (by decide +kernel)
  have gM3 : _ = ((90 : Nat) : Int) := grn hG (k := 87) (j := 3) (by decide)
  have aM90 := arn hG (r := 90) (c := 12) (n := 6) (by decide +kernel)
  have gM4 : _ = ((91 : Nat) : Int) := grn hG (k := 87) (j := 4) (by decide)
  have aM91 := arn hG (r := 91) (c := 12) (n := 6) (by decide +kernel)
  have gM5 : _ = ((92 : Nat) : Int) := grn hG (k := 87) (j := 5) (by decide)
  have aM92 := arn hG (r := 92) (c := 12) (n := 6) (by decide +kernel)
  have gM6 : _ = ((93 : Nat) : Int) := grn hG (k := 87) (j := 6) (by decide)
  have aM93 := arn hG (r := 93) (c := 12) (n := 24) (by decide +kernel)
  have gM26 : _ = ((102 : Nat) : Int) := grn hG (k := 87) (j := 26) (by decide)
  have aM102 := arn hG (r := 102) (c := 12) (n := 5) (by decide +kernel)
  have gM27 : _ = ((103 : Nat) : Int) := grn hG (k := 87) (j := 27) (by decide)
  have aM103 := arn hG (r := 103) (c := 12) (n := 5) (by decide +kernel)
  have gM28 : _ = ((104 : Nat) : Int) := grn hG (k := 87) (j := 28) (by decide)
  have aM104 := arn hG (r := 104) (c := 12) (n := 5) (by decide +kernel)
  have gM30 : _ = ((105 : Nat) : Int) := grn hG (k := 87) (j := 30) (by decide)
  have aM105 := arn hG (r := 105) (c := 12) (n := 10) (by decide +kernel)
  have gM31 : _ = ((106 : Nat) : Int) := grn hG (k := 87) (j := 31) (by decide)
  have aM106 := arn hG (r := 106) (c := 12) (n := 10) (by decide +kernel)
  have gM33 : _ = ((107 : Nat) : Int) := grn hG (k := 87) (j := 33) (by decide)
  have aM107 := arn hG (r := 107) (c := 12) (n := 8) (by decide +kernel)
  have gM34 : _ = ((108 : Nat) : Int) := grn hG (k := 87) (j := 34) (by decide)
  have aM108 := arn hG (r := 108) (c := 12) (n := 8) (by decide +kernel)
  have aft5 : ∀ (M1 : Mm) (v2 : Option Value), KP M M1 r (fun j => j < 105) → Go γ Ω mX10_keep (Zm γ Ω 0 0 0 (fun _ S' M' => S' = S ∧ (∀ k, k ≠ r → M' k = M k) ∧ ∀ j, j < 112 → M' r j = snp M j)) 0 0 S M1 222 [some (vr Ω 87), some (vr Ω r), v2] [] := by
    intro M1 v2 hK
    refine g_alv f_X10_keep_222 rfl ?_
    refine g_const f_X10_keep_223 ?_
    refine g_alv f_X10_keep_225 rfl ?_
    refine g_getI f_X10_keep_226 (by assumption) ?_
    rw [hK.1 87 (by omega)]
    refine g_ias f_X10_keep_229 (by assumption) 105 (by omega) (by omega) ?_
    refine g_alv f_X10_keep_230 rfl ?_
    refine g_const f_X10_keep_231 ?_
    refine g_alv f_X10_keep_233 rfl ?_
    refine g_getI f_X10_keep_234 (by assumption) ?_
    rw [up_row (show 87 ≠ r by omega), hK.1 87 (by omega)]
    refine g_ias f_X10_keep_237 (by assumption) 106 (by omega) (by omega) ?_
    refine g_alv f_X10_keep_238 rfl ?_
    refine g_const f_X10_keep_239 ?_
    refine g_alv f_X10_keep_241 rfl ?_
    refine g_getI f_X10_keep_242 (by assumption) ?_
    rw [up_row (show 87 ≠ r by omega), up_row (show 87 ≠ r by omega), hK.1 87 (by omega)]
    refine g_ias f_X10_keep_245 (by assumption) 107 (by omega) (by omega) ?_
    refine g_alv f_X10_keep_246 rfl ?_
    refine g_const f_X10_keep_247 ?_
    refine g_alv f_X10_keep_249 rfl ?_
    refine g_getI f_X10_keep_250 (by assumption) ?_
    rw [up_row (show 87 ≠ r by omega), up_row (show 87 ≠ r by omega), up_row (show 87 ≠ r by omega), hK.1 87 (by omega)]
    refine g_ias f_X10_keep_253 (by assumption) 108 (by omega) (by omega) ?_
    refine g_alv f_X10_keep_254 rfl ?_
    refine g_const f_X10_keep_255 ?_
    refine g_alv f_X10_keep_257 rfl ?_
    refine g_getI f_X10_keep_258 (by assumption) ?_
    rw [up_row (show 87 ≠ r by omega), up_row (show 87 ≠ r by omega), up_row (show 87 ≠ r by omega), up_row (show 87 ≠ r by omega), hK.1 87 (by omega)]
    refine g_ias f_X10_keep_261 (by assumption) 109 (by omega) (by omega) ?_
    refine g_alv f_X10_keep_262 rfl ?_
    refine g_const f_X10_keep_263 ?_
    refine g_alv f_X10_keep_265 rfl ?_
    refine g_getI f_X10_keep_266 (by assumption) ?_
    rw [up_row (show 87 ≠ r by omega), up_row (show 87 ≠ r by omega), up_row (show 87 ≠ r by omega), up_row (show 87 ≠ r by omega), up_row (show 87 ≠ r by omega), hK.1 87 (by omega)]
    refine g_ias f_X10_keep_269 (by assumption) 110 (by omega) (by omega) ?_
    refine g_alv f_X10_keep_270 rfl ?_
    refine g_const f_X10_keep_271 ?_
    refine g_alv f_X10_keep_273 rfl ?_
    refine g_getI f_X10_keep_274 (by assumption) ?_
    rw [up_row (show 87 ≠ r by omega), up_row (show 87 ≠ r by omega), up_row (show 87 ≠ r by omega), up_row (show 87 ≠ r by omega), up_row (show 87 ≠ r by omega), up_row (show 87 ≠ r by omega), hK.1 87 (by omega)]
    refine g_ias f_X10_keep_277 (by assumption) 111 (by omega) (by omega) ?_
    refine g_ret0 (κ := 0) f_X10_keep_278 rfl 0 ?_ (Nat.zero_le _) (Nat.zero_le _)
    have h9 := (KP.upR (i := 111) (KP.upR (i := 110) (KP.upR (i := 109) (KP.upR (i := 108) (KP.upR (i := 107) (KP.upR (i := 106) (KP.upR (i := 105) hK (v := M 87 0) rfl) (v := M 87 7) rfl) (v := M 87 8) rfl) (v := M 87 25) rfl) (v := M 87 29) rfl) (v := M 87 32) rfl) (v := M 87 16) rfl)
    exact ⟨rfl, h9.1, fun j hj => h9.2 j (by omega)⟩
  have loop5 : ∀ (k n : Nat) (M1 : Mm), n + k = 8 → KP M M1 r (fun j => j < 89 ∨ (89 ≤ j ∧ j < 105 ∧ (j - 89) % 8 < n)) → Go γ Ω mX10_keep (Zm γ Ω 0 0 0 (fun _ S' M' => S' = S ∧ (∀ k, k ≠ r → M' k = M k) ∧ ∀ j, j < 112 → M' r j = snp M j)) 0 0 S M1 186 [some (vr Ω 87), some (vr Ω r), some (vi (n : Int))] [] := by
    intro k
    induction k with
    | zero =>
      intro n M1 hk hK
      have hn : n = 8 := by omega
      subst hn
      refine g_ild f_X10_keep_186 rfl ?_
      refine g_const f_X10_keep_187 ?_
      refine g_icmp_ge f_X10_keep_189 rfl (by omega) (by omega) (fun hc => ?_) (fun hc => ?_)
      · exact aft5 M1 _ (hK.mono (fun j hj => by omega))
      · exact absurd (by omega) hc
    | succ k ih =>
      intro n M1 hk hK
      have hn : n < 8 := by omega
      refine g_ild f_X10_keep_186 rfl ?_
      refine g_const f_X10_keep_187 ?_
      refine g_icmp_ge f_X10_keep_189 rfl (by omega) (by omega) (fun hc => ?_) (fun hc => ?_)
      · exact absurd hc (by omega)
      refine g_alv f_X10_keep_192 rfl ?_
      refine g_const f_X10_keep_193 ?_
      refine g_ild f_X10_keep_195 rfl ?_
      refine g_iadd f_X10_keep_196 ?_
      refine g_alv f_X10_keep_197 rfl ?_
      refine g_getR f_X10_keep_198 (by assumption) (by assumption) ?_
      refine g_ild f_X10_keep_201 rfl ?_
      refine g_ial f_X10_keep_202 (by assumption) n (by omega) (by omega) ?_
      rw [hK.1 107 (by omega)]
      refine g_ias f_X10_keep_203 (by assumption) (89 + n) (by omega) (by omega) ?_
      refine g_alv f_X10_keep_204 rfl ?_
      refine g_const f_X10_keep_205 ?_
      refine g_ild f_X10_keep_207 rfl ?_
      refine g_iadd f_X10_keep_208 ?_
      refine g_alv f_X10_keep_209 rfl ?_
      refine g_getR f_X10_keep_210 (by assumption) (by assumption) ?_
      refine g_ild f_X10_keep_213 rfl ?_
      refine g_ial f_X10_keep_214 (by assumption) n (by omega) (by omega) ?_
      rw [up_row (show 108 ≠ r by omega), hK.1 108 (by omega)]
      refine g_ias f_X10_keep_215 (by assumption) (97 + n) (by omega) (by omega) ?_
      refine g_inc_2 f_X10_keep_216 (by decide) c1v ?_
      refine g_goto f_X10_keep_219 ?_
      have h9 := (KP.upR (i := 97 + n) (KP.upR (i := 89 + n) hK (v := M 107 n) (snp_89 hn).symm) (v := M 108 n) (snp_97 hn).symm)
      exact ih (n + 1) _ (by omega) (h9.mono (fun j hj => by omega))
  have loop4 : ∀ (k n : Nat) (M1 : Mm), n + k = 10 → KP M M1 r (fun j => j < 69 ∨ (69 ≤ j ∧ j < 89 ∧ (j - 69) % 10 < n)) → Go γ Ω mX10_keep (Zm γ Ω 0 0 0 (fun _ S' M' => S' = S ∧ (∀ k, k ≠ r → M' k = M k) ∧ ∀ j, j < 112 → M' r j = snp M j)) 0 0 S M1 148 [some (vr Ω 87), some (vr Ω r), some (vi (n : Int))] [] := by
    intro k
    induction k with
    | zero =>
      intro n M1 hk hK
      have hn : n = 10 := by omega
      subst hn
      refine g_ild f_X10_keep_148 rfl ?_
      refine g_const f_X10_keep_149 ?_
      refine g_icmp_ge f_X10_keep_151 rfl (by omega) (by omega) (fun hc => ?_) (fun hc => ?_)
      · refine g_const f_X10_keep_184 ?_
        refine g_ist_2 f_X10_keep_185 (by decide) c1v ?_
        exact loop5 8 0 M1 rfl (hK.mono (fun j hj => by omega))
      · exact absurd (by omega) hc
    | succ k ih =>
      intro n M1 hk hK
      have hn : n < 10 := by omega
      refine g_ild f_X10_keep_148 rfl ?_
      refine g_const f_X10_keep_149 ?_
      refine g_icmp_ge f_X10_keep_151 rfl (by omega) (by omega) (fun hc => ?_) (fun hc => ?_)
      · exact absurd hc (by omega)
      refine g_alv f_X10_keep_154 rfl ?_
      refine g_const f_X10_keep_155 ?_
      refine g_ild f_X10_keep_157 rfl ?_
      refine g_iadd f_X10_keep_158 ?_
      refine g_alv f_X10_keep_159 rfl ?_
      refine g_getR f_X10_keep_160 (by assumption) (by assumption) ?_
      refine g_ild f_X10_keep_163 rfl ?_
      refine g_ial f_X10_keep_164 (by assumption) n (by omega) (by omega) ?_
      rw [hK.1 105 (by omega)]
      refine g_ias f_X10_keep_165 (by assumption) (69 + n) (by omega) (by omega) ?_
      refine g_alv f_X10_keep_166 rfl ?_
      refine g_const f_X10_keep_167 ?_
      refine g_ild f_X10_keep_169 rfl ?_
      refine g_iadd f_X10_keep_170 ?_
      refine g_alv f_X10_keep_171 rfl ?_
      refine g_getR f_X10_keep_172 (by assumption) (by assumption) ?_
      refine g_ild f_X10_keep_175 rfl ?_
      refine g_ial f_X10_keep_176 (by assumption) n (by omega) (by omega) ?_
      rw [up_row (show 106 ≠ r by omega), hK.1 106 (by omega)]
      refine g_ias f_X10_keep_177 (by assumption) (79 + n) (by omega) (by omega) ?_
      refine g_inc_2 f_X10_keep_178 (by decide) c1v ?_
      refine g_goto f_X10_keep_181 ?_
      have h9 := (KP.upR (i := 79 + n) (KP.upR (i := 69 + n) hK (v := M 105 n) (snp_69 hn).symm) (v := M 106 n) (snp_79 hn).symm)
      exact ih (n + 1) _ (by omega) (h9.mono (fun j hj => by omega))
  have loop3 : ∀ (k n : Nat) (M1 : Mm), n + k = 5 → KP M M1 r (fun j => j < 54 ∨ (54 ≤ j ∧ j < 69 ∧ (j - 54) % 5 < n)) → Go γ Ω mX10_keep (Zm γ Ω 0 0 0 (fun _ S' M' => S' = S ∧ (∀ k, k ≠ r → M' k = M k) ∧ ∀ j, j < 112 → M' r j = snp M j)) 0 0 S M1 99 [some (vr Ω 87), some (vr Ω r), some (vi (n : Int))] [] := by
    intro k
    induction k with
    | zero =>
      intro n M1 hk hK
      have hn : n = 5 := by omega
      subst hn
      refine g_ild f_X10_keep_99 rfl ?_
      refine g_const f_X10_keep_100 ?_
      refine g_icmp_ge f_X10_keep_101 rfl (by omega) (by omega) (fun hc => ?_) (fun hc => ?_)
      · refine g_const f_X10_keep_146 ?_
        refine g_ist_2 f_X10_keep_147 (by decide) c1v ?_
        exact loop4 10 0 M1 rfl (hK.mono (fun j hj => by omega))
      · exact absurd (by omega) hc
    | succ k ih =>
      intro n M1 hk hK
      have hn : n < 5 := by omega
      refine g_ild f_X10_keep_99 rfl ?_
      refine g_const f_X10_keep_100 ?_
      refine g_icmp_ge f_X10_keep_101 rfl (by omega) (by omega) (fun hc => ?_) (fun hc => ?_)
      · exact absurd hc (by omega)
      refine g_alv f_X10_keep_104 rfl ?_
      refine g_const f_X10_keep_105 ?_
      refine g_ild f_X10_keep_107 rfl ?_
      refine g_iadd f_X10_keep_108 ?_
      refine g_alv f_X10_keep_109 rfl ?_
      refine g_getR f_X10_keep_110 (by assumption) (by assumption) ?_
      refine g_ild f_X10_keep_113 rfl ?_
      refine g_ial f_X10_keep_114 (by assumption) n (by omega) (by omega) ?_
      rw [hK.1 102 (by omega)]
      refine g_ias f_X10_keep_115 (by assumption) (54 + n) (by omega) (by omega) ?_
      refine g_alv f_X10_keep_116 rfl ?_
      refine g_const f_X10_keep_117 ?_
      refine g_ild f_X10_keep_119 rfl ?_
      refine g_iadd f_X10_keep_120 ?_
      refine g_alv f_X10_keep_121 rfl ?_
      refine g_getR f_X10_keep_122 (by assumption) (by assumption) ?_
      refine g_ild f_X10_keep_125 rfl ?_
      refine g_ial f_X10_keep_126 (by assumption) n (by omega) (by omega) ?_
      rw [up_row (show 103 ≠ r by omega), hK.1 103 (by omega)]
      refine g_ias f_X10_keep_127 (by assumption) (59 + n) (by omega) (by omega) ?_
      refine g_alv f_X10_keep_128 rfl ?_
      refine g_const f_X10_keep_129 ?_
      refine g_ild f_X10_keep_131 rfl ?_
      refine g_iadd f_X10_keep_132 ?_
      refine g_alv f_X10_keep_133 rfl ?_
      refine g_getR f_X10_keep_134 (by assumption) (by assumption) ?_
      refine g_ild f_X10_keep_137 rfl ?_
      refine g_ial f_X10_keep_138 (by assumption) n (by omega) (by omega) ?_
      rw [up_row (show 104 ≠ r by omega), up_row (show 104 ≠ r by omega), hK.1 104 (by omega)]
      refine g_ias f_X10_keep_139 (by assumption) (64 + n) (by omega) (by omega) ?_
      refine g_inc_2 f_X10_keep_140 (by decide) c1v ?_
      refine g_goto f_X10_keep_143 ?_
      have h9 := (KP.upR (i := 64 + n) (KP.upR (i := 59 + n) (KP.upR (i := 54 + n) hK (v := M 102 n) (snp_54 hn).symm) (v := M 103 n) (snp_59 hn).symm) (v := M 104 n) (snp_64 hn).symm)
      exact ih (n + 1) _ (by omega) (h9.mono (fun j hj => by omega))
  have loop2 : ∀ (k n : Nat) (M1 : Mm), n + k = 24 → KP M M1 r (fun j => j < 30 + n) → Go γ Ω mX10_keep (Zm γ Ω 0 0 0 (fun _ S' M' => S' = S ∧ (∀ k, k ≠ r → M' k = M k) ∧ ∀ j, j < 112 → M' r j = snp M j)) 0 0 S M1 73 [some (vr Ω 87), some (vr Ω r), some (vi (n : Int))] [] := by
    intro k
    induction k with
    | zero =>
      intro n M1 hk hK
      have hn : n = 24 := by omega
      subst hn
      refine g_ild f_X10_keep_73 rfl ?_
      refine g_const f_X10_keep_74 ?_
      refine g_icmp_ge f_X10_keep_76 rfl (by omega) (by omega) (fun hc => ?_) (fun hc => ?_)
      · refine g_const f_X10_keep_97 ?_
        refine g_ist_2 f_X10_keep_98 (by decide) c1v ?_
        exact loop3 5 0 M1 rfl (hK.mono (fun j hj => by omega))
      · exact absurd (by omega) hc
    | succ k ih =>
      intro n M1 hk hK
      have hn : n < 24 := by omega
      refine g_ild f_X10_keep_73 rfl ?_
      refine g_const f_X10_keep_74 ?_
      refine g_icmp_ge f_X10_keep_76 rfl (by omega) (by omega) (fun hc => ?_) (fun hc => ?_)
      · exact absurd hc (by omega)
      refine g_alv f_X10_keep_79 rfl ?_
      refine g_const f_X10_keep_80 ?_
      refine g_ild f_X10_keep_82 rfl ?_
      refine g_iadd f_X10_keep_83 ?_
      refine g_alv f_X10_keep_84 rfl ?_
      refine g_getR f_X10_keep_85 (by assumption) (by assumption) ?_
      refine g_ild f_X10_keep_88 rfl ?_
      refine g_ial f_X10_keep_89 (by assumption) n (by omega) (by omega) ?_
      rw [hK.1 93 (by omega)]
      refine g_ias f_X10_keep_90 (by assumption) (30 + n) (by omega) (by omega) ?_
      refine g_inc_2 f_X10_keep_91 (by decide) c1v ?_
      refine g_goto f_X10_keep_94 ?_
      have h9 := (KP.upR (i := 30 + n) hK (v := M 93 n) (snp_30 hn).symm)
      exact ih (n + 1) _ (by omega) (h9.mono (fun j hj => by omega))
  have loop1 : ∀ (k n : Nat) (M1 : Mm), n + k = 6 → KP M M1 r (fun j => j % 6 < n ∧ j < 30) → Go γ Ω mX10_keep (Zm γ Ω 0 0 0 (fun _ S' M' => S' = S ∧ (∀ k, k ≠ r → M' k = M k) ∧ ∀ j, j < 112 → M' r j = snp M j)) 0 0 S M1 2 [some (vr Ω 87), some (vr Ω r), some (vi (n : Int))] [] := by
    intro k
    induction k with
    | zero =>
      intro n M1 hk hK
      have hn : n = 6 := by omega
      subst hn
      refine g_ild f_X10_keep_2 rfl ?_
      refine g_const f_X10_keep_3 ?_
      refine g_icmp_ge f_X10_keep_5 rfl (by omega) (by omega) (fun hc => ?_) (fun hc => ?_)
      · refine g_const f_X10_keep_71 ?_
        refine g_ist_2 f_X10_keep_72 (by decide) c1v ?_
        exact loop2 24 0 M1 rfl (hK.mono (fun j hj => by omega))
      · exact absurd (by omega) hc
    | succ k ih =>
      intro n M1 hk hK
      have hn : n < 6 := by omega
      refine g_ild f_X10_keep_2 rfl ?_
      refine g_const f_X10_keep_3 ?_
      refine g_icmp_ge f_X10_keep_5 rfl (by omega) (by omega) (fun hc => ?_) (fun hc => ?_)
      · exact absurd hc (by omega)
      refine g_alv f_X10_keep_8 rfl ?_
      refine g_ild f_X10_keep_9 rfl ?_
      refine g_alv f_X10_keep_10 rfl ?_
      refine g_getR f_X10_keep_11 (by assumption) (by assumption) ?_
      refine g_ild f_X10_keep_14 rfl ?_
      refine g_ial f_X10_keep_15 (by assumption) n (by omega) (by omega) ?_
      rw [hK.1 88 (by omega)]
      refine g_ias f_X10_keep_16 (by assumption) n (by omega) (by omega) ?_
      refine g_alv f_X10_keep_17 rfl ?_
      refine g_const f_X10_keep_18 ?_
      refine g_ild f_X10_keep_20 rfl ?_
      refine g_iadd f_X10_keep_21 ?_
      refine g_alv f_X10_keep_22 rfl ?_
      refine g_getR f_X10_keep_23 (by assumption) (by assumption) ?_
      refine g_ild f_X10_keep_26 rfl ?_
      refine g_ial f_X10_keep_27 (by assumption) n (by omega) (by omega) ?_
      rw [up_row (show 89 ≠ r by omega), hK.1 89 (by omega)]
      refine g_ias f_X10_keep_28 (by assumption) (6 + n) (by omega) (by omega) ?_
      refine g_alv f_X10_keep_29 rfl ?_
      refine g_const f_X10_keep_30 ?_
      refine g_ild f_X10_keep_32 rfl ?_
      refine g_iadd f_X10_keep_33 ?_
      refine g_alv f_X10_keep_34 rfl ?_
      refine g_getR f_X10_keep_35 (by assumption) (by assumption) ?_
      refine g_ild f_X10_keep_38 rfl ?_
      refine g_ial f_X10_keep_39 (by assumption) n (by omega) (by omega) ?_
      rw [up_row (show 90 ≠ r by omega), up_row (show 90 ≠ r by omega), hK.1 90 (by omega)]
      refine g_ias f_X10_keep_40 (by assumption) (12 + n) (by omega) (by omega) ?_
      refine g_alv f_X10_keep_41 rfl ?_
      refine g_const f_X10_keep_42 ?_
      refine g_ild f_X10_keep_44 rfl ?_
      refine g_iadd f_X10_keep_45 ?_
      refine g_alv f_X10_keep_46 rfl ?_
      refine g_getR f_X10_keep_47 (by assumption) (by assumption) ?_
      refine g_ild f_X10_keep_50 rfl ?_
      refine g_ial f_X10_keep_51 (by assumption) n (by omega) (by omega) ?_
      rw [up_row (show 91 ≠ r by omega), up_row (show 91 ≠ r by omega), up_row (show 91 ≠ r by omega), hK.1 91 (by omega)]
      refine g_ias f_X10_keep_52 (by assumption) (18 + n) (by omega) (by omega) ?_
      refine g_alv f_X10_keep_53 rfl ?_
      refine g_const f_X10_keep_54 ?_
      refine g_ild f_X10_keep_56 rfl ?_
      refine g_iadd f_X10_keep_57 ?_
      refine g_alv f_X10_keep_58 rfl ?_
      refine g_getR f_X10_keep_59 (by assumption) (by assumption) ?_
      refine g_ild f_X10_keep_62 rfl ?_
      refine g_ial f_X10_keep_63 (by assumption) n (by omega) (by omega) ?_
      rw [up_row (show 92 ≠ r by omega), up_row (show 92 ≠ r by omega), up_row (show 92 ≠ r by omega), up_row (show 92 ≠ r by omega), hK.1 92 (by omega)]
      refine g_ias f_X10_keep_64 (by assumption) (24 + n) (by omega) (by omega) ?_
      refine g_inc_2 f_X10_keep_65 (by decide) c1v ?_
      refine g_goto f_X10_keep_68 ?_
      have h9 := (KP.upR (i := 24 + n) (KP.upR (i := 18 + n) (KP.upR (i := 12 + n) (KP.upR (i := 6 + n) (KP.upR (i := n) hK (v := M 88 n) (snp_z hn).symm) (v := M 89 n) (snp_6 hn).symm) (v := M 90 n) (snp_12 hn).symm) (v := M 91 n) (snp_18 hn).symm) (v := M 92 n) (snp_24 hn).symm)
      exact ih (n + 1) _ (by omega) (h9.mono (fun j hj => by omega))
  refine g_const f_X10_keep_0 ?_
  refine g_ist_2 f_X10_keep_1 (by decide) c1v ?_
  exact loop1 6 0 M rfl ⟨fun _ _ => rfl, fun j hj => absurd hj (by omega)⟩

set_option maxHeartbeats 4000000 in
set_option maxRecDepth 100000 in
theorem c_magain {Ω : Ow} {S : Sg} {M : Mm} (hG : Gr S) {r : Nat} (hr : r = 110 ∨ r = 111) : Ct Ω mX10_again 1 0 0 0 [vr Ω 87, vr Ω r] S M (fun _ S' M' => S' = S ∧ AG M M' r (fun j => j < 112)) := by
  refine Ct.mk (by decide) (Nat.le_of_ble_eq_true rfl) [some (vr Ω 87), some (vr Ω r), none] (by intro q hq; exact hq) (fun γ hγ hz => ?_)
  have aR : Ar S r 12 112 := by
    rcases hr with rfl | rfl
    · exact arn hG (by decide +kernel)
    · exact arn hG (by decide +kernel)
  have o87 := om87 hG
  have gM1 : _ = ((88 : Nat) : Int) := grn hG (k := 87) (j := 1) (by decide)
  have aM88 := arn hG (r := 88) (c := 12) (n := 6) (by decide +kernel)
  have gM2 : _ = ((89 : Nat) : Int) := grn hG (k := 87) (j := 2) (by decide)
  have aM89 := arn hG (r := 89) (c := 12) (n := 6) (by decide +kernel)
  have gM3 : _ = ((90 : Nat) : Int) := grn hG (k := 87) (j := 3) (by decide)
  have aM90 := arn hG (r := 90) (c := 12) (n := 6) (by decide +kernel)
  have gM4 : _ = ((91 : Nat) : Int) := grn hG (k := 87) (j := 4) (by decide)
  have aM91 := arn hG (r := 91) (c := 12) (n := 6) (by decide +kernel)
  have gM5 : _ = ((92 : Nat) : Int) := grn hG (k := 87) (j := 5) (by decide)
  have aM92 := arn hG (r := 92) (c := 12) (n := 6) (by decide +kernel)
  have gM6 : _ = ((93 : Nat) : Int) := grn hG (k := 87) (j := 6) (by decide)
  have aM93 := arn hG (r := 93) (c := 12) (n := 24) (by decide +kernel)
  have gM26 : _ = ((102 : Nat) : Int) := grn hG (k := 87) (j := 26) (by decide)
  have aM102 := arn hG (r := 102) (c := 12) (n := 5) (by decide +kernel)
  have gM27 : _ = ((103 : Nat) : Int) := grn hG (k := 87) (j := 27) (by decide)
  have aM103 := arn hG (r := 103) (c := 12) (n := 5) (by decide +kernel)
  have gM28 : _ = ((104 : Nat) : Int) := grn hG (k := 87) (j := 28) (by decide)
  have aM104 := arn hG (r := 104) (c := 12) (n := 5) (by decide +kernel)
  have gM30 : _ = ((105 : Nat) : Int) := grn hG (k := 87) (j := 30) (by decide)
  have aM105 := arn hG (r := 105) (c := 12) (n := 10) (by decide +kernel)
  have gM31 : _ = ((106 : Nat) : Int) := grn hG (k := 87) (j := 31) (by decide)
  have aM106 := arn hG (r := 106) (c := 12) (n := 10) (by decide +kernel)
  have gM33 : _ = ((107 : Nat) : Int) := grn hG (k := 87) (j := 33) (by decide)
  have aM107 := arn hG (r := 107) (c := 12) (n := 8) (by decide +kernel)
  have gM34 : _ = ((108 : Nat) : Int) := grn hG (k := 87) (j := 34) (by decide)
  have aM108 := arn hG (r := 108) (c := 12) (n := 8) (by decide +kernel)
  have aft5 : ∀ (M1 : Mm) (v2 : Option Value), AG M M1 r (fun j => j < 105) → Go γ Ω mX10_again (Zm γ Ω 0 0 0 (fun _ S' M' => S' = S ∧ AG M M' r (fun j => j < 112))) 0 0 S M1 222 [some (vr Ω 87), some (vr Ω r), v2] [] := by
    intro M1 v2 hK
    refine g_alv f_X10_again_222 rfl ?_
    refine g_alv f_X10_again_223 rfl ?_
    refine g_const f_X10_again_224 ?_
    refine g_ial f_X10_again_226 (by assumption) 105 (by omega) (by omega) ?_
    rw [hK.row (by omega)]
    refine g_putI f_X10_again_227 rfl (by assumption) ?_
    refine g_alv f_X10_again_230 rfl ?_
    refine g_alv f_X10_again_231 rfl ?_
    refine g_const f_X10_again_232 ?_
    refine g_ial f_X10_again_234 (by assumption) 106 (by omega) (by omega) ?_
    rw [up_row (show r ≠ 87 by omega), hK.row (by omega)]
    refine g_putI f_X10_again_235 rfl (by assumption) ?_
    refine g_alv f_X10_again_238 rfl ?_
    refine g_alv f_X10_again_239 rfl ?_
    refine g_const f_X10_again_240 ?_
    refine g_ial f_X10_again_242 (by assumption) 107 (by omega) (by omega) ?_
    rw [up_row (show r ≠ 87 by omega), up_row (show r ≠ 87 by omega), hK.row (by omega)]
    refine g_putI f_X10_again_243 rfl (by assumption) ?_
    refine g_alv f_X10_again_246 rfl ?_
    refine g_alv f_X10_again_247 rfl ?_
    refine g_const f_X10_again_248 ?_
    refine g_ial f_X10_again_250 (by assumption) 108 (by omega) (by omega) ?_
    rw [up_row (show r ≠ 87 by omega), up_row (show r ≠ 87 by omega), up_row (show r ≠ 87 by omega), hK.row (by omega)]
    refine g_putI f_X10_again_251 rfl (by assumption) ?_
    refine g_alv f_X10_again_254 rfl ?_
    refine g_alv f_X10_again_255 rfl ?_
    refine g_const f_X10_again_256 ?_
    refine g_ial f_X10_again_258 (by assumption) 109 (by omega) (by omega) ?_
    rw [up_row (show r ≠ 87 by omega), up_row (show r ≠ 87 by omega), up_row (show r ≠ 87 by omega), up_row (show r ≠ 87 by omega), hK.row (by omega)]
    refine g_putI f_X10_again_259 rfl (by assumption) ?_
    refine g_alv f_X10_again_262 rfl ?_
    refine g_alv f_X10_again_263 rfl ?_
    refine g_const f_X10_again_264 ?_
    refine g_ial f_X10_again_266 (by assumption) 110 (by omega) (by omega) ?_
    rw [up_row (show r ≠ 87 by omega), up_row (show r ≠ 87 by omega), up_row (show r ≠ 87 by omega), up_row (show r ≠ 87 by omega), up_row (show r ≠ 87 by omega), hK.row (by omega)]
    refine g_putI f_X10_again_267 rfl (by assumption) ?_
    refine g_alv f_X10_again_270 rfl ?_
    refine g_alv f_X10_again_271 rfl ?_
    refine g_const f_X10_again_272 ?_
    refine g_ial f_X10_again_274 (by assumption) 111 (by omega) (by omega) ?_
    rw [up_row (show r ≠ 87 by omega), up_row (show r ≠ 87 by omega), up_row (show r ≠ 87 by omega), up_row (show r ≠ 87 by omega), up_row (show r ≠ 87 by omega), up_row (show r ≠ 87 by omega), hK.row (by omega)]
    refine g_putI f_X10_again_275 rfl (by assumption) ?_
    refine g_ret0 (κ := 0) f_X10_again_278 rfl 0 ?_ (Nat.zero_le _) (Nat.zero_le _)
    have h9 := (AG.upR (i := 111) (k := 87) (j := 16) (AG.upR (i := 110) (k := 87) (j := 32) (AG.upR (i := 109) (k := 87) (j := 29) (AG.upR (i := 108) (k := 87) (j := 25) (AG.upR (i := 107) (k := 87) (j := 8) (AG.upR (i := 106) (k := 87) (j := 7) (AG.upR (i := 105) (k := 87) (j := 0) hK (by decide) (by decide +kernel) (v := M r 105) rfl) (by decide) (by decide +kernel) (v := M r 106) rfl) (by decide) (by decide +kernel) (v := M r 107) rfl) (by decide) (by decide +kernel) (v := M r 108) rfl) (by decide) (by decide +kernel) (v := M r 109) rfl) (by decide) (by decide +kernel) (v := M r 110) rfl) (by decide) (by decide +kernel) (v := M r 111) rfl)
    exact ⟨rfl, h9.mono (fun j hj => by omega)⟩
  have loop5 : ∀ (k n : Nat) (M1 : Mm), n + k = 8 → AG M M1 r (fun j => j < 89 ∨ (89 ≤ j ∧ j < 105 ∧ (j - 89) % 8 < n)) → Go γ Ω mX10_again (Zm γ Ω 0 0 0 (fun _ S' M' => S' = S ∧ AG M M' r (fun j => j < 112))) 0 0 S M1 186 [some (vr Ω 87), some (vr Ω r), some (vi (n : Int))] [] := by
    intro k
    induction k with
    | zero =>
      intro n M1 hk hK
      have hn : n = 8 := by omega
      subst hn
      refine g_ild f_X10_again_186 rfl ?_
      refine g_const f_X10_again_187 ?_
      refine g_icmp_ge f_X10_again_189 rfl (by omega) (by omega) (fun hc => ?_) (fun hc => ?_)
      · exact aft5 M1 _ (hK.mono (fun j hj => by omega))
      · exact absurd (by omega) hc
    | succ k ih =>
      intro n M1 hk hK
      have hn : n < 8 := by omega
      refine g_ild f_X10_again_186 rfl ?_
      refine g_const f_X10_again_187 ?_
      refine g_icmp_ge f_X10_again_189 rfl (by omega) (by omega) (fun hc => ?_) (fun hc => ?_)
      · exact absurd hc (by omega)
      refine g_alv f_X10_again_192 rfl ?_
      refine g_getR f_X10_again_193 (by assumption) (by assumption) ?_
      refine g_ild f_X10_again_196 rfl ?_
      refine g_alv f_X10_again_197 rfl ?_
      refine g_const f_X10_again_198 ?_
      refine g_ild f_X10_again_200 rfl ?_
      refine g_iadd f_X10_again_201 ?_
      refine g_ial f_X10_again_202 (by assumption) (89 + n) (by omega) (by omega) ?_
      rw [hK.row (by omega)]
      refine g_ias f_X10_again_203 (by assumption) n (by omega) (by omega) ?_
      refine g_alv f_X10_again_204 rfl ?_
      refine g_getR f_X10_again_205 (by assumption) (by assumption) ?_
      refine g_ild f_X10_again_208 rfl ?_
      refine g_alv f_X10_again_209 rfl ?_
      refine g_const f_X10_again_210 ?_
      refine g_ild f_X10_again_212 rfl ?_
      refine g_iadd f_X10_again_213 ?_
      refine g_ial f_X10_again_214 (by assumption) (97 + n) (by omega) (by omega) ?_
      rw [up_row (show r ≠ 107 by omega), hK.row (by omega)]
      refine g_ias f_X10_again_215 (by assumption) n (by omega) (by omega) ?_
      refine g_inc_2 f_X10_again_216 (by decide) c1v ?_
      refine g_goto f_X10_again_219 ?_
      have h9 := (AG.upR (i := 97 + n) (k := 108) (j := n) (AG.upR (i := 89 + n) (k := 107) (j := n) hK (by omega) (cel_89 n hn) (v := M r (89 + n)) rfl) (by omega) (cel_97 n hn) (v := M r (97 + n)) rfl)
      exact ih (n + 1) _ (by omega) (h9.mono (fun j hj => by omega))
  have loop4 : ∀ (k n : Nat) (M1 : Mm), n + k = 10 → AG M M1 r (fun j => j < 69 ∨ (69 ≤ j ∧ j < 89 ∧ (j - 69) % 10 < n)) → Go γ Ω mX10_again (Zm γ Ω 0 0 0 (fun _ S' M' => S' = S ∧ AG M M' r (fun j => j < 112))) 0 0 S M1 148 [some (vr Ω 87), some (vr Ω r), some (vi (n : Int))] [] := by
    intro k
    induction k with
    | zero =>
      intro n M1 hk hK
      have hn : n = 10 := by omega
      subst hn
      refine g_ild f_X10_again_148 rfl ?_
      refine g_const f_X10_again_149 ?_
      refine g_icmp_ge f_X10_again_151 rfl (by omega) (by omega) (fun hc => ?_) (fun hc => ?_)
      · refine g_const f_X10_again_184 ?_
        refine g_ist_2 f_X10_again_185 (by decide) c1v ?_
        exact loop5 8 0 M1 rfl (hK.mono (fun j hj => by omega))
      · exact absurd (by omega) hc
    | succ k ih =>
      intro n M1 hk hK
      have hn : n < 10 := by omega
      refine g_ild f_X10_again_148 rfl ?_
      refine g_const f_X10_again_149 ?_
      refine g_icmp_ge f_X10_again_151 rfl (by omega) (by omega) (fun hc => ?_) (fun hc => ?_)
      · exact absurd hc (by omega)
      refine g_alv f_X10_again_154 rfl ?_
      refine g_getR f_X10_again_155 (by assumption) (by assumption) ?_
      refine g_ild f_X10_again_158 rfl ?_
      refine g_alv f_X10_again_159 rfl ?_
      refine g_const f_X10_again_160 ?_
      refine g_ild f_X10_again_162 rfl ?_
      refine g_iadd f_X10_again_163 ?_
      refine g_ial f_X10_again_164 (by assumption) (69 + n) (by omega) (by omega) ?_
      rw [hK.row (by omega)]
      refine g_ias f_X10_again_165 (by assumption) n (by omega) (by omega) ?_
      refine g_alv f_X10_again_166 rfl ?_
      refine g_getR f_X10_again_167 (by assumption) (by assumption) ?_
      refine g_ild f_X10_again_170 rfl ?_
      refine g_alv f_X10_again_171 rfl ?_
      refine g_const f_X10_again_172 ?_
      refine g_ild f_X10_again_174 rfl ?_
      refine g_iadd f_X10_again_175 ?_
      refine g_ial f_X10_again_176 (by assumption) (79 + n) (by omega) (by omega) ?_
      rw [up_row (show r ≠ 105 by omega), hK.row (by omega)]
      refine g_ias f_X10_again_177 (by assumption) n (by omega) (by omega) ?_
      refine g_inc_2 f_X10_again_178 (by decide) c1v ?_
      refine g_goto f_X10_again_181 ?_
      have h9 := (AG.upR (i := 79 + n) (k := 106) (j := n) (AG.upR (i := 69 + n) (k := 105) (j := n) hK (by omega) (cel_69 n hn) (v := M r (69 + n)) rfl) (by omega) (cel_79 n hn) (v := M r (79 + n)) rfl)
      exact ih (n + 1) _ (by omega) (h9.mono (fun j hj => by omega))
  have loop3 : ∀ (k n : Nat) (M1 : Mm), n + k = 5 → AG M M1 r (fun j => j < 54 ∨ (54 ≤ j ∧ j < 69 ∧ (j - 54) % 5 < n)) → Go γ Ω mX10_again (Zm γ Ω 0 0 0 (fun _ S' M' => S' = S ∧ AG M M' r (fun j => j < 112))) 0 0 S M1 99 [some (vr Ω 87), some (vr Ω r), some (vi (n : Int))] [] := by
    intro k
    induction k with
    | zero =>
      intro n M1 hk hK
      have hn : n = 5 := by omega
      subst hn
      refine g_ild f_X10_again_99 rfl ?_
      refine g_const f_X10_again_100 ?_
      refine g_icmp_ge f_X10_again_101 rfl (by omega) (by omega) (fun hc => ?_) (fun hc => ?_)
      · refine g_const f_X10_again_146 ?_
        refine g_ist_2 f_X10_again_147 (by decide) c1v ?_
        exact loop4 10 0 M1 rfl (hK.mono (fun j hj => by omega))
      · exact absurd (by omega) hc
    | succ k ih =>
      intro n M1 hk hK
      have hn : n < 5 := by omega
      refine g_ild f_X10_again_99 rfl ?_
      refine g_const f_X10_again_100 ?_
      refine g_icmp_ge f_X10_again_101 rfl (by omega) (by omega) (fun hc => ?_) (fun hc => ?_)
      · exact absurd hc (by omega)
      refine g_alv f_X10_again_104 rfl ?_
      refine g_getR f_X10_again_105 (by assumption) (by assumption) ?_
      refine g_ild f_X10_again_108 rfl ?_
      refine g_alv f_X10_again_109 rfl ?_
      refine g_const f_X10_again_110 ?_
      refine g_ild f_X10_again_112 rfl ?_
      refine g_iadd f_X10_again_113 ?_
      refine g_ial f_X10_again_114 (by assumption) (54 + n) (by omega) (by omega) ?_
      rw [hK.row (by omega)]
      refine g_ias f_X10_again_115 (by assumption) n (by omega) (by omega) ?_
      refine g_alv f_X10_again_116 rfl ?_
      refine g_getR f_X10_again_117 (by assumption) (by assumption) ?_
      refine g_ild f_X10_again_120 rfl ?_
      refine g_alv f_X10_again_121 rfl ?_
      refine g_const f_X10_again_122 ?_
      refine g_ild f_X10_again_124 rfl ?_
      refine g_iadd f_X10_again_125 ?_
      refine g_ial f_X10_again_126 (by assumption) (59 + n) (by omega) (by omega) ?_
      rw [up_row (show r ≠ 102 by omega), hK.row (by omega)]
      refine g_ias f_X10_again_127 (by assumption) n (by omega) (by omega) ?_
      refine g_alv f_X10_again_128 rfl ?_
      refine g_getR f_X10_again_129 (by assumption) (by assumption) ?_
      refine g_ild f_X10_again_132 rfl ?_
      refine g_alv f_X10_again_133 rfl ?_
      refine g_const f_X10_again_134 ?_
      refine g_ild f_X10_again_136 rfl ?_
      refine g_iadd f_X10_again_137 ?_
      refine g_ial f_X10_again_138 (by assumption) (64 + n) (by omega) (by omega) ?_
      rw [up_row (show r ≠ 103 by omega), up_row (show r ≠ 102 by omega), hK.row (by omega)]
      refine g_ias f_X10_again_139 (by assumption) n (by omega) (by omega) ?_
      refine g_inc_2 f_X10_again_140 (by decide) c1v ?_
      refine g_goto f_X10_again_143 ?_
      have h9 := (AG.upR (i := 64 + n) (k := 104) (j := n) (AG.upR (i := 59 + n) (k := 103) (j := n) (AG.upR (i := 54 + n) (k := 102) (j := n) hK (by omega) (cel_54 n hn) (v := M r (54 + n)) rfl) (by omega) (cel_59 n hn) (v := M r (59 + n)) rfl) (by omega) (cel_64 n hn) (v := M r (64 + n)) rfl)
      exact ih (n + 1) _ (by omega) (h9.mono (fun j hj => by omega))
  have loop2 : ∀ (k n : Nat) (M1 : Mm), n + k = 24 → AG M M1 r (fun j => j < 30 + n) → Go γ Ω mX10_again (Zm γ Ω 0 0 0 (fun _ S' M' => S' = S ∧ AG M M' r (fun j => j < 112))) 0 0 S M1 73 [some (vr Ω 87), some (vr Ω r), some (vi (n : Int))] [] := by
    intro k
    induction k with
    | zero =>
      intro n M1 hk hK
      have hn : n = 24 := by omega
      subst hn
      refine g_ild f_X10_again_73 rfl ?_
      refine g_const f_X10_again_74 ?_
      refine g_icmp_ge f_X10_again_76 rfl (by omega) (by omega) (fun hc => ?_) (fun hc => ?_)
      · refine g_const f_X10_again_97 ?_
        refine g_ist_2 f_X10_again_98 (by decide) c1v ?_
        exact loop3 5 0 M1 rfl (hK.mono (fun j hj => by omega))
      · exact absurd (by omega) hc
    | succ k ih =>
      intro n M1 hk hK
      have hn : n < 24 := by omega
      refine g_ild f_X10_again_73 rfl ?_
      refine g_const f_X10_again_74 ?_
      refine g_icmp_ge f_X10_again_76 rfl (by omega) (by omega) (fun hc => ?_) (fun hc => ?_)
      · exact absurd hc (by omega)
      refine g_alv f_X10_again_79 rfl ?_
      refine g_getR f_X10_again_80 (by assumption) (by assumption) ?_
      refine g_ild f_X10_again_83 rfl ?_
      refine g_alv f_X10_again_84 rfl ?_
      refine g_const f_X10_again_85 ?_
      refine g_ild f_X10_again_87 rfl ?_
      refine g_iadd f_X10_again_88 ?_
      refine g_ial f_X10_again_89 (by assumption) (30 + n) (by omega) (by omega) ?_
      rw [hK.row (by omega)]
      refine g_ias f_X10_again_90 (by assumption) n (by omega) (by omega) ?_
      refine g_inc_2 f_X10_again_91 (by decide) c1v ?_
      refine g_goto f_X10_again_94 ?_
      have h9 := (AG.upR (i := 30 + n) (k := 93) (j := n) hK (by omega) (cel_30 n hn) (v := M r (30 + n)) rfl)
      exact ih (n + 1) _ (by omega) (h9.mono (fun j hj => by omega))
  have loop1 : ∀ (k n : Nat) (M1 : Mm), n + k = 6 → AG M M1 r (fun j => j % 6 < n ∧ j < 30) → Go γ Ω mX10_again (Zm γ Ω 0 0 0 (fun _ S' M' => S' = S ∧ AG M M' r (fun j => j < 112))) 0 0 S M1 2 [some (vr Ω 87), some (vr Ω r), some (vi (n : Int))] [] := by
    intro k
    induction k with
    | zero =>
      intro n M1 hk hK
      have hn : n = 6 := by omega
      subst hn
      refine g_ild f_X10_again_2 rfl ?_
      refine g_const f_X10_again_3 ?_
      refine g_icmp_ge f_X10_again_5 rfl (by omega) (by omega) (fun hc => ?_) (fun hc => ?_)
      · refine g_const f_X10_again_71 ?_
        refine g_ist_2 f_X10_again_72 (by decide) c1v ?_
        exact loop2 24 0 M1 rfl (hK.mono (fun j hj => by omega))
      · exact absurd (by omega) hc
    | succ k ih =>
      intro n M1 hk hK
      have hn : n < 6 := by omega
      refine g_ild f_X10_again_2 rfl ?_
      refine g_const f_X10_again_3 ?_
      refine g_icmp_ge f_X10_again_5 rfl (by omega) (by omega) (fun hc => ?_) (fun hc => ?_)
      · exact absurd hc (by omega)
      refine g_alv f_X10_again_8 rfl ?_
      refine g_getR f_X10_again_9 (by assumption) (by assumption) ?_
      refine g_ild f_X10_again_12 rfl ?_
      refine g_alv f_X10_again_13 rfl ?_
      refine g_ild f_X10_again_14 rfl ?_
      refine g_ial f_X10_again_15 (by assumption) n (by omega) (by omega) ?_
      rw [hK.row (by omega)]
      refine g_ias f_X10_again_16 (by assumption) n (by omega) (by omega) ?_
      refine g_alv f_X10_again_17 rfl ?_
      refine g_getR f_X10_again_18 (by assumption) (by assumption) ?_
      refine g_ild f_X10_again_21 rfl ?_
      refine g_alv f_X10_again_22 rfl ?_
      refine g_const f_X10_again_23 ?_
      refine g_ild f_X10_again_25 rfl ?_
      refine g_iadd f_X10_again_26 ?_
      refine g_ial f_X10_again_27 (by assumption) (6 + n) (by omega) (by omega) ?_
      rw [up_row (show r ≠ 88 by omega), hK.row (by omega)]
      refine g_ias f_X10_again_28 (by assumption) n (by omega) (by omega) ?_
      refine g_alv f_X10_again_29 rfl ?_
      refine g_getR f_X10_again_30 (by assumption) (by assumption) ?_
      refine g_ild f_X10_again_33 rfl ?_
      refine g_alv f_X10_again_34 rfl ?_
      refine g_const f_X10_again_35 ?_
      refine g_ild f_X10_again_37 rfl ?_
      refine g_iadd f_X10_again_38 ?_
      refine g_ial f_X10_again_39 (by assumption) (12 + n) (by omega) (by omega) ?_
      rw [up_row (show r ≠ 89 by omega), up_row (show r ≠ 88 by omega), hK.row (by omega)]
      refine g_ias f_X10_again_40 (by assumption) n (by omega) (by omega) ?_
      refine g_alv f_X10_again_41 rfl ?_
      refine g_getR f_X10_again_42 (by assumption) (by assumption) ?_
      refine g_ild f_X10_again_45 rfl ?_
      refine g_alv f_X10_again_46 rfl ?_
      refine g_const f_X10_again_47 ?_
      refine g_ild f_X10_again_49 rfl ?_
      refine g_iadd f_X10_again_50 ?_
      refine g_ial f_X10_again_51 (by assumption) (18 + n) (by omega) (by omega) ?_
      rw [up_row (show r ≠ 90 by omega), up_row (show r ≠ 89 by omega), up_row (show r ≠ 88 by omega), hK.row (by omega)]
      refine g_ias f_X10_again_52 (by assumption) n (by omega) (by omega) ?_
      refine g_alv f_X10_again_53 rfl ?_
      refine g_getR f_X10_again_54 (by assumption) (by assumption) ?_
      refine g_ild f_X10_again_57 rfl ?_
      refine g_alv f_X10_again_58 rfl ?_
      refine g_const f_X10_again_59 ?_
      refine g_ild f_X10_again_61 rfl ?_
      refine g_iadd f_X10_again_62 ?_
      refine g_ial f_X10_again_63 (by assumption) (24 + n) (by omega) (by omega) ?_
      rw [up_row (show r ≠ 91 by omega), up_row (show r ≠ 90 by omega), up_row (show r ≠ 89 by omega), up_row (show r ≠ 88 by omega), hK.row (by omega)]
      refine g_ias f_X10_again_64 (by assumption) n (by omega) (by omega) ?_
      refine g_inc_2 f_X10_again_65 (by decide) c1v ?_
      refine g_goto f_X10_again_68 ?_
      have h9 := (AG.upR (i := 24 + n) (k := 92) (j := n) (AG.upR (i := 18 + n) (k := 91) (j := n) (AG.upR (i := 12 + n) (k := 90) (j := n) (AG.upR (i := 6 + n) (k := 89) (j := n) (AG.upR (i := 0 + n) (k := 88) (j := n) hK (by omega) (cel_0 n hn) (v := M r n) (by rw [Nat.zero_add])) (by omega) (cel_6 n hn) (v := M r (6 + n)) rfl) (by omega) (cel_12 n hn) (v := M r (12 + n)) rfl) (by omega) (cel_18 n hn) (v := M r (18 + n)) rfl) (by omega) (cel_24 n hn) (v := M r (24 + n)) rfl)
      exact ih (n + 1) _ (by omega) (h9.mono (fun j hj => by omega))
  refine g_const f_X10_again_0 ?_
  refine g_ist_2 f_X10_again_1 (by decide) c1v ?_
  exact loop1 6 0 M rfl ⟨fun _ _ _ => rfl, fun j _ hj => absurd hj (by omega)⟩
