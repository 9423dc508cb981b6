/-! contracts: the calls: feed, image, undo -/
set_option maxHeartbeats 4000000 in
set_option maxRecDepth 100000 in
theorem w_feed {Ω : Ow} {S : Sg} {M : Mm} {s : Wt} (hW : RepW S M s) (hO0 : okW s) (c : Int) (hc0 : rg c) : Ct Ω mX9_feed 2 0 0 1 [vr Ω 0, vi c] S M (fun x S' M' => x = (a_feed s c).1 ∧ RepW S' M' (a_feed s c).2 ∧ mfr S S' M M') := by
  refine Ct.mk (by decide) (Nat.le_of_ble_eq_true rfl) [some (vr Ω 0), some (vi c)] (by intro q hq; exact hq) (fun γ hγ hz => ?_)
  obtain ⟨hG, hS1, ⟨hX, hT1, hT2, hT3⟩, hlaw, hK, ⟨Λd, hTx, hn1, hn2⟩, hTr, hTp, hmost, hN46, hN61⟩ := id hW
  obtain ⟨⟨hO, hD, hSe, hPl, hBk, hl1, hl2, hl3⟩, hOk, hlw, hOt, hOp⟩ := id hO0
  have hX : RepX S M 25 (wz s) := hX
  have hO : okZ (wz s) := hO
  have hD : zd (wz s) ≤ 9999 := hD
  obtain ⟨x1, x2, x3, x4, x5, Λ, x6, x7, x8, x9⟩ := id hX
  obtain ⟨z1, z2, z3, z4, z5⟩ := id hO
  have hB : isB 25 := Or.inl rfl
  have oB := obB hG hB
  have aB := arB hG hB
  have g0 := (hG.2.2.1 25 hB).1
  have o0 := obn hG (r := 0) (c := 9) (by decide +kernel)
  have o18 := obn hG (r := 18) (c := 4) (by decide +kernel)
  have g00 : _ = ((18 : Nat) : Int) := grn hG (k := 0) (j := 0) (by decide)
  have g18 : _ = ((25 : Nat) : Int) := grn hG (k := 18) (j := 0) (by decide)
  have o60 := obn hG (r := 60) (c := 8) (by decide +kernel)
  have g05 : _ = ((60 : Nat) : Int) := grn hG (k := 0) (j := 5) (by decide)
  have o9 := obn hG (r := 9) (c := 0) (by decide +kernel)
  have g06 : _ = ((9 : Nat) : Int) := grn hG (k := 0) (j := 6) (by decide)
  have g181 : _ = ((19 : Nat) : Int) := grn hG (k := 18) (j := 1) (by decide)
  have g182 : _ = ((21 : Nat) : Int) := grn hG (k := 18) (j := 2) (by decide)
  have g183 : _ = ((23 : Nat) : Int) := grn hG (k := 18) (j := 3) (by decide)
  have iT1 : isT 19 5 := (snT snX).1
  have iT2 : isT 21 10 := (snT snX).2.1
  have iT3 : isT 23 8 := (snT snX).2.2.1
  obtain ⟨oT1, -, -⟩ := obT hG iT1
  obtain ⟨oT2, -, -⟩ := obT hG iT2
  obtain ⟨oT3, -, -⟩ := obT hG iT3
  have o1 := obn hG (r := 1) (c := 2) (by decide +kernel)
  have g03 : _ = ((1 : Nat) : Int) := grn hG (k := 0) (j := 3) (by decide)
  have o39 := obn hG (r := 39) (c := 4) (by decide +kernel)
  have g01 : _ = ((39 : Nat) : Int) := grn hG (k := 0) (j := 1) (by decide)
  refine g_ild f_X9_feed_0 rfl ?_
  refine g_const f_X9_feed_1 ?_
  refine g_cs1 hγ (c_within c 127 (by omega) (by omega)) f_X9_feed_3 mo_X9_isWithin mt_X9_isWithin rfl (Nat.le_of_ble_eq_true rfl) ⟨by decide, by decide⟩ ⟨Nat.le_refl _, Nat.le_refl _⟩ (fun x S' M' hq9 => ?_)
  obtain ⟨hx, q1, q2⟩ := hq9
  obtain rfl := q1.symm
  obtain rfl := q2.symm
  by_cases hc : 0 ≤ c ∧ c ≤ 127
  · rw [if_pos hc] at hx
    subst hx
    refine g_if_ne f_X9_feed_6 rfl (by omega) (fun hx => ?_) (fun hx => ?_)
    · obtain ⟨m, rfl⟩ := Int.eq_ofNat_of_zero_le hc.1
      refine g_alv f_X9_feed_12 rfl ?_
      refine g_getR f_X9_feed_13 (by assumption) (by assumption) ?_
      refine g_ild f_X9_feed_16 rfl ?_
      refine g_cv1 hγ (c_add hG hOt hTx.2.2.2.2 (c := m) (by omega)) f_X9_feed_17 mo_X2_add mv_X2_add (by assumption) rfl rfl (Nat.le_of_ble_eq_true rfl) ⟨by decide, by decide⟩ ⟨Nat.le_refl _, Nat.le_refl _⟩ (fun x S' M3 hq3 => ?_)
      obtain ⟨q1, hh⟩ := hq3
      obtain rfl := q1.symm
      refine g_reti f_X9_feed_20 rfl ?_ (Nat.zero_le _) (Nat.zero_le _)
      have e : a_feed s (m : Int) = (if (wx s).length = 100 then (-4, s) else (((wx s).length : Int) + 1, putX s (wx s ++ [m]))) := if_neg (fun h => h hc)
      rw [e]
      rcases hh with ⟨h5, rfl, rfl⟩ | ⟨h5, rfl, hR, hf⟩
      · rw [if_pos h5]
        exact ⟨rfl, hW, mfr.rf⟩
      · rw [if_neg (Nat.ne_of_lt h5)]
        have ht : okTx (wx s ++ [m]) := ⟨by rw [List.length_append]; simp; omega, fun q hq => by
          rcases List.mem_append.mp hq with h | h
          · exact hOt.2 q h
          · rw [List.mem_singleton.mp h]; omega⟩
        have h := hW.text hO0 ht hR hf
        exact ⟨rfl, h.1, h.2⟩
    · exact absurd (by omega) hx
  · rw [if_neg hc] at hx
    subst hx
    refine g_if_ne f_X9_feed_6 rfl (by omega) (fun hx => ?_) (fun hx => ?_)
    · exact absurd hx (by omega)
    refine g_const f_X9_feed_9 ?_
    refine g_reti f_X9_feed_11 rfl ?_ (Nat.zero_le _) (Nat.zero_le _)
    have e : a_feed s c = (-2, s) := if_pos hc
    rw [e]
    exact ⟨rfl, hW, mfr.rf⟩

set_option maxHeartbeats 4000000 in
set_option maxRecDepth 100000 in
theorem w_image {Ω : Ow} {S : Sg} {M : Mm} {s : Wt} (hW : RepW S M s) (hO0 : okW s) : Ct Ω mX9_image 4 0 0 1 [vr Ω 0] S M (fun x S' M' => x = (a_image s).1 ∧ RepW S' M' (a_image s).2 ∧ mfr S S' M M') := by
  refine Ct.mk (by decide) (Nat.le_of_ble_eq_true rfl) [some (vr Ω 0)] (by intro q hq; exact hq) (fun γ hγ hz => ?_)
  obtain ⟨hG, hS1, ⟨hX, hT1, hT2, hT3⟩, hlaw, hK, ⟨Λd, hTx, hn1, hn2⟩, hTr, hTp, hmost, hN46, hN61⟩ := id hW
  obtain ⟨⟨hO, hD, hSe, hPl, hBk, hl1, hl2, hl3⟩, hOk, hlw, hOt, hOp⟩ := id hO0
  have hX : RepX S M 25 (wz s) := hX
  have hO : okZ (wz s) := hO
  have hD : zd (wz s) ≤ 9999 := hD
  obtain ⟨x1, x2, x3, x4, x5, Λ, x6, x7, x8, x9⟩ := id hX
  obtain ⟨z1, z2, z3, z4, z5⟩ := id hO
  have hB : isB 25 := Or.inl rfl
  have oB := obB hG hB
  have aB := arB hG hB
  have g0 := (hG.2.2.1 25 hB).1
  have o0 := obn hG (r := 0) (c := 9) (by decide +kernel)
  have o18 := obn hG (r := 18) (c := 4) (by decide +kernel)
  have g00 : _ = ((18 : Nat) : Int) := grn hG (k := 0) (j := 0) (by decide)
  have g18 : _ = ((25 : Nat) : Int) := grn hG (k := 18) (j := 0) (by decide)
  have o60 := obn hG (r := 60) (c := 8) (by decide +kernel)
  have g05 : _ = ((60 : Nat) : Int) := grn hG (k := 0) (j := 5) (by decide)
  have o9 := obn hG (r := 9) (c := 0) (by decide +kernel)
  have g06 : _ = ((9 : Nat) : Int) := grn hG (k := 0) (j := 6) (by decide)
  have g181 : _ = ((19 : Nat) : Int) := grn hG (k := 18) (j := 1) (by decide)
  have g182 : _ = ((21 : Nat) : Int) := grn hG (k := 18) (j := 2) (by decide)
  have g183 : _ = ((23 : Nat) : Int) := grn hG (k := 18) (j := 3) (by decide)
  have iT1 : isT 19 5 := (snT snX).1
  have iT2 : isT 21 10 := (snT snX).2.1
  have iT3 : isT 23 8 := (snT snX).2.2.1
  obtain ⟨oT1, -, -⟩ := obT hG iT1
  obtain ⟨oT2, -, -⟩ := obT hG iT2
  obtain ⟨oT3, -, -⟩ := obT hG iT3
  have o1 := obn hG (r := 1) (c := 2) (by decide +kernel)
  have g03 : _ = ((1 : Nat) : Int) := grn hG (k := 0) (j := 3) (by decide)
  have o39 := obn hG (r := 39) (c := 4) (by decide +kernel)
  have g01 : _ = ((39 : Nat) : Int) := grn hG (k := 0) (j := 1) (by decide)
  refine g_alv f_X9_image_0 rfl ?_
  refine g_getR f_X9_image_1 (by assumption) (by assumption) ?_
  refine g_alv f_X9_image_4 rfl ?_
  refine g_getR f_X9_image_5 (by assumption) (by assumption) ?_
  refine g_cv0 hγ (c_snlike hG (Or.inr ⟨rfl, rfl⟩) snX (by decide) hW.2.2.1 hO hN46 hmost.1 hmost.2.1 hmost.2.2) f_X9_image_8 mo_X4_becomeLike mv_X4_becomeLike (by assumption) rfl rfl (Nat.le_of_ble_eq_true rfl) ⟨by decide, by decide⟩ ⟨Nat.le_refl _, Nat.le_refl _⟩ (fun x S3 M3 hq3 => ?_)
  obtain ⟨q1, hf, hR⟩ := hq3
  have h := hW.image hO0 hf (by rw [← q1]; exact hR)
  rw [← q1] at h
  have hG3 : Gr S3 := h.1.1
  have o03 := obn hG3 (r := 0) (c := 9) (by decide +kernel)
  have o183 := obn hG3 (r := 18) (c := 4) (by decide +kernel)
  have oB3 := obB hG3 hB
  have p00 : _ = ((18 : Nat) : Int) := grn hG3 (k := 0) (j := 0) (by decide)
  have p18 : _ = ((25 : Nat) : Int) := grn hG3 (k := 18) (j := 0) (by decide)
  have x13 : up M3 0 2 1 25 1 = (zc (wz s) : Int) := h.1.2.2.1.1.1
  refine g_alv f_X9_image_11 rfl ?_
  refine g_const f_X9_image_12 ?_
  refine g_putZ f_X9_image_13 rfl (Or.inr rfl) (by assumption) ?_
  refine g_alv f_X9_image_16 rfl ?_
  refine g_getR f_X9_image_17 (by assumption) (by assumption) ?_
  refine g_getR f_X9_image_20 (by assumption) (by assumption) ?_
  refine g_getI f_X9_image_23 (by assumption) ?_
  rw [x13]
  refine g_reti f_X9_image_26 rfl ?_ (Nat.zero_le _) (Nat.zero_le _)
  exact ⟨rfl, h.1, h.2⟩

set_option maxHeartbeats 4000000 in
set_option maxRecDepth 100000 in
theorem w_undo {Ω : Ow} {S : Sg} {M : Mm} {s : Wt} (hW : RepW S M s) (hO0 : okW s) : Ct Ω mX9_undo 4 0 0 1 [vr Ω 0] S M (fun x S' M' => x = (a_undo s).1 ∧ RepW S' M' (a_undo s).2 ∧ mfr S S' M M') := by
  refine Ct.mk (by decide) (Nat.le_of_ble_eq_true rfl) [some (vr Ω 0)] (by intro q hq; exact hq) (fun γ hγ hz => ?_)
  obtain ⟨hG, hS1, ⟨hX, hT1, hT2, hT3⟩, hlaw, hK, ⟨Λd, hTx, hn1, hn2⟩, hTr, hTp, hmost, hN46, hN61⟩ := id hW
  obtain ⟨⟨hO, hD, hSe, hPl, hBk, hl1, hl2, hl3⟩, hOk, hlw, hOt, hOp⟩ := id hO0
  have hX : RepX S M 25 (wz s) := hX
  have hO : okZ (wz s) := hO
  have hD : zd (wz s) ≤ 9999 := hD
  obtain ⟨x1, x2, x3, x4, x5, Λ, x6, x7, x8, x9⟩ := id hX
  obtain ⟨z1, z2, z3, z4, z5⟩ := id hO
  have hB : isB 25 := Or.inl rfl
  have oB := obB hG hB
  have aB := arB hG hB
  have g0 := (hG.2.2.1 25 hB).1
  have o0 := obn hG (r := 0) (c := 9) (by decide +kernel)
  have o18 := obn hG (r := 18) (c := 4) (by decide +kernel)
  have g00 : _ = ((18 : Nat) : Int) := grn hG (k := 0) (j := 0) (by decide)
  have g18 : _ = ((25 : Nat) : Int) := grn hG (k := 18) (j := 0) (by decide)
  have o60 := obn hG (r := 60) (c := 8) (by decide +kernel)
  have g05 : _ = ((60 : Nat) : Int) := grn hG (k := 0) (j := 5) (by decide)
  have o9 := obn hG (r := 9) (c := 0) (by decide +kernel)
  have g06 : _ = ((9 : Nat) : Int) := grn hG (k := 0) (j := 6) (by decide)
  have g181 : _ = ((19 : Nat) : Int) := grn hG (k := 18) (j := 1) (by decide)
  have g182 : _ = ((21 : Nat) : Int) := grn hG (k := 18) (j := 2) (by decide)
  have g183 : _ = ((23 : Nat) : Int) := grn hG (k := 18) (j := 3) (by decide)
  have iT1 : isT 19 5 := (snT snX).1
  have iT2 : isT 21 10 := (snT snX).2.1
  have iT3 : isT 23 8 := (snT snX).2.2.1
  obtain ⟨oT1, -, -⟩ := obT hG iT1
  obtain ⟨oT2, -, -⟩ := obT hG iT2
  obtain ⟨oT3, -, -⟩ := obT hG iT3
  have o1 := obn hG (r := 1) (c := 2) (by decide +kernel)
  have g03 : _ = ((1 : Nat) : Int) := grn hG (k := 0) (j := 3) (by decide)
  have o39 := obn hG (r := 39) (c := 4) (by decide +kernel)
  have g01 : _ = ((39 : Nat) : Int) := grn hG (k := 0) (j := 1) (by decide)
  cases hk : wk s with
  | none =>
    rw [hk] at hK hOk
    refine g_alv f_X9_undo_0 rfl ?_
    refine g_getI f_X9_undo_1 (by assumption) ?_
    rw [hK.1]
    refine g_if_ne f_X9_undo_4 rfl (by omega) (fun hx => ?_) (fun hx => ?_)
    · exact absurd hx (by omega)
    refine g_const f_X9_undo_7 ?_
    refine g_reti f_X9_undo_9 rfl ?_ (Nat.zero_le _) (Nat.zero_le _)
    have e : a_undo s = (-3, s) := by unfold a_undo; rw [hk]
    rw [e]
    exact ⟨rfl, hW, mfr.rf⟩
  | some k0 =>
    rw [hk] at hK hOk
    refine g_alv f_X9_undo_0 rfl ?_
    refine g_getI f_X9_undo_1 (by assumption) ?_
    rw [hK.1]
    refine g_if_ne f_X9_undo_4 rfl (by omega) (fun hx => ?_) (fun hx => ?_)
    · refine g_alv f_X9_undo_10 rfl ?_
      refine g_getR f_X9_undo_11 (by assumption) (by assumption) ?_
      refine g_alv f_X9_undo_14 rfl ?_
      refine g_getR f_X9_undo_15 (by assumption) (by assumption) ?_
      refine g_cv0 hγ (c_snlike hG snX (Or.inr ⟨rfl, rfl⟩) (by decide) hK.2 hOk.1 x5 hT1.1 hT2.1 hT3.1) f_X9_undo_18 mo_X4_becomeLike mv_X4_becomeLike (by assumption) rfl rfl (Nat.le_of_ble_eq_true rfl) ⟨by decide, by decide⟩ ⟨Nat.le_refl _, Nat.le_refl _⟩ (fun x S3 M3 hq3 => ?_)
      obtain ⟨q1, hf, hR⟩ := hq3
      have h := hW.undo hO0 hk hf (by rw [← q1]; exact hR)
      rw [← q1] at h
      have hG3 : Gr S3 := h.1.1
      have o03 := obn hG3 (r := 0) (c := 9) (by decide +kernel)
      have o183 := obn hG3 (r := 18) (c := 4) (by decide +kernel)
      have oB3 := obB hG3 hB
      have p00 : _ = ((18 : Nat) : Int) := grn hG3 (k := 0) (j := 0) (by decide)
      have p18 : _ = ((25 : Nat) : Int) := grn hG3 (k := 18) (j := 0) (by decide)
      have x13 : M3 25 1 = (zc k0.1 : Int) := hR.1.1
      refine g_alv f_X9_undo_21 rfl ?_
      refine g_getR f_X9_undo_22 (by assumption) (by assumption) ?_
      refine g_getR f_X9_undo_25 (by assumption) (by assumption) ?_
      refine g_getI f_X9_undo_28 (by assumption) ?_
      rw [x13]
      refine g_reti f_X9_undo_31 rfl ?_ (Nat.zero_le _) (Nat.zero_le _)
      have e : a_undo s = ((zc k0.1 : Int), putN s k0) := by unfold a_undo; rw [hk]
      rw [e]
      exact ⟨rfl, h.1, h.2⟩
    · exact absurd (by omega) hx
