/-! what stays true of the state, call by call -/
def okX (s : Wt) : Prop := okW s ∧ bkZ (wn s) ∧ ∀ k, wk s = some k → bkZ k
theorem okPlan_mono {c d : Nat} {T : Tb} (h : okPlan c T) (hd : c ≤ d) : okPlan d T := fun i hi => by
  obtain ⟨h1, h2, h3, h4⟩ := h i hi
  exact ⟨h1, h2, h3, fun q => ⟨(h4 q).1, by have := (h4 q).2; omega⟩⟩
theorem okX.z {s : Wt} {z : Ab} (h : okX s) (hz : okZ z) (hd : zd z ≤ 9999) (hc : zc (wz s) ≤ zc z) : okX (putZ s z) := by
  obtain ⟨⟨⟨a1, a2, a3, a4, a5, a6, a7, a8⟩, b, c, d, e⟩, b1, b2⟩ := h
  exact ⟨⟨⟨hz, hd, a3, okPlan_mono a4 hc, a5, a6, a7, a8⟩, b, c, d, e⟩, fun i hi => by
    have h1 := b1 i hi
    show _ < (zc z : Int)
    have h2 : (zc (wz s) : Int) ≤ (zc z : Int) := by exact_mod_cast hc
    exact Int.lt_of_lt_of_le h1 h2, b2⟩
theorem okZ_join {z : Ab} {k v c : Nat} (h : okZ z) (hn : zc z ≠ 6) (hk : k ≤ 6) (hv : v ≤ 9) (hc : c ≤ 11) : okZ (joinZ z k v c) := by
  obtain ⟨h1, h2, h3, h4, h5⟩ := h
  refine ⟨by show zc z + 1 ≤ 6; omega, h2, h3, fun p hp => ?_, h5⟩
  have hp2 : p < zc z + 1 := hp
  by_cases e : p = zc z
  · unfold okP joinZ zP
    simp only [if_pos e]
    refine ⟨by simpa using hk, by simpa using hv, by simpa using hc, by simp, by simp, fun j hj => ?_⟩
    rw [if_neg (by omega), if_neg (by omega), if_neg (by omega), if_neg (by omega)]
    omega
  · have := h4 p (by omega)
    unfold okP joinZ
    unfold okP at this
    simp only [zP, if_neg e] at this ⊢
    exact this
theorem okX.one {s : Wt} {k v c : Int} (h : okX s) : okX (a_one s k v c).2 := by
  unfold a_one
  split
  · exact h
  · split
    · exact h
    · split
      · exact h
      · rename_i q1 q2 q3
        have q1' := Classical.not_not.mp q1
        have q2' := Classical.not_not.mp q2
        refine h.z (okZ_join h.1.1.1 q3 ?_ ?_ ?_) h.1.1.2.1 (Nat.le_succ _) <;> omega
theorem okX.set {s : Wt} {p w n : Int} (h : okX s) : okX (a_set s p w n).2 := by
  unfold a_set
  by_cases q3 : w = 0
  · simp only [if_pos q3]
    split
    · exact h
    · split
      · exact h
      · rename_i q1 q2
        have q2' := Classical.not_not.mp q2
        exact h.z (okZ_setP h.1.1.1 (by omega)) h.1.1.2.1 (Nat.le_refl _)
  · simp only [if_neg q3]
    split
    · exact h
    · split
      · exact h
      · rename_i q1 q2
        have q2' := Classical.not_not.mp q2
        exact h.z (okZ_setP h.1.1.1 (by omega)) h.1.1.2.1 (Nat.le_refl _)
theorem okX.leave {s : Wt} {p b : Int} (h : okX s) (hb : b = 0 ∨ b = 1) : okX (a_leave s p b).2 := by
  unfold a_leave
  split
  · exact h.z (okZ_setP h.1.1.1 (by omega)) h.1.1.2.1 (Nat.le_refl _)
  · exact h
theorem okX.walls {s : Wt} {n : Int} (h : okX s) : okX (a_walls s n).2 := by
  unfold a_walls
  split
  · rename_i q
    obtain ⟨h1, h2, h3, h4, h5⟩ := h.1.1.1
    exact h.z ⟨h1, by show n.toNat < 4096; omega, h3, h4, h5⟩ h.1.1.2.1 (Nat.le_refl _)
  · exact h
theorem okX.row {s : Wt} {p q n : Int} (h : okX s) : okX (a_row s p q n).2 := by
  unfold a_row
  split
  · exact h
  · split
    · exact h
    · split
      · exact h
      · rename_i q1 q2 q3
        have q2' := Classical.not_not.mp q2
        exact h.z (okZ_setP h.1.1.1 (by omega)) h.1.1.2.1 (Nat.le_refl _)
theorem okX.deed {s : Wt} {c : Int} (h : okX s) : okX (a_deed s c).2 := by
  unfold a_deed
  split
  · exact h.z (okZ_paid h.1.1.1) h.1.1.2.1 (Nat.le_refl _)
  · exact h
theorem okX.pass {s : Wt} {n : Int} (h : okX s) : okX (a_pass s n).2 := by
  unfold a_pass
  split
  · exact h
  · split
    · exact h
    · rename_i q1 q2
      have q1' := Classical.not_not.mp q1
      have hd : zd (walkZ (wz s) n.toNat) ≤ 9999 := by show zd (wz s) + n.toNat ≤ 9999; omega
      exact h.z (okZ_walk h.1.1.1 (by have h2 : zd (wz s) + n.toNat ≤ 9999 := hd; omega)) hd (Nat.le_refl _)
theorem tg_last {T : Tb} {q : Int × Int × Int} {i k : Nat} (hi : i < (T ++ [q]).length) (P : Int → Prop) (h1 : i < T.length → P (tg T i k)) (h2 : i = T.length → P (if k = 0 then q.1 else if k = 1 then q.2.1 else q.2.2)) : P (tg (T ++ [q]) i k) := by
  rw [tg_app]
  rw [List.length_append] at hi
  have hi2 : i < T.length + 1 := hi
  by_cases e : i < T.length
  · rw [if_pos e]; exact h1 e
  · rw [if_neg e, if_pos (by omega)]; exact h2 (by omega)
theorem okX.see {s : Wt} {c n w : Int} (h : okX s) : okX (a_see s c n w).2 := by
  obtain ⟨⟨⟨a1, a2, a3, a4, a5, a6, a7, a8⟩, b, g, d, e⟩, b1, b2⟩ := h
  unfold a_see
  split
  · exact ⟨⟨⟨a1, a2, fun i hi => absurd hi (Nat.not_lt_zero _), a4, a5, Nat.zero_le _, a7, a8⟩, b, g, d, e⟩, b1, b2⟩
  · split
    · exact ⟨⟨⟨a1, a2, a3, a4, a5, a6, a7, a8⟩, b, g, d, e⟩, b1, b2⟩
    · split
      · exact ⟨⟨⟨a1, a2, a3, a4, a5, a6, a7, a8⟩, b, g, d, e⟩, b1, b2⟩
      · split
        · exact ⟨⟨⟨a1, a2, a3, a4, a5, a6, a7, a8⟩, b, g, d, e⟩, b1, b2⟩
        · rename_i q0 q1 q2 q3
          have q1' := Classical.not_not.mp q1
          have q2' := Classical.not_not.mp q2
          refine ⟨⟨⟨a1, a2, fun i hi => ⟨?_, ?_, ?_⟩, a4, a5, ?_, a7, a8⟩, b, g, d, e⟩, b1, b2⟩
          · exact tg_last hi (fun x => 0 ≤ x ∧ x ≤ 11) (fun t => (a3 i t).1) (fun t => by simp only [if_true]; exact q1')
          · exact tg_last hi (fun x => 0 ≤ x ∧ x ≤ 20) (fun t => (a3 i t).2.1) (fun t => q2'.1)
          · exact tg_last hi (fun x => 0 ≤ x ∧ x ≤ 63) (fun t => (a3 i t).2.2) (fun t => q2'.2)
          · show ((wn s).2.1 ++ [(c, n, w)]).length ≤ 5
            rw [List.length_append]
            show (wn s).2.1.length + 1 ≤ 5
            omega
theorem okX.plan {s : Wt} {w n : Int} (h : okX s) (hn : rg n) : okX (a_plan s w n).2 := by
  obtain ⟨⟨⟨a1, a2, a3, a4, a5, a6, a7, a8⟩, b, g, d, e⟩, b1, b2⟩ := h
  unfold a_plan
  split
  · exact ⟨⟨⟨a1, a2, a3, fun i hi => absurd hi (Nat.not_lt_zero _), a5, a6, Nat.zero_le _, a8⟩, b, g, d, e⟩, b1, b2⟩
  · split
    · exact ⟨⟨⟨a1, a2, a3, a4, a5, a6, a7, a8⟩, b, g, d, e⟩, b1, b2⟩
    · split
      · exact ⟨⟨⟨a1, a2, a3, a4, a5, a6, a7, a8⟩, b, g, d, e⟩, b1, b2⟩
      · rename_i q0 q1 q2
        have q1' := Classical.not_not.mp q1
        refine ⟨⟨⟨a1, a2, a3, fun i hi => ?_, a5, a6, ?_, a8⟩, b, g, d, e⟩, b1, b2⟩
        · show (0 ≤ tg ((wn s).2.2.1 ++ [(w, n, 0)]) i 0 ∧ tg ((wn s).2.2.1 ++ [(w, n, 0)]) i 0 ≤ 3) ∧ rg (tg ((wn s).2.2.1 ++ [(w, n, 0)]) i 1) ∧ (tg ((wn s).2.2.1 ++ [(w, n, 0)]) i 0 = 1 ∨ tg ((wn s).2.2.1 ++ [(w, n, 0)]) i 0 = 2 → 0 ≤ tg ((wn s).2.2.1 ++ [(w, n, 0)]) i 1 ∧ tg ((wn s).2.2.1 ++ [(w, n, 0)]) i 1 ≤ 11) ∧ (tg ((wn s).2.2.1 ++ [(w, n, 0)]) i 0 = 3 → 0 ≤ tg ((wn s).2.2.1 ++ [(w, n, 0)]) i 1 ∧ tg ((wn s).2.2.1 ++ [(w, n, 0)]) i 1 < zc (wz s))
          have hi2 : i < (wn s).2.2.1.length + 1 := by
            have h2 : i < ((wn s).2.2.1 ++ [(w, n, 0)]).length := hi
            rw [List.length_append] at h2
            exact h2
          rw [tg_app, tg_app]
          by_cases t : i < (wn s).2.2.1.length
          · rw [if_pos t, if_pos t]
            exact a4 i t
          · have t2 : i = (wn s).2.2.1.length := by omega
            simp only [if_neg t, if_pos t2, if_true, Nat.one_ne_zero, if_false]
            unfold planOK at q1'
            refine ⟨by omega, hn, fun _ => by omega, fun _ => by omega⟩
        · show ((wn s).2.2.1 ++ [(w, n, 0)]).length ≤ 10
          rw [List.length_append]
          show (wn s).2.2.1.length + 1 ≤ 10
          omega
theorem okX.book {s : Wt} {p n : Int} (h : okX s) : okX (a_book s p n).2 := by
  obtain ⟨⟨⟨a1, a2, a3, a4, a5, a6, a7, a8⟩, b, g, d, e⟩, b1, b2⟩ := h
  unfold a_book
  split
  · exact ⟨⟨⟨a1, a2, a3, a4, fun i hi => absurd hi (Nat.not_lt_zero _), a6, a7, Nat.zero_le _⟩, b, g, d, e⟩, fun i hi => absurd hi (Nat.not_lt_zero _), b2⟩
  · split
    · exact ⟨⟨⟨a1, a2, a3, a4, a5, a6, a7, a8⟩, b, g, d, e⟩, b1, b2⟩
    · split
      · exact ⟨⟨⟨a1, a2, a3, a4, a5, a6, a7, a8⟩, b, g, d, e⟩, b1, b2⟩
      · split
        · exact ⟨⟨⟨a1, a2, a3, a4, a5, a6, a7, a8⟩, b, g, d, e⟩, b1, b2⟩
        · rename_i q0 q1 q2 q3
          have q1' := Classical.not_not.mp q1
          have q2' := Classical.not_not.mp q2
          have hz : zc (wz s) ≤ 6 := a1.1
          refine ⟨⟨⟨a1, a2, a3, a4, fun i hi => ⟨?_, ?_⟩, a6, a7, ?_⟩, b, g, d, e⟩, fun i hi => ?_, b2⟩
          · exact tg_last hi (fun x => 0 ≤ x ∧ x ≤ 5) (fun t => (a5 i t).1) (fun t => by simp only [if_true]; omega)
          · exact tg_last hi (fun x => 0 ≤ x ∧ x ≤ 9999) (fun t => (a5 i t).2) (fun t => q2')
          · show ((wn s).2.2.2 ++ [(p, n, 0)]).length ≤ 8
            rw [List.length_append]
            show (wn s).2.2.2.length + 1 ≤ 8
            omega
          · exact tg_last hi (fun x => x < (zc (wz s) : Int)) (fun t => b1 i t) (fun t => by simp only [if_true]; exact q1'.2)
theorem okX.act {s : Wt} {p a x : Int} (h : okX s) : okX (a_act s p a x).2 := by
  unfold a_act
  split
  · exact h
  · exact h
theorem okX.image {s : Wt} (h : okX s) : okX (a_image s).2 := ⟨⟨h.1.1, h.1.1, h.1.2.2⟩, h.2.1, fun k hk => by cases hk; exact h.2.1⟩
theorem okX.undo {s : Wt} (h : okX s) : okX (a_undo s).2 := by
  unfold a_undo
  split
  · exact h
  · rename_i k hk
    obtain ⟨⟨a, b, c⟩, b1, b2⟩ := h
    refine ⟨⟨?_, b, c⟩, b2 k hk, b2⟩
    have h2 : okKp (s.2.1) := b
    have hk2 : s.2.1 = some k := hk
    rw [hk2] at h2
    exact h2
theorem okX.feed {s : Wt} {c : Int} (h : okX s) : okX (a_feed s c).2 := by
  unfold a_feed
  split
  · exact h
  · split
    · exact h
    · rename_i q1 q2
      have q1' := Classical.not_not.mp q1
      obtain ⟨⟨a, b, g, ⟨d1, d2⟩, e⟩, b1, b2⟩ := h
      refine ⟨⟨a, b, g, ⟨?_, fun q hq => ?_⟩, e⟩, b1, b2⟩
      · show (wx s ++ [c.toNat]).length ≤ 100
        rw [List.length_append]
        show (wx s).length + 1 ≤ 100
        omega
      · have hq2 : q ∈ wx s ++ [c.toNat] := hq
        rcases List.mem_append.mp hq2 with h1 | h1
        · exact d2 q h1
        · rw [List.mem_singleton] at h1
          omega
theorem okX.statute {s : Wt} (h : okX s) : okX (a_statute s).2 := by
  unfold a_statute
  split
  · exact h
  · rename_i q
    obtain ⟨⟨⟨⟨h1, h2, h3, h4, h5⟩, a2, a3⟩, b, g, d, e⟩, b1, b2⟩ := h
    split
    · rename_i L hL
      exact ⟨⟨⟨⟨h1, h2, h3, h4, lawOf_ok d hL⟩, a2, a3⟩, b, by show wl s + 1 ≤ 6; omega, ⟨Nat.zero_le _, fun q hq => absurd hq (List.not_mem_nil)⟩, e⟩, b1, b2⟩
    · exact ⟨⟨⟨⟨h1, h2, h3, h4, h5⟩, a2, a3⟩, b, g, ⟨Nat.zero_le _, fun q hq => absurd hq (List.not_mem_nil)⟩, e⟩, b1, b2⟩
theorem okX.k {s : Wt} (h : okX s) {i : Nat} {q : Tp} (hq : okK q) : okX (putK s i q) := by
  obtain ⟨⟨a, b, g, d, e⟩, b1, b2⟩ := h
  refine ⟨⟨a, b, g, d, fun j hj => ?_⟩, b1, b2⟩
  show okK (if j = i then q else wp s j)
  split
  · exact hq
  · exact e j hj
theorem okX.tape {s : Wt} {t k n : Int} (h : okX s) : okX (a_tape s t k n).2 := by
  unfold a_tape
  split
  · exact h
  · split
    · exact h.k ⟨by decide, by decide, fun j hj => (show rgL 0 from ⟨by decide, by decide⟩)⟩
    · split
      · exact h
      · split
        · exact h
        · exact h.k ⟨(show -1 ≤ k ∧ k ≤ 4 by omega), by (show n.toNat ≤ 60); omega, fun j hj => (show rgL 0 from ⟨by decide, by decide⟩)⟩
theorem okX.item {s : Wt} {t i v : Int} (h : okX s) (hv : rgL v) : okX (a_item s t i v).2 := by
  unfold a_item
  split
  · exact h
  · split
    · exact h
    · split
      · exact h
      · rename_i q1 q2 q3
        have q1' := Classical.not_not.mp q1
        obtain ⟨o1, o2, o3⟩ := h.1.2.2.2.2 t.toNat (by omega)
        refine h.k ⟨o1, o2, fun j hj => ?_⟩
        show rgL (if j = i.toNat then narK (wp s t.toNat).1 v else (wp s t.toNat).2.2 j)
        split
        · exact narK_rg hv
        · exact o3 j hj
theorem okX.shift {s : Wt} {t i u j n : Int} (h : okX s) : okX (a_shift s t i u j n).2 := by
  unfold a_shift
  split
  · exact h
  · split
    · exact h
    · split
      · exact h
      · split
        · exact h
        · rename_i q1 q2 q3 q4
          have q1' := Classical.not_not.mp q1
          have q4' := Classical.not_not.mp q4
          obtain ⟨o1, o2, o3⟩ := h.1.2.2.2.2 t.toNat (by omega)
          obtain ⟨p1, p2, p3⟩ := h.1.2.2.2.2 u.toNat (by omega)
          refine h.k ⟨p1, p2, fun k hk => ?_⟩
          show rgL (if j.toNat ≤ k ∧ k < j.toNat + n.toNat then (wp s t.toNat).2.2 (i.toNat + (k - j.toNat)) else (wp s u.toNat).2.2 k)
          split
          · obtain ⟨⟨s1, s2, s3⟩, t1, t2, t3⟩ := q4'
            exact o3 _ (by omega)
          · exact p3 k hk
