/-! what the law finds at its start: classes, constants -/
theorem arr_k {s : State} {A : Array Value} {ty : FieldType} (h : (Cond.arrayClass ty).before A s = true) (hne : ∀ C, ty ≠ .object C) : ∃ cA, ArrOfT s cA ty ∧ va_RA s cA ty := by
  obtain ⟨c, k, comp, h1, h2, h3⟩ := Cond.arrayClass_spec h
  exact ⟨c, fun n z => ⟨fun k h => (by cases h), k, h2, comp, h3⟩, by cases ty <;> first | exact h1 | exact absurd rfl (hne _)⟩
theorem arr_o {s : State} {A : Array Value} {C : String} (h : (Cond.arrayOver (.object C)).before A s = true) : ∃ cA, ArrOfT s cA (.object C) ∧ va_RA s cA (.object C) := by
  obtain ⟨comp, c, k, h1, -, h3, h4, h5⟩ := Cond.arrayOver_spec h
  exact ⟨c, fun n z => ⟨fun k h => (by cases h), k, h3, comp, h4⟩, k, comp, h3, h4, h1, h5⟩
theorem ins_all : ∀ c, c < 11 → Cond.instantiable (cN c) (cL c) ∈ Ug := by
  intro c hc
  match c, hc with
  | 0, _ => exact ins_0
  | 1, _ => exact ins_1
  | 2, _ => exact ins_2
  | 3, _ => exact ins_3
  | 4, _ => exact ins_4
  | 5, _ => exact ins_5
  | 6, _ => exact ins_6
  | 7, _ => exact ins_7
  | 8, _ => exact ins_8
  | 9, _ => exact ins_9
  | 10, _ => exact ins_10
  | n + 11, h => exact absurd h (by omega)
theorem k_of {s : State} {A : Array Value} (hts : ∀ w ∈ lw_tbl, w.before A s = true) : ∃ D : va_G, va_K D vwCl (tys D) s := by
  have hU : ∀ w ∈ Ug, w.before A s = true := fun w hw => hts w (ug_tbl hw)
  obtain ⟨cb, hb⟩ := arr_k (hU _ ac_byte) (fun C q => by cases q)
  obtain ⟨ci, hi⟩ := arr_k (hU _ ac_int) (fun C q => by cases q)
  obtain ⟨cl, hl⟩ := arr_k (hU _ ac_long) (fun C q => by cases q)
  obtain ⟨cz, hz⟩ := arr_k (hU _ ac_boolean) (fun C q => by cases q)
  obtain ⟨cp, hp⟩ := arr_o (C := RX3) (hts _ (tb_in.1 _ (List.mem_of_getElem? (i := 154) (by decide +kernel))))
  obtain ⟨ct, ht⟩ := arr_o (C := RX7) (hts _ (tb_in.1 _ (List.mem_of_getElem? (i := 120) (by decide +kernel))))
  have hc : ∀ c : Nat, ∃ q : ClassId × (Nat → Nat), c < 11 → u_Kn s (cN c) (cT c) (cL c) q.1 q.2 := by
    intro c
    by_cases h : c < 11
    · obtain ⟨a, b, e⟩ := u_known (n := cL c) hU (wsC_ok c h) (hU _ (ins_all c h))
      exact ⟨(a, b), fun _ => e⟩
    · exact ⟨(cb, fun _ => 0), fun q => absurd q h⟩
  obtain ⟨f, hf⟩ := Classical.axiomOfChoice hc
  refine ⟨(fun c => if c = 11 then cb else if c = 12 then ci else if c = 13 then cl else if c = 14 then cz else if c = 15 then cp else if c = 16 then ct else (f c).1, fun c => (f c).2), fun c q hq => ?_, fun k q hq => ?_⟩
  · have hlt : c < 11 := (List.getElem?_eq_some_iff.mp hq).1
    rw [cl_at hlt] at hq
    cases hq
    have h := hf c hlt
    show u_Kn s (cN c) (cT c) (cL c) (if c = 11 then cb else if c = 12 then ci else if c = 13 then cl else if c = 14 then cz else if c = 15 then cp else if c = 16 then ct else (f c).1) (f c).2
    rw [if_neg (by omega), if_neg (by omega), if_neg (by omega), if_neg (by omega), if_neg (by omega), if_neg (by omega)]
    exact h
  · match k, hq with
    | 0, hq => cases hq; exact hb
    | 1, hq => cases hq; exact hi
    | 2, hq => cases hq; exact hl
    | 3, hq => cases hq; exact hz
    | 4, hq => cases hq; exact hp
    | 5, hq => cases hq; exact ht
    | k + 6, hq => simp [tys] at hq
theorem of_fld {args : Array Value} {s : State} {t : Term} {a : Nat} {o n d : String} {v : Value} {A : Nat → Prop} (ht : t.eval args s none [] s = some (.ref a)) (hv : (Term.field t o n d).eval args s none [] s = some v) (hA : ∀ a : Nat, a < s.heap.size → ¬ A a) : va_OF o n d v a A s s.heap := by
  cases hfo : s.fieldFound? o n d with
  | none =>
    rw [va_fe ht] at hv
    simp [State.fieldOf?, State.fieldNamed?, hfo] at hv
  | some x =>
    obtain ⟨cf, k, fi, f⟩ := x
    obtain ⟨g1, cell, g2, g3, -, -, g6⟩ := Term.field_spec hfo ht hv
    exact ⟨cf, k, fi, f, cell, hfo, g1, g2, g3, g6, hA _ (Array.getElem?_eq_some_iff.mp g2).1⟩
theorem sr_in : ∀ i, i < 9 → Cond.stringRef (sc i).1 (sc i).2.1 (sc i).2.2.1 ∈ lw_tbl := by
  intro i hi
  match i, hi with
  | 0, _ => exact tb_in.1 _ (List.mem_of_getElem? (i := 40) (by decide +kernel))
  | 1, _ => exact tb_in.2.1 _ (List.mem_of_getElem? (i := 225) (by decide +kernel))
  | 2, _ => exact tb_in.2.2.1 _ (List.mem_of_getElem? (i := 79) (by decide +kernel))
  | 3, _ => exact tb_in.2.2.1 _ (List.mem_of_getElem? (i := 80) (by decide +kernel))
  | 4, _ => exact tb_in.2.2.2.2.1 _ (List.mem_of_getElem? (i := 91) (by decide +kernel))
  | 5, _ => exact tb_in.2.2.2.2.1 _ (List.mem_of_getElem? (i := 121) (by decide +kernel))
  | 6, _ => exact tb_in.2.2.2.2.1 _ (List.mem_of_getElem? (i := 122) (by decide +kernel))
  | 7, _ => exact tb_in.2.2.2.2.1 _ (List.mem_of_getElem? (i := 155) (by decide +kernel))
  | 8, _ => exact tb_in.2.2.2.2.1 _ (List.mem_of_getElem? (i := 157) (by decide +kernel))
  | n + 9, h => exact absurd h (by omega)
abbrev scS (i : Nat) : Term := .string (sc i).1 (sc i).2.1
abbrev scV (i : Nat) : Term := .field (scS i) "java/lang/String" "value" "[B"
set_option maxRecDepth 100000 in
theorem sc_in : ∀ i, i < 9 → (Cond.exactly (scS i) "java/lang/String" ∈ flatC (Jvm.Cond.and given_1 narrow_1) ∧ Cond.eq (.field (scS i) "java/lang/String" "coder" "B") (.int 0) ∈ flatC (Jvm.Cond.and given_1 narrow_1) ∧ Cond.arrayOf (scV i) .byte ∈ flatC (Jvm.Cond.and given_1 narrow_1) ∧ Cond.eq (.length (scV i)) (.int (Int32.ofNat (sc i).2.2.2.length)) ∈ flatC (Jvm.Cond.and given_1 narrow_1) ∧ (sc i).2.2.2.length < 2 ^ 31 ∧ ∀ j, j < (sc i).2.2.2.length → Cond.eq (.elem (scV i) (.int (Int32.ofNat j))) (.int (Int32.ofInt ((sc i).2.2.2.getD j 0))) ∈ flatC (Jvm.Cond.and given_1 narrow_1)) := by decide +kernel
abbrev kaS : Term := .static "WitnessPays" "KIND_ABOVE" "[I"
theorem ka_in : Cond.arrayOf kaS .int ∈ flatC (Jvm.Cond.and given_1 narrow_1) ∧ Cond.eq (.length kaS) (.int (Int32.ofNat 7)) ∈ flatC (Jvm.Cond.and given_1 narrow_1) ∧ (∀ j, j < 7 → Cond.eq (.elem kaS (.int (Int32.ofNat j))) (.int (Int32.ofInt (kAb.getD j 0))) ∈ flatC (Jvm.Cond.and given_1 narrow_1)) ∧ Cond.eq (.static "java/lang/String" "COMPACT_STRINGS" "Z") (.int 1) ∈ flatC (Jvm.Cond.and given_1 narrow_1) ∧ Cond.isRef (.static "jdk/internal/util/Preconditions" "SIOOBE_FORMATTER" "Ljava/util/function/BiFunction;") ∈ flatC (Jvm.Cond.and given_1 narrow_1) := by decide +kernel
theorem str_of {s : State} {A : Array Value} {B : Nat → Prop} (hts : ∀ w ∈ lw_tbl, w.before A s = true) (hg : (Jvm.Cond.and given_1 narrow_1).before A s = true) (hA : ∀ a : Nat, a < s.heap.size → ¬ B a) (i : Nat) (hi : i < 9) : ∃ q : Nat × Nat, vk_R (sc i).1 (sc i).2.1 (sc i).2.2.1 q.1 s ∧ va_O "java/lang/String" q.1 B s s.heap ∧ va_OF "java/lang/String" "coder" "B" (.int 0) q.1 B s s.heap ∧ va_OF "java/lang/String" "value" "[B" (.ref q.2) q.1 B s s.heap ∧ va_T .byte q.2 (sc i).2.2.2.length (fun j => vi ((sc i).2.2.2.getD j 0)) B s s.heap := by
  have hs := flat_of_before _ hg
  obtain ⟨m1, m2, m3, m4, m5, m6⟩ := sc_in i hi
  obtain ⟨a, c, cell, k, q1, q2, q3, q4, q5, q6, -⟩ := Cond.exactly_spec (hs _ m1)
  obtain ⟨t, t1, t2⟩ := va_Tof (tm := scV i) (f := fun j => vi ((sc i).2.2.2.getD j 0)) m5 (hs _ m3) (va_eqt (hs _ m4)) (fun j hj => va_eqt (hs _ (m6 j hj))) hA
  exact ⟨(a, t), vk_R.of (hts _ (sr_in i hi)) q1, ⟨cell, q3, q5, by rw [q6]; exact q2, hA a (Array.getElem?_eq_some_iff.mp q3).1⟩, of_fld q1 (va_eqt (hs _ m2)) hA, of_fld q1 t1 hA, t2⟩
theorem fx_of {s : State} {A : Array Value} (l : Launch) (hts : ∀ w ∈ lw_tbl, w.before A s = true) (hg : (Jvm.Cond.and given_1 narrow_1).before A s = true) : ∃ (D : va_G) (k : Nat → Nat), Fx (l, s, D, k) := by
  have hs := flat_of_before _ hg
  have hA : ∀ a : Nat, a < s.heap.size → ¬ (fun q : Nat => s.heap.size ≤ q) a := fun a h => Nat.not_le.mpr h
  obtain ⟨D, hD⟩ := k_of hts
  obtain ⟨m1, m2, m3, m4, m5⟩ := ka_in
  obtain ⟨kt, k1, k2⟩ := va_Tof (tm := kaS) (f := fun j => vi (kAb.getD j 0)) (N := 7) (by decide) (hs _ m1) (va_eqt (hs _ m2)) (fun j hj => va_eqt (hs _ (m3 j hj))) hA
  have hst : ∀ i : Nat, ∃ q : Nat × Nat, i < 9 → vk_R (sc i).1 (sc i).2.1 (sc i).2.2.1 q.1 s ∧ va_O "java/lang/String" q.1 (fun q : Nat => s.heap.size ≤ q) s s.heap ∧ va_OF "java/lang/String" "coder" "B" (.int 0) q.1 (fun q : Nat => s.heap.size ≤ q) s s.heap ∧ va_OF "java/lang/String" "value" "[B" (.ref q.2) q.1 (fun q : Nat => s.heap.size ≤ q) s s.heap ∧ va_T .byte q.2 (sc i).2.2.2.length (fun j => vi ((sc i).2.2.2.getD j 0)) (fun q : Nat => s.heap.size ≤ q) s s.heap := by
    intro i
    by_cases h : i < 9
    · obtain ⟨q, hq⟩ := str_of hts hg hA i h
      exact ⟨q, fun _ => hq⟩
    · exact ⟨(0, 0), fun q => absurd q h⟩
  obtain ⟨f, hf⟩ := Classical.axiomOfChoice hst
  refine ⟨D, fun n => if n = 0 then kt else if n < 20 then (f (n - 1)).1 else (f (n - 20)).2, hD, fun w hw => ?_, va_Zref (hts _ (tb_in.2.1 _ (List.mem_of_getElem? (i := 106) (by decide +kernel)))) (hts _ (tb_in.1 _ (List.mem_of_getElem? (i := 1) (by decide +kernel)))) k1 hA, k2, va_Zof (hts _ (tb_in.1 _ (List.mem_of_getElem? (i := 50) (by decide +kernel)))) (hts _ (tb_in.1 _ (List.mem_of_getElem? (i := 4) (by decide +kernel)))) (va_eqt (hs _ m4)) hA, va_Zqof (hts _ (tb_in.2.2.1 _ (List.mem_of_getElem? (i := 33) (by decide +kernel)))) (hts _ (tb_in.1 _ (List.mem_of_getElem? (i := 18) (by decide +kernel)))) (hs _ m5) hA, fun i hi => ?_, va_AO.of (hts _ (tb_in.1 _ (List.mem_of_getElem? (i := 154) (by decide +kernel)))), va_AO.of (hts _ (tb_in.1 _ (List.mem_of_getElem? (i := 120) (by decide +kernel))))⟩
  · obtain ⟨h1, h2⟩ := List.mem_filter.mp hw
    refine va_Nw.of ?_ (hts w h1)
    cases w <;> first | rfl | cases h2
  · have h := hf i hi
    have e1 : (if 1 + i = 0 then kt else if 1 + i < 20 then (f (1 + i - 1)).1 else (f (1 + i - 20)).2) = (f i).1 := by rw [if_neg (by omega), if_pos (by omega), show 1 + i - 1 = i by omega]
    have e2 : (if 20 + i = 0 then kt else if 20 + i < 20 then (f (20 + i - 1)).1 else (f (20 + i - 20)).2) = (f i).2 := by rw [if_neg (by omega), if_neg (by omega), show 20 + i - 20 = i by omega]
    unfold Fs ka
    dsimp only
    rw [e1, e2]
    exact h
