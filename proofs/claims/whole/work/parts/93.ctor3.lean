/-! contracts: a new model -/
set_option maxHeartbeats 4000000 in
set_option maxRecDepth 100000 in
theorem c_x10Init {Ω : Ow} {S : Sg} {M : Mm} (hS : S.1 = 88) (hZ : ∀ k, 87 ≤ k → ∀ j, M k j = 0) : Ct Ω mX10_init 1 28 1987 0 [vr Ω 87] S M (fun _ S' M' => S'.1 = 116 ∧ MdlF S' M' ∧ ∀ k, k < 87 → row2 S S' M M' k) := by
  refine Ct.mk (by decide) (Nat.le_of_ble_eq_true rfl) [some (vr Ω 87), none] (by intro q hq; exact hq) (fun γ hγ hz => ?_)
  refine g_alv f_X10_init_0 rfl ?_
  refine g_oi hγ (by decide) f_X10_init_1 (Nat.le_of_ble_eq_true rfl) ?_
  refine g_alv f_X10_init_4 rfl ?_
  refine g_const f_X10_init_5 ?_
  refine g_newa (c := 12) (n := 6) f_X10_init_7 ac_int (by first | exact Or.inl ⟨rfl, rfl⟩ | exact Or.inr (Or.inl ⟨rfl, rfl⟩) | exact Or.inr (Or.inr (Or.inl ⟨rfl, rfl⟩)) | exact Or.inr (Or.inr (Or.inr ⟨rfl, rfl⟩))) (by decide) (show _ = 88 from hS) (by decide +kernel) (by rw [hγ]; show _ ≤ 28; omega) (by rw [hγ]; show _ ≤ 1987; omega) ?_
  refine g_putqR f_X10_init_9 rfl (by first | exact Or.inl ⟨_, rfl⟩ | exact Or.inr ⟨_, rfl⟩) (by exact ⟨by decide +kernel, by (try dsimp only); omega, by decide⟩) ?_
  refine g_absS (fun T0 a0 b0 => ?_)
  dsimp only at a0 b0
  have p0 := md_acc (T := S.2) (fun q h => by cases h) b0 (i := 0) rfl (by decide)
  have r0 : ∀ k, k ≠ 87 → T0.2 k = S.2 k := fun k hk => by rw [b0, up_row hk]
  clear b0
  refine g_alv f_X10_init_12 rfl ?_
  refine g_const f_X10_init_13 ?_
  refine g_newa (c := 12) (n := 6) f_X10_init_15 ac_int (by first | exact Or.inl ⟨rfl, rfl⟩ | exact Or.inr (Or.inl ⟨rfl, rfl⟩) | exact Or.inr (Or.inr (Or.inl ⟨rfl, rfl⟩)) | exact Or.inr (Or.inr (Or.inr ⟨rfl, rfl⟩))) (by decide) (show _ = 89 from a0) (by decide +kernel) (by rw [hγ]; show _ ≤ 28; omega) (by rw [hγ]; show _ ≤ 1987; omega) ?_
  refine g_putqR f_X10_init_17 rfl (by first | exact Or.inl ⟨_, rfl⟩ | exact Or.inr ⟨_, rfl⟩) (by exact ⟨by decide +kernel, by (try dsimp only); omega, by decide⟩) ?_
  refine g_absS (fun T1 a1 b1 => ?_)
  dsimp only at a1 b1
  have p1 := md_acc p0 b1 (i := 1) rfl (by decide)
  have r1 : ∀ k, k ≠ 87 → T1.2 k = S.2 k := fun k hk => by rw [b1, up_row hk]; exact r0 k hk
  clear b1
  clear p0 r0 a0
  refine g_alv f_X10_init_20 rfl ?_
  refine g_const f_X10_init_21 ?_
  refine g_newa (c := 12) (n := 6) f_X10_init_23 ac_int (by first | exact Or.inl ⟨rfl, rfl⟩ | exact Or.inr (Or.inl ⟨rfl, rfl⟩) | exact Or.inr (Or.inr (Or.inl ⟨rfl, rfl⟩)) | exact Or.inr (Or.inr (Or.inr ⟨rfl, rfl⟩))) (by decide) (show _ = 90 from a1) (by decide +kernel) (by rw [hγ]; show _ ≤ 28; omega) (by rw [hγ]; show _ ≤ 1987; omega) ?_
  refine g_putqR f_X10_init_25 rfl (by first | exact Or.inl ⟨_, rfl⟩ | exact Or.inr ⟨_, rfl⟩) (by exact ⟨by decide +kernel, by (try dsimp only); omega, by decide⟩) ?_
  refine g_absS (fun T2 a2 b2 => ?_)
  dsimp only at a2 b2
  have p2 := md_acc p1 b2 (i := 2) rfl (by decide)
  have r2 : ∀ k, k ≠ 87 → T2.2 k = S.2 k := fun k hk => by rw [b2, up_row hk]; exact r1 k hk
  clear b2
  clear p1 r1 a1
  refine g_alv f_X10_init_28 rfl ?_
  refine g_const f_X10_init_29 ?_
  refine g_newa (c := 12) (n := 6) f_X10_init_31 ac_int (by first | exact Or.inl ⟨rfl, rfl⟩ | exact Or.inr (Or.inl ⟨rfl, rfl⟩) | exact Or.inr (Or.inr (Or.inl ⟨rfl, rfl⟩)) | exact Or.inr (Or.inr (Or.inr ⟨rfl, rfl⟩))) (by decide) (show _ = 91 from a2) (by decide +kernel) (by rw [hγ]; show _ ≤ 28; omega) (by rw [hγ]; show _ ≤ 1987; omega) ?_
  refine g_putqR f_X10_init_33 rfl (by first | exact Or.inl ⟨_, rfl⟩ | exact Or.inr ⟨_, rfl⟩) (by exact ⟨by decide +kernel, by (try dsimp only); omega, by decide⟩) ?_
  refine g_absS (fun T3 a3 b3 => ?_)
  dsimp only at a3 b3
  have p3 := md_acc p2 b3 (i := 3) rfl (by decide)
  have r3 : ∀ k, k ≠ 87 → T3.2 k = S.2 k := fun k hk => by rw [b3, up_row hk]; exact r2 k hk
  clear b3
  clear p2 r2 a2
  refine g_alv f_X10_init_36 rfl ?_
  refine g_const f_X10_init_37 ?_
  refine g_newa (c := 12) (n := 6) f_X10_init_39 ac_int (by first | exact Or.inl ⟨rfl, rfl⟩ | exact Or.inr (Or.inl ⟨rfl, rfl⟩) | exact Or.inr (Or.inr (Or.inl ⟨rfl, rfl⟩)) | exact Or.inr (Or.inr (Or.inr ⟨rfl, rfl⟩))) (by decide) (show _ = 92 from a3) (by decide +kernel) (by rw [hγ]; show _ ≤ 28; omega) (by rw [hγ]; show _ ≤ 1987; omega) ?_
  refine g_putqR f_X10_init_41 rfl (by first | exact Or.inl ⟨_, rfl⟩ | exact Or.inr ⟨_, rfl⟩) (by exact ⟨by decide +kernel, by (try dsimp only); omega, by decide⟩) ?_
  refine g_absS (fun T4 a4 b4 => ?_)
  dsimp only at a4 b4
  have p4 := md_acc p3 b4 (i := 4) rfl (by decide)
  have r4 : ∀ k, k ≠ 87 → T4.2 k = S.2 k := fun k hk => by rw [b4, up_row hk]; exact r3 k hk
  clear b4
  clear p3 r3 a3
  refine g_alv f_X10_init_44 rfl ?_
  refine g_const f_X10_init_45 ?_
  refine g_newa (c := 12) (n := 24) f_X10_init_47 ac_int (by first | exact Or.inl ⟨rfl, rfl⟩ | exact Or.inr (Or.inl ⟨rfl, rfl⟩) | exact Or.inr (Or.inr (Or.inl ⟨rfl, rfl⟩)) | exact Or.inr (Or.inr (Or.inr ⟨rfl, rfl⟩))) (by decide) (show _ = 93 from a4) (by decide +kernel) (by rw [hγ]; show _ ≤ 28; omega) (by rw [hγ]; show _ ≤ 1987; omega) ?_
  refine g_putqR f_X10_init_49 rfl (by first | exact Or.inl ⟨_, rfl⟩ | exact Or.inr ⟨_, rfl⟩) (by exact ⟨by decide +kernel, by (try dsimp only); omega, by decide⟩) ?_
  refine g_absS (fun T5 a5 b5 => ?_)
  dsimp only at a5 b5
  have p5 := md_acc p4 b5 (i := 5) rfl (by decide)
  have r5 : ∀ k, k ≠ 87 → T5.2 k = S.2 k := fun k hk => by rw [b5, up_row hk]; exact r4 k hk
  clear b5
  clear p4 r4 a4
  refine g_alv f_X10_init_52 rfl ?_
  refine g_const f_X10_init_53 ?_
  refine g_newa (c := 12) (n := 100) f_X10_init_55 ac_int (by first | exact Or.inl ⟨rfl, rfl⟩ | exact Or.inr (Or.inl ⟨rfl, rfl⟩) | exact Or.inr (Or.inr (Or.inl ⟨rfl, rfl⟩)) | exact Or.inr (Or.inr (Or.inr ⟨rfl, rfl⟩))) (by decide) (show _ = 94 from a5) (by decide +kernel) (by rw [hγ]; show _ ≤ 28; omega) (by rw [hγ]; show _ ≤ 1987; omega) ?_
  refine g_putqR f_X10_init_57 rfl (by first | exact Or.inl ⟨_, rfl⟩ | exact Or.inr ⟨_, rfl⟩) (by exact ⟨by decide +kernel, by (try dsimp only); omega, by decide⟩) ?_
  refine g_absS (fun T6 a6 b6 => ?_)
  dsimp only at a6 b6
  have p6 := md_acc p5 b6 (i := 6) rfl (by decide)
  have r6 : ∀ k, k ≠ 87 → T6.2 k = S.2 k := fun k hk => by rw [b6, up_row hk]; exact r5 k hk
  clear b6
  clear p5 r5 a5
  refine g_alv f_X10_init_60 rfl ?_
  refine g_const f_X10_init_61 ?_
  refine g_newa (c := 12) (n := 6) f_X10_init_63 ac_int (by first | exact Or.inl ⟨rfl, rfl⟩ | exact Or.inr (Or.inl ⟨rfl, rfl⟩) | exact Or.inr (Or.inr (Or.inl ⟨rfl, rfl⟩)) | exact Or.inr (Or.inr (Or.inr ⟨rfl, rfl⟩))) (by decide) (show _ = 95 from a6) (by decide +kernel) (by rw [hγ]; show _ ≤ 28; omega) (by rw [hγ]; show _ ≤ 1987; omega) ?_
  refine g_putqR f_X10_init_65 rfl (by first | exact Or.inl ⟨_, rfl⟩ | exact Or.inr ⟨_, rfl⟩) (by exact ⟨by decide +kernel, by (try dsimp only); omega, by decide⟩) ?_
  refine g_absS (fun T7 a7 b7 => ?_)
  dsimp only at a7 b7
  have p7 := md_acc p6 b7 (i := 7) rfl (by decide)
  have r7 : ∀ k, k ≠ 87 → T7.2 k = S.2 k := fun k hk => by rw [b7, up_row hk]; exact r6 k hk
  clear b7
  clear p6 r6 a6
  refine g_alv f_X10_init_68 rfl ?_
  refine g_const f_X10_init_69 ?_
  refine g_newa (c := 12) (n := 61) f_X10_init_71 ac_int (by first | exact Or.inl ⟨rfl, rfl⟩ | exact Or.inr (Or.inl ⟨rfl, rfl⟩) | exact Or.inr (Or.inr (Or.inl ⟨rfl, rfl⟩)) | exact Or.inr (Or.inr (Or.inr ⟨rfl, rfl⟩))) (by decide) (show _ = 96 from a7) (by decide +kernel) (by rw [hγ]; show _ ≤ 28; omega) (by rw [hγ]; show _ ≤ 1987; omega) ?_
  refine g_putqR f_X10_init_73 rfl (by first | exact Or.inl ⟨_, rfl⟩ | exact Or.inr ⟨_, rfl⟩) (by exact ⟨by decide +kernel, by (try dsimp only); omega, by decide⟩) ?_
  refine g_absS (fun T8 a8 b8 => ?_)
  dsimp only at a8 b8
  have p8 := md_acc p7 b8 (i := 8) rfl (by decide)
  have r8 : ∀ k, k ≠ 87 → T8.2 k = S.2 k := fun k hk => by rw [b8, up_row hk]; exact r7 k hk
  clear b8
  clear p7 r7 a7
  refine g_alv f_X10_init_76 rfl ?_
  refine g_const f_X10_init_77 ?_
  refine g_newa (c := 12) (n := 61) f_X10_init_79 ac_int (by first | exact Or.inl ⟨rfl, rfl⟩ | exact Or.inr (Or.inl ⟨rfl, rfl⟩) | exact Or.inr (Or.inr (Or.inl ⟨rfl, rfl⟩)) | exact Or.inr (Or.inr (Or.inr ⟨rfl, rfl⟩))) (by decide) (show _ = 97 from a8) (by decide +kernel) (by rw [hγ]; show _ ≤ 28; omega) (by rw [hγ]; show _ ≤ 1987; omega) ?_
  refine g_putqR f_X10_init_81 rfl (by first | exact Or.inl ⟨_, rfl⟩ | exact Or.inr ⟨_, rfl⟩) (by exact ⟨by decide +kernel, by (try dsimp only); omega, by decide⟩) ?_
  refine g_absS (fun T9 a9 b9 => ?_)
  dsimp only at a9 b9
  have p9 := md_acc p8 b9 (i := 9) rfl (by decide)
  have r9 : ∀ k, k ≠ 87 → T9.2 k = S.2 k := fun k hk => by rw [b9, up_row hk]; exact r8 k hk
  clear b9
  clear p8 r8 a8
  refine g_alv f_X10_init_84 rfl ?_
  refine g_const f_X10_init_85 ?_
  refine g_newa (c := 12) (n := 61) f_X10_init_87 ac_int (by first | exact Or.inl ⟨rfl, rfl⟩ | exact Or.inr (Or.inl ⟨rfl, rfl⟩) | exact Or.inr (Or.inr (Or.inl ⟨rfl, rfl⟩)) | exact Or.inr (Or.inr (Or.inr ⟨rfl, rfl⟩))) (by decide) (show _ = 98 from a9) (by decide +kernel) (by rw [hγ]; show _ ≤ 28; omega) (by rw [hγ]; show _ ≤ 1987; omega) ?_
  refine g_putqR f_X10_init_89 rfl (by first | exact Or.inl ⟨_, rfl⟩ | exact Or.inr ⟨_, rfl⟩) (by exact ⟨by decide +kernel, by (try dsimp only); omega, by decide⟩) ?_
  refine g_absS (fun T10 a10 b10 => ?_)
  dsimp only at a10 b10
  have p10 := md_acc p9 b10 (i := 10) rfl (by decide)
  have r10 : ∀ k, k ≠ 87 → T10.2 k = S.2 k := fun k hk => by rw [b10, up_row hk]; exact r9 k hk
  clear b10
  clear p9 r9 a9
  refine g_alv f_X10_init_92 rfl ?_
  refine g_const f_X10_init_93 ?_
  refine g_newa (c := 12) (n := 61) f_X10_init_95 ac_int (by first | exact Or.inl ⟨rfl, rfl⟩ | exact Or.inr (Or.inl ⟨rfl, rfl⟩) | exact Or.inr (Or.inr (Or.inl ⟨rfl, rfl⟩)) | exact Or.inr (Or.inr (Or.inr ⟨rfl, rfl⟩))) (by decide) (show _ = 99 from a10) (by decide +kernel) (by rw [hγ]; show _ ≤ 28; omega) (by rw [hγ]; show _ ≤ 1987; omega) ?_
  refine g_putqR f_X10_init_97 rfl (by first | exact Or.inl ⟨_, rfl⟩ | exact Or.inr ⟨_, rfl⟩) (by exact ⟨by decide +kernel, by (try dsimp only); omega, by decide⟩) ?_
  refine g_absS (fun T11 a11 b11 => ?_)
  dsimp only at a11 b11
  have p11 := md_acc p10 b11 (i := 11) rfl (by decide)
  have r11 : ∀ k, k ≠ 87 → T11.2 k = S.2 k := fun k hk => by rw [b11, up_row hk]; exact r10 k hk
  clear b11
  clear p10 r10 a10
  refine g_alv f_X10_init_100 rfl ?_
  refine g_const f_X10_init_101 ?_
  refine g_newa (c := 12) (n := 800) f_X10_init_104 ac_int (by first | exact Or.inl ⟨rfl, rfl⟩ | exact Or.inr (Or.inl ⟨rfl, rfl⟩) | exact Or.inr (Or.inr (Or.inl ⟨rfl, rfl⟩)) | exact Or.inr (Or.inr (Or.inr ⟨rfl, rfl⟩))) (by decide) (show _ = 100 from a11) (by decide +kernel) (by rw [hγ]; show _ ≤ 28; omega) (by rw [hγ]; show _ ≤ 1987; omega) ?_
  refine g_putqR f_X10_init_106 rfl (by first | exact Or.inl ⟨_, rfl⟩ | exact Or.inr ⟨_, rfl⟩) (by exact ⟨by decide +kernel, by (try dsimp only); omega, by decide⟩) ?_
  refine g_absS (fun T12 a12 b12 => ?_)
  dsimp only at a12 b12
  have p12 := md_acc p11 b12 (i := 12) rfl (by decide)
  have r12 : ∀ k, k ≠ 87 → T12.2 k = S.2 k := fun k hk => by rw [b12, up_row hk]; exact r11 k hk
  clear b12
  clear p11 r11 a11
  refine g_alv f_X10_init_109 rfl ?_
  refine g_const f_X10_init_110 ?_
  refine g_newa (c := 14) (n := 110) f_X10_init_112 ac_boolean (by first | exact Or.inl ⟨rfl, rfl⟩ | exact Or.inr (Or.inl ⟨rfl, rfl⟩) | exact Or.inr (Or.inr (Or.inl ⟨rfl, rfl⟩)) | exact Or.inr (Or.inr (Or.inr ⟨rfl, rfl⟩))) (by decide) (show _ = 101 from a12) (by decide +kernel) (by rw [hγ]; show _ ≤ 28; omega) (by rw [hγ]; show _ ≤ 1987; omega) ?_
  refine g_putqR f_X10_init_114 rfl (by first | exact Or.inl ⟨_, rfl⟩ | exact Or.inr ⟨_, rfl⟩) (by exact ⟨by decide +kernel, by (try dsimp only); omega, by decide⟩) ?_
  refine g_absS (fun T13 a13 b13 => ?_)
  dsimp only at a13 b13
  have p13 := md_acc p12 b13 (i := 13) rfl (by decide)
  have r13 : ∀ k, k ≠ 87 → T13.2 k = S.2 k := fun k hk => by rw [b13, up_row hk]; exact r12 k hk
  clear b13
  clear p12 r12 a12
  refine g_alv f_X10_init_117 rfl ?_
  refine g_const f_X10_init_118 ?_
  refine g_newa (c := 12) (n := 5) f_X10_init_119 ac_int (by first | exact Or.inl ⟨rfl, rfl⟩ | exact Or.inr (Or.inl ⟨rfl, rfl⟩) | exact Or.inr (Or.inr (Or.inl ⟨rfl, rfl⟩)) | exact Or.inr (Or.inr (Or.inr ⟨rfl, rfl⟩))) (by decide) (show _ = 102 from a13) (by decide +kernel) (by rw [hγ]; show _ ≤ 28; omega) (by rw [hγ]; show _ ≤ 1987; omega) ?_
  refine g_putqR f_X10_init_121 rfl (by first | exact Or.inl ⟨_, rfl⟩ | exact Or.inr ⟨_, rfl⟩) (by exact ⟨by decide +kernel, by (try dsimp only); omega, by decide⟩) ?_
  refine g_absS (fun T14 a14 b14 => ?_)
  dsimp only at a14 b14
  have p14 := md_acc p13 b14 (i := 14) rfl (by decide)
  have r14 : ∀ k, k ≠ 87 → T14.2 k = S.2 k := fun k hk => by rw [b14, up_row hk]; exact r13 k hk
  clear b14
  clear p13 r13 a13
  refine g_alv f_X10_init_124 rfl ?_
  refine g_const f_X10_init_125 ?_
  refine g_newa (c := 12) (n := 5) f_X10_init_126 ac_int (by first | exact Or.inl ⟨rfl, rfl⟩ | exact Or.inr (Or.inl ⟨rfl, rfl⟩) | exact Or.inr (Or.inr (Or.inl ⟨rfl, rfl⟩)) | exact Or.inr (Or.inr (Or.inr ⟨rfl, rfl⟩))) (by decide) (show _ = 103 from a14) (by decide +kernel) (by rw [hγ]; show _ ≤ 28; omega) (by rw [hγ]; show _ ≤ 1987; omega) ?_
  refine g_putqR f_X10_init_128 rfl (by first | exact Or.inl ⟨_, rfl⟩ | exact Or.inr ⟨_, rfl⟩) (by exact ⟨by decide +kernel, by (try dsimp only); omega, by decide⟩) ?_
  refine g_absS (fun T15 a15 b15 => ?_)
  dsimp only at a15 b15
  have p15 := md_acc p14 b15 (i := 15) rfl (by decide)
  have r15 : ∀ k, k ≠ 87 → T15.2 k = S.2 k := fun k hk => by rw [b15, up_row hk]; exact r14 k hk
  clear b15
  clear p14 r14 a14
  refine g_alv f_X10_init_131 rfl ?_
  refine g_const f_X10_init_132 ?_
  refine g_newa (c := 12) (n := 5) f_X10_init_133 ac_int (by first | exact Or.inl ⟨rfl, rfl⟩ | exact Or.inr (Or.inl ⟨rfl, rfl⟩) | exact Or.inr (Or.inr (Or.inl ⟨rfl, rfl⟩)) | exact Or.inr (Or.inr (Or.inr ⟨rfl, rfl⟩))) (by decide) (show _ = 104 from a15) (by decide +kernel) (by rw [hγ]; show _ ≤ 28; omega) (by rw [hγ]; show _ ≤ 1987; omega) ?_
  refine g_putqR f_X10_init_135 rfl (by first | exact Or.inl ⟨_, rfl⟩ | exact Or.inr ⟨_, rfl⟩) (by exact ⟨by decide +kernel, by (try dsimp only); omega, by decide⟩) ?_
  refine g_absS (fun T16 a16 b16 => ?_)
  dsimp only at a16 b16
  have p16 := md_acc p15 b16 (i := 16) rfl (by decide)
  have r16 : ∀ k, k ≠ 87 → T16.2 k = S.2 k := fun k hk => by rw [b16, up_row hk]; exact r15 k hk
  clear b16
  clear p15 r15 a15
  refine g_alv f_X10_init_138 rfl ?_
  refine g_const f_X10_init_139 ?_
  refine g_newa (c := 12) (n := 10) f_X10_init_141 ac_int (by first | exact Or.inl ⟨rfl, rfl⟩ | exact Or.inr (Or.inl ⟨rfl, rfl⟩) | exact Or.inr (Or.inr (Or.inl ⟨rfl, rfl⟩)) | exact Or.inr (Or.inr (Or.inr ⟨rfl, rfl⟩))) (by decide) (show _ = 105 from a16) (by decide +kernel) (by rw [hγ]; show _ ≤ 28; omega) (by rw [hγ]; show _ ≤ 1987; omega) ?_
  refine g_putqR f_X10_init_143 rfl (by first | exact Or.inl ⟨_, rfl⟩ | exact Or.inr ⟨_, rfl⟩) (by exact ⟨by decide +kernel, by (try dsimp only); omega, by decide⟩) ?_
  refine g_absS (fun T17 a17 b17 => ?_)
  dsimp only at a17 b17
  have p17 := md_acc p16 b17 (i := 17) rfl (by decide)
  have r17 : ∀ k, k ≠ 87 → T17.2 k = S.2 k := fun k hk => by rw [b17, up_row hk]; exact r16 k hk
  clear b17
  clear p16 r16 a16
  refine g_alv f_X10_init_146 rfl ?_
  refine g_const f_X10_init_147 ?_
  refine g_newa (c := 12) (n := 10) f_X10_init_149 ac_int (by first | exact Or.inl ⟨rfl, rfl⟩ | exact Or.inr (Or.inl ⟨rfl, rfl⟩) | exact Or.inr (Or.inr (Or.inl ⟨rfl, rfl⟩)) | exact Or.inr (Or.inr (Or.inr ⟨rfl, rfl⟩))) (by decide) (show _ = 106 from a17) (by decide +kernel) (by rw [hγ]; show _ ≤ 28; omega) (by rw [hγ]; show _ ≤ 1987; omega) ?_
  refine g_putqR f_X10_init_151 rfl (by first | exact Or.inl ⟨_, rfl⟩ | exact Or.inr ⟨_, rfl⟩) (by exact ⟨by decide +kernel, by (try dsimp only); omega, by decide⟩) ?_
  refine g_absS (fun T18 a18 b18 => ?_)
  dsimp only at a18 b18
  have p18 := md_acc p17 b18 (i := 18) rfl (by decide)
  have r18 : ∀ k, k ≠ 87 → T18.2 k = S.2 k := fun k hk => by rw [b18, up_row hk]; exact r17 k hk
  clear b18
  clear p17 r17 a17
  refine g_alv f_X10_init_154 rfl ?_
  refine g_const f_X10_init_155 ?_
  refine g_newa (c := 12) (n := 8) f_X10_init_157 ac_int (by first | exact Or.inl ⟨rfl, rfl⟩ | exact Or.inr (Or.inl ⟨rfl, rfl⟩) | exact Or.inr (Or.inr (Or.inl ⟨rfl, rfl⟩)) | exact Or.inr (Or.inr (Or.inr ⟨rfl, rfl⟩))) (by decide) (show _ = 107 from a18) (by decide +kernel) (by rw [hγ]; show _ ≤ 28; omega) (by rw [hγ]; show _ ≤ 1987; omega) ?_
  refine g_putqR f_X10_init_159 rfl (by first | exact Or.inl ⟨_, rfl⟩ | exact Or.inr ⟨_, rfl⟩) (by exact ⟨by decide +kernel, by (try dsimp only); omega, by decide⟩) ?_
  refine g_absS (fun T19 a19 b19 => ?_)
  dsimp only at a19 b19
  have p19 := md_acc p18 b19 (i := 19) rfl (by decide)
  have r19 : ∀ k, k ≠ 87 → T19.2 k = S.2 k := fun k hk => by rw [b19, up_row hk]; exact r18 k hk
  clear b19
  clear p18 r18 a18
  refine g_alv f_X10_init_162 rfl ?_
  refine g_const f_X10_init_163 ?_
  refine g_newa (c := 12) (n := 8) f_X10_init_165 ac_int (by first | exact Or.inl ⟨rfl, rfl⟩ | exact Or.inr (Or.inl ⟨rfl, rfl⟩) | exact Or.inr (Or.inr (Or.inl ⟨rfl, rfl⟩)) | exact Or.inr (Or.inr (Or.inr ⟨rfl, rfl⟩))) (by decide) (show _ = 108 from a19) (by decide +kernel) (by rw [hγ]; show _ ≤ 28; omega) (by rw [hγ]; show _ ≤ 1987; omega) ?_
  refine g_putqR f_X10_init_167 rfl (by first | exact Or.inl ⟨_, rfl⟩ | exact Or.inr ⟨_, rfl⟩) (by exact ⟨by decide +kernel, by (try dsimp only); omega, by decide⟩) ?_
  refine g_absS (fun T20 a20 b20 => ?_)
  dsimp only at a20 b20
  have p20 := md_acc p19 b20 (i := 20) rfl (by decide)
  have r20 : ∀ k, k ≠ 87 → T20.2 k = S.2 k := fun k hk => by rw [b20, up_row hk]; exact r19 k hk
  clear b20
  clear p19 r19 a19
  refine g_alv f_X10_init_170 rfl ?_
  refine g_const f_X10_init_171 ?_
  refine g_newa (c := 12) (n := 20) f_X10_init_173 ac_int (by first | exact Or.inl ⟨rfl, rfl⟩ | exact Or.inr (Or.inl ⟨rfl, rfl⟩) | exact Or.inr (Or.inr (Or.inl ⟨rfl, rfl⟩)) | exact Or.inr (Or.inr (Or.inr ⟨rfl, rfl⟩))) (by decide) (show _ = 109 from a20) (by decide +kernel) (by rw [hγ]; show _ ≤ 28; omega) (by rw [hγ]; show _ ≤ 1987; omega) ?_
  refine g_putqR f_X10_init_175 rfl (by first | exact Or.inl ⟨_, rfl⟩ | exact Or.inr ⟨_, rfl⟩) (by exact ⟨by decide +kernel, by (try dsimp only); omega, by decide⟩) ?_
  refine g_absS (fun T21 a21 b21 => ?_)
  dsimp only at a21 b21
  have p21 := md_acc p20 b21 (i := 21) rfl (by decide)
  have r21 : ∀ k, k ≠ 87 → T21.2 k = S.2 k := fun k hk => by rw [b21, up_row hk]; exact r20 k hk
  clear b21
  clear p20 r20 a20
  refine g_alv f_X10_init_178 rfl ?_
  refine g_const f_X10_init_179 ?_
  refine g_newa (c := 12) (n := 112) f_X10_init_181 ac_int (by first | exact Or.inl ⟨rfl, rfl⟩ | exact Or.inr (Or.inl ⟨rfl, rfl⟩) | exact Or.inr (Or.inr (Or.inl ⟨rfl, rfl⟩)) | exact Or.inr (Or.inr (Or.inr ⟨rfl, rfl⟩))) (by decide) (show _ = 110 from a21) (by decide +kernel) (by rw [hγ]; show _ ≤ 28; omega) (by rw [hγ]; show _ ≤ 1987; omega) ?_
  refine g_putqR f_X10_init_183 rfl (by first | exact Or.inl ⟨_, rfl⟩ | exact Or.inr ⟨_, rfl⟩) (by exact ⟨by decide +kernel, by (try dsimp only); omega, by decide⟩) ?_
  refine g_absS (fun T22 a22 b22 => ?_)
  dsimp only at a22 b22
  have p22 := md_acc p21 b22 (i := 22) rfl (by decide)
  have r22 : ∀ k, k ≠ 87 → T22.2 k = S.2 k := fun k hk => by rw [b22, up_row hk]; exact r21 k hk
  clear b22
  clear p21 r21 a21
  refine g_alv f_X10_init_186 rfl ?_
  refine g_const f_X10_init_187 ?_
  refine g_newa (c := 12) (n := 112) f_X10_init_189 ac_int (by first | exact Or.inl ⟨rfl, rfl⟩ | exact Or.inr (Or.inl ⟨rfl, rfl⟩) | exact Or.inr (Or.inr (Or.inl ⟨rfl, rfl⟩)) | exact Or.inr (Or.inr (Or.inr ⟨rfl, rfl⟩))) (by decide) (show _ = 111 from a22) (by decide +kernel) (by rw [hγ]; show _ ≤ 28; omega) (by rw [hγ]; show _ ≤ 1987; omega) ?_
  refine g_putqR f_X10_init_191 rfl (by first | exact Or.inl ⟨_, rfl⟩ | exact Or.inr ⟨_, rfl⟩) (by exact ⟨by decide +kernel, by (try dsimp only); omega, by decide⟩) ?_
  refine g_absS (fun T23 a23 b23 => ?_)
  dsimp only at a23 b23
  have p23 := md_acc p22 b23 (i := 23) rfl (by decide)
  have r23 : ∀ k, k ≠ 87 → T23.2 k = S.2 k := fun k hk => by rw [b23, up_row hk]; exact r22 k hk
  clear b23
  clear p22 r22 a22
  refine g_alv f_X10_init_194 rfl ?_
  refine g_const f_X10_init_195 ?_
  refine g_newa (c := 12) (n := 6) f_X10_init_197 ac_int (by first | exact Or.inl ⟨rfl, rfl⟩ | exact Or.inr (Or.inl ⟨rfl, rfl⟩) | exact Or.inr (Or.inr (Or.inl ⟨rfl, rfl⟩)) | exact Or.inr (Or.inr (Or.inr ⟨rfl, rfl⟩))) (by decide) (show _ = 112 from a23) (by decide +kernel) (by rw [hγ]; show _ ≤ 28; omega) (by rw [hγ]; show _ ≤ 1987; omega) ?_
  refine g_putqR f_X10_init_199 rfl (by first | exact Or.inl ⟨_, rfl⟩ | exact Or.inr ⟨_, rfl⟩) (by exact ⟨by decide +kernel, by (try dsimp only); omega, by decide⟩) ?_
  refine g_absS (fun T24 a24 b24 => ?_)
  dsimp only at a24 b24
  have p24 := md_acc p23 b24 (i := 24) rfl (by decide)
  have r24 : ∀ k, k ≠ 87 → T24.2 k = S.2 k := fun k hk => by rw [b24, up_row hk]; exact r23 k hk
  clear b24
  clear p23 r23 a23
  refine g_alv f_X10_init_202 rfl ?_
  refine g_const f_X10_init_203 ?_
  refine g_newa (c := 12) (n := 6) f_X10_init_205 ac_int (by first | exact Or.inl ⟨rfl, rfl⟩ | exact Or.inr (Or.inl ⟨rfl, rfl⟩) | exact Or.inr (Or.inr (Or.inl ⟨rfl, rfl⟩)) | exact Or.inr (Or.inr (Or.inr ⟨rfl, rfl⟩))) (by decide) (show _ = 113 from a24) (by decide +kernel) (by rw [hγ]; show _ ≤ 28; omega) (by rw [hγ]; show _ ≤ 1987; omega) ?_
  refine g_putqR f_X10_init_207 rfl (by first | exact Or.inl ⟨_, rfl⟩ | exact Or.inr ⟨_, rfl⟩) (by exact ⟨by decide +kernel, by (try dsimp only); omega, by decide⟩) ?_
  refine g_absS (fun T25 a25 b25 => ?_)
  dsimp only at a25 b25
  have p25 := md_acc p24 b25 (i := 25) rfl (by decide)
  have r25 : ∀ k, k ≠ 87 → T25.2 k = S.2 k := fun k hk => by rw [b25, up_row hk]; exact r24 k hk
  clear b25
  clear p24 r24 a24
  refine g_alv f_X10_init_210 rfl ?_
  refine g_const f_X10_init_211 ?_
  refine g_newa (c := 12) (n := 6) f_X10_init_213 ac_int (by first | exact Or.inl ⟨rfl, rfl⟩ | exact Or.inr (Or.inl ⟨rfl, rfl⟩) | exact Or.inr (Or.inr (Or.inl ⟨rfl, rfl⟩)) | exact Or.inr (Or.inr (Or.inr ⟨rfl, rfl⟩))) (by decide) (show _ = 114 from a25) (by decide +kernel) (by rw [hγ]; show _ ≤ 28; omega) (by rw [hγ]; show _ ≤ 1987; omega) ?_
  refine g_putqR f_X10_init_215 rfl (by first | exact Or.inl ⟨_, rfl⟩ | exact Or.inr ⟨_, rfl⟩) (by exact ⟨by decide +kernel, by (try dsimp only); omega, by decide⟩) ?_
  refine g_absS (fun T26 a26 b26 => ?_)
  dsimp only at a26 b26
  have p26 := md_acc p25 b26 (i := 26) rfl (by decide)
  have r26 : ∀ k, k ≠ 87 → T26.2 k = S.2 k := fun k hk => by rw [b26, up_row hk]; exact r25 k hk
  clear b26
  clear p25 r25 a25
  refine g_alv f_X10_init_218 rfl ?_
  refine g_const f_X10_init_219 ?_
  refine g_newa (c := 13) (n := 360) f_X10_init_222 ac_long (by first | exact Or.inl ⟨rfl, rfl⟩ | exact Or.inr (Or.inl ⟨rfl, rfl⟩) | exact Or.inr (Or.inr (Or.inl ⟨rfl, rfl⟩)) | exact Or.inr (Or.inr (Or.inr ⟨rfl, rfl⟩))) (by decide) (show _ = 115 from a26) (by decide +kernel) (by rw [hγ]; show _ ≤ 28; omega) (by rw [hγ]; show _ ≤ 1987; omega) ?_
  refine g_putqR f_X10_init_224 rfl (by first | exact Or.inl ⟨_, rfl⟩ | exact Or.inr ⟨_, rfl⟩) (by exact ⟨by decide +kernel, by (try dsimp only); omega, by decide⟩) ?_
  refine g_absS (fun T27 a27 b27 => ?_)
  dsimp only at a27 b27
  have p27 := md_acc p26 b27 (i := 27) rfl (by decide)
  have r27 : ∀ k, k ≠ 87 → T27.2 k = S.2 k := fun k hk => by rw [b27, up_row hk]; exact r26 k hk
  clear b27
  clear p26 r26 a26
  refine g_alv f_X10_init_227 rfl ?_
  refine g_const f_X10_init_228 ?_
  refine g_putI f_X10_init_229 rfl (by exact ⟨by decide +kernel, by (try dsimp only); omega, by decide⟩) ?_
  refine g_const f_X10_init_232 ?_
  refine g_ist_1 f_X10_init_233 (by decide) c1v ?_
  have s113 : sh 113 = (12, 6) := by decide +kernel
  have s87 : sh 87 = (10, 0) := by decide +kernel
  have g113 : T27.2 87 41 = ((113 : Nat) : Int) := p27 (41, 113) (by decide)
  have loop : ∀ (m i : Nat) (M1 : Mm), i + m = 6 → (∀ k, k ≠ 113 → M1 k = up M 87 16 (-1) k) → (∀ n, n < i → M1 113 n = -1) → Go γ Ω mX10_init (Zm γ Ω 0 28 1987 (fun _ S' M' => S'.1 = 116 ∧ MdlF S' M' ∧ ∀ k, k < 87 → row2 S S' M M' k)) 28 1987 T27 M1 234 [some (vr Ω 87), some (vi (i : Int))] [] := by
    intro m
    induction m with
    | zero =>
      intro i M1 hm e1 e2
      have hi : i = 6 := by omega
      subst hi
      refine g_ild f_X10_init_234 rfl ?_
      refine g_const f_X10_init_235 ?_
      refine g_icmp_ge f_X10_init_237 rfl (by omega) (by omega) (fun hc => ?_) (fun hc => ?_)
      · refine g_ret0 (κ := 0) f_X10_init_253 rfl 0 ?_ (by omega) (by omega)
        refine ⟨a27, ⟨p27, fun j => ?_, e2, fun k a b c j => ?_⟩, fun k hk => ⟨r27 k (by omega), ?_⟩⟩
        · rw [e1 87 (by decide)]
          by_cases q : j = 16
          · subst q; rw [up_s, if_pos rfl]
          · rw [up_n (by omega), if_neg q]; exact hZ 87 (by omega) j
        · rw [e1 k b, up_row (by omega)]; exact hZ k (by omega) j
        · rw [e1 k (by omega), up_row (by omega)]
      · exact absurd (by omega) hc
    | succ m ih =>
      intro i M1 hm e1 e2
      refine g_ild f_X10_init_234 rfl ?_
      refine g_const f_X10_init_235 ?_
      refine g_icmp_ge f_X10_init_237 rfl (by omega) (by omega) (fun hc => ?_) (fun hc => ?_)
      · exact absurd hc (by omega)
      refine g_alv f_X10_init_240 rfl ?_
      refine g_getR f_X10_init_241 (by exact ⟨by assumption, by (try dsimp only); omega, by decide⟩) g113 ?_
      refine g_ild f_X10_init_244 rfl ?_
      refine g_const f_X10_init_245 ?_
      refine g_ias f_X10_init_246 (by exact ⟨by assumption, by (try dsimp only); omega, by decide⟩) i rfl (by omega) ?_
      refine g_inc_1 f_X10_init_247 (by decide) c1v ?_
      refine g_goto f_X10_init_250 ?_
      refine ih (i + 1) _ (by omega) (fun k hk => by rw [up_row hk]; exact e1 k hk) (fun n hn => ?_)
      by_cases q : n = i
      · subst q; exact up_s _ _ _ _
      · rw [up_n (by omega)]; exact e2 n (by omega)
  exact Go.wide (loop 6 0 (up M 87 16 (-1)) (by decide) (fun k _ => rfl) (fun n hn => absurd hn (Nat.not_lt_zero _))) (by omega) (by omega)
