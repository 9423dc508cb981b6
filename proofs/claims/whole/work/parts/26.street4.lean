/-! contracts: Street: bricks, one of the PEOPLE, what changes it -/
theorem rv_m1 (Ω : Ow) : rv Ω (-1) = .null := rfl
/-- the fewest WALLS more, as the class looks for them -/
def brk2 (w : Nat) (z : Ab) (t c : Nat) : Int := fstF c 0 (fun l => decide (seersW (w ||| (2 ^ c ||| 2 ^ l)) z t = 0))
def fst2 : Nat → Nat → (Nat → Int) → Int
  | 0, _, _ => -5
  | k + 1, i, g => if g i = -5 then fst2 k (i + 1) g else ((2 ^ i ||| 2 ^ (g i).toNat : Nat) : Int)
def brickC (z : Ab) (t : Nat) : Int := if seersN z t = 0 then 0 else if fstF 12 0 (fun c => decide (seersW (zw z ||| 2 ^ c) z t = 0)) = -5 then fst2 11 1 (brk2 (zw z) z t) else ((2 ^ (fstF 12 0 (fun c => decide (seersW (zw z ||| 2 ^ c) z t = 0))).toNat : Nat) : Int)
theorem fstF_cases : ∀ (k i : Nat) (f : Nat → Bool), (fstF k i f = -5 ∧ ∀ j, i ≤ j → j < i + k → f j = false) ∨ ∃ j, i ≤ j ∧ j < i + k ∧ fstF k i f = (j : Int) ∧ f j = true ∧ ∀ l, i ≤ l → l < j → f l = false := by
  intro k
  induction k with
  | zero => intro i f; exact Or.inl ⟨rfl, fun j h1 h2 => by omega⟩
  | succ k ih =>
    intro i f
    by_cases h : f i = true
    · exact Or.inr ⟨i, by omega, by omega, by rw [fstF, if_pos h], h, fun l h1 h2 => by omega⟩
    · rcases ih (i + 1) f with ⟨h1, h2⟩ | ⟨j, h1, h2, h3, h4, h5⟩
      · refine Or.inl ⟨by rw [fstF, if_neg h]; exact h1, fun j a b => ?_⟩
        by_cases hj : j = i
        · subst hj; simpa using h
        · exact h2 j (by omega) (by omega)
      · refine Or.inr ⟨j, by omega, by omega, by rw [fstF, if_neg h]; exact h3, h4, fun l a b => ?_⟩
        by_cases hl : l = i
        · subst hl; simpa using h
        · exact h5 l (by omega) b
set_option maxHeartbeats 4000000 in
set_option maxRecDepth 100000 in
theorem c_bricks {Ω : Ow} {S : Sg} {M : Mm} {B : Nat} {z : Ab} (hG : Gr S) (hB : isB B) (hX : RepX S M B z) (hO : okZ z) {t : Nat} (ht : t < 12) : Ct Ω mX5_bricks 8 0 0 1 [vr Ω B, vi (t : Int)] S M (fun x S' M' => x = brickC z t ∧ S' = S ∧ eyc B M M' ∧ eyeOK M' B z ∧ RepX S M' B z) := by
  refine Ct.mk (by decide) (Nat.le_of_ble_eq_true rfl) [some (vr Ω B), some (vi (t : Int)), none, none, none] (by intro q hq; exact hq) (fun γ hγ hz => ?_)
  obtain ⟨x1, x2, x3, x4, x5, Λ, x6, x7, x8, x9⟩ := id hX
  obtain ⟨z1, z2, z3, z4, z5⟩ := id hO
  have oB := obB hG hB
  have aB := arB hG hB
  have g0 := (hG.2.2.1 B hB).1
  refine g_alv f_X5_bricks_0 rfl ?_
  refine g_cv0 hγ (c_look hG hB hX hO) f_X5_bricks_1 mo_X5_look mv_X5_look (by assumption) rfl rfl (Nat.le_of_ble_eq_true rfl) ⟨by decide, by decide⟩ ⟨Nat.le_refl _, Nat.le_refl _⟩ (fun x S' M1 hq2 => ?_)
  obtain ⟨q1, l1, l2, l3⟩ := hq2
  obtain rfl := q1.symm
  have hwl : ∀ x, x < 4096 → zw z ||| x < 4096 := fun x hx => Nat.or_lt_two_pow (n := 12) z2 hx
  have L2 : ∀ (k c : Nat) (v3 v4 : Option Value), c + k = 12 → 1 ≤ c → cat1 v3 → fst2 k c (brk2 (zw z) z t) = brickC z t → Go γ Ω mX5_bricks (Zm γ Ω 1 0 0 (fun x S' M' => x = brickC z t ∧ S' = S ∧ eyc B M M' ∧ eyeOK M' B z ∧ RepX S M' B z)) 0 0 S M1 50 [some (vr Ω B), some (vi (t : Int)), some (vi (c : Int)), v3, v4] [] := by
    intro k
    induction k with
    | zero =>
      intro c v3 v4 hk hc1 q3 hi
      have hn : c = 12 := by omega
      subst hn
      refine g_ild f_X5_bricks_50 rfl ?_
      refine g_const f_X5_bricks_51 ?_
      refine g_icmp_ge f_X5_bricks_53 rfl (by omega) (by omega) (fun hc => ?_) (fun hc => ?_)
      · refine g_const f_X5_bricks_102 ?_
        refine g_reti f_X5_bricks_104 rfl ?_ (Nat.zero_le _) (Nat.zero_le _)
        exact ⟨hi, rfl, l1, l2, l3⟩
      · exact absurd (by omega) hc
    | succ k ih =>
      intro c v3 v4 hk hc1 q3 hi
      have hn : c < 12 := by omega
      have hb2 : 2 ^ c ≤ 2048 := p2le hn
      have hb3 := Nat.two_pow_pos c
      have L3 : ∀ (j l : Nat) (v4 : Option Value), l + j = c → fstF j l (fun l => decide (seersW (zw z ||| (2 ^ c ||| 2 ^ l)) z t = 0)) = brk2 (zw z) z t c → Go γ Ω mX5_bricks (Zm γ Ω 1 0 0 (fun x S' M' => x = brickC z t ∧ S' = S ∧ eyc B M M' ∧ eyeOK M' B z ∧ RepX S M' B z)) 0 0 S M1 58 [some (vr Ω B), some (vi (t : Int)), some (vi (c : Int)), some (vi (l : Int)), v4] [] := by
        intro j
        induction j with
        | zero =>
          intro l v4 hj hl
          have hn2 : l = c := by omega
          subst hn2
          refine g_ild f_X5_bricks_58 rfl ?_
          refine g_ild f_X5_bricks_59 rfl ?_
          refine g_icmp_ge f_X5_bricks_60 rfl (by omega) (by omega) (fun hd => ?_) (fun hd => ?_)
          · refine g_inc_2 f_X5_bricks_96 (by decide) c1i ?_
            refine g_goto f_X5_bricks_99 ?_
            exact ih (l + 1) _ _ (by omega) (by omega) c1i (by rw [← hi, fst2, if_pos (by rw [← hl]; rfl)])
          · exact absurd (by omega) hd
        | succ j ih2 =>
          intro l v4 hj hl
          have hn2 : l < c := by omega
          have hb4 : 2 ^ l ≤ 2048 := p2le (by omega)
          have hb5 := Nat.two_pow_pos l
          have hp : 2 ^ c ||| 2 ^ l < 4096 := Nat.or_lt_two_pow (n := 12) (by omega) (by omega)
          refine g_ild f_X5_bricks_58 rfl ?_
          refine g_ild f_X5_bricks_59 rfl ?_
          refine g_icmp_ge f_X5_bricks_60 rfl (by omega) (by omega) (fun hd => ?_) (fun hd => ?_)
          · exact absurd hd (by omega)
          refine g_const f_X5_bricks_63 ?_
          refine g_ild f_X5_bricks_64 rfl ?_
          refine g_ishl f_X5_bricks_65 ?_
          rw [show (1 : Int) = ((1 : Nat) : Int) from rfl, bshl_n (by omega) (by omega), Nat.one_mul]
          refine g_const f_X5_bricks_66 ?_
          refine g_ild f_X5_bricks_67 rfl ?_
          refine g_ishl f_X5_bricks_68 ?_
          rw [show (1 : Int) = ((1 : Nat) : Int) from rfl, bshl_n (by omega) (by omega), Nat.one_mul]
          refine g_ior f_X5_bricks_69 ?_
          rw [bor_n (by omega) (by omega)]
          refine g_ist_4 f_X5_bricks_70 (by decide) c1i ?_
          refine g_alv f_X5_bricks_72 rfl ?_
          refine g_ild f_X5_bricks_73 rfl ?_
          refine g_alv f_X5_bricks_74 rfl ?_
          refine g_getI f_X5_bricks_75 (by assumption) ?_
          rw [l3.2.1]
          refine g_ild f_X5_bricks_78 rfl ?_
          refine g_ior f_X5_bricks_80 ?_
          rw [bor_n (by omega) (by omega)]
          refine g_cv1 hγ (c_seersBehind hG hB l3 hO l2 ht (w := zw z ||| (2 ^ c ||| 2 ^ l)) (hwl _ hp)) f_X5_bricks_81 mo_X5_seersBehind mv_X5_seersBehind (by assumption) rfl rfl (Nat.le_of_ble_eq_true rfl) ⟨by decide, by decide⟩ ⟨Nat.le_refl _, Nat.le_refl _⟩ (fun x S' M' hq2 => ?_)
          obtain ⟨rfl, q1, q2⟩ := hq2
          obtain rfl := q1.symm
          obtain rfl := q2.symm
          have hsl := seersW_lt (w := zw z ||| (2 ^ c ||| 2 ^ l)) (t := t) hO
          refine g_if_ne f_X5_bricks_84 rfl (by omega) (fun hs => ?_) (fun hs => ?_)
          · refine g_inc_3 f_X5_bricks_90 (by decide) c1i ?_
            refine g_goto f_X5_bricks_93 ?_
            exact ih2 (l + 1) _ (by omega) (by rw [← hl, fstF, if_neg (by simp; omega)])
          · refine g_ild f_X5_bricks_87 rfl ?_
            refine g_reti f_X5_bricks_89 rfl ?_ (Nat.zero_le _) (Nat.zero_le _)
            have hlv : brk2 (zw z) z t c = (l : Int) := by rw [← hl, fstF, if_pos (by simp; omega)]
            exact ⟨by rw [← hi, fst2, if_neg (by rw [hlv]; omega), hlv]; rfl, rfl, l1, l2, l3⟩
      refine g_ild f_X5_bricks_50 rfl ?_
      refine g_const f_X5_bricks_51 ?_
      refine g_icmp_ge f_X5_bricks_53 rfl (by omega) (by omega) (fun hc => ?_) (fun hc => ?_)
      · exact absurd hc (by omega)
      refine g_const f_X5_bricks_56 ?_
      refine g_ist_3 f_X5_bricks_57 (by decide) c1i ?_
      exact L3 c 0 _ (by omega) rfl
  have L1 : ∀ (k c : Nat), c + k = 12 → seersN z t ≠ 0 → fstF k c (fun c => decide (seersW (zw z ||| 2 ^ c) z t = 0)) = fstF 12 0 (fun c => decide (seersW (zw z ||| 2 ^ c) z t = 0)) → Go γ Ω mX5_bricks (Zm γ Ω 1 0 0 (fun x S' M' => x = brickC z t ∧ S' = S ∧ eyc B M M' ∧ eyeOK M' B z ∧ RepX S M' B z)) 0 0 S M1 16 [some (vr Ω B), some (vi (t : Int)), some (vi (c : Int)), none, none] [] := by
    intro k
    induction k with
    | zero =>
      intro c hk h0 hi
      have hn : c = 12 := by omega
      subst hn
      refine g_ild f_X5_bricks_16 rfl ?_
      refine g_const f_X5_bricks_17 ?_
      refine g_icmp_ge f_X5_bricks_19 rfl (by omega) (by omega) (fun hc => ?_) (fun hc => ?_)
      · refine g_const f_X5_bricks_48 ?_
        refine g_ist_2 f_X5_bricks_49 (by decide) c1i ?_
        exact L2 11 1 none none rfl (by omega) c1n (by unfold brickC; rw [if_neg h0, if_pos (by rw [← hi]; rfl)])
      · exact absurd (by omega) hc
    | succ k ih =>
      intro c hk h0 hi
      have hn : c < 12 := by omega
      have hb2 : 2 ^ c ≤ 2048 := p2le hn
      have hb3 := Nat.two_pow_pos c
      refine g_ild f_X5_bricks_16 rfl ?_
      refine g_const f_X5_bricks_17 ?_
      refine g_icmp_ge f_X5_bricks_19 rfl (by omega) (by omega) (fun hc => ?_) (fun hc => ?_)
      · exact absurd hc (by omega)
      refine g_alv f_X5_bricks_22 rfl ?_
      refine g_ild f_X5_bricks_23 rfl ?_
      refine g_alv f_X5_bricks_24 rfl ?_
      refine g_getI f_X5_bricks_25 (by assumption) ?_
      rw [l3.2.1]
      refine g_const f_X5_bricks_28 ?_
      refine g_ild f_X5_bricks_29 rfl ?_
      refine g_ishl f_X5_bricks_30 ?_
      rw [show (1 : Int) = ((1 : Nat) : Int) from rfl, bshl_n (by omega) (by omega), Nat.one_mul]
      refine g_ior f_X5_bricks_31 ?_
      rw [bor_n (by omega) (by omega)]
      refine g_cv1 hγ (c_seersBehind hG hB l3 hO l2 ht (w := zw z ||| 2 ^ c) (hwl _ (by omega))) f_X5_bricks_32 mo_X5_seersBehind mv_X5_seersBehind (by assumption) rfl rfl (Nat.le_of_ble_eq_true rfl) ⟨by decide, by decide⟩ ⟨Nat.le_refl _, Nat.le_refl _⟩ (fun x S' M' hq2 => ?_)
      obtain ⟨rfl, q1, q2⟩ := hq2
      obtain rfl := q1.symm
      obtain rfl := q2.symm
      have hsl := seersW_lt (w := zw z ||| 2 ^ c) (t := t) hO
      refine g_if_ne f_X5_bricks_35 rfl (by omega) (fun hs => ?_) (fun hs => ?_)
      · refine g_inc_2 f_X5_bricks_42 (by decide) c1i ?_
        refine g_goto f_X5_bricks_45 ?_
        exact ih (c + 1) (by omega) h0 (by rw [← hi, fstF, if_neg (by simp; omega)])
      · refine g_const f_X5_bricks_38 ?_
        refine g_ild f_X5_bricks_39 rfl ?_
        refine g_ishl f_X5_bricks_40 ?_
        rw [show (1 : Int) = ((1 : Nat) : Int) from rfl, bshl_n (by omega) (by omega), Nat.one_mul]
        refine g_reti f_X5_bricks_41 rfl ?_ (Nat.zero_le _) (Nat.zero_le _)
        have hlv : fstF 12 0 (fun c => decide (seersW (zw z ||| 2 ^ c) z t = 0)) = (c : Int) := by rw [← hi, fstF, if_pos (by simp; omega)]
        exact ⟨by unfold brickC; rw [if_neg h0, if_neg (by rw [hlv]; omega), hlv]; rfl, rfl, l1, l2, l3⟩
  refine g_alv f_X5_bricks_4 rfl ?_
  refine g_ild f_X5_bricks_5 rfl ?_
  refine g_cv1 hγ (c_seersInView hG hB l3 hO l2 (t := t) (by omega)) f_X5_bricks_6 mo_X5_seersInView mv_X5_seersInView (by assumption) rfl rfl (Nat.le_of_ble_eq_true rfl) ⟨by decide, by decide⟩ ⟨Nat.le_refl _, Nat.le_refl _⟩ (fun x S' M' hq2 => ?_)
  obtain ⟨rfl, q1, q2⟩ := hq2
  obtain rfl := q1.symm
  obtain rfl := q2.symm
  have hsl := seersN_lt (t := t) hO
  refine g_if_ne f_X5_bricks_9 rfl (by omega) (fun h0 => ?_) (fun h0 => ?_)
  · refine g_const f_X5_bricks_14 ?_
    refine g_ist_2 f_X5_bricks_15 (by decide) c1i ?_
    exact L1 12 0 rfl (by omega) rfl
  · refine g_const f_X5_bricks_12 ?_
    refine g_reti f_X5_bricks_13 rfl ?_ (Nat.zero_le _) (Nat.zero_le _)
    exact ⟨by unfold brickC; rw [if_pos (by omega)], rfl, l1, l2, l3⟩

set_option maxHeartbeats 4000000 in
set_option maxRecDepth 100000 in
theorem c_person {Ω : Ow} {S : Sg} {M : Mm} {B : Nat} {z : Ab} (hG : Gr S) (hB : isB B) (hX : RepX S M B z) (hO : okZ z) (n : Int) (hn : rg n) : Ct Ω mX5_person 1 0 0 3 [vr Ω B, vi n] S M (fun x S' M' => ((∃ p : Nat, p < zc z ∧ n = (p : Int) ∧ x = (pe B p : Int)) ∨ (¬ (0 ≤ n ∧ n < (zc z : Int)) ∧ x = -1)) ∧ S' = S ∧ M' = M) := by
  refine Ct.mk (by decide) (Nat.le_of_ble_eq_true rfl) [some (vr Ω B), some (vi n)] (by intro q hq; exact hq) (fun γ hγ hz => ?_)
  obtain ⟨x1, x2, x3, x4, x5, Λ, x6, x7, x8, x9⟩ := id hX
  obtain ⟨z1, z2, z3, z4, z5⟩ := id hO
  have oB := obB hG hB
  have aB := arB hG hB
  have g0 := (hG.2.2.1 B hB).1
  refine g_ild f_X5_person_0 rfl ?_
  refine g_if_lt f_X5_person_1 rfl (by omega) (fun h0 => ?_) (fun h0 => ?_)
  · refine g_null f_X5_person_21 ?_
    refine g_reta f_X5_person_22 rfl (Or.inl ⟨_, rfl⟩) (x := -1) rfl ?_ (Nat.zero_le _) (Nat.zero_le _)
    exact ⟨Or.inr ⟨by omega, rfl⟩, rfl, rfl⟩
  · refine g_ild f_X5_person_4 rfl ?_
    refine g_alv f_X5_person_5 rfl ?_
    refine g_getI f_X5_person_6 (by assumption) ?_
    rw [x1]
    refine g_icmp_ge f_X5_person_9 rfl (by omega) (by omega) (fun h1 => ?_) (fun h1 => ?_)
    · refine g_null f_X5_person_21 ?_
      refine g_reta f_X5_person_22 rfl (Or.inl ⟨_, rfl⟩) (x := -1) rfl ?_ (Nat.zero_le _) (Nat.zero_le _)
      exact ⟨Or.inr ⟨by omega, rfl⟩, rfl, rfl⟩
    · obtain ⟨p, rfl⟩ := Int.eq_ofNat_of_zero_le (show 0 ≤ n by omega)
      have hp : p < zc z := by omega
      have gn := ((hG.2.2.1 B hB).2 p (by omega)).1
      refine g_alv f_X5_person_12 rfl ?_
      refine g_getR f_X5_person_13 (by assumption) (by assumption) ?_
      refine g_ild f_X5_person_16 rfl ?_
      refine g_aal f_X5_person_17 (by assumption) (Or.inl rfl) _ rfl (by omega) (by assumption) ?_
      refine g_goto f_X5_person_18 ?_
      refine g_reta f_X5_person_22 rfl (Or.inl ⟨_, rfl⟩) (x := (pe B p : Int)) rfl ?_ (Nat.zero_le _) (Nat.zero_le _)
      exact ⟨Or.inl ⟨p, hp, rfl, rfl⟩, rfl, rfl⟩

set_option maxHeartbeats 4000000 in
set_option maxRecDepth 100000 in
theorem c_arrive {Ω : Ow} {S : Sg} {M : Mm} {q : Nat} (hq : Ob S q 3) (ha : Ar S (q + 1) 12 4) (hg : S.2 q 6 = ((q + 1 : Nat) : Int)) (k v c : Nat) : Ct Ω mX3_arrive 1 0 0 0 [vr Ω q, vi (k : Int), vi (v : Int), vi (c : Int)] S M (fun _ S' M' => S' = S ∧ (∀ k, k ≠ q → k ≠ q + 1 → M' k = M k) ∧ M' q 0 = M q 0 ∧ M' q 7 = M q 7 ∧ RepP M' q (fun a => if a = 0 then k else if a = 1 then v else if a = 2 then c else if a = 3 then 100 else 0)) := by
  refine Ct.mk (by decide) (Nat.le_of_ble_eq_true rfl) [some (vr Ω q), some (vi (k : Int)), some (vi (v : Int)), some (vi (c : Int)), none] (by intro q hq; exact hq) (fun γ hγ hz => ?_)
  have loop : ∀ (m n : Nat) (M1 : Mm), n + m = 4 → M1 q 1 = (k : Int) → M1 q 2 = (v : Int) → M1 q 3 = (c : Int) → M1 q 4 = 100 → M1 q 5 = 0 → M1 q 0 = M q 0 → M1 q 7 = M q 7 → (∀ j, j < n → M1 (q + 1) j = 0) → (∀ k, k ≠ q → k ≠ q + 1 → M1 k = M k) → Go γ Ω mX3_arrive (Zm γ Ω 0 0 0 (fun _ S' M' => S' = S ∧ (∀ k, k ≠ q → k ≠ q + 1 → M' k = M k) ∧ M' q 0 = M q 0 ∧ M' q 7 = M q 7 ∧ RepP M' q (fun a => if a = 0 then k else if a = 1 then v else if a = 2 then c else if a = 3 then 100 else 0))) 0 0 S M1 29 [some (vr Ω q), some (vi (k : Int)), some (vi (v : Int)), some (vi (c : Int)), some (vi (n : Int))] [] := by
    intro m
    induction m with
    | zero =>
      intro n M1 hk h1 h2 h3 h4 h5 h0 h7 hr hf
      refine g_ild f_X3_arrive_29 rfl ?_
      refine g_const f_X3_arrive_31 ?_
      refine g_icmp_ge f_X3_arrive_32 rfl (by omega) (by omega) (fun hc => ?_) (fun hc => ?_)
      · refine g_ret0 (κ := 0) f_X3_arrive_49 rfl 0 ?_ (Nat.zero_le _) (Nat.zero_le _)
        exact ⟨rfl, hf, h0, h7, h1, h2, h3, h4, h5, fun j hj => by rw [hr j (by omega)]; simp [show ¬ 5 + j = 1 by omega, show ¬ 5 + j = 2 by omega, show ¬ 5 + j = 3 by omega]⟩
      · exact absurd (by omega) hc
    | succ m ih =>
      intro n M1 hk h1 h2 h3 h4 h5 h0 h7 hr hf
      have hn : n < 4 := by omega
      have e : up M1 (q + 1) n 0 q = M1 q := up_row (by omega)
      refine g_ild f_X3_arrive_29 rfl ?_
      refine g_const f_X3_arrive_31 ?_
      refine g_icmp_ge f_X3_arrive_32 rfl (by omega) (by omega) (fun hc => ?_) (fun hc => ?_)
      · exact absurd hc (by omega)
      refine g_alv f_X3_arrive_35 rfl ?_
      refine g_getR f_X3_arrive_36 (by assumption) (by assumption) ?_
      refine g_ild f_X3_arrive_39 rfl ?_
      refine g_const f_X3_arrive_41 ?_
      refine g_ias f_X3_arrive_42 (by assumption) _ rfl (by omega) ?_
      refine g_inc_4 f_X3_arrive_43 (by decide) c1i ?_
      refine g_goto f_X3_arrive_46 ?_
      refine ih (n + 1) (up M1 (q + 1) n 0) (by omega) (by rw [e]; exact h1) (by rw [e]; exact h2) (by rw [e]; exact h3) (by rw [e]; exact h4) (by rw [e]; exact h5) (by rw [e]; exact h0) (by rw [e]; exact h7) (fun j hj => ?_) (fun k2 a b => by rw [up_row b]; exact hf k2 a b)
      by_cases hjn : j = n
      · subst hjn; exact up_s _ _ _ _
      · rw [up_n (by omega)]; exact hr j (by omega)
  refine g_alv f_X3_arrive_0 rfl ?_
  refine g_ild f_X3_arrive_1 rfl ?_
  refine g_putI f_X3_arrive_2 rfl (by assumption) ?_
  refine g_alv f_X3_arrive_5 rfl ?_
  refine g_ild f_X3_arrive_6 rfl ?_
  refine g_putI f_X3_arrive_7 rfl (by assumption) ?_
  refine g_alv f_X3_arrive_10 rfl ?_
  refine g_ild f_X3_arrive_11 rfl ?_
  refine g_putI f_X3_arrive_12 rfl (by assumption) ?_
  refine g_alv f_X3_arrive_15 rfl ?_
  refine g_const f_X3_arrive_16 ?_
  refine g_putI f_X3_arrive_18 rfl (by assumption) ?_
  refine g_alv f_X3_arrive_21 rfl ?_
  refine g_const f_X3_arrive_22 ?_
  refine g_putZ f_X3_arrive_23 rfl (by omega) (by assumption) ?_
  refine g_const f_X3_arrive_26 ?_
  refine g_ist_4 f_X3_arrive_27 (by decide) c1i ?_
  refine loop 4 0 _ rfl ?_ ?_ ?_ ?_ ?_ ?_ ?_ (fun j hj => by omega) (fun k2 a b => by simp only [up_row a])
  · simp [up]
  · simp [up]
  · simp [up]
  · simp [up]
  · simp [up]
  · simp [up]
  · simp [up]

theorem welc {S : Sg} {M M1 : Mm} {B k v c : Nat} {z : Ab} (hB : isB B) (hX : RepX S M B z) (hc6 : zc z < 6) (hf : ∀ k, k ≠ pe B (zc z) → k ≠ pe B (zc z) + 1 → M1 k = M k) (h00 : M1 (pe B (zc z)) 0 = M (pe B (zc z)) 0) (hr : RepP M1 (pe B (zc z)) (fun a => if a = 0 then k else if a = 1 then v else if a = 2 then c else if a = 3 then 100 else 0)) : RepX S (up M1 B 1 ((zc z : Int) + 1)) B (joinZ z k v c) := by
  obtain ⟨x1, x2, x3, x4, x5, Λ, x6, x7, x8, x9⟩ := hX
  have eB : M1 B = M B := hf B (by unfold pe; omega) (by unfold pe; omega)
  have hin := pe_in (B := B) hc6
  refine ⟨by rw [up_s]; rfl, by rw [up_n (by omega), eB]; exact x2, by rw [up_n (by omega), eB]; exact x3, fun p hp => ?_, fun p hp => ?_, Λ, x6, x7, x8, ?_⟩
  · have hp2 : p < zc z + 1 := hp
    have e1 : ∀ w, up M1 B 1 w (pe B p) = M1 (pe B p) := fun w => up_row (by unfold pe; omega)
    have e2 : ∀ w, up M1 B 1 w (pe B p + 1) = M1 (pe B p + 1) := fun w => up_row (by unfold pe; omega)
    unfold RepP
    rw [e1, e2]
    by_cases h : p = zc z
    · subst h
      have e3 : zP (joinZ z k v c) (zc z) = (fun a => if a = 0 then k else if a = 1 then v else if a = 2 then c else if a = 3 then 100 else 0) := by
        funext a
        show (if zc z = zc z then _ else _) = _
        rw [if_pos rfl]
      rw [e3]
      exact hr
    · have e3 : zP (joinZ z k v c) p = zP z p := by
        funext a
        show (if p = zc z then _ else _) = _
        rw [if_neg h]
      rw [e3, hf (pe B p) (by unfold pe; omega) (by unfold pe; omega), hf (pe B p + 1) (by unfold pe; omega) (by unfold pe; omega)]
      exact x4 p (by omega)
  · rw [up_row (by unfold pe; omega)]
    by_cases h : p = zc z
    · subst h; rw [h00]; exact x5 _ hp
    · rw [hf (pe B p) (by unfold pe; omega) (by unfold pe; omega)]; exact x5 p hp
  · refine RepLaw.far x9 hB x7 (fun k2 a b => ?_)
    rw [up_row (by omega), hf k2 (by omega) (by omega)]
set_option maxHeartbeats 4000000 in
set_option maxRecDepth 100000 in
theorem c_welcome {Ω : Ow} {S : Sg} {M : Mm} {B : Nat} {z : Ab} (hG : Gr S) (hB : isB B) (hX : RepX S M B z) (hO : okZ z) (k v c : Nat) : Ct Ω mX5_welcome 2 0 0 1 [vr Ω B, vi (k : Int), vi (v : Int), vi (c : Int)] S M (fun x S' M' => S' = S ∧ ((zc z = 6 ∧ x = -4 ∧ M' = M) ∨ (zc z < 6 ∧ x = (zc z : Int) ∧ blk B M M' ∧ RepX S M' B (joinZ z k v c)))) := by
  refine Ct.mk (by decide) (Nat.le_of_ble_eq_true rfl) [some (vr Ω B), some (vi (k : Int)), some (vi (v : Int)), some (vi (c : Int))] (by intro q hq; exact hq) (fun γ hγ hz => ?_)
  obtain ⟨x1, x2, x3, x4, x5, Λ, x6, x7, x8, x9⟩ := id hX
  obtain ⟨z1, z2, z3, z4, z5⟩ := id hO
  have oB := obB hG hB
  have aB := arB hG hB
  have g0 := (hG.2.2.1 B hB).1
  refine g_alv f_X5_welcome_0 rfl ?_
  refine g_getI f_X5_welcome_1 (by assumption) ?_
  rw [x1]
  refine g_const f_X5_welcome_4 ?_
  refine g_icmp_lt f_X5_welcome_6 rfl (by omega) (by omega) (fun h0 => ?_) (fun h0 => ?_)
  · have hc6 : zc z < 6 := by omega
    have gn := ((hG.2.2.1 B hB).2 (zc z) hc6).1
    have oN := obP (p := zc z) hG hB hc6
    have aN := arP (p := zc z) hG hB hc6
    have gR := ((hG.2.2.1 B hB).2 (zc z) hc6).2
    refine g_alv f_X5_welcome_12 rfl ?_
    refine g_getR f_X5_welcome_13 (by assumption) (by assumption) ?_
    refine g_alv f_X5_welcome_16 rfl ?_
    refine g_getI f_X5_welcome_17 (by assumption) ?_
    rw [x1]
    refine g_aal f_X5_welcome_20 (by assumption) (Or.inl rfl) _ rfl (by omega) (by assumption) ?_
    refine g_ild f_X5_welcome_21 rfl ?_
    refine g_ild f_X5_welcome_22 rfl ?_
    refine g_ild f_X5_welcome_23 rfl ?_
    refine g_cv0 hγ (c_arrive oN aN gR k v c) f_X5_welcome_24 mo_X3_arrive mv_X3_arrive (by assumption) rfl rfl (Nat.le_of_ble_eq_true rfl) ⟨by decide, by decide⟩ ⟨Nat.le_refl _, Nat.le_refl _⟩ (fun x S' M1 hq2 => ?_)
    obtain ⟨q1, hf, h00, h07, hr⟩ := hq2
    obtain rfl := q1.symm
    have eB : M1 B = M B := hf B (by unfold pe; omega) (by unfold pe; omega)
    refine g_alv f_X5_welcome_27 rfl ?_
    refine g_dup f_X5_welcome_28 rfl ?_
    refine g_getI f_X5_welcome_29 (by assumption) ?_
    rw [eB, x1]
    refine g_const f_X5_welcome_32 ?_
    refine g_iadd f_X5_welcome_33 ?_
    refine g_putI f_X5_welcome_34 rfl (by assumption) ?_
    refine g_alv f_X5_welcome_37 rfl ?_
    refine g_getI f_X5_welcome_38 (by assumption) ?_
    rw [up_s]
    refine g_const f_X5_welcome_41 ?_
    refine g_isub f_X5_welcome_42 ?_
    rw [show ((zc z : Int) + 1 - 1) = (zc z : Int) by omega]
    refine g_reti f_X5_welcome_43 rfl ?_ (Nat.zero_le _) (Nat.zero_le _)
    refine ⟨rfl, Or.inr ⟨hc6, rfl, ?_, ?_⟩⟩
    · intro k2 a b
      have hin := pe_in (B := B) hc6
      rw [up_row (by omega), hf k2 (by omega) (by omega)]
    · exact welc hB hX hc6 hf h00 hr
  · refine g_const f_X5_welcome_9 ?_
    refine g_reti f_X5_welcome_11 rfl ?_ (Nat.zero_le _) (Nat.zero_le _)
    exact ⟨rfl, Or.inl ⟨by omega, rfl, rfl⟩⟩
