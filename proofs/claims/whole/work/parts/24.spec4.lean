/-! what changes a street -/
def blk (B : Nat) (M M' : Mm) : Prop := ∀ k, (k < B ∨ B + 14 ≤ k) → ¬ subjC k → M' k = M k
theorem blk.rf {B : Nat} {M : Mm} : blk B M M := fun _ _ _ => rfl
theorem blk.tr {B : Nat} {M M1 M2 : Mm} (h1 : blk B M M1) (h2 : blk B M1 M2) : blk B M M2 := fun k a b => (h2 k a b).trans (h1 k a b)
theorem eyc.blk {B : Nat} {M M' : Mm} (h : eyc B M M') : blk B M M' := fun k a b => funext fun j => h k j b (by rintro ⟨-, p, hp, rfl⟩; unfold pe at a; omega)
theorem blk_up {B : Nat} {M M' : Mm} (h : blk B M M') {k j : Nat} {v : Int} (hk : B ≤ k ∧ k < B + 14) : blk B M (up M' k j v) := fun k2 a b => by
  rw [up_row (by omega)]
  exact h k2 a b
theorem blk_upM {B : Nat} {M : Mm} {k j : Nat} {v : Int} (hk : B ≤ k ∧ k < B + 14) : blk B M (up M k j v) := blk_up blk.rf hk
theorem pe_in {B p : Nat} (hp : p < 6) : B ≤ pe B p ∧ pe B p < B + 14 ∧ pe B p + 1 < B + 14 := by unfold pe; omega
theorem blk.at {B : Nat} {M M' : Mm} (h : blk B M M') {k : Nat} {s : Nat × Nat} (hs : sh k = s) (h1 : s ≠ (12, 6)) (h2 : k < B ∨ B + 14 ≤ k) : M' k = M k := h k h2 (fun q => h1 (hs.symm.trans (sh_subj q)))
theorem B_far {B B2 : Nat} (hB : isB B) (hB2 : isB B2) (h : B ≠ B2) : B2 + 14 ≤ B ∨ B + 14 ≤ B2 := by
  rcases hB with rfl | rfl | rfl <;> rcases hB2 with rfl | rfl | rfl <;> omega
theorem law_far {B Λ : Nat} (hB : isB B) (h : isLaw Λ) : Λ + 6 ≤ B ∨ B + 14 ≤ Λ := by
  rcases hB with rfl | rfl | rfl <;> rcases h with rfl | rfl | ⟨h, rfl⟩ <;> omega
theorem RepLaw.far {B Λ : Nat} {M M' : Mm} {L : LawC} (h : RepLaw M Λ L) (hB : isB B) (hΛ : isLaw Λ) (he : blk B M M') : RepLaw M' Λ L := by
  obtain ⟨s0, s1, s2, s3, s4, -⟩ := sh_law hΛ
  have hf := law_far hB hΛ
  have e0 := he.at s0 (by decide) (by omega)
  have e1 := he.at s1 (by decide) (by omega)
  have e2 := he.at s2 (by decide) (by omega)
  have e3 := he.at s3 (by decide) (by omega)
  have e4 := he.at s4 (by decide) (by omega)
  unfold RepLaw
  rw [e0, e1, e2, e3, e4]
  exact h
theorem RepX.blk {S S' : Sg} {B B2 : Nat} {M M' : Mm} {z : Ab} (h : RepX S M B2 z) (hB : isB B) (hB2 : isB B2) (hne : B ≠ B2) (he : blk B M M') (hS1 : S.1 ≤ S'.1) (hS : S'.2 B2 4 = S.2 B2 4) (hc : zc z ≤ 6) : RepX S' M' B2 z := by
  obtain ⟨h1, h2, h3, h4, h5, Λ, h6, h7, h8, h9⟩ := h
  have hf := B_far hB hB2 hne
  have eB : M' B2 = M B2 := he.at (sh_pe hB2 (show 0 < 6 by decide)).2.2 (by decide) (by omega)
  have eP : ∀ p, p < 6 → M' (pe B2 p) = M (pe B2 p) ∧ M' (pe B2 p + 1) = M (pe B2 p + 1) := fun p hp => by
    have := pe_in (B := B2) hp
    exact ⟨he.at (sh_pe hB2 hp).1 (by decide) (by omega), he.at (sh_pe hB2 hp).2.1 (by decide) (by omega)⟩
  refine ⟨by rw [eB]; exact h1, by rw [eB]; exact h2, by rw [eB]; exact h3, fun p hp => ?_, fun p hp => by rw [(eP p hp).1]; exact h5 p hp, Λ, by rw [hS]; exact h6, h7, by omega, h9.far hB h7 he⟩
  obtain ⟨e1, e2⟩ := eP p (by omega)
  have h := h4 p hp
  unfold RepP at h ⊢
  rw [e1, e2]
  exact h
/-- one attribute of one person becomes v -/
def setP (z : Ab) (n a v : Nat) : Ab := (zc z, zw z, zd z, fun p b => if p = n ∧ b = a then v else zP z p b, zL z)
theorem RepX_setP {S : Sg} {M : Mm} {B n a v : Nat} {z : Ab} (h : RepX S M B z) (hB : isB B) (hc : zc z ≤ 6) (hn : n < 6) (ha : a ≤ 4) : RepX S (up M (pe B n) (a + 1) (v : Int)) B (setP z n a v) := by
  obtain ⟨h1, h2, h3, h4, h5, Λ, h6, h7, h8, h9⟩ := h
  have hin := pe_in (B := B) hn
  have nB : B ≠ pe B n := by unfold pe; omega
  refine ⟨by rw [up_row nB]; exact h1, by rw [up_row nB]; exact h2, by rw [up_row nB]; exact h3, fun p hp => ?_, fun p hp => by rw [up_n (by omega)]; exact h5 p hp, Λ, h6, h7, h8, ?_⟩
  · obtain ⟨r1, r2, r3, r4, r5, r6⟩ := h4 p hp
    have key : ∀ j b, j = b + 1 → M (pe B p) j = (zP z p b : Int) → up M (pe B n) (a + 1) (v : Int) (pe B p) j = ((if p = n ∧ b = a then v else zP z p b : Nat) : Int) := by
      intro j b hj hm
      subst hj
      by_cases hh : p = n ∧ b = a
      · obtain ⟨rfl, rfl⟩ := hh
        rw [up_s, if_pos ⟨rfl, rfl⟩]
      · rw [if_neg hh, up_n (by rintro ⟨q1, q2⟩; exact hh ⟨pe_inj q1, by omega⟩)]
        exact hm
    refine ⟨key 1 0 rfl r1, key 2 1 rfl r2, key 3 2 rfl r3, key 4 3 rfl r4, key 5 4 rfl r5, fun j hj => ?_⟩
    rw [up_row (by unfold pe; omega), r6 j hj]
    show _ = ((if p = n ∧ 5 + j = a then v else zP z p (5 + j) : Nat) : Int)
    rw [if_neg (by omega)]
  · exact RepLaw.far h9 hB h7 (blk_upM ⟨hin.1, hin.2.1⟩)
/-- a ROW's number -/
theorem RepX_setR {S : Sg} {M : Mm} {B n q v : Nat} {z : Ab} (h : RepX S M B z) (hB : isB B) (hc : zc z ≤ 6) (hn : n < 6) (hq : q < 4) : RepX S (up M (pe B n + 1) q (v : Int)) B (setP z n (5 + q) v) := by
  obtain ⟨h1, h2, h3, h4, h5, Λ, h6, h7, h8, h9⟩ := h
  have hin := pe_in (B := B) hn
  have nB : B ≠ pe B n + 1 := by unfold pe; omega
  refine ⟨by rw [up_row nB]; exact h1, by rw [up_row nB]; exact h2, by rw [up_row nB]; exact h3, fun p hp => ?_, fun p hp => by rw [up_row (by unfold pe; omega)]; exact h5 p hp, Λ, h6, h7, h8, ?_⟩
  · obtain ⟨r1, r2, r3, r4, r5, r6⟩ := h4 p hp
    have key : ∀ b, b ≤ 4 → (if p = n ∧ b = 5 + q then v else zP z p b) = zP z p b := fun b hb => by rw [if_neg (by omega)]
    have e : up M (pe B n + 1) q (v : Int) (pe B p) = M (pe B p) := up_row (by unfold pe; omega)
    refine ⟨by rw [e, r1]; exact congrArg _ (key 0 (by omega)).symm, by rw [e, r2]; exact congrArg _ (key 1 (by omega)).symm, by rw [e, r3]; exact congrArg _ (key 2 (by omega)).symm, by rw [e, r4]; exact congrArg _ (key 3 (by omega)).symm, by rw [e, r5]; exact congrArg _ (key 4 (by omega)).symm, fun j hj => ?_⟩
    show _ = ((if p = n ∧ 5 + j = 5 + q then v else zP z p (5 + j) : Nat) : Int)
    by_cases hh : p = n ∧ j = q
    · obtain ⟨rfl, rfl⟩ := hh
      rw [up_s, if_pos ⟨rfl, rfl⟩]
    · rw [if_neg (by omega), up_n (by rintro ⟨q1, q2⟩; exact hh ⟨by unfold pe at q1; omega, q2⟩)]
      exact r6 j hj
  · exact RepLaw.far h9 hB h7 (blk_upM ⟨by omega, hin.2.2⟩)
theorem okZ_setP {z : Ab} {n a v : Nat} (h : okZ z) (hv : a = 0 ∧ v ≤ 6 ∨ a = 1 ∧ v ≤ 9 ∨ a = 2 ∧ v ≤ 11 ∨ a = 3 ∧ v ≤ 9999 ∨ a = 4 ∧ v ≤ 1 ∨ (5 ≤ a ∧ v ≤ 9)) : okZ (setP z n a v) := by
  obtain ⟨h1, h2, h3, h4, h5⟩ := h
  refine ⟨h1, h2, h3, fun p hp => ?_, h5⟩
  obtain ⟨o1, o2, o3, o4, o5, o6⟩ := h4 p hp
  have key : ∀ b c, zP z p b ≤ c → (a = b → v ≤ c) → (if p = n ∧ b = a then v else zP z p b) ≤ c := by
    intro b c hb hc
    split
    · exact hc (by omega)
    · exact hb
  exact ⟨key 0 6 o1 (by omega), key 1 9 o2 (by omega), key 2 11 o3 (by omega), key 3 9999 o4 (by omega), key 4 1 o5 (by omega), fun j hj => key (5 + j) 9 (o6 j hj) (by omega)⟩
/-- n DAYS go -/
def walkZ (z : Ab) (n : Nat) : Ab := (zc z, zw z, zd z + n, fun p a => if a = 2 then walkP (zP z p) n else zP z p a, zL z)
theorem walkP_le {P : Nat → Nat} {n : Nat} (h : P 2 ≤ 11) : walkP P n ≤ 11 := by unfold walkP; split <;> omega
theorem okZ_walk {z : Ab} {n : Nat} (h : okZ z) (hn : zd z + n ≤ 20000) : okZ (walkZ z n) := by
  obtain ⟨h1, h2, h3, h4, h5⟩ := h
  refine ⟨h1, h2, hn, fun p hp => ?_, h5⟩
  obtain ⟨o1, o2, o3, o4, o5, o6⟩ := h4 p hp
  exact ⟨o1, o2, walkP_le o3, o4, o5, fun j hj => by show (if 5 + j = 2 then _ else zP z p (5 + j)) ≤ 9; rw [if_neg (by omega)]; exact o6 j hj⟩
/-- a DEED that those of 'who' see -/
def paidZ (z : Ab) (who : Nat) : Ab := (zc z, zw z, zd z, fun p a => if a = 3 then zP z p 3 - payN (zP z p) (fineL (zL z)) who p else zP z p a, zL z)
theorem okZ_paid {z : Ab} {who : Nat} (h : okZ z) : okZ (paidZ z who) := by
  obtain ⟨h1, h2, h3, h4, h5⟩ := h
  refine ⟨h1, h2, h3, fun p hp => ?_, h5⟩
  obtain ⟨o1, o2, o3, o4, o5, o6⟩ := h4 p hp
  exact ⟨o1, o2, o3, by show zP z p 3 - _ ≤ 9999; omega, o5, fun j hj => by show (if 5 + j = 3 then _ else zP z p (5 + j)) ≤ 9; rw [if_neg (by omega)]; exact o6 j hj⟩
theorem payN_le (P : Nat → Nat) (fine who p : Nat) : payN P fine who p ≤ P 3 := by unfold payN; split <;> omega
/-- one more comes -/
def joinZ (z : Ab) (k v c : Nat) : Ab := (zc z + 1, zw z, zd z, fun p a => if p = zc z then (if a = 0 then k else if a = 1 then v else if a = 2 then c else if a = 3 then 100 else 0) else zP z p a, zL z)
theorem Gr.upLaw {S : Sg} (h : Gr S) {B : Nat} (hB : isB B) (v : Int) : Gr (S.1, up S.2 B 4 v) := by
  obtain ⟨h1, h2, h3, h4⟩ := h
  have hn : ∀ q ∈ grT, ¬ (q.1 = B ∧ q.2.1 = 4) := by
    rcases hB with rfl | rfl | rfl <;> decide
  refine ⟨h1, fun q hq => ?_, fun B2 hB2 => ?_, fun Λ hΛ hl => ?_⟩
  · show up S.2 B 4 v q.1 q.2.1 = _
    rw [up_n (hn q hq)]; exact h2 q hq
  · obtain ⟨g1, g2⟩ := h3 B2 hB2
    refine ⟨by show up S.2 B 4 v B2 0 = _; rw [up_n (by omega)]; exact g1, fun p hp => ?_⟩
    obtain ⟨g3, g4⟩ := g2 p hp
    have n1 : B2 + 1 ≠ B := by rcases hB with rfl | rfl | rfl <;> rcases hB2 with rfl | rfl | rfl <;> decide
    have n2 : pe B2 p ≠ B := by
      intro e
      have s1 := (sh_pe hB2 hp).1
      rw [e, (sh_pe hB hp).2.2] at s1
      simp at s1
    exact ⟨by show up S.2 B 4 v (B2 + 1) p = _; rw [up_row n1]; exact g3, by show up S.2 B 4 v (pe B2 p) 6 = _; rw [up_row n2]; exact g4⟩
  · have n1 : Λ ≠ B := by have := law_far hB hΛ; omega
    have e : up S.2 B 4 v Λ = S.2 Λ := up_row n1
    show up S.2 B 4 v Λ 2 = _ ∧ up S.2 B 4 v Λ 3 = _ ∧ up S.2 B 4 v Λ 4 = _ ∧ up S.2 B 4 v Λ 6 = _ ∧ up S.2 B 4 v Λ 7 = _
    rw [e]
    exact h4 Λ hΛ hl
