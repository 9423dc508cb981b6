/-! the beginning -/
def s0 : Wt := (((0, 0, 0, fun _ _ => 0, []), [], [], []), none, 0, [], [], fun _ => (-1, 0, fun _ => 0))
theorem s0_ok : okX s0 := by
  refine ⟨⟨⟨⟨Nat.zero_le _, by decide, Nat.zero_le _, fun p hp => absurd hp (Nat.not_lt_zero _), ⟨Nat.zero_le _, fun q hq => absurd hq List.not_mem_nil, Nat.zero_le _⟩⟩, Nat.zero_le _, fun i hi => absurd hi (Nat.not_lt_zero _), fun i hi => absurd hi (Nat.not_lt_zero _), fun i hi => absurd hi (Nat.not_lt_zero _), Nat.zero_le _, Nat.zero_le _, Nat.zero_le _⟩, trivial, Nat.zero_le _, ⟨Nat.zero_le _, fun q hq => absurd hq List.not_mem_nil⟩, fun i hi => ⟨(show (-1 : Int) ≤ -1 ∧ (-1 : Int) ≤ 4 from ⟨by decide, by decide⟩), Nat.zero_le _, fun j hj => (show rgL 0 from ⟨by decide, by decide⟩)⟩⟩, fun i hi => absurd hi (Nat.not_lt_zero _), fun k hk => by cases hk⟩
section BEG
variable {S : Sg} {M : Mm}
theorem gr_beg (hS : S.1 = 116) (hc : ClsF S M) (hm : MdlF S M) : Gr S := by
  obtain ⟨h0, -, h1, hL3, h9, hT, hL12, s18, s39, h60, s61⟩ := hc
  obtain ⟨hm, -⟩ := hm
  refine ⟨by omega, fun q hq => ?_, fun B hB => ?_, fun Λ hl hle => ?_⟩
  · simp only [grT, List.mem_cons, List.not_mem_nil, or_false] at hq
    rcases hq with rfl | rfl | rfl | rfl | rfl | rfl | rfl | rfl | rfl | rfl | rfl | rfl | rfl | rfl | rfl | rfl | rfl | rfl | rfl | rfl | rfl | rfl | rfl | rfl | rfl | rfl | rfl | rfl | rfl | rfl | rfl | rfl | rfl | rfl | rfl | rfl | rfl | rfl | rfl | rfl | rfl | rfl | rfl | rfl | rfl | rfl | rfl | rfl | rfl | rfl | rfl | rfl | rfl | rfl | rfl | rfl | rfl | rfl | rfl | rfl | rfl | rfl | rfl
    · exact h0.1
    · exact h0.2.1
    · exact h0.2.2.1
    · exact h0.2.2.2.1
    · exact h0.2.2.2.2.1
    · exact h0.2.2.2.2.2
    · exact h1.1
    · exact h9.1
    · exact s18.1.1
    · exact s18.1.2.1
    · exact s18.1.2.2.1
    · exact s18.1.2.2.2
    · exact s39.1.1
    · exact s39.1.2.1
    · exact s39.1.2.2.1
    · exact s39.1.2.2.2
    · exact s18.2.1.1
    · exact s18.2.2.1.1
    · exact s18.2.2.2.1.1
    · exact s39.2.1.1
    · exact s39.2.2.1.1
    · exact s39.2.2.2.1.1
    · exact h60
    · exact (hT 0 (by decide)).1
    · exact (hT 1 (by decide)).1
    · exact (hT 2 (by decide)).1
    · exact (hT 3 (by decide)).1
    · exact (hT 4 (by decide)).1
    · exact (hT 5 (by decide)).1
    · exact (hT 0 (by decide)).2.1
    · exact (hT 1 (by decide)).2.1
    · exact (hT 2 (by decide)).2.1
    · exact (hT 3 (by decide)).2.1
    · exact (hT 4 (by decide)).2.1
    · exact (hT 5 (by decide)).2.1
    · exact hm (87 - 87 + 1, 88) (by decide)
    · exact hm (87 - 87 + 2, 89) (by decide)
    · exact hm (87 - 87 + 3, 90) (by decide)
    · exact hm (87 - 87 + 4, 91) (by decide)
    · exact hm (87 - 87 + 5, 92) (by decide)
    · exact hm (87 - 87 + 6, 93) (by decide)
    · exact hm (87 - 87 + 10, 94) (by decide)
    · exact hm (87 - 87 + 17, 95) (by decide)
    · exact hm (87 - 87 + 18, 96) (by decide)
    · exact hm (87 - 87 + 19, 97) (by decide)
    · exact hm (87 - 87 + 20, 98) (by decide)
    · exact hm (87 - 87 + 21, 99) (by decide)
    · exact hm (87 - 87 + 22, 100) (by decide)
    · exact hm (87 - 87 + 24, 101) (by decide)
    · exact hm (87 - 87 + 26, 102) (by decide)
    · exact hm (87 - 87 + 27, 103) (by decide)
    · exact hm (87 - 87 + 28, 104) (by decide)
    · exact hm (87 - 87 + 30, 105) (by decide)
    · exact hm (87 - 87 + 31, 106) (by decide)
    · exact hm (87 - 87 + 33, 107) (by decide)
    · exact hm (87 - 87 + 34, 108) (by decide)
    · exact hm (87 - 87 + 36, 109) (by decide)
    · exact hm (87 - 87 + 38, 110) (by decide)
    · exact hm (87 - 87 + 39, 111) (by decide)
    · exact hm (87 - 87 + 40, 112) (by decide)
    · exact hm (87 - 87 + 41, 113) (by decide)
    · exact hm (87 - 87 + 42, 114) (by decide)
    · exact hm (87 - 87 + 43, 115) (by decide)
  · rcases hB with rfl | rfl | rfl
    · exact ⟨s18.2.2.2.2.1, fun p hp => ⟨(s18.2.2.2.2.2.2.2 p hp).1, (s18.2.2.2.2.2.2.2 p hp).2.1⟩⟩
    · exact ⟨s39.2.2.2.2.1, fun p hp => ⟨(s39.2.2.2.2.2.2.2 p hp).1, (s39.2.2.2.2.2.2.2 p hp).2.1⟩⟩
    · exact ⟨s61.1, fun p hp => ⟨(s61.2.2.2 p hp).1, (s61.2.2.2 p hp).2.1⟩⟩
  · rcases hl with rfl | rfl | ⟨h, rfl⟩
    · exact hL3.1
    · exact hL12.1
    · omega
theorem tbl_beg {c m : Nat} (h : TblF S M c m) : RepT M c m [] := ⟨h.2.1, h.2.2, Nat.zero_le _, fun i hi => absurd hi (Nat.not_lt_zero _)⟩
theorem str_beg {B : Nat} (hS : S.1 = 116) (h : StrF S M B 12) (hL : LawF S M 12) : RepX S M B (0, 0, 0, fun _ _ => 0, []) := ⟨h.2.2.1.1, h.2.2.1.2.1, h.2.2.1.2.2, fun p hp => absurd hp (Nat.not_lt_zero _), fun p hp => (h.2.2.2 p hp).2.2, 12, h.2.1, Or.inr (Or.inl rfl), by omega, hL.2.1, hL.2.2, fun n hn => absurd hn (Nat.not_lt_zero _)⟩
theorem w_beg (hS : S.1 = 116) (hc : ClsF S M) (hm : MdlF S M) : RepW S M s0 := by
  have hG := gr_beg hS hc hm
  obtain ⟨h0, hM0, h1, hL3, h9, hT, hL12, s18, s39, h60, s61⟩ := hc
  refine ⟨hG, hS, ⟨str_beg hS s18.2.2.2.2 hL12, tbl_beg s18.2.1, tbl_beg s18.2.2.1, tbl_beg s18.2.2.2.1⟩, hM0 4, ⟨hM0 2, s39.2.2.2.2.2.1⟩, ⟨3, ⟨Or.inl rfl, by omega, h1.2.1, s0_ok.1.2.2.2.1, h1.2.2 1, fun j hj => absurd hj (Nat.not_lt_zero _)⟩, ?_, ?_⟩, ⟨h9.2 1, Nat.zero_le _, fun i hi => absurd hi (Nat.not_lt_zero _)⟩, fun i hi => ⟨(hT i hi).2.2.1, (hT i hi).2.2.2.1, fun j _ => ?_⟩, ⟨s39.2.1.2.1, s39.2.2.1.2.1, s39.2.2.2.1.2.1⟩, fun p hp => (s39.2.2.2.2.2.2.2 p hp).2.2, fun p hp => (s61.2.2.2 p hp).2.2⟩
  · rw [s18.2.2.2.2.2.1]; decide
  · rw [s39.2.2.2.2.2.1]; decide
  · have := (hT i hi).2.2.2.2 j
    rw [show 75 + 2 * i + 1 = 76 + 2 * i by omega] at this
    exact this
theorem m_beg (hm : MdlF S M) : RepM M s0 := by
  obtain ⟨-, h87, h113, hz⟩ := hm
  have e : ∀ j, j ≠ 16 → M 87 j = 0 := fun j hj => (h87 j).trans (if_neg hj)
  refine ⟨fun _ => [], 0, ⟨Nat.zero_le _, fun _ => Nat.zero_le _⟩, e 23 (by decide), e 15 (by decide), fun h hh => absurd hh (Nat.not_lt_zero _), ⟨e 0 (by decide), e 7 (by decide), e 8 (by decide), fun p hp => absurd hp (Nat.not_lt_zero _), ⟨e 25 (by decide), fun i hi => absurd hi (Nat.not_lt_zero _)⟩, ⟨e 29 (by decide), fun i hi => absurd hi (Nat.not_lt_zero _)⟩, ⟨e 32 (by decide), fun i hi => absurd hi (Nat.not_lt_zero _)⟩, Or.inl ⟨h87 16, rfl⟩⟩, e 37 (by decide), ⟨e 9 (by decide), fun i hi => absurd hi (Nat.not_lt_zero _)⟩, ⟨e 35 (by decide), Nat.zero_le _, fun i hi => absurd hi (Nat.not_lt_zero _)⟩, fun i hi => ⟨h113 i hi, hz 114 (by decide) (by decide) (by decide) i, fun j hj => hz 115 (by decide) (by decide) (by decide) _⟩⟩
/-- the model's calls do not touch the class -/
theorem RepW.mdl {M' : Mm} {s : Wt} (h : RepW S M s) (hO : okW s) (d : mdl M M') : RepW S M' s := by
  obtain ⟨a1, a2, a3, a4, a5, ⟨Λ, a6, a6a, a6b⟩, a7, a8, ⟨c1, c2, c3⟩, a10, a11⟩ := h
  have e : ∀ k, k < 87 → M' k = M k := fun k hk => d k (Or.inl hk)
  have el : ∀ k, lawRow k → M' k = M k := fun k hk => by
    obtain ⟨l1, l2, -⟩ := lawRow_not hk
    exact d k (by omega)
  exact ⟨a1, a2, RepS.cong (Or.inl ⟨rfl, rfl⟩) a3 hO.1.1.1 (Nat.le_refl _) rfl (fun k hk => hk.elim (fun h => e k (by omega)) (el k)), by rw [e 0 (by omega)]; exact a4, a5.cong hO.2.1 (Nat.le_refl _) rfl (by rw [e 0 (by omega)]) (fun k hk => hk.elim (fun h => e k (by omega)) (el k)), ⟨Λ, a6.cong (Nat.le_refl _) rfl (by rw [e 1 (by omega)]) (e 2 (by omega)), a6a, a6b⟩, a7.cong (by rw [e 9 (by omega)]) (e 10 (by omega)), fun i hi => (a8 i hi).cong (e _ (by omega)) (e _ (by omega)), ⟨by rw [e 40 (by omega)]; exact c1, by rw [e 42 (by omega)]; exact c2, by rw [e 44 (by omega)]; exact c3⟩, fun p hp => by rw [e (pe 46 p) (by unfold pe; omega)]; exact a10 p hp, fun p hp => by rw [e (pe 61 p) (by unfold pe; omega)]; exact a11 p hp⟩
/-- nor the class's calls the model -/
theorem RepM.mfr {S' : Sg} {M' : Mm} {s : Wt} (h : RepM M s) (hO : okW s) (d : mfr S S' M M') : RepM M' s := by
  have e : ∀ k, 87 ≤ k → k < 116 → M' k = M k := fun k a b => (d k a b).1
  have hs : ∀ i, i < 112 → snp M' i = snp M i := fun i hi => by
    have := cel_row i hi
    unfold snp
    rw [e _ (by omega) (by omega)]
  exact h.now (k := wn s) (fun lw hS => hS.cong hO.1.len hs) (fun k hk => e k (by omega) (by omega)) (fun j hj => by rw [e 87 (by omega) (by omega)])
end BEG
