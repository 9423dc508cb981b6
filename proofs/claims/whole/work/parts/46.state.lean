/-! THE WHOLE STATE: now, what THE IMAGE keeps, how many LAWS, THE TEXT, THE TRACE, the TAPES -/
abbrev Wt : Type := Sn × Option Sn × Nat × List Nat × List Nat × (Nat → Tp)
abbrev wn (s : Wt) : Sn := s.1
abbrev wz (s : Wt) : Ab := s.1.1
abbrev wk (s : Wt) : Option Sn := s.2.1
abbrev wl (s : Wt) : Nat := s.2.2.1
abbrev wx (s : Wt) : List Nat := s.2.2.2.1
abbrev wr (s : Wt) : List Nat := s.2.2.2.2.1
abbrev wp (s : Wt) : Nat → Tp := s.2.2.2.2.2
def RepKp (S : Sg) (M : Mm) (k : Option Sn) : Prop := match k with
  | none => M 0 2 = 0 ∧ S.2 46 4 = 12
  | some s => M 0 2 = 1 ∧ RepS S M 39 46 s
def RepW (S : Sg) (M : Mm) (s : Wt) : Prop := Gr S ∧ S.1 = 116 + 6 * wl s ∧ RepS S M 18 25 (wn s) ∧ M 0 4 = (wl s : Int) ∧ RepKp S M (wk s) ∧ (∃ Λ, TxR S M (wx s) Λ ∧ S.2 25 4 ≠ (Λ : Int) ∧ S.2 46 4 ≠ (Λ : Int)) ∧ trR M (wr s) ∧ (∀ i, i < 6 → RepK M i (wp s i)) ∧ (M 40 1 = 5 ∧ M 42 1 = 10 ∧ M 44 1 = 8) ∧ (∀ p, p < 6 → M (pe 46 p) 0 = (p : Int)) ∧ ∀ p, p < 6 → M (pe 61 p) 0 = (p : Int)
def okKp (k : Option Sn) : Prop := match k with
  | none => True
  | some s => okS s
def okW (s : Wt) : Prop := okS (wn s) ∧ okKp (wk s) ∧ wl s ≤ 6 ∧ okTx (wx s) ∧ ∀ i, i < 6 → okK (wp s i)
/-- the model's cells stay -/
def mfr (S S' : Sg) (M M' : Mm) : Prop := ∀ k, 87 ≤ k → k < 116 → M' k = M k ∧ S'.2 k = S.2 k
theorem mfr.rf {S : Sg} {M : Mm} : mfr S S M M := fun _ _ _ => ⟨rfl, rfl⟩
theorem mfr.tr {S S1 S2 : Sg} {M M1 M2 : Mm} (h1 : mfr S S1 M M1) (h2 : mfr S1 S2 M1 M2) : mfr S S2 M M2 := fun k a b => ⟨(h2 k a b).1.trans (h1 k a b).1, (h2 k a b).2.trans (h1 k a b).2⟩
theorem subj_iff {k : Nat} (h : subjC k) : k = 8 ∨ k = 17 ∨ (121 ≤ k ∧ (k - 121) % 6 = 0) := by
  obtain ⟨Λ, h1, rfl⟩ := h
  rcases h1 with rfl | rfl | ⟨n, rfl⟩ <;> omega
/-- rows of which a LAW is held -/
def lawRow (k : Nat) : Prop := ∃ Λ, isLaw Λ ∧ Λ ≤ k ∧ k < Λ + 5
theorem lawRow_not {k : Nat} (h : lawRow k) : ¬ subjC k ∧ (k < 18 ∨ 116 ≤ k) ∧ 3 ≤ k ∧ k ≠ 9 ∧ k ≠ 10 := by
  obtain ⟨Λ, h1, h2, h3⟩ := h
  refine ⟨fun q => ?_, ?_, ?_, ?_, ?_⟩
  · have := subj_iff q
    rcases h1 with rfl | rfl | ⟨n, rfl⟩ <;> omega
  all_goals (rcases h1 with rfl | rfl | ⟨n, rfl⟩ <;> omega)
theorem RepX.cong {S S' : Sg} {M M' : Mm} {B : Nat} {z : Ab} (h : RepX S M B z) (hc : zc z ≤ 6) (h1 : S.1 ≤ S'.1) (h4 : S'.2 B 4 = S.2 B 4) (e : ∀ k, (B ≤ k ∧ k < B + 14) ∨ lawRow k → M' k = M k) : RepX S' M' B z := by
  obtain ⟨x1, x2, x3, x4, x5, Λ, x6, x7, x8, x9⟩ := h
  have eB := e B (Or.inl (by omega))
  have e0 : ∀ p, p < 6 → M' (pe B p) = M (pe B p) := fun p hp => e _ (Or.inl ⟨(pe_in hp).1, (pe_in hp).2.1⟩)
  have e1 : ∀ p, p < 6 → M' (pe B p + 1) = M (pe B p + 1) := fun p hp => e _ (Or.inl ⟨by have := (pe_in (B := B) hp).1; omega, (pe_in hp).2.2⟩)
  have eL : ∀ j, j < 5 → M' (Λ + j) = M (Λ + j) := fun j hj => e _ (Or.inr ⟨Λ, x7, by omega, by omega⟩)
  refine ⟨by rw [eB]; exact x1, by rw [eB]; exact x2, by rw [eB]; exact x3, fun p hp => ?_, fun p hp => by rw [e0 p hp]; exact x5 p hp, Λ, by rw [h4]; exact x6, x7, by omega, ?_⟩
  · have h4 := x4 p hp
    unfold RepP at h4 ⊢
    rw [e0 p (by omega), e1 p (by omega)]
    exact h4
  · unfold RepLaw at x9 ⊢
    have e0 := eL 0 (by decide)
    rw [Nat.add_zero] at e0
    rw [e0, eL 1 (by decide), eL 2 (by decide), eL 3 (by decide), eL 4 (by decide)]
    exact x9
theorem RepS.cong {S S' : Sg} {M M' : Mm} {C B : Nat} {s : Sn} (hC : isSn C B) (h : RepS S M C B s) (hc : zc s.1 ≤ 6) (h1 : S.1 ≤ S'.1) (h4 : S'.2 B 4 = S.2 B 4) (e : ∀ k, (C < k ∧ k < C + 21) ∨ lawRow k → M' k = M k) : RepS S' M' C B s := by
  obtain ⟨x, t1, t2, t3⟩ := h
  have hB : B = C + 7 := by rcases hC with ⟨rfl, rfl⟩ | ⟨rfl, rfl⟩ <;> rfl
  refine ⟨x.cong hc h1 h4 (fun k hk => e k (hk.imp (fun h => by omega) id)), t1.far (e _ (Or.inl (by omega))) (e _ (Or.inl (by omega))), t2.far (e _ (Or.inl (by omega))) (e _ (Or.inl (by omega))), t3.far (e _ (Or.inl (by omega))) (e _ (Or.inl (by omega)))⟩
theorem RepKp.cong {S S' : Sg} {M M' : Mm} {k : Option Sn} (hk : okKp k) (h : RepKp S M k) (h1 : S.1 ≤ S'.1) (h4 : S'.2 46 4 = S.2 46 4) (e0 : M' 0 2 = M 0 2) (e : ∀ k, (39 < k ∧ k < 60) ∨ lawRow k → M' k = M k) : RepKp S' M' k := by
  cases k with
  | none => exact ⟨e0.trans h.1, h4.trans h.2⟩
  | some s => exact ⟨e0.trans h.1, RepS.cong (Or.inr ⟨rfl, rfl⟩) h.2 hk.1.1 h1 h4 e⟩
theorem TxR.cong {S S' : Sg} {M M' : Mm} {tx : List Nat} {Λ : Nat} (h : TxR S M tx Λ) (h1 : S.1 ≤ S'.1) (h4 : S'.2 1 3 = S.2 1 3) (e1 : M' 1 1 = M 1 1) (e2 : M' 2 = M 2) : TxR S' M' tx Λ := by
  obtain ⟨a, b, c, d, t1, t2⟩ := h
  exact ⟨a, by omega, by rw [h4]; exact c, d, by rw [e1]; exact t1, fun j hj => by rw [e2]; exact t2 j hj⟩
theorem trR.cong {M M' : Mm} {tr : List Nat} (h : trR M tr) (e1 : M' 9 1 = M 9 1) (e2 : M' 10 = M 10) : trR M' tr := by
  obtain ⟨a, b, c⟩ := h
  exact ⟨by rw [e1]; exact a, b, fun i hi => by rw [e2]; exact c i hi⟩
theorem RepK.cong {M M' : Mm} {i : Nat} {q : Tp} (h : RepK M i q) (e1 : M' (75 + 2 * i) = M (75 + 2 * i)) (e2 : M' (76 + 2 * i) = M (76 + 2 * i)) : RepK M' i q := by
  unfold RepK
  rw [e1, e2]
  exact h
/-- the rows on which all but the street that is now leans -/
theorem nsub {k : Nat} (h : ¬ (k = 8 ∨ k = 17 ∨ (121 ≤ k ∧ (k - 121) % 6 = 0))) : ¬ subjC k := fun q => h (subj_iff q)
/-- the street that is now changes -/
theorem RepW.st {S : Sg} {M M' : Mm} {s : Wt} {z : Ab} (h : RepW S M s) (hO : okW s) (hb : blk 25 M M') (hX : RepX S M' 25 z) : RepW S M' ((z, (wn s).2), s.2) ∧ mfr S S M M' := by
  obtain ⟨a1, a2, ⟨-, t1, t2, t3⟩, a4, a5, ⟨Λ, a6, a6a, a6b⟩, a7, a8, ⟨c1, c2, c3⟩, a10, a11⟩ := h
  have e : ∀ k, (k < 25 ∨ 39 ≤ k) → ¬ (k = 8 ∨ k = 17 ∨ (121 ≤ k ∧ (k - 121) % 6 = 0)) → M' k = M k := fun k h1 h2 => hb k (by omega) (nsub h2)
  have eP : ∀ B, (B = 46 ∨ B = 61) → ∀ p, p < 6 → M' (pe B p) = M (pe B p) := fun B hB p hp => by unfold pe; exact e _ (by omega) (by omega)
  refine ⟨⟨a1, a2, ⟨hX, t1.far (e _ (by omega) (by omega)) (e _ (by omega) (by omega)), t2.far (e _ (by omega) (by omega)) (e _ (by omega) (by omega)), t3.far (e _ (by omega) (by omega)) (e _ (by omega) (by omega))⟩, by rw [e 0 (by omega) (by omega)]; exact a4, a5.cong hO.2.1 (Nat.le_refl _) rfl (by rw [e 0 (by omega) (by omega)]) (fun k hk => ?_), ⟨Λ, a6.cong (Nat.le_refl _) rfl (by rw [e 1 (by omega) (by omega)]) (e 2 (by omega) (by omega)), a6a, a6b⟩, a7.cong (by rw [e 9 (by omega) (by omega)]) (e 10 (by omega) (by omega)), fun i hi => (a8 i hi).cong (e _ (by omega) (by omega)) (e _ (by omega) (by omega)), ⟨by rw [e 40 (by omega) (by omega)]; exact c1, by rw [e 42 (by omega) (by omega)]; exact c2, by rw [e 44 (by omega) (by omega)]; exact c3⟩, fun p hp => by rw [eP 46 (Or.inl rfl) p hp]; exact a10 p hp, fun p hp => by rw [eP 61 (Or.inr rfl) p hp]; exact a11 p hp⟩, fun k h1 h2 => ⟨e k (by omega) (by omega), rfl⟩⟩
  rcases hk with hk | hk
  · exact e k (by omega) (by omega)
  · obtain ⟨l1, l2, -⟩ := lawRow_not hk
    exact hb k (by omega) l1
theorem wt_z (s : Wt) : ((wz s, (wn s).2), s.2) = s := rfl
/-- what a trial changes -/
theorem RepW.tri {S S' : Sg} {M M' : Mm} {s : Wt} (h : RepW S M s) (hO : okW s) (t : triF S S' M M') : RepW S' M' s ∧ mfr S S' M M' := by
  obtain ⟨a1, a2, a3, a4, a5, ⟨Λ, a6, a6a, a6b⟩, a7, a8, ⟨c1, c2, c3⟩, a10, a11⟩ := h
  obtain ⟨t1, t2, t3, hb, t5⟩ := t
  have e : ∀ k, (k < 61 ∨ 75 ≤ k) → ¬ (k = 8 ∨ k = 17 ∨ (121 ≤ k ∧ (k - 121) % 6 = 0)) → M' k = M k := fun k h1 h2 => hb k (by omega) (nsub h2)
  have el : ∀ k, lawRow k → M' k = M k := fun k hk => by
    obtain ⟨l1, l2, -⟩ := lawRow_not hk
    exact hb k (by omega) l1
  have hS1 : S.1 ≤ S'.1 := by rw [t1]; exact Nat.le_refl _
  refine ⟨⟨t3, by rw [t1]; exact a2, RepS.cong (Or.inl ⟨rfl, rfl⟩) a3 hO.1.1.1 hS1 (t2 _ _ (by omega)) (fun k hk => hk.elim (fun h => e k (by omega) (by omega)) (el k)), by rw [e 0 (by omega) (by omega)]; exact a4, a5.cong hO.2.1 hS1 (t2 _ _ (by omega)) (by rw [e 0 (by omega) (by omega)]) (fun k hk => hk.elim (fun h => e k (by omega) (by omega)) (el k)), ⟨Λ, a6.cong hS1 (t2 _ _ (by omega)) (by rw [e 1 (by omega) (by omega)]) (e 2 (by omega) (by omega)), by rw [t2 _ _ (by omega)]; exact a6a, by rw [t2 _ _ (by omega)]; exact a6b⟩, a7.cong (by rw [e 9 (by omega) (by omega)]) (e 10 (by omega) (by omega)), fun i hi => (a8 i hi).cong (e _ (by omega) (by omega)) (e _ (by omega) (by omega)), ⟨by rw [e 40 (by omega) (by omega)]; exact c1, by rw [e 42 (by omega) (by omega)]; exact c2, by rw [e 44 (by omega) (by omega)]; exact c3⟩, fun p hp => by rw [e (pe 46 p) (by unfold pe; omega) (by unfold pe; omega)]; exact a10 p hp, t5⟩, fun k h1 h2 => ⟨e k (by omega) (by omega), funext fun j => t2 k j (by omega)⟩⟩
/-- rows below that do not touch streets, LAWS: tables of now, the trace, a tape -/
theorem RepW.low {S : Sg} {M M' : Mm} {s s' : Wt} (h : RepW S M s) (hO : okW s) (e : ∀ k, ¬ (9 ≤ k ∧ k ≤ 10) → ¬ (19 ≤ k ∧ k ≤ 24) → ¬ (75 ≤ k ∧ k ≤ 86) → M' k = M k) (e2 : wk s' = wk s ∧ wl s' = wl s ∧ wx s' = wx s ∧ wz s' = wz s) (t1 : RepT M' 19 5 (wn s').2.1) (t2 : RepT M' 21 10 (wn s').2.2.1) (t3 : RepT M' 23 8 (wn s').2.2.2) (r : trR M' (wr s')) (k : ∀ i, i < 6 → RepK M' i (wp s' i)) : RepW S M' s' ∧ mfr S S M M' := by
  obtain ⟨a1, a2, ⟨x, -⟩, a4, a5, ⟨Λ, a6, a6a, a6b⟩, a7, a8, ⟨c1, c2, c3⟩, a10, a11⟩ := h
  obtain ⟨q1, q2, q3, q4⟩ := e2
  have el : ∀ k, lawRow k → M' k = M k := fun k hk => by
    obtain ⟨l1, l2, l3, l4, l5⟩ := lawRow_not hk
    exact e k (by omega) (by omega) (by omega)
  refine ⟨⟨a1, by rw [q2]; exact a2, ⟨?_, t1, t2, t3⟩, by rw [e 0 (by omega) (by omega) (by omega), q2]; exact a4, by rw [q1]; exact a5.cong hO.2.1 (Nat.le_refl _) rfl (by rw [e 0 (by omega) (by omega) (by omega)]) (fun k hk => hk.elim (fun h => e k (by omega) (by omega) (by omega)) (el k)), ⟨Λ, by rw [q3]; exact a6.cong (Nat.le_refl _) rfl (by rw [e 1 (by omega) (by omega) (by omega)]) (e 2 (by omega) (by omega) (by omega)), a6a, a6b⟩, r, k, ⟨by rw [e 40 (by omega) (by omega) (by omega)]; exact c1, by rw [e 42 (by omega) (by omega) (by omega)]; exact c2, by rw [e 44 (by omega) (by omega) (by omega)]; exact c3⟩, fun p hp => by rw [e (pe 46 p) (by unfold pe; omega) (by unfold pe; omega) (by unfold pe; omega)]; exact a10 p hp, fun p hp => by rw [e (pe 61 p) (by unfold pe; omega) (by unfold pe; omega) (by unfold pe; omega)]; exact a11 p hp⟩, fun k h1 h2 => ⟨e k (by omega) (by omega) (by omega), rfl⟩⟩
  show RepX S M' 25 (wz s')
  rw [q4]
  exact x.cong hO.1.1.1 (Nat.le_refl _) rfl (fun k hk => hk.elim (fun h => e k (by omega) (by omega) (by omega)) (el k))
