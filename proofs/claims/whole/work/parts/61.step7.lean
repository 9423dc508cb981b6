/-! what leaves a street's own LAW as it is -/
theorem RepX.cong2 {S S' : Sg} {M M' : Mm} {B : Nat} {z : Ab} (h : RepX S M B z) (hc : zc z ≤ 6) (h1 : S.1 ≤ S'.1) (h4 : S'.2 B 4 = S.2 B 4) (e : ∀ k, B ≤ k → k < B + 14 → M' k = M k) (eL : ∀ Λ : Nat, S.2 B 4 = (Λ : Int) → isLaw Λ → Λ + 6 ≤ S.1 → ∀ k, Λ ≤ k → k < Λ + 5 → M' k = M k) : RepX S' M' B z := by
  obtain ⟨x1, x2, x3, x4, x5, Λ, x6, x7, x8, x9⟩ := h
  have eB := e B (Nat.le_refl _) (by omega)
  have e0 : ∀ p, p < 6 → M' (pe B p) = M (pe B p) := fun p hp => e _ (pe_in hp).1 (pe_in hp).2.1
  have e1 : ∀ p, p < 6 → M' (pe B p + 1) = M (pe B p + 1) := fun p hp => e _ (by have := (pe_in (B := B) hp).1; omega) (pe_in hp).2.2
  have eL : ∀ j, j < 5 → M' (Λ + j) = M (Λ + j) := fun j hj => eL Λ x6 x7 x8 _ (by omega) (by omega)
  refine ⟨by rw [eB]; exact x1, by rw [eB]; exact x2, by rw [eB]; exact x3, fun p hp => ?_, fun p hp => by rw [e0 p hp]; exact x5 p hp, Λ, by rw [h4]; exact x6, x7, by omega, ?_⟩
  · have h4 := x4 p hp
    unfold RepP at h4 ⊢
    rw [e0 p (by omega), e1 p (by omega)]
    exact h4
  · unfold RepLaw at x9 ⊢
    have e0 := eL 0 (by decide)
    rw [Nat.add_zero] at e0
    rw [e0, eL 1 (by decide), eL 2 (by decide), eL 3 (by decide), eL 4 (by decide)]
    exact x9
theorem RepS.cong2 {S S' : Sg} {M M' : Mm} {C B : Nat} {s : Sn} (hC : isSn C B) (h : RepS S M C B s) (hc : zc s.1 ≤ 6) (h1 : S.1 ≤ S'.1) (h4 : S'.2 B 4 = S.2 B 4) (e : ∀ k, C < k → k < C + 21 → M' k = M k) (eL : ∀ Λ : Nat, S.2 B 4 = (Λ : Int) → isLaw Λ → Λ + 6 ≤ S.1 → ∀ k, Λ ≤ k → k < Λ + 5 → M' k = M k) : RepS S' M' C B s := by
  obtain ⟨x, t1, t2, t3⟩ := h
  have hB : B = C + 7 := by rcases hC with ⟨rfl, rfl⟩ | ⟨rfl, rfl⟩ <;> rfl
  exact ⟨x.cong2 hc h1 h4 (fun k a b => e k (by omega) (by omega)) eL, t1.far (e _ (by omega) (by omega)) (e _ (by omega) (by omega)), t2.far (e _ (by omega) (by omega)) (e _ (by omega) (by omega)), t3.far (e _ (by omega) (by omega)) (e _ (by omega) (by omega))⟩
theorem RepKp.cong2 {S S' : Sg} {M M' : Mm} {k : Option Sn} (hk : okKp k) (h : RepKp S M k) (h1 : S.1 ≤ S'.1) (h4 : S'.2 46 4 = S.2 46 4) (e0 : M' 0 2 = M 0 2) (e : ∀ k, 39 < k → k < 60 → M' k = M k) (eL : ∀ Λ : Nat, S.2 46 4 = (Λ : Int) → isLaw Λ → Λ + 6 ≤ S.1 → ∀ k, Λ ≤ k → k < Λ + 5 → M' k = M k) : RepKp S' M' k := by
  cases k with
  | none => exact ⟨e0.trans h.1, h4.trans h.2⟩
  | some s => exact ⟨e0.trans h.1, RepS.cong2 (Or.inr ⟨rfl, rfl⟩) h.2 hk.1.1 h1 h4 e eL⟩
/-- two LAWS lie apart -/
theorem law_apart {Λ Λ2 : Nat} (h : isLaw Λ) (h2 : isLaw Λ2) (hn : Λ ≠ Λ2) : Λ + 6 ≤ Λ2 ∨ Λ2 + 6 ≤ Λ := by
  rcases h with rfl | rfl | ⟨a, rfl⟩ <;> rcases h2 with rfl | rfl | ⟨b, rfl⟩ <;> omega
