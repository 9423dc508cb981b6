/-! the statute that is refused -/
/-- THE TEXT's draft changes, and where the reading stands; the text is empty -/
theorem RepW.stat0 {S : Sg} {M M' : Mm} {s : Wt} {Λd : Nat} (h : RepW S M s) (hO : okW s) (hX : TxR S M (wx s) Λd) (hn1 : S.2 25 4 ≠ (Λd : Int)) (hn2 : S.2 46 4 ≠ (Λd : Int)) (e : ∀ k, k ≠ 1 → ¬ (Λd ≤ k ∧ k < Λd + 6) → M' k = M k) (hR : RepTx M' []) : RepW S M' (putX s []) ∧ mfr S S M M' := by
  obtain ⟨a1, a2, a3, a4, a5, -, a7, a8, ⟨c1, c2, c3⟩, a10, a11⟩ := h
  obtain ⟨b1, b2, b3, b4, -⟩ := hX
  have hd : ∀ k, (k ≤ 2 ∨ (9 ≤ k ∧ k ≤ 11) ∨ (18 ≤ k ∧ k < 116)) → ¬ (Λd ≤ k ∧ k < Λd + 6) := fun k hk => by
    rcases b1 with rfl | rfl | ⟨n, rfl⟩ <;> omega
  have es : ∀ k, k ≠ 1 → (k ≤ 2 ∨ (9 ≤ k ∧ k ≤ 11) ∨ (18 ≤ k ∧ k < 116)) → M' k = M k := fun k h1 h2 => e k h1 (hd k h2)
  have eL : ∀ B, S.2 B 4 ≠ (Λd : Int) → ∀ Λ : Nat, S.2 B 4 = (Λ : Int) → isLaw Λ → Λ + 6 ≤ S.1 → ∀ k, Λ ≤ k → k < Λ + 5 → M' k = M k := fun B hB Λ h4 h5 _ k h6 h7 => by
    have := law_apart h5 b1 (fun q => hB (by rw [h4, q]))
    have := law_1 h5
    exact e k (by omega) (by omega)
  refine ⟨⟨a1, a2, RepS.cong2 (Or.inl ⟨rfl, rfl⟩) a3 hO.1.1.1 (Nat.le_refl _) rfl (fun k h1 h2 => es k (by omega) (by omega)) (eL 25 hn1), by rw [es 0 (by omega) (by omega)]; exact a4, a5.cong2 hO.2.1 (Nat.le_refl _) rfl (by rw [es 0 (by omega) (by omega)]) (fun k h1 h2 => es k (by omega) (by omega)) (eL 46 hn2), ⟨Λd, ⟨b1, b2, b3, ⟨Nat.zero_le _, fun c hc => by cases hc⟩, hR⟩, hn1, hn2⟩, a7.cong (by rw [es 9 (by omega) (by omega)]) (es 10 (by omega) (by omega)), fun i hi => (a8 i hi).cong (es _ (by omega) (by omega)) (es _ (by omega) (by omega)), ⟨by rw [es 40 (by omega) (by omega)]; exact c1, by rw [es 42 (by omega) (by omega)]; exact c2, by rw [es 44 (by omega) (by omega)]; exact c3⟩, fun p hp => by rw [es (pe 46 p) (by unfold pe; omega) (by unfold pe; omega)]; exact a10 p hp, fun p hp => by rw [es (pe 61 p) (by unfold pe; omega) (by unfold pe; omega)]; exact a11 p hp⟩, fun k h1 h2 => ⟨es k (by omega) (by omega), rfl⟩⟩
