/-! THE TEXT, THE IMAGE -/
def putX (s : Wt) (t : List Nat) : Wt := (s.1, s.2.1, s.2.2.1, t, s.2.2.2.2)
def putKp (s : Wt) (k : Option Sn) : Wt := (s.1, k, s.2.2)
def putN (s : Wt) (k : Sn) : Wt := (k, s.2)
def a_feed (s : Wt) (c : Int) : Int × Wt := if ¬ inN c 127 then (-2, s) else if (wx s).length = 100 then (-4, s) else (((wx s).length : Int) + 1, putX s (wx s ++ [c.toNat]))
def a_image (s : Wt) : Int × Wt := ((zc (wz s) : Int), putKp s (some (wn s)))
def a_undo (s : Wt) : Int × Wt := match wk s with
  | none => (-3, s)
  | some k => ((zc k.1 : Int), putN s k)
theorem RepW.text {S : Sg} {M M' : Mm} {s : Wt} (h : RepW S M s) (hO : okW s) {t : List Nat} (ht : okTx t) (hR : RepTx M' t) (e : ∀ k, k ≠ 1 → k ≠ 2 → M' k = M k) : RepW S M' (putX s t) ∧ mfr S S M M' := by
  obtain ⟨a1, a2, a3, a4, a5, ⟨Λ, ⟨b1, b2, b3, -, -⟩, a6a, a6b⟩, a7, a8, ⟨c1, c2, c3⟩, a10, a11⟩ := h
  have el : ∀ k, lawRow k → M' k = M k := fun k hk => by
    obtain ⟨l1, l2, l3, l4, l5⟩ := lawRow_not hk
    exact e k (by omega) (by omega)
  refine ⟨⟨a1, a2, RepS.cong (Or.inl ⟨rfl, rfl⟩) a3 hO.1.1.1 (Nat.le_refl _) rfl (fun k hk => hk.elim (fun h => e k (by omega) (by omega)) (el k)), by rw [e 0 (by omega) (by omega)]; exact a4, a5.cong hO.2.1 (Nat.le_refl _) rfl (by rw [e 0 (by omega) (by omega)]) (fun k hk => hk.elim (fun h => e k (by omega) (by omega)) (el k)), ⟨Λ, ⟨b1, b2, b3, ht, hR⟩, a6a, a6b⟩, a7.cong (by rw [e 9 (by omega) (by omega)]) (e 10 (by omega) (by omega)), fun i hi => (a8 i hi).cong (e _ (by omega) (by omega)) (e _ (by omega) (by omega)), ⟨by rw [e 40 (by omega) (by omega)]; exact c1, by rw [e 42 (by omega) (by omega)]; exact c2, by rw [e 44 (by omega) (by omega)]; exact c3⟩, fun p hp => by rw [e (pe 46 p) (by unfold pe; omega) (by unfold pe; omega)]; exact a10 p hp, fun p hp => by rw [e (pe 61 p) (by unfold pe; omega) (by unfold pe; omega)]; exact a11 p hp⟩, fun k h1 h2 => ⟨e k (by omega) (by omega), rfl⟩⟩
theorem RepW.image {S : Sg} {M M' : Mm} {s : Wt} (h : RepW S M s) (hO : okW s) (e : ∀ k, ¬ (39 ≤ k ∧ k < 60) → ¬ subjC k → M' k = M k) (hS : RepS (S.1, up S.2 46 4 (S.2 25 4)) M' 39 46 (wn s)) : RepW (S.1, up S.2 46 4 (S.2 25 4)) (up M' 0 2 1) (putKp s (some (wn s))) ∧ mfr S (S.1, up S.2 46 4 (S.2 25 4)) M (up M' 0 2 1) := by
  obtain ⟨a1, a2, a3, a4, a5, ⟨Λ, a6, a6a, a6b⟩, a7, a8, ⟨c1, c2, c3⟩, a10, a11⟩ := h
  have hB : isB 46 := Or.inr (Or.inl rfl)
  have e0 : ∀ k, k ≠ 0 → up M' 0 2 1 k = M' k := fun k hk => up_row hk
  have es : ∀ k, k ≠ 0 → ¬ (39 ≤ k ∧ k < 60) → ¬ (k = 8 ∨ k = 17 ∨ (121 ≤ k ∧ (k - 121) % 6 = 0)) → up M' 0 2 1 k = M k := fun k h0 h1 h2 => (e0 k h0).trans (e k h1 (nsub h2))
  have el : ∀ k, lawRow k → up M' 0 2 1 k = M k := fun k hk => by
    obtain ⟨l1, l2, l3, l4, l5⟩ := lawRow_not hk
    exact (e0 k (by omega)).trans (e k (by omega) l1)
  have ek : ∀ k, (39 < k ∧ k < 39 + 21) ∨ lawRow k → up M' 0 2 1 k = M' k := fun k hk => e0 k (hk.elim (fun h => by omega) (fun h => by have := (lawRow_not h).2.2.1; omega))
  have hK := RepS.cong (S' := (S.1, up S.2 46 4 (S.2 25 4))) (Or.inr ⟨rfl, rfl⟩) hS hO.1.1.1 (Nat.le_refl _) rfl ek
  have n4 : ∀ k j, ¬ (k = 46 ∧ j = 4) → up S.2 46 4 (S.2 25 4) k j = S.2 k j := fun k j h => up_n h
  refine ⟨⟨a1.upLaw hB _, a2, RepS.cong (Or.inl ⟨rfl, rfl⟩) a3 hO.1.1.1 (Nat.le_refl _) (n4 25 4 (by omega)) (fun k hk => hk.elim (fun h => es k (by omega) (by omega) (by omega)) (el k)), ?_, ⟨up_s _ _ _ _, hK⟩, ⟨Λ, a6.cong (Nat.le_refl _) (n4 1 3 (by omega)) (by rw [es 1 (by omega) (by omega) (by omega)]) (es 2 (by omega) (by omega) (by omega)), ?_, ?_⟩, a7.cong (by rw [es 9 (by omega) (by omega) (by omega)]) (es 10 (by omega) (by omega) (by omega)), fun i hi => (a8 i hi).cong (es _ (by omega) (by omega) (by omega)) (es _ (by omega) (by omega) (by omega)), ⟨hK.2.1.1, hK.2.2.1.1, hK.2.2.2.1⟩, hK.1.2.2.2.2.1, fun p hp => by rw [es (pe 61 p) (by unfold pe; omega) (by unfold pe; omega) (by unfold pe; omega)]; exact a11 p hp⟩, fun k h1 h2 => ⟨es k (by omega) (by omega) (by omega), funext fun j => n4 k j (by omega)⟩⟩
  · rw [up_n (by omega), e 0 (by omega) (nsub (by omega))]; exact a4
  · show up S.2 46 4 (S.2 25 4) 25 4 ≠ _
    rw [n4 25 4 (by omega)]; exact a6a
  · show up S.2 46 4 (S.2 25 4) 46 4 ≠ _
    rw [up_s]; exact a6a
theorem RepW.undo {S : Sg} {M M' : Mm} {s : Wt} {k0 : Sn} (h : RepW S M s) (hO : okW s) (hk : wk s = some k0) (e : ∀ k, ¬ (18 ≤ k ∧ k < 39) → ¬ subjC k → M' k = M k) (hS : RepS (S.1, up S.2 25 4 (S.2 46 4)) M' 18 25 k0) : RepW (S.1, up S.2 25 4 (S.2 46 4)) M' (putN s k0) ∧ mfr S (S.1, up S.2 25 4 (S.2 46 4)) M M' := by
  obtain ⟨a1, a2, a3, a4, a5, ⟨Λ, a6, a6a, a6b⟩, a7, a8, ⟨c1, c2, c3⟩, a10, a11⟩ := h
  have hB : isB 25 := Or.inl rfl
  have es : ∀ k, ¬ (18 ≤ k ∧ k < 39) → ¬ (k = 8 ∨ k = 17 ∨ (121 ≤ k ∧ (k - 121) % 6 = 0)) → M' k = M k := fun k h1 h2 => e k h1 (nsub h2)
  have el : ∀ k, lawRow k → M' k = M k := fun k hk => by
    obtain ⟨l1, l2, l3, l4, l5⟩ := lawRow_not hk
    exact e k (by omega) l1
  have n4 : ∀ k j, ¬ (k = 25 ∧ j = 4) → up S.2 25 4 (S.2 46 4) k j = S.2 k j := fun k j h => up_n h
  refine ⟨⟨a1.upLaw hB _, a2, hS, by rw [es 0 (by omega) (by omega)]; exact a4, a5.cong hO.2.1 (Nat.le_refl _) (n4 46 4 (by omega)) (by rw [es 0 (by omega) (by omega)]) (fun k hk => hk.elim (fun h => es k (by omega) (by omega)) (el k)), ⟨Λ, a6.cong (Nat.le_refl _) (n4 1 3 (by omega)) (by rw [es 1 (by omega) (by omega)]) (es 2 (by omega) (by omega)), ?_, ?_⟩, a7.cong (by rw [es 9 (by omega) (by omega)]) (es 10 (by omega) (by omega)), fun i hi => (a8 i hi).cong (es _ (by omega) (by omega)) (es _ (by omega) (by omega)), ⟨by rw [es 40 (by omega) (by omega)]; exact c1, by rw [es 42 (by omega) (by omega)]; exact c2, by rw [es 44 (by omega) (by omega)]; exact c3⟩, fun p hp => by rw [es (pe 46 p) (by unfold pe; omega) (by unfold pe; omega)]; exact a10 p hp, fun p hp => by rw [es (pe 61 p) (by unfold pe; omega) (by unfold pe; omega)]; exact a11 p hp⟩, fun k h1 h2 => ⟨es k (by omega) (by omega), funext fun j => n4 k j (by omega)⟩⟩
  · show up S.2 25 4 (S.2 46 4) 25 4 ≠ _
    rw [up_s]; exact a6b
  · show up S.2 25 4 (S.2 46 4) 46 4 ≠ _
    rw [n4 46 4 (by omega)]; exact a6b
