/-! what the constructors leave -/
def row2 (S S' : Sg) (M M' : Mm) (k : Nat) : Prop := S'.2 k = S.2 k ∧ M' k = M k
/-- cells q .. q + n - 1 are made, no other row changes -/
def nfr (q n : Nat) (S S' : Sg) (M M' : Mm) : Prop := S'.1 = q + n ∧ ∀ k, (k < q ∨ q + n ≤ k) → row2 S S' M M' k
def LawF (S : Sg) (M : Mm) (Λ : Nat) : Prop := (S.2 Λ 2 = ((Λ + 1 : Nat) : Int) ∧ S.2 Λ 3 = ((Λ + 2 : Nat) : Int) ∧ S.2 Λ 4 = ((Λ + 3 : Nat) : Int) ∧ S.2 Λ 6 = ((Λ + 4 : Nat) : Int) ∧ S.2 Λ 7 = ((Λ + 5 : Nat) : Int)) ∧ M Λ 0 = 20 ∧ M Λ 1 = 0
def StrF (S : Sg) (M : Mm) (B Λ : Nat) : Prop := S.2 B 0 = ((B + 1 : Nat) : Int) ∧ S.2 B 4 = (Λ : Int) ∧ (M B 1 = 0 ∧ M B 2 = 0 ∧ M B 3 = 0) ∧ ∀ p, p < 6 → S.2 (B + 1) p = (pe B p : Int) ∧ S.2 (pe B p) 6 = ((pe B p + 1 : Nat) : Int) ∧ M (pe B p) 0 = (p : Int)
def TblF (S : Sg) (M : Mm) (c m : Nat) : Prop := S.2 c 0 = ((c + 1 : Nat) : Int) ∧ M c 1 = (m : Int) ∧ M c 2 = 0
def ScnF (S : Sg) (M : Mm) (C Λ : Nat) : Prop := (S.2 C 0 = ((C + 7 : Nat) : Int) ∧ S.2 C 1 = ((C + 1 : Nat) : Int) ∧ S.2 C 2 = ((C + 3 : Nat) : Int) ∧ S.2 C 3 = ((C + 5 : Nat) : Int)) ∧ TblF S M (C + 1) 5 ∧ TblF S M (C + 3) 10 ∧ TblF S M (C + 5) 8 ∧ StrF S M (C + 7) Λ
def TapF (S : Sg) (M : Mm) (q : Nat) : Prop := S.2 q 2 = ((q + 1 : Nat) : Int) ∧ M q 0 = -1 ∧ M q 1 = 0 ∧ ∀ j, M (q + 1) j = 0
section CNG
variable {S S' : Sg} {M M' : Mm}
theorem LawF.cong {Λ : Nat} (h : LawF S M Λ) (e : row2 S S' M M' Λ) : LawF S' M' Λ := by
  unfold LawF at h ⊢
  rw [e.1, e.2]; exact h
theorem StrF.cong {B Λ : Nat} (h : StrF S M B Λ) (e : ∀ k, B ≤ k → k < B + 14 → row2 S S' M M' k) : StrF S' M' B Λ := by
  obtain ⟨h1, h2, h3, h4⟩ := h
  have e0 := e B (Nat.le_refl _) (by omega)
  refine ⟨by rw [e0.1]; exact h1, by rw [e0.1]; exact h2, by rw [e0.2]; exact h3, fun p hp => ?_⟩
  have hin := pe_in (B := B) hp
  rw [(e (B + 1) (by omega) (by omega)).1, (e (pe B p) hin.1 hin.2.1).1, (e (pe B p) hin.1 hin.2.1).2]
  exact h4 p hp
theorem TblF.cong {c m : Nat} (h : TblF S M c m) (e : row2 S S' M M' c) : TblF S' M' c m := by
  unfold TblF at h ⊢
  rw [e.1, e.2]; exact h
theorem ScnF.cong {C Λ : Nat} (h : ScnF S M C Λ) (e : ∀ k, C ≤ k → k < C + 21 → row2 S S' M M' k) : ScnF S' M' C Λ := by
  obtain ⟨h1, h2, h3, h4, h5⟩ := h
  exact ⟨by rw [(e C (Nat.le_refl _) (by omega)).1]; exact h1, h2.cong (e _ (by omega) (by omega)), h3.cong (e _ (by omega) (by omega)), h4.cong (e _ (by omega) (by omega)), h5.cong (fun k a b => e k (by omega) (by omega))⟩
theorem TapF.cong {q : Nat} (h : TapF S M q) (e : row2 S S' M M' q) (e1 : M' (q + 1) = M (q + 1)) : TapF S' M' q := by
  unfold TapF at h ⊢
  rw [e.1, e.2, e1]; exact h
end CNG
theorem sh_B1 {B : Nat} (hB : isB B) : sh (B + 1) = (15, 6) := by rcases hB with rfl | rfl | rfl <;> decide +kernel
theorem cLs : cL 0 = 5 ∧ cL 1 = 8 ∧ cL 2 = 4 ∧ cL 3 = 8 ∧ cL 4 = 4 ∧ cL 5 = 5 ∧ cL 6 = 3 ∧ cL 7 = 3 ∧ cL 8 = 1 ∧ cL 9 = 8 ∧ cL 10 = 44 := by decide +kernel
