/-! a new object of the class, a new model -/
def ClsF (S : Sg) (M : Mm) : Prop := (S.2 0 0 = 18 ∧ S.2 0 1 = 39 ∧ S.2 0 3 = 1 ∧ S.2 0 5 = 60 ∧ S.2 0 6 = 9 ∧ S.2 0 7 = 11) ∧ (∀ j, M 0 j = 0) ∧ (S.2 1 0 = 2 ∧ S.2 1 3 = 3 ∧ ∀ j, M 1 j = 0) ∧ LawF S M 3 ∧ (S.2 9 0 = 10 ∧ ∀ j, M 9 j = 0) ∧ (∀ i, i < 6 → S.2 11 i = ((75 + 2 * i : Nat) : Int) ∧ TapF S M (75 + 2 * i)) ∧ LawF S M 12 ∧ ScnF S M 18 12 ∧ ScnF S M 39 12 ∧ S.2 60 0 = 61 ∧ StrF S M 61 12
def mdT : List (Nat × Nat) := [(1, 88), (2, 89), (3, 90), (4, 91), (5, 92), (6, 93), (10, 94), (17, 95), (18, 96), (19, 97), (20, 98), (21, 99), (22, 100), (24, 101), (26, 102), (27, 103), (28, 104), (30, 105), (31, 106), (33, 107), (34, 108), (36, 109), (38, 110), (39, 111), (40, 112), (41, 113), (42, 114), (43, 115)]
def MdlF (S : Sg) (M : Mm) : Prop := (∀ q ∈ mdT, S.2 87 q.1 = (q.2 : Int)) ∧ (∀ j, M 87 j = if j = 16 then -1 else 0) ∧ (∀ i, i < 6 → M 113 i = -1) ∧ ∀ k, 88 ≤ k → k ≠ 113 → k < 116 → ∀ j, M k j = 0
theorem newS_L (S : Sg) (q : Nat) : newS S q q 2 = ((q + 1 : Nat) : Int) ∧ newS S q q 3 = ((q + 2 : Nat) : Int) ∧ newS S q q 4 = ((q + 3 : Nat) : Int) ∧ newS S q q 6 = ((q + 4 : Nat) : Int) ∧ newS S q q 7 = ((q + 5 : Nat) : Int) := by
  unfold newS
  exact ⟨by simp [up], by simp [up], by simp [up], by simp [up], by simp [up]⟩
