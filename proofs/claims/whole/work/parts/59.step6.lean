/-! judging -/
def dueN (z : Ab) (t : Nat) : Int := if seersN z t = 0 then 0 else 1
/-- from place t on, k places to go -/
def judF (q : Tp) (z : Ab) (i : Int) : Nat → Nat → Int
  | 0, _ => -5
  | k + 1, t => if ¬ hasK q i ((t : Int) + 1) then 100 + (t : Int) else if q.2.2 (i.toNat + t) ≠ dueN z t then (t : Int) else judF q z i k (t + 1)
def a_judge (s : Wt) (t i : Int) : Int := if ¬ inN t 5 then -1 else if (wp s t.toNat).1 = -1 then 100 else if (wp s t.toNat).1 ≠ 0 then -12 else judF (wp s t.toNat) (wz s) i 12 0
theorem lcm_0 {a b : Int} : lcm a b = 0 ↔ a = b := by unfold lcm; split <;> (try split) <;> omega
theorem lcm_rg {a b : Int} : -1 ≤ lcm a b ∧ lcm a b ≤ 1 := by unfold lcm; split <;> (try split) <;> omega
/-- a long's place among the locals -/
theorem nol5 {a b c d : Option Value} {t : List (Option Value)} {z : Int} : nol (a :: b :: c :: d :: some (vi z) :: t) 5 := by
  intro v h
  simp at h
  rw [← h]; rfl
