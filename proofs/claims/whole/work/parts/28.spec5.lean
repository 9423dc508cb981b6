/-! told by hand: rows of three numbers -/
abbrev Tb : Type := List (Int × Int × Int)
def tg (T : Tb) (i k : Nat) : Int := if k = 0 then (T.getD i (0, 0, 0)).1 else if k = 1 then (T.getD i (0, 0, 0)).2.1 else (T.getD i (0, 0, 0)).2.2
/-- where a table lies, how many rows it takes -/
def isT (c m : Nat) : Prop := ((c = 19 ∨ c = 40) ∧ m = 5) ∨ ((c = 21 ∨ c = 42) ∧ m = 10) ∨ ((c = 23 ∨ c = 44) ∧ m = 8)
def RepT (M : Mm) (c m : Nat) (T : Tb) : Prop := M c 1 = (m : Int) ∧ M c 2 = (T.length : Int) ∧ T.length ≤ m ∧ ∀ i, i < T.length → ∀ k, k < 3 → M (c + 1) (3 * i + k) = tg T i k
/-- a change of table c alone -/
def tfr (c : Nat) (M M' : Mm) : Prop := ∀ k, k ≠ c → k ≠ c + 1 → M' k = M k
theorem sh_T {c m : Nat} (h : isT c m) : sh c = (6, 0) ∧ sh (c + 1) = (12, 3 * m) ∧ c + 1 < 116 ∧ m ≤ 10 := by
  rcases h with ⟨h | h, rfl⟩ | ⟨h | h, rfl⟩ | ⟨h | h, rfl⟩ <;> subst h <;> decide +kernel
theorem obT {S : Sg} (hG : Gr S) {c m : Nat} (h : isT c m) : Ob S c 6 ∧ Ar S (c + 1) 12 (3 * m) ∧ S.2 c 0 = ((c + 1 : Nat) : Int) := by
  obtain ⟨h1, h2, h3, -⟩ := sh_T h
  refine ⟨obn hG ⟨h1, by omega, by decide⟩, arn hG ⟨h2, h3, by decide⟩, ?_⟩
  rcases h with ⟨h | h, rfl⟩ | ⟨h | h, rfl⟩ | ⟨h | h, rfl⟩ <;> subst h <;> exact grn hG (by decide)
theorem RepT.far {M M' : Mm} {c m : Nat} {T : Tb} (h : RepT M c m T) (e0 : M' c = M c) (e1 : M' (c + 1) = M (c + 1)) : RepT M' c m T := by
  unfold RepT
  rw [e0, e1]
  exact h
theorem tg_app {T : Tb} {q : Int × Int × Int} {i k : Nat} : tg (T ++ [q]) i k = if i < T.length then tg T i k else if i = T.length then (if k = 0 then q.1 else if k = 1 then q.2.1 else q.2.2) else 0 := by
  unfold tg
  by_cases h : i < T.length
  · rw [if_pos h]; simp only [List.getD_eq_getElem?_getD, List.getElem?_append_left h]
  · rw [if_neg h]
    by_cases h2 : i = T.length
    · subst h2; rw [if_pos rfl]; simp
    · rw [if_neg h2]
      have : (T ++ [q]).getD i (0, 0, 0) = (0, 0, 0) := by
        rw [List.getD_eq_getElem?_getD, List.getElem?_eq_none (by simp; omega)]
        rfl
      rw [this]
      simp
/-! days that go one by one -/
theorem walkP_add {P : Nat → Nat} (n m : Nat) : walkP (fun a => if a = 2 then walkP P n else P a) m = walkP P (n + m) := by
  unfold walkP
  simp only [show ¬ (4 : Nat) = 2 by decide, show ¬ (0 : Nat) = 2 by decide, show ¬ (1 : Nat) = 2 by decide, if_false, if_true]
  by_cases h : P 4 = 0 ∧ (P 0 = 1 ∨ P 0 = 4)
  · simp only [if_pos h]
    rw [Nat.add_mul]
    omega
  · simp only [if_neg h]
theorem walkZ_add (z : Ab) (n m : Nat) : walkZ (walkZ z n) m = walkZ z (n + m) := by
  unfold walkZ
  show (zc z, zw z, zd z + n + m, _, zL z) = (zc z, zw z, zd z + (n + m), _, zL z)
  rw [Nat.add_assoc]
  refine congrArg _ (congrArg _ (congrArg _ (congrArg (fun f => (f, zL z)) ?_)))
  funext p a
  by_cases h : a = 2
  · rw [if_pos h, if_pos h]; exact walkP_add n m
  · rw [if_neg h, if_neg h]; show (if a = 2 then _ else _) = _; rw [if_neg h]
theorem walkP_0 {P : Nat → Nat} (h : P 2 ≤ 11) : walkP P 0 = P 2 := by
  unfold walkP
  split
  · rw [Nat.zero_mul]; omega
  · rfl
/-! a scene: a street, SEEN, the PLAN, the BOOK -/
abbrev Sn : Type := Ab × Tb × Tb × Tb
def isSn (C B : Nat) : Prop := (C = 18 ∧ B = 25) ∨ (C = 39 ∧ B = 46)
def RepS (S : Sg) (M : Mm) (C B : Nat) (s : Sn) : Prop := RepX S M B s.1 ∧ RepT M (C + 1) 5 s.2.1 ∧ RepT M (C + 3) 10 s.2.2.1 ∧ RepT M (C + 5) 8 s.2.2.2
def okSeen (T : Tb) : Prop := ∀ i, i < T.length → (0 ≤ tg T i 0 ∧ tg T i 0 ≤ 11) ∧ (0 ≤ tg T i 1 ∧ tg T i 1 ≤ 20) ∧ (0 ≤ tg T i 2 ∧ tg T i 2 ≤ 63)
def okPlan (c : Nat) (T : Tb) : Prop := ∀ i, i < T.length → (0 ≤ tg T i 0 ∧ tg T i 0 ≤ 3) ∧ rg (tg T i 1) ∧ (tg T i 0 = 1 ∨ tg T i 0 = 2 → 0 ≤ tg T i 1 ∧ tg T i 1 ≤ 11) ∧ (tg T i 0 = 3 → 0 ≤ tg T i 1 ∧ tg T i 1 < c)
def okBook (T : Tb) : Prop := ∀ i, i < T.length → (0 ≤ tg T i 0 ∧ tg T i 0 ≤ 5) ∧ (0 ≤ tg T i 1 ∧ tg T i 1 ≤ 9999)
def okS (s : Sn) : Prop := okZ s.1 ∧ zd s.1 ≤ 9999 ∧ okSeen s.2.1 ∧ okPlan (zc s.1) s.2.2.1 ∧ okBook s.2.2.2 ∧ s.2.1.length ≤ 5 ∧ s.2.2.1.length ≤ 10 ∧ s.2.2.2.length ≤ 8
theorem snT {C B : Nat} (h : isSn C B) : isT (C + 1) 5 ∧ isT (C + 3) 10 ∧ isT (C + 5) 8 ∧ isB B := by
  rcases h with ⟨rfl, rfl⟩ | ⟨rfl, rfl⟩
  · exact ⟨Or.inl ⟨Or.inl rfl, rfl⟩, Or.inr (Or.inl ⟨Or.inl rfl, rfl⟩), Or.inr (Or.inr ⟨Or.inl rfl, rfl⟩), Or.inl rfl⟩
  · exact ⟨Or.inl ⟨Or.inr rfl, rfl⟩, Or.inr (Or.inl ⟨Or.inr rfl, rfl⟩), Or.inr (Or.inr ⟨Or.inr rfl, rfl⟩), Or.inr (Or.inl rfl)⟩
/-- who is SHUNNED where -/
def minF : Nat → (Nat → Nat) → Nat × Nat
  | 0, _ => (0, 13)
  | k + 1, f => if f k < (minF k f).2 then (k, f k) else minF k f
def shunN (z : Ab) (p : Nat) : Nat := (minF 12 (fun t => bcN (sightN (setP z p 2 t) p))).1
def fstI : Nat → Nat → (Nat → Bool) → Int := fstF
def untilN (z : Ab) (t : Nat) : Int := fstF 61 0 (fun n => decide (seersN (walkZ z n) t = 0))
def falseN (T : Tb) (z : Ab) : Int := fstF T.length 0 (fun i => decide (seersN (walkZ z (tg T i 1).toNat) (tg T i 0).toNat ≠ (tg T i 2).toNat))
def agreeN (z : Ab) (p t v : Nat) (T : Tb) : Bool := (List.range T.length).all fun i => (sightN (walkZ (setP (setP z p 2 t) p 1 v) (tg T i 1).toNat) p).testBit (tg T i 0).toNat == (tg T i 2).toNat.testBit p
def planS (z : Ab) (a n : Int) : Ab := if a = 0 then walkZ z 1 else if a = 1 then paidZ z (seersN z n.toNat) else if a = 2 then (zc z, zw z ^^^ 2 ^ n.toNat, zd z, zP z, zL z) else setP z n.toNat 4 1
def planZ (z : Ab) (T : Tb) : Nat → Ab
  | 0 => z
  | n + 1 => planS (planZ z T n) (tg T n 0) (tg T n 1)
