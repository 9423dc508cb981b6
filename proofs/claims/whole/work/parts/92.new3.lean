/-! field by field -/
theorem g_absS {γ : Cg} {Ω : Ow} {Y : Md} {Z : State → Prop} {cs ss : Nat} {S : Sg} {M : Mm} {pc : Nat} {ls : List (Option Value)} {st : List Value} (k : ∀ S' : Sg, S'.1 = S.1 → S'.2 = S.2 → Go γ Ω Y Z cs ss S' M pc ls st) : Go γ Ω Y Z cs ss S M pc ls st := k S rfl rfl
theorem md_acc {T T' : Nat → Nat → Int} {i j r : Nat} (hp : ∀ q ∈ mdT.take i, T 87 q.1 = (q.2 : Int)) (e : T' = up T 87 j ((r : Nat) : Int)) (h : mdT.take (i + 1) = mdT.take i ++ [(j, r)]) (hd : ∀ q ∈ mdT.take i, q.1 ≠ j) : ∀ q ∈ mdT.take (i + 1), T' 87 q.1 = (q.2 : Int) := by
  intro q hq
  rw [h] at hq
  rw [e]
  rcases List.mem_append.mp hq with h1 | h1
  · rw [up_n (by have := hd q h1; omega)]; exact hp q h1
  · rw [List.mem_singleton.mp h1, up_s]
