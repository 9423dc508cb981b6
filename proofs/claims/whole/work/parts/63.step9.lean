/-! the statute that is taken -/
def putL (s : Wt) (L : LawC) : Wt := (((zc (wz s), zw (wz s), zd (wz s), zP (wz s), L), (wn s).2), wk s, wl s + 1, [], wr s, wp s)
def a_statute (s : Wt) : Int × Wt := if wl s = 6 then (-4, s) else match lawOf (wx s) with
  | .inl L => ((wl s : Int), putL s L)
  | .inr a => (-10 - (a : Int), putX s [])
theorem RepW.stat1 {S : Sg} {M M' : Mm} {s : Wt} {Λd : Nat} {L : LawC} (h : RepW S M s) (hO : okW s) (hX : TxR S M (wx s) Λd) (hn1 : S.2 25 4 ≠ (Λd : Int)) (hn2 : S.2 46 4 ≠ (Λd : Int)) (e : ∀ k, k ≠ 1 → ¬ (Λd ≤ k ∧ k < Λd + 6) → k ≠ S.1 → M' k = M k) (hR : RepTx M' []) (hL : RepLaw M' Λd L) : RepW (S.1 + 6, up (up (newS S S.1) 1 3 (S.1 : Int)) 25 4 (Λd : Int)) (up M' 0 4 ((wl s : Int) + 1)) (putL s L) ∧ mfr S (S.1 + 6, up (up (newS S S.1) 1 3 (S.1 : Int)) 25 4 (Λd : Int)) M (up M' 0 4 ((wl s : Int) + 1)) := by
  obtain ⟨a1, a2, a3, a4, a5, -, a7, a8, ⟨c1, c2, c3⟩, a10, a11⟩ := h
  obtain ⟨b1, b2, b3, b4, -⟩ := hX
  have hS : 116 ≤ S.1 := a1.1
  have g1 : Gr (S.1 + 6, up (up (newS S S.1) 1 3 (S.1 : Int)) 25 4 (Λd : Int)) := Gr.upLaw (Gr.draft (Gr.new a1 a2) (S.1 : Int)) (Or.inl rfl) (Λd : Int)
  generalize hS2 : up (up (newS S S.1) 1 3 (S.1 : Int)) 25 4 (Λd : Int) = S2 at g1 ⊢
  generalize hM2 : up M' 0 4 ((wl s : Int) + 1) = M2
  have hm : ∀ k, k ≠ 0 → M2 k = M' k := fun k hk => by rw [← hM2]; exact up_row hk
  have hd : ∀ k, (k ≤ 2 ∨ (9 ≤ k ∧ k ≤ 11) ∨ (18 ≤ k ∧ k < 116)) → ¬ (Λd ≤ k ∧ k < Λd + 6) := fun k hk => by
    rcases b1 with rfl | rfl | ⟨n, rfl⟩ <;> omega
  have es : ∀ k, 2 ≤ k → (k ≤ 2 ∨ (9 ≤ k ∧ k ≤ 11) ∨ (18 ≤ k ∧ k < 116)) → M2 k = M k := fun k h1 h2 => (hm k (by omega)).trans (e k (by omega) (hd k h2) (by omega))
  have es0 : ∀ j, j ≠ 4 → M2 0 j = M 0 j := fun j hj => by rw [← hM2, up_n (by omega)]; exact congrFun (e 0 (by decide) (hd 0 (by omega)) (by omega)) j
  have n2 : ∀ k j, k < 116 → ¬ (k = 25 ∧ j = 4) → ¬ (k = 1 ∧ j = 3) → S2 k j = S.2 k j := fun k j h1 h2 h3 => by
    rw [← hS2, up_n h2, up_n h3, newS_row (by omega)]
  have eL : ∀ B, S.2 B 4 ≠ (Λd : Int) → ∀ Λ : Nat, S.2 B 4 = (Λ : Int) → isLaw Λ → Λ + 6 ≤ S.1 → ∀ k, Λ ≤ k → k < Λ + 5 → M2 k = M k := fun B hB Λ h4 h5 _ k h6 h7 => by
    have := law_apart h5 b1 (fun q => hB (by rw [h4, q]))
    have := law_1 h5
    exact (hm k (by omega)).trans (e k (by omega) (by omega) (by omega))
  have hL2 : RepLaw M2 Λd L := by
    have := law_1 b1
    unfold RepLaw at hL ⊢
    rw [hm Λd (by omega), hm (Λd + 1) (by omega), hm (Λd + 2) (by omega), hm (Λd + 3) (by omega), hm (Λd + 4) (by omega)]
    exact hL
  have h46 : S.2 46 4 ≠ (S.1 : Int) := by
    intro q
    cases hk : wk s with
    | none => rw [hk] at a5; have := a5.2; omega
    | some k =>
      rw [hk] at a5
      obtain ⟨-, -, -, -, -, Λ, y6, -, y8, -⟩ := a5.2.1
      omega
  refine ⟨⟨g1, by show S.1 + 6 = 116 + 6 * (wl s + 1); omega, ?_, by rw [← hM2]; exact (up_s _ _ _ _).trans (by show (wl s : Int) + 1 = ((wl s + 1 : Nat) : Int); omega), a5.cong2 hO.2.1 (by show S.1 ≤ S.1 + 6; omega) (n2 46 4 (by decide) (by omega) (by omega)) (es0 2 (by decide)) (fun k h1 h2 => es k (by omega) (by omega)) (eL 46 hn2), ⟨S.1, ⟨Or.inr (Or.inr ⟨wl s, a2⟩), Nat.le_refl _, by show S2 1 3 = _; rw [← hS2, up_n (by omega), up_s], ⟨Nat.zero_le _, fun c hc => by cases hc⟩, ?_⟩, by show S2 25 4 ≠ _; rw [← hS2, up_s]; omega, by show S2 46 4 ≠ _; rw [n2 46 4 (by decide) (by omega) (by omega)]; exact h46⟩, a7.cong (by rw [es 9 (by omega) (by omega)]) (es 10 (by omega) (by omega)), fun i hi => (a8 i hi).cong (es _ (by omega) (by omega)) (es _ (by omega) (by omega)), ⟨by rw [es 40 (by omega) (by omega)]; exact c1, by rw [es 42 (by omega) (by omega)]; exact c2, by rw [es 44 (by omega) (by omega)]; exact c3⟩, fun p hp => by rw [es (pe 46 p) (by unfold pe; omega) (by unfold pe; omega)]; exact a10 p hp, fun p hp => by rw [es (pe 61 p) (by unfold pe; omega) (by unfold pe; omega)]; exact a11 p hp⟩, fun k h1 h2 => ⟨es k (by omega) (by omega), funext fun j => n2 k j (by omega) (by omega) (by omega)⟩⟩
  · obtain ⟨x, t1, t2, t3⟩ := a3
    obtain ⟨x1, x2, x3, x4, x5, -⟩ := x
    have e25 := es 25 (by omega) (by omega)
    have hc := hO.1.1.1
    refine ⟨⟨by rw [e25]; exact x1, by rw [e25]; exact x2, by rw [e25]; exact x3, fun p hp => ?_, fun p hp => by rw [es (pe 25 p) (by unfold pe; omega) (by unfold pe; omega)]; exact x5 p hp, Λd, by show S2 25 4 = _; rw [← hS2, up_s], b1, by show Λd + 6 ≤ S.1 + 6; omega, hL2⟩, t1.far (es _ (by omega) (by omega)) (es _ (by omega) (by omega)), t2.far (es _ (by omega) (by omega)) (es _ (by omega) (by omega)), t3.far (es _ (by omega) (by omega)) (es _ (by omega) (by omega))⟩
    have hp6 : p < 6 := Nat.lt_of_lt_of_le hp hc
    have h4 := x4 p hp
    unfold RepP at h4 ⊢
    rw [es (pe 25 p) (by unfold pe; omega) (by unfold pe; omega), es (pe 25 p + 1) (by unfold pe; omega) (by unfold pe; omega)]
    exact h4
  · obtain ⟨r1, r2⟩ := hR
    exact ⟨by rw [hm 1 (by decide)]; exact r1, fun j hj => absurd hj (Nat.not_lt_zero _)⟩
/-! fractions in lowest terms -/
def fracN (a b : Nat) (part : Int) : Int := if part = 0 then ((a / Nat.gcd b a : Nat) : Int) else ((b / Nat.gcd b a : Nat) : Int)
def oddN (who n : Nat) : Nat := cntF n (fun i => decide (band (who : Int) (bxor (bshl 1 (i : Int)) (-1)) = 0))
def a_odds (s : Wt) (c part : Int) : Int := if ¬ (inN c 11 ∧ inN part 1 ∧ zc (wz s) ≠ 0) then -9223372036854775808 else fracN (oddN (seersN (wz s) c.toNat) (zc (wz s))) (zc (wz s)) part
def meanN (z : Ab) : Nat → Nat := fun n => sumF n (fun t => paidN z (seersN z t))
def a_mean (s : Wt) (part : Int) : Int := if ¬ inN part 1 then -9223372036854775808 else fracN (meanN (wz s) 12) 12 part
theorem meanN_le {z : Ab} (hO : okZ z) : ∀ n, meanN z n ≤ n * 60000
  | n => sumF_le n (fun _ _ => paidN_le hO)
