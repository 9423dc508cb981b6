/-! what each call answers, and the state behind it -/
def putZ (s : Wt) (z : Ab) : Wt := ((z, (wn s).2), s.2)
abbrev inP (s : Wt) (p : Int) : Prop := 0 ≤ p ∧ p < (zc (wz s) : Int)
abbrev inN (a b : Int) : Prop := 0 ≤ a ∧ a ≤ b
def reachN (z : Ab) (p : Nat) : Int := reachI (zP z p 0) (sumL (sbj (zP z p) p (zd z)) (zL z)) (zP z p (5 + zd z % 4)) (zd z)
def a_one (s : Wt) (k v c : Int) : Int × Wt := if ¬ (inN k 6 ∧ inN c 11) then (-1, s) else if ¬ inN v 9 then (-2, s) else if zc (wz s) = 6 then (-4, s) else ((zc (wz s) : Int), putZ s (joinZ (wz s) k.toNat v.toNat c.toNat))
def ofN (z : Ab) (p : Nat) (w : Int) : Int := if w = 0 then (zP z p 0 : Int) else if w = 1 then (zP z p 1 : Int) else if w = 2 then (zP z p 2 : Int) else if w = 3 then (zP z p 3 : Int) else if w = 4 then (zP z p 4 : Int) else if w = 5 then reachN z p else if w = 6 then (sightN z p : Int) else if w = 7 then (shunN z p : Int) else if w = 8 then fstF 12 0 (fun t => decide (seersN z t = 2 ^ p)) else -1
def a_of (s : Wt) (p w : Int) : Int := if inP s p then ofN (wz s) p.toNat w else -1
def a_set (s : Wt) (p w n : Int) : Int × Wt := if ¬ (inP s p ∧ inN w 1) then (-1, s) else if ¬ inN n (if w = 0 then 11 else 9999) then (-2, s) else if w = 0 then ((zP (wz s) p.toNat 2 : Int), putZ s (setP (wz s) p.toNat 2 n.toNat)) else ((zP (wz s) p.toNat 3 : Int), putZ s (setP (wz s) p.toNat 3 n.toNat))
def a_leave (s : Wt) (p b : Int) : Int × Wt := if inP s p then ((zP (wz s) p.toNat 4 : Int), putZ s (setP (wz s) p.toNat 4 b.toNat)) else (-1, s)
def a_walls (s : Wt) (n : Int) : Int × Wt := if inN n 4095 then ((zw (wz s) : Int), putZ s (zc (wz s), n.toNat, zd (wz s), zP (wz s), zL (wz s))) else (-2, s)
def a_row (s : Wt) (p q n : Int) : Int × Wt := if ¬ (inP s p ∧ inN q 3) then (-1, s) else if ¬ inN n 9 then (-2, s) else if zP (wz s) p.toNat 0 ≠ 6 then (-3, s) else ((zP (wz s) p.toNat (5 + q.toNat) : Int), putZ s (setP (wz s) p.toNat (5 + q.toNat) n.toNat))
def a_told (s : Wt) (w : Int) : Int := if w = 0 then (zd (wz s) : Int) else if w = 1 then (fineL (zL (wz s)) : Int) else if w = 2 then (zw (wz s) : Int) else if w = 3 then (pursesN (wz s) : Int) else if w = 4 then fstF 12 0 (fun t => decide (seersN (wz s) t = 0)) else if w = 5 then (cntF 12 (fun t => decide (seersN (wz s) t = 0)) : Int) else if w = 6 then ((maxF 12 (fun t => bcN (seersN (wz s) t))).1 : Int) else if w = 7 then ((maxF 12 (fun t => paidN (wz s) (seersN (wz s) t))).1 : Int) else -1
def a_deed (s : Wt) (c : Int) : Int × Wt := if inN c 11 then ((paidN (wz s) (seersN (wz s) c.toNat) : Int), putZ s (paidZ (wz s) (seersN (wz s) c.toNat))) else (-1, s)
def a_pass (s : Wt) (n : Int) : Int × Wt := if ¬ inN n 60 then (-2, s) else if (zd (wz s) : Int) + n > 9999 then (-3, s) else ((zd (wz s) : Int) + n, putZ s (walkZ (wz s) n.toNat))
def a_at (s : Wt) (c w : Int) : Int := if ¬ inN c 11 then -1 else if w = 0 then (seersN (wz s) c.toNat : Int) else if w = 1 then (paidN (wz s) (seersN (wz s) c.toNat) : Int) else if w = 2 then untilN (wz s) c.toNat else if w = 3 then brickC (wz s) c.toNat else -1
def a_share (s : Wt) (p c : Int) : Int := if inP s p ∧ inN c 11 then (payN (zP (wz s) p.toNat) (fineL (zL (wz s))) (seersN (wz s) c.toNat) p.toNat : Int) else -1
theorem snX : isSn 18 25 := Or.inl ⟨rfl, rfl⟩
