/-! the law: rows -/
section LR
variable {γ : Cg} {Ω : Ow} {Y Y2 : Md} {Z : State → Prop} {cs ss : Nat} {S : Sg} {M : Mm} {pc pc' pc1 pc2 pc3 pc4 pc5 tgt : Nat} {ls : List (Option Value)} {st rest As : List Value} {a b z : Int} {r c j n i d mc ms κ sb L : Nat} {xs : Nat → Int32} {v : Value} {Q : Int → Sg → Mm → Prop}
theorem room_l (hγ : cR γ = room_1) (hd : d < 2000 ∧ n ≤ 20) : d + 1 ≤ (cR γ).frames ∧ 8 + (n + 11) + 40 * d ≤ (cR γ).locals := by
  rw [hγ]
  show d + 1 ≤ 2048 ∧ 8 + (n + 11) + 40 * d ≤ 84000
  omega
theorem cells_l (hγ : cR γ = room_1) (hf : cs ≤ 600000 ∧ ss ≤ 7302250) : cs ≤ (cR γ).cells ∧ ss ≤ (cR γ).slots := by rw [hγ]; exact hf
theorem g_lv1 (hγ : cR γ = room_1) (hC : Ct Ω Y2 d mc ms 1 (vr Ω r :: As) S M Q) (hd : ∃ idx, D3 Y.2.1 pc (.invokevirtual idx) pc' ∧ MLK Y.1.cls idx Y2) (hm : MOK Y2 As.length) (hv : MVI Y2) (hr : Ob S r c) (hcn : Y2.1.cls = cN c) (hs : st = As.reverse ++ (vr Ω r :: rest)) (hw : (rest.map fun v => v.category).sum ≤ 8) (hR : d < 2000 ∧ Y2.2.2.1 ≤ 20) (hf : cs + mc ≤ 600000 ∧ ss + ms ≤ 7302250) (k : ∀ x S' M', Q x S' M' → Go γ Ω Y Z (cs + mc) (ss + ms) S' M' pc' ls (vi x :: rest)) : Go γ Ω Y Z cs ss S M pc ls st := g_callv hC hd hm hv hr hcn hs hw (room_l hγ hR) (cells_l hγ hf) k
theorem g_lv2 (hγ : cR γ = room_1) (hC : Ct Ω Y2 d mc ms 2 (vr Ω r :: As) S M Q) (hd : ∃ idx, D3 Y.2.1 pc (.invokevirtual idx) pc' ∧ MLK Y.1.cls idx Y2) (hm : MOK Y2 As.length) (hv : MVI Y2) (hr : Ob S r c) (hcn : Y2.1.cls = cN c) (hs : st = As.reverse ++ (vr Ω r :: rest)) (hw : (rest.map fun v => v.category).sum ≤ 8) (hR : d < 2000 ∧ Y2.2.2.1 ≤ 20) (hf : cs + mc ≤ 600000 ∧ ss + ms ≤ 7302250) (k : ∀ x S' M', Q x S' M' → Go γ Ω Y Z (cs + mc) (ss + ms) S' M' pc' ls (vl x :: rest)) : Go γ Ω Y Z cs ss S M pc ls st := g_callv hC hd hm hv hr hcn hs hw (room_l hγ hR) (cells_l hγ hf) k
theorem g_li (hγ : cR γ = room_1) (hC : Ct Ω Y2 d mc ms 0 (vr Ω r :: As) S M Q) (hd : ∃ idx, D3 Y.2.1 pc (.invokespecial idx) pc' ∧ MLK Y.1.cls idx Y2) (hm : MOK Y2 As.length) (hret : Y2.2.2.2 = none) (hy : Y2.1.name = "<init>") (hv : Cond.instanceMethod Y2.1 ∈ Ug) (hs : st = As.reverse ++ (vr Ω r :: rest)) (hw : (rest.map fun v => v.category).sum ≤ 8) (hR : d < 2000 ∧ Y2.2.2.1 ≤ 20) (hf : cs + mc ≤ 600000 ∧ ss + ms ≤ 7302250) (k : ∀ x S' M', Q x S' M' → Go γ Ω Y Z (cs + mc) (ss + ms) S' M' pc' ls rest) : Go γ Ω Y Z cs ss S M pc ls st := g_calli hC hd hm hret hy hv hs hw (room_l hγ hR) (cells_l hγ hf) k
/-- equal answers -/
theorem g_eqS (hd : DJ Y.2.1 pc (.if_icmp .eq) tgt) (e : a = b) (k : Go γ Ω Y Z cs ss S M tgt ls st) : Go γ Ω Y Z cs ss S M pc ls (vi b :: vi a :: st) := by
  subst e
  rw [vi_wI a]
  exact g_icmp_eq hd rfl (wI_rg a) (wI_rg a) (fun _ => k) (fun h => absurd rfl h)
def wL (a : Int) : Int := (Int64.ofInt a).toInt
theorem wL_rg (a : Int) : rgL (wL a) := by
  have h1 := Int64.le_toInt (Int64.ofInt a)
  have h2 := Int64.toInt_lt (Int64.ofInt a)
  unfold wL
  constructor <;> omega
theorem vl_wL (a : Int) : vl a = vl (wL a) := by unfold wL vl; rw [Int64.ofInt_toInt]
theorem g_eqL {pc2 : Nat} (hd : D1 Y.2.1 pc .lcmp pc2) (hd2 : DJ Y.2.1 pc2 (.ifCond .eq) tgt) (e : a = b) (k : Go γ Ω Y Z cs ss S M tgt ls st) : Go γ Ω Y Z cs ss S M pc ls (vl b :: vl a :: st) := by
  subst e
  rw [vl_wL a]
  refine g_lcmp hd (wL_rg a) (wL_rg a) ?_
  have h0 : lcm (wL a) (wL a) = 0 := by unfold lcm; rw [if_neg (Int.lt_irrefl _), if_pos rfl]
  rw [h0]
  exact g_if_eq hd2 rfl ⟨by decide, by decide⟩ (fun _ => k) (fun h => absurd rfl h)
/-- the script -/
def Scr (γ : Cg) (Ω : Ow) (sb L : Nat) (xs : Nat → Int32) : Prop := va_X sb L xs (cS γ) (cS γ).heap ∧ sb < (cS γ).heap.size ∧ ¬ Lo Ω sb ∧ (cS γ).heap.size ≤ bs Ω ∧ L ≤ 3072
def scv (xs : Nat → Int32) (j : Nat) : Int := (xs j).toInt
theorem scv_rg (xs : Nat → Int32) (j : Nat) : rg (scv xs j) := by
  have h1 := Int32.le_toInt (xs j)
  have h2 := Int32.toInt_lt (xs j)
  unfold scv
  constructor <;> omega
theorem vinS {j n : Nat} (h : j < n) (hn : n ≤ 3072) : vp_in (Int32.ofInt (j : Int)) n := by
  rw [vp_in_iff, tI (⟨by omega, by omega⟩ : rg (j : Int))]
  omega
theorem g_scr (hS : Scr γ Ω sb L xs) (hd : D1 Y.2.1 pc .iaload pc') (j : Nat) (ha : a = (j : Int)) (hj : j < L) (k : Go γ Ω Y Z cs ss S M pc' ls (vi (scv xs j) :: st)) : Go γ Ω Y Z cs ss S M pc ls (vi a :: .ref sb :: st) := by
  subst ha
  obtain ⟨hd, rfl⟩ := hd
  obtain ⟨s1, s2, s3, s4, s5⟩ := hS
  have e : vi (scv xs j) = .int (xs j) := by unfold scv vi; rw [Int32.ofInt_toInt]
  rw [e] at k
  exact fun C H locs LL h1 h2 h3 h4 => va_sld (i := Int32.ofInt (j : Int)) C.1 C.2.1 s1 s2 s3 (vaS_lo C h1 h2 h3 (by omega)) (vinS hj s5) hd (by rw [clamp (by omega)]; exact k C H locs LL h1 h2 h3 h4)
theorem g_scl (hS : Scr γ Ω sb L xs) (hd : D1 Y.2.1 pc .arraylength pc') (k : Go γ Ω Y Z cs ss S M pc' ls (vi (L : Int) :: st)) : Go γ Ω Y Z cs ss S M pc ls (.ref sb :: st) := by
  obtain ⟨hd, rfl⟩ := hd
  obtain ⟨s1, s2, s3, s4, s5⟩ := hS
  exact fun C H locs LL h1 h2 h3 h4 => va_slen C.1 C.2.1 s1 s2 s3 (vaS_lo C h1 h2 h3 (by omega)) hd (k C H locs LL h1 h2 h3 h4)
/-- the locals in the loop -/
def lsL (Ω : Ow) (sb i : Nat) : List (Option Value) := [some (.ref sb), some (vr Ω 0), some (vr Ω 87), some (vi ((6 * i : Nat) : Int))]
theorem g_arg (hS : Scr γ Ω sb L xs) (m : Nat) (hi : 6 * i + 6 ≤ L) (hm : m < 6) (f0 : LA Y.2.1 pc 0 pc1) (f1 : LI Y.2.1 pc1 3 pc2) (f2 : IC Y.2.1 Y.1.cls pc2 (m : Int) pc3) (f3 : D1 Y.2.1 pc3 .iadd pc4) (f4 : D1 Y.2.1 pc4 .iaload pc5) (k : Go γ Ω Y Z cs ss S M pc5 (lsL Ω sb i) (vi (scv xs (6 * i + m)) :: st)) : Go γ Ω Y Z cs ss S M pc (lsL Ω sb i) st := by
  refine g_ald f0 rfl ?_
  refine g_ild f1 rfl ?_
  refine g_const f2 ?_
  refine g_iadd f3 ?_
  exact g_scr hS f4 (6 * i + m) (by omega) (by omega) k
theorem g_arg0 (hS : Scr γ Ω sb L xs) (hi : 6 * i + 6 ≤ L) (f0 : LA Y.2.1 pc 0 pc1) (f1 : LI Y.2.1 pc1 3 pc2) (f4 : D1 Y.2.1 pc2 .iaload pc5) (k : Go γ Ω Y Z cs ss S M pc5 (lsL Ω sb i) (vi (scv xs (6 * i)) :: st)) : Go γ Ω Y Z cs ss S M pc (lsL Ω sb i) st := by
  refine g_ald f0 rfl ?_
  refine g_ild f1 rfl ?_
  exact g_scr hS f4 (6 * i) rfl (by omega) k
end LR
/-- both stand at the same state -/
def LI2 (S : Sg) (M : Mm) (s : Wt) : Prop := RepW S M s ∧ RepM M s ∧ okX s
theorem LI2.go {S S1 S2 : Sg} {M M1 M2 : Mm} {t : Wt} (ok : okX t) (d1 : RepW S1 M1 t) (d2 : S2 = S1 ∧ RepM M2 t ∧ mdl M1 M2) : LI2 S2 M2 t := by
  obtain ⟨rfl, h2, h3⟩ := d2
  exact ⟨d1.mdl ok.1 h3, h2, ok⟩
theorem wl_rgL (a b : Int) : rgL (bopL (fun x y => x ||| y) a b) := by
  have h1 := Int64.le_toInt (Int64.ofInt a ||| Int64.ofInt b)
  have h2 := Int64.toInt_lt (Int64.ofInt a ||| Int64.ofInt b)
  show -9223372036854775808 ≤ (Int64.ofInt a ||| Int64.ofInt b).toInt ∧ (Int64.ofInt a ||| Int64.ofInt b).toInt ≤ 9223372036854775807
  constructor <;> omega
