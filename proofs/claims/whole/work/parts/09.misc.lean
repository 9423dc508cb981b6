section GM
variable {γ : Cg} {Ω : Ow} {Y Y2 : Md} {Z : State → Prop} {cs ss : Nat} {S : Sg} {M : Mm} {pc pc' tgt : Nat} {ls : List (Option Value)} {st rest As : List Value} {a b z : Int} {r c j n i d mc ms κ : Nat} {v : Value} {Q : Int → Sg → Mm → Prop}
theorem g_ifnull (hd : DJ Y.2.1 pc .ifnull tgt) (hp : pc + 3 = pc') {x : Nat} (k : Go γ Ω Y Z cs ss S M pc' ls st) : Go γ Ω Y Z cs ss S M pc ls (.ref x :: st) := by
  obtain ⟨off, hd, ht⟩ := hd
  subst hp
  exact go_st (fun C H locs L k => lv_ifnull C.1 C.2.1 hd k) k
theorem g_ifnullN (hd : DJ Y.2.1 pc .ifnull tgt) (k : Go γ Ω Y Z cs ss S M tgt ls st) : Go γ Ω Y Z cs ss S M pc ls (.null :: st) := by
  obtain ⟨off, hd, ht⟩ := hd
  exact go_st (fun C H locs L k => lv_ifnullN C.1 C.2.1 hd ht k) k
theorem g_ifnn (hd : DJ Y.2.1 pc .ifnonnull tgt) {x : Nat} (k : Go γ Ω Y Z cs ss S M tgt ls st) : Go γ Ω Y Z cs ss S M pc ls (.ref x :: st) := by
  obtain ⟨off, hd, ht⟩ := hd
  exact go_st (fun C H locs L k => lv_ifnonnull C.1 C.2.1 hd ht k) k
theorem g_ifnnN (hd : DJ Y.2.1 pc .ifnonnull tgt) (hp : pc + 3 = pc') (k : Go γ Ω Y Z cs ss S M pc' ls st) : Go γ Ω Y Z cs ss S M pc ls (.null :: st) := by
  obtain ⟨off, hd, ht⟩ := hd
  subst hp
  exact go_st (fun C H locs L k => lv_ifnonnullN C.1 C.2.1 hd k) k
/-! switches -/
def CasG (γ : Cg) (Ω : Ow) (Y : Md) (Z : State → Prop) (cs ss : Nat) (S : Sg) (M : Mm) (ls : List (Option Value)) (st : List Value) (a : Int) : List (Int × Nat) → Prop
  | [] => True
  | q :: t => (a = q.1 → Go γ Ω Y Z cs ss S M q.2 ls st) ∧ CasG γ Ω Y Z cs ss S M ls st a t
theorem casN : CasG γ Ω Y Z cs ss S M ls st a [] := trivial
theorem casC {t : List (Int × Nat)} {q : Int} (k : a = q → Go γ Ω Y Z cs ss S M tgt ls st) (h : CasG γ Ω Y Z cs ss S M ls st a t) : CasG γ Ω Y Z cs ss S M ls st a ((q, tgt) :: t) := ⟨k, h⟩
theorem cas_get : ∀ {t : List (Int × Nat)}, CasG γ Ω Y Z cs ss S M ls st a t → ∀ q ∈ t, a = q.1 → Go γ Ω Y Z cs ss S M q.2 ls st := by
  intro t
  induction t with
  | nil => intro _ q h; cases h
  | cons x t ih =>
    intro h q hq e
    rcases List.mem_cons.mp hq with rfl | hq
    · exact h.1 e
    · exact ih h.2 q hq e
/-- a tableswitch: its cases, its default -/
def TB (cc : ByteArray) (pc : Nat) (cases : List (Int × Nat)) (dfl : Nat) : Prop := ∃ (d lo hi : Int) (offs : Array Int) (len : Nat), decode cc pc = .ok (.tableswitch d lo hi offs, len) ∧ (pc : Int) + d = (dfl : Int) ∧ hi = lo + cases.length - 1 ∧ ∀ i : Nat, i < cases.length → cases[i]? = some (lo + i, ((pc : Int) + offs.getD i 0).toNat) ∧ offs[i]? = some (offs.getD i 0) ∧ 0 ≤ (pc : Int) + offs.getD i 0
theorem g_tab {cases : List (Int × Nat)} {dfl : Nat} (f : TB Y.2.1 pc cases dfl) (ha : rg a) (kd : (∀ q ∈ cases, a ≠ q.1) → Go γ Ω Y Z cs ss S M dfl ls st) (ki : CasG γ Ω Y Z cs ss S M ls st a cases) : Go γ Ω Y Z cs ss S M pc ls (vi a :: st) := by
  obtain ⟨d, lo, hi, offs, len, hd, hdf, hhi, hall⟩ := f
  by_cases hin : lo ≤ a ∧ a ≤ hi
  · obtain ⟨i, hi0⟩ : ∃ i : Nat, a = lo + (i : Int) := ⟨(a - lo).toNat, by omega⟩
    have hil : i < cases.length := by omega
    obtain ⟨e1, e2, e3⟩ := hall i hil
    have kk := cas_get ki _ (List.mem_of_getElem? e1) hi0
    refine go_st (fun C H locs L k => lv_tableIn (tgt := ((pc : Int) + offs.getD i 0).toNat) (off := offs.getD i 0) C.1 C.2.1 hd (by rw [tI ha]; omega) (by rw [tI ha]; omega) ?_ (by omega) k) kk
    rw [tI ha, show (a - lo).toNat = i by omega]
    exact e2
  · refine go_st (fun C H locs L k => lv_tableOut C.1 C.2.1 hd (by rw [tI ha]; omega) hdf k) (kd fun q hq e => ?_)
    obtain ⟨i, hi0⟩ := List.getElem?_of_mem hq
    have hil := (List.getElem?_eq_some_iff.mp hi0).1
    have e1 := (hall i hil).1
    rw [hi0] at e1
    cases e1
    simp only at e
    omega
/-- a lookupswitch -/
def LK (cc : ByteArray) (pc : Nat) (cases : List (Int × Nat)) (dfl : Nat) : Prop := ∃ (d : Int) (ps : Array (Int × Int)) (len : Nat), decode cc pc = .ok (.lookupswitch d ps, len) ∧ (ps.toList.zip (ps.toList.drop 1)).all (fun (a, next) => a.1 < next.1) = true ∧ (pc : Int) + d = (dfl : Int) ∧ cases = ps.toList.map (fun q => (q.1, ((pc : Int) + q.2).toNat)) ∧ ps.toList.all (fun q => decide (0 ≤ (pc : Int) + q.2)) = true
theorem g_lk {cases : List (Int × Nat)} {dfl : Nat} (f : LK Y.2.1 pc cases dfl) (ha : rg a) (kd : (∀ q ∈ cases, a ≠ q.1) → Go γ Ω Y Z cs ss S M dfl ls st) (ki : CasG γ Ω Y Z cs ss S M ls st a cases) : Go γ Ω Y Z cs ss S M pc ls (vi a :: st) := by
  obtain ⟨d, ps, len, hd, hsorted, hdf, hcs, hpos⟩ := f
  have key : ∀ l : List (Int × Int), l.all (fun q => decide (0 ≤ (pc : Int) + q.2)) = true → (∃ q ∈ l, a = q.1 ∧ Op.lookupswitch.offset l d a = q.2 ∧ 0 ≤ (pc : Int) + q.2) ∨ ((∀ q ∈ l, a ≠ q.1) ∧ Op.lookupswitch.offset l d a = d) := by
    intro l
    induction l with
    | nil => intro _; exact Or.inr ⟨(fun q h => by cases h), rfl⟩
    | cons x t ih =>
      intro h
      simp only [List.all_cons, Bool.and_eq_true, decide_eq_true_eq] at h
      obtain ⟨x1, x2⟩ := x
      rw [Op.lookupswitch.offset_cons]
      by_cases hx : x1 = a
      · rw [if_pos hx]
        exact Or.inl ⟨_, List.mem_cons_self, hx.symm, rfl, h.1⟩
      · rw [if_neg hx]
        rcases ih h.2 with ⟨q, q1, q2⟩ | ⟨q1, q2⟩
        · exact Or.inl ⟨q, List.mem_cons_of_mem _ q1, q2⟩
        · refine Or.inr ⟨fun q hq => ?_, q2⟩
          rcases List.mem_cons.mp hq with rfl | hq
          · exact fun e => hx e.symm
          · exact q1 q hq
  rcases key ps.toList hpos with ⟨q, q1, q2, q3, q4⟩ | ⟨q1, q2⟩
  · have kk := cas_get ki (q.1, ((pc : Int) + q.2).toNat) (by rw [hcs]; exact List.mem_map.mpr ⟨q, q1, rfl⟩) q2
    exact go_st (fun C H locs L k => lv_lookup (tgt := ((pc : Int) + q.2).toNat) (off := q.2) C.1 C.2.1 hd hsorted (by rw [tI ha]; exact q3) (by omega) k) kk
  · refine go_st (fun C H locs L k => lv_lookup (off := d) C.1 C.2.1 hd hsorted (by rw [tI ha]; exact q2) hdf k) (kd fun q hq => ?_)
    rw [hcs] at hq
    obtain ⟨q', h1, rfl⟩ := List.mem_map.mp hq
    exact q1 q' h1
/-! Math.max, min -/
def MM (own : String) (cc : ByteArray) (pc pc' : Nat) (y : MethodName) (code : ByteArray) : Prop := ∃ idx, D3 cc pc (.invokestatic idx) pc' ∧ Cond.methodLink own idx y ∈ Ug ∧ Cond.static y ∈ Ug ∧ Cond.initialized "java/lang/Math" ∈ Ug ∧ Cond.code y code 2 (some .int) ∈ Ug
theorem g_max (hd : MM Y.1.cls Y.2.1 pc pc' Lib.Math.max.name Lib.Math.max.code) (ha : rg a) (hb : rg b) (hR : 1 ≤ (cR γ).frames ∧ (st.map fun v => v.category).sum + 13 ≤ (cR γ).locals) (hf : cs ≤ (cR γ).cells ∧ ss ≤ (cR γ).slots) (k : Go γ Ω Y Z cs ss S M pc' ls (vi (max a b) :: st)) : Go γ Ω Y Z cs ss S M pc ls (vi b :: vi a :: st) := by
  obtain ⟨idx, ⟨hd, rfl⟩, w1, w2, w3, w4⟩ := hd
  intro C H locs L h1 h2 h3 h4
  refine va_mmax C.1 C.2.1 (C.2.2.1.trans h4.1.symm) C.2.2.2.1 (C.2.2.2.2.1 _ w1) (C.2.2.2.2.1 _ w2) (C.2.2.2.2.1 _ w3) (C.2.2.2.2.1 _ w4) hR.1 hR.2 hf.1 hf.2 hd ?_
  have e : (if Int32.ofInt a < Int32.ofInt b then Int32.ofInt b else Int32.ofInt a) = Int32.ofInt (max a b) := by
    by_cases h : a < b
    · rw [if_pos ((oI_lt ha hb).mpr h), show max a b = b by omega]
    · rw [if_neg (fun q => h ((oI_lt ha hb).mp q)), show max a b = a by omega]
  rw [e]
  exact k C H locs L h1 h2 h3 h4
theorem g_min (hd : MM Y.1.cls Y.2.1 pc pc' Lib.Math.min.name Lib.Math.min.code) (ha : rg a) (hb : rg b) (hR : 1 ≤ (cR γ).frames ∧ (st.map fun v => v.category).sum + 13 ≤ (cR γ).locals) (hf : cs ≤ (cR γ).cells ∧ ss ≤ (cR γ).slots) (k : Go γ Ω Y Z cs ss S M pc' ls (vi (min a b) :: st)) : Go γ Ω Y Z cs ss S M pc ls (vi b :: vi a :: st) := by
  obtain ⟨idx, ⟨hd, rfl⟩, w1, w2, w3, w4⟩ := hd
  intro C H locs L h1 h2 h3 h4
  refine va_mmin C.1 C.2.1 (C.2.2.1.trans h4.1.symm) C.2.2.2.1 (C.2.2.2.2.1 _ w1) (C.2.2.2.2.1 _ w2) (C.2.2.2.2.1 _ w3) (C.2.2.2.2.1 _ w4) hR.1 hR.2 hf.1 hf.2 hd ?_
  have e : (if Int32.ofInt b < Int32.ofInt a then Int32.ofInt b else Int32.ofInt a) = Int32.ofInt (min a b) := by
    by_cases h : b < a
    · rw [if_pos ((oI_lt hb ha).mpr h), show min a b = b by omega]
    · rw [if_neg (fun q => h ((oI_lt hb ha).mp q)), show min a b = a by omega]
  rw [e]
  exact k C H locs L h1 h2 h3 h4
/-! System.arraycopy -/
def cpM (M : Mm) (r0 sp r1 dp n : Nat) : Mm := fun k j => if k = r1 ∧ dp ≤ j ∧ j < dp + n then M r0 (sp + (j - dp)) else M k j
theorem cpM_row {M : Mm} {r0 sp r1 dp n k : Nat} (h : k ≠ r1) : cpM M r0 sp r1 dp n k = M k := by funext i; simp [cpM, h]
def AC (own : String) (cc : ByteArray) (pc pc' : Nat) : Prop := ∃ idx, D3 cc pc (.invokestatic idx) pc' ∧ Cond.methodLink own idx arraycopyName ∈ Ug ∧ Cond.native arraycopyName ∈ Ug ∧ Cond.static arraycopyName ∈ Ug ∧ Cond.initialized "java/lang/System" ∈ Ug
theorem hw_cp {H H1 : Heap} {r0 r1 sp dp n1 c : Nat} (hW : HW Ω S M H) (hr : Ar S r1 c n1) (hP : va_P Ω.2.2.1 vwCl ((wsO Ω S M).set r1 (bs Ω + r1, .inl (Ω.2.2.1.1 c, arr Ω S (cpM M r0 sp r1 dp n) r1 c n1))) H1) (hz : H1.size = H.size) : HW Ω S (cpM M r0 sp r1 dp n) H1 := by
  refine ⟨hz.trans hW.1, ?_, fun k hk j => ⟨?_, (hW.2.2 k hk j).2⟩⟩
  · rw [wsO_set hr.2.1 rfl (cont_ar (M := cpM M r0 sp r1 dp n) hr) (fun k hk => cont_eq (cpM_row hk) rfl)] at hP
    exact hP
  · have hne : k ≠ r1 := by have := hr.2.1; omega
    rw [cpM_row hne]
    exact (hW.2.2 k hk j).1
theorem g_acopyI {r0 r1 sp dp n0 n1 : Nat} (hd : AC Y.1.cls Y.2.1 pc pc') (hr0 : Ar S r0 12 n0) (hr1 : Ar S r1 12 n1) (h4 : sp + n ≤ n0) (h5 : dp + n ≤ n1) (hR : 1 ≤ (cR γ).frames ∧ (st.map fun v => v.category).sum + (nativeFrameWords "java/lang/System" "arraycopy" 5 + 11) ≤ (cR γ).locals) (hz : (cS γ).heap.size + cs ≤ bs Ω + S.1) (k : Go γ Ω Y Z cs ss S (cpM M r0 sp r1 dp n) pc' ls st) : Go γ Ω Y Z cs ss S M pc ls (vi (n : Int) :: vi (dp : Int) :: vr Ω r1 :: vi (sp : Int) :: vr Ω r0 :: st) := by
  obtain ⟨idx, ⟨hd, rfl⟩, w1, w2, w3, w4⟩ := hd
  intro C H locs L a1 a2 a3 a4
  have hn0 := ar_le hr0
  have hn1 := ar_le hr1
  have cl : ∀ j : Nat, j ≤ 1000 → (Int32.ofInt (j : Int)).toNatClampNeg = j := fun j hj => clamp (by omega)
  have nn : ∀ j : Nat, j ≤ 1000 → ¬ Int32.ofInt (j : Int) < 0 := fun j hj => by rw [zI, oI_lt (by omega) (by omega)]; omega
  refine va_copyi (A := Lo Ω) (H0 := H) C.1 C.2.1 (C.2.2.1.trans a4.1.symm) C.2.2.2.1 (C.2.2.2.2.1 _ w1) (C.2.2.2.2.1 _ w2) (C.2.2.2.2.1 _ w3) (C.2.2.2.2.1 _ w4) (cx_K C) a1.2.1 wsO_D ⟨Nat.le_refl _, fun _ _ _ => rfl, a3⟩ r0 r1 1 1 (f := fun j => Int32.ofInt (M r0 j)) (g := fun j => Int32.ofInt (M r1 j)) (n0 := n0) (n1 := n1) ((wsO_get hr0.2.1).trans (by rw [cont_ar hr0]; rfl)) ((wsO_get hr1.2.1).trans (by rw [cont_ar hr1]; rfl)) rfl rfl rfl (nn _ (by omega)) (nn _ (by omega)) (nn _ (by omega)) (by rw [cl _ (by omega), cl _ (by omega)]; exact h4) (by rw [cl _ (by omega), cl _ (by omega)]; exact h5) (fun i _ => rfl) hR.1 hR.2 hd fun H1 locs1 hP hD hS => ?_
  intro T hT X
  have hsz : H1.size = H.size := by
    have e1 := X.heapSize
    rw [hT] at e1
    have e2 := hS.1
    have e3 := a1.1
    omega
  refine k C H1 locs1 L (hw_cp (r0 := r0) (sp := sp) (dp := dp) (n := n) a1 hr1 ?_ hsz) (fun q hq => (hS.2.1 q (by rw [a1.1]; omega) (by show ¬ bs Ω ≤ q; omega)).trans (a2 q hq)) hS.2.2 a4 T hT X
  have e : (arr Ω S (cpM M r0 sp r1 dp n) r1 12 n1) = (n1, .inl (va_cpy (fun j => Int32.ofInt (M r0 j)) (fun j => Int32.ofInt (M r1 j)) (Int32.ofInt (sp : Int)).toNatClampNeg (Int32.ofInt (dp : Int)).toNatClampNeg (Int32.ofInt (n : Int)).toNatClampNeg)) := by
    rw [cl _ (by omega), cl _ (by omega), cl _ (by omega)]
    show (n1, _) = (n1, _)
    congr 2
    funext j
    unfold cpM va_cpy
    by_cases h : dp ≤ j ∧ j < dp + n
    · rw [if_pos ⟨rfl, h⟩, if_pos h]
    · rw [if_neg (fun q => h q.2), if_neg h]
  rw [e]
  exact hP
theorem g_acopyL {r0 r1 sp dp n0 n1 : Nat} (hd : AC Y.1.cls Y.2.1 pc pc') (hr0 : Ar S r0 13 n0) (hr1 : Ar S r1 13 n1) (h4 : sp + n ≤ n0) (h5 : dp + n ≤ n1) (hR : 1 ≤ (cR γ).frames ∧ (st.map fun v => v.category).sum + (nativeFrameWords "java/lang/System" "arraycopy" 5 + 11) ≤ (cR γ).locals) (hz : (cS γ).heap.size + cs ≤ bs Ω + S.1) (k : Go γ Ω Y Z cs ss S (cpM M r0 sp r1 dp n) pc' ls st) : Go γ Ω Y Z cs ss S M pc ls (vi (n : Int) :: vi (dp : Int) :: vr Ω r1 :: vi (sp : Int) :: vr Ω r0 :: st) := by
  obtain ⟨idx, ⟨hd, rfl⟩, w1, w2, w3, w4⟩ := hd
  intro C H locs L a1 a2 a3 a4
  have hn0 := ar_le hr0
  have hn1 := ar_le hr1
  have cl : ∀ j : Nat, j ≤ 1000 → (Int32.ofInt (j : Int)).toNatClampNeg = j := fun j hj => clamp (by omega)
  have nn : ∀ j : Nat, j ≤ 1000 → ¬ Int32.ofInt (j : Int) < 0 := fun j hj => by rw [zI, oI_lt (by omega) (by omega)]; omega
  refine va_copyl (A := Lo Ω) (H0 := H) C.1 C.2.1 (C.2.2.1.trans a4.1.symm) C.2.2.2.1 (C.2.2.2.2.1 _ w1) (C.2.2.2.2.1 _ w2) (C.2.2.2.2.1 _ w3) (C.2.2.2.2.1 _ w4) (cx_K C) a1.2.1 wsO_D ⟨Nat.le_refl _, fun _ _ _ => rfl, a3⟩ r0 r1 2 2 (f := fun j => Int64.ofInt (M r0 j)) (g := fun j => Int64.ofInt (M r1 j)) (n0 := n0) (n1 := n1) ((wsO_get hr0.2.1).trans (by rw [cont_ar hr0]; rfl)) ((wsO_get hr1.2.1).trans (by rw [cont_ar hr1]; rfl)) rfl rfl rfl (nn _ (by omega)) (nn _ (by omega)) (nn _ (by omega)) (by rw [cl _ (by omega), cl _ (by omega)]; exact h4) (by rw [cl _ (by omega), cl _ (by omega)]; exact h5) (fun i _ => rfl) hR.1 hR.2 hd fun H1 locs1 hP hD hS => ?_
  intro T hT X
  have hsz : H1.size = H.size := by
    have e1 := X.heapSize
    rw [hT] at e1
    have e2 := hS.1
    have e3 := a1.1
    omega
  refine k C H1 locs1 L (hw_cp (r0 := r0) (sp := sp) (dp := dp) (n := n) a1 hr1 ?_ hsz) (fun q hq => (hS.2.1 q (by rw [a1.1]; omega) (by show ¬ bs Ω ≤ q; omega)).trans (a2 q hq)) hS.2.2 a4 T hT X
  have e : (arr Ω S (cpM M r0 sp r1 dp n) r1 13 n1) = (n1, .inr (.inl (va_cpy (fun j => Int64.ofInt (M r0 j)) (fun j => Int64.ofInt (M r1 j)) (Int32.ofInt (sp : Int)).toNatClampNeg (Int32.ofInt (dp : Int)).toNatClampNeg (Int32.ofInt (n : Int)).toNatClampNeg))) := by
    rw [cl _ (by omega), cl _ (by omega), cl _ (by omega)]
    show (n1, _) = (n1, _)
    congr 3
    funext j
    unfold cpM va_cpy
    by_cases h : dp ≤ j ∧ j < dp + n
    · rw [if_pos ⟨rfl, h⟩, if_pos h]
    · rw [if_neg (fun q => h q.2), if_neg h]
  rw [e]
  exact hP
end GM
