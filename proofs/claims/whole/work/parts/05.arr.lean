section GA
variable {γ : Cg} {Ω : Ow} {Y : Md} {Z : State → Prop} {cs ss : Nat} {S : Sg} {M : Mm} {pc pc' tgt : Nat} {ls : List (Option Value)} {st : List Value} {a b z : Int} {r c j n : Nat}
/-- a final field's value, in the constructor -/
theorem g_putq {b : Bool} (hf : QF Y.2.1 Y.1.cls pc c j pc' b) (hy : Y.1.name = "<init>") (hr : Ob S r c) (hz : Fit Ω c j b z) (k : Go γ Ω Y Z cs ss (putS S b r j z) (putM M b r j z) pc' ls st) : Go γ Ω Y Z cs ss S M pc ls ((if b = true then rv Ω z else vi z) :: vr Ω r :: st) := by
  obtain ⟨idx, ⟨hd, rfl⟩, hl, hc, hb, hfin, hdecl⟩ := hf
  intro C H locs L h1 h2 h3 h4
  have hj : j < cL c := by rw [← fk_len c hc]; exact (List.getElem?_eq_some_iff.mp hb).1
  have hK := cx_K C
  have hts := C.2.2.2.2.1
  have hin := wsC_ok c hc
  have hap := va_apart (own := Y.1.cls) hts hin (tyC c) (tyC_ok c hc) (nmC_ok c hc) hK (cl_at hc)
  have hat : va_at Ω.2.2.1 vwCl (bs Ω + r, .inr (c, fsv Ω S M r c)) H := h1.2.1 r _ ((wsO_get hr.2.1).trans (by rw [cont_ob hr]))
  obtain ⟨rr, e1, cell, q1, q2, q3, q4⟩ := hat
  have hrr : rr = (cN c, cT c, cL c) := Option.some.inj (e1.symm.trans (cl_at hc))
  subst hrr
  obtain ⟨hSl, hfc, kC, hkC, hkind⟩ := hK.1 c _ (cl_at hc)
  obtain ⟨cf, kf, fi, f, hi, hsl⟩ := hSl j hj
  have hlay := hts _ (hin _ (u_in_lay hj))
  unfold u_lay at hlay
  rw [if_pos hfin] at hlay
  have hst := (u_facts hfc hkC (u_lays hts hin hj) hi).1
  have hcf : (cM γ).cls = cf := by
    obtain ⟨_, _, c', _, _, _, -, -, hf', -, -, -, hown2, -⟩ := Cond.laysFinal_spec hlay
    have e1 : c' = cf := by have := hi.symm.trans hf'; simp at this; exact this.1.symm
    rw [hdecl] at hown2
    rw [← e1]; exact Option.some.inj (C.2.2.2.1.symm.trans hown2)
  have h6 := u_fits hfc hkC hkind (Or.inr hlay) hi (tyC_ok c hc j hj) hz.1 hz.2
  have hfs : j < (fsv Ω S M r c).length := by simp [fsv, fk_len c hc, hj]
  refine W.putFinK C.1 C.2.1 C.2.2.2.1 (C.2.2.2.2.1 _ hl) hi hst hcf (C.2.2.2.2.2.2.2.1.trans hy) (by rw [q2]; exact h6) q1 q3 (by rw [hsl]; exact k2_hasslot (q4 j hj)) rfl rfl hd fun H' e1 e2 e3 => ?_
  rw [hsl] at e1
  exact k C H' _ L (hw_putf h1 hr hb ⟨_, cl_at hc, t_OB.to (V := updV (vp_V (fsv Ω S M r c)) j (if b = true then rv Ω z else vi z)) ⟨_, e1, q2, q3, t_set q4 hap hj _⟩ (fun i _ => vp_updV_set hfs _ i)⟩ e2 e3) (lo_put h2 e3) (lc_put h3) h4
/-- a number's field -/
theorem fit_int {b : Bool} (hb : b = false) (h : tyC c j = .int) : Fit Ω c j b z := by
  subst hb
  rw [Fit, h]
  exact ⟨rfl, rfl⟩
theorem vi0 : vi 0 = .int 0 := by decide
theorem vi1 : vi 1 = .int 1 := by decide
theorem fit_bool {b : Bool} (hb : b = false) (h : tyC c j = .boolean) (hz : z = 0 ∨ z = 1) : Fit Ω c j b z := by
  subst hb
  rw [Fit, h]
  rcases hz with rfl | rfl
  · rw [if_neg (by decide), vi0]; exact ⟨rfl, rfl⟩
  · rw [if_neg (by decide), vi1]; exact ⟨rfl, rfl⟩
theorem fit_ref {b : Bool} (hb : b = true) (h : (∃ n, tyC c j = .object n) ∨ ∃ n, tyC c j = .array n) : Fit Ω c j b z := by
  subst hb
  unfold Fit
  rw [if_pos rfl]
  refine narrow_of (Or.inr (Or.inr (Or.inr ⟨h, ?_⟩)))
  cases z
  · exact Or.inr ⟨_, rfl⟩
  · exact Or.inl rfl
theorem g_putI (hf : PF Y.2.1 Y.1.cls pc c j pc' false) (ht : tyC c j = .int) (hr : Ob S r c) (k : Go γ Ω Y Z cs ss S (up M r j z) pc' ls st) : Go γ Ω Y Z cs ss S M pc ls (vi z :: vr Ω r :: st) := g_putv (b := false) hf hr (fit_int rfl ht) k
theorem g_putZ (hf : PF Y.2.1 Y.1.cls pc c j pc' false) (ht : tyC c j = .boolean) (hz : z = 0 ∨ z = 1) (hr : Ob S r c) (k : Go γ Ω Y Z cs ss S (up M r j z) pc' ls st) : Go γ Ω Y Z cs ss S M pc ls (vi z :: vr Ω r :: st) := g_putv (b := false) hf hr (fit_bool rfl ht hz) k
theorem g_putR {q : Nat} (hf : PF Y.2.1 Y.1.cls pc c j pc' true) (ht : (∃ n, tyC c j = .object n) ∨ ∃ n, tyC c j = .array n) (hr : Ob S r c) (k : Go γ Ω Y Z cs ss (S.1, up S.2 r j (q : Int)) M pc' ls st) : Go γ Ω Y Z cs ss S M pc ls (vr Ω q :: vr Ω r :: st) := g_putv (b := true) (z := (q : Int)) hf hr (fit_ref rfl ht) k
theorem g_putqI (hf : QF Y.2.1 Y.1.cls pc c j pc' false) (hy : Y.1.name = "<init>") (ht : tyC c j = .int) (hr : Ob S r c) (k : Go γ Ω Y Z cs ss S (up M r j z) pc' ls st) : Go γ Ω Y Z cs ss S M pc ls (vi z :: vr Ω r :: st) := g_putq (b := false) hf hy hr (fit_int rfl ht) k
theorem g_putqR {q : Nat} (hf : QF Y.2.1 Y.1.cls pc c j pc' true) (hy : Y.1.name = "<init>") (ht : (∃ n, tyC c j = .object n) ∨ ∃ n, tyC c j = .array n) (hr : Ob S r c) (k : Go γ Ω Y Z cs ss (S.1, up S.2 r j (q : Int)) M pc' ls st) : Go γ Ω Y Z cs ss S M pc ls (vr Ω q :: vr Ω r :: st) := g_putq (b := true) (z := (q : Int)) hf hy hr (fit_ref rfl ht) k
theorem clamp {j : Nat} (h : (j : Int) ≤ 2147483647) : (Int32.ofInt (j : Int)).toNatClampNeg = j := by
  show (Int32.ofInt (j : Int)).toInt.toNat = j
  rw [tI (by omega)]
  rfl
theorem vin {j n : Nat} (h : j < n) (hn : n ≤ 1000) : vp_in (Int32.ofInt (j : Int)) n := by
  intro q
  rcases q with q | q
  · rw [zI, oI_lt (by omega) (by omega)] at q
    omega
  · rw [clamp (by omega)] at q
    omega
theorem lens_le : ∀ r, (sh r).2 ≤ 1000 := by
  intro r
  unfold sh
  split
  · rename_i h
    have : ∀ r, r < 116 → (shT.getD r (0, 0)).2 ≤ 1000 := by decide +kernel
    exact this r h
  · have : ∀ r, r < 6 → (shL.getD r (0, 0)).2 ≤ 1000 := by decide +kernel
    exact this _ (Nat.mod_lt _ (by decide))
theorem ar_le (h : Ar S r c n) : n ≤ 1000 := by have := lens_le r; rw [h.1] at this; exact this
/-- reading arrays -/
theorem g_iald (hd : D1 Y.2.1 pc .iaload pc') (hr : Ar S r 12 n) (hj : j < n) (k : Go γ Ω Y Z cs ss S M pc' ls (vi (M r j) :: st)) : Go γ Ω Y Z cs ss S M pc ls (vi (j : Int) :: vr Ω r :: st) := by
  obtain ⟨hd, rfl⟩ := hd
  intro C H locs L h1 h2 h3 h4
  have hn := ar_le hr
  refine va_iald (i := Int32.ofInt (j : Int)) C.1 C.2.1 (cx_K C) h1.2.1 r 1 ((wsO_get hr.2.1).trans (by rw [cont_ar hr]; rfl)) rfl (vin hj hn) hd ?_
  rw [clamp (by omega)]
  exact k C H locs L h1 h2 h3 h4
theorem g_bald (hd : D1 Y.2.1 pc .baload pc') (hr : Ar S r 11 n) (hj : j < n) (k : Go γ Ω Y Z cs ss S M pc' ls (vi (M r j) :: st)) : Go γ Ω Y Z cs ss S M pc ls (vi (j : Int) :: vr Ω r :: st) := by
  obtain ⟨hd, rfl⟩ := hd
  intro C H locs L h1 h2 h3 h4
  have hn := ar_le hr
  refine va_bald (i := Int32.ofInt (j : Int)) C.1 C.2.1 (cx_K C) h1.2.1 r 0 ((wsO_get hr.2.1).trans (by rw [cont_ar hr]; rfl)) rfl (vin hj hn) hd ?_
  rw [clamp (by omega)]
  exact k C H locs L h1 h2 h3 h4
theorem g_zald (hd : D1 Y.2.1 pc .baload pc') (hr : Ar S r 14 n) (hj : j < n) (k : Go γ Ω Y Z cs ss S M pc' ls (vi (M r j) :: st)) : Go γ Ω Y Z cs ss S M pc ls (vi (j : Int) :: vr Ω r :: st) := by
  obtain ⟨hd, rfl⟩ := hd
  intro C H locs L h1 h2 h3 h4
  have hn := ar_le hr
  refine va_zald (i := Int32.ofInt (j : Int)) C.1 C.2.1 (cx_K C) h1.2.1 r 3 ((wsO_get hr.2.1).trans (by rw [cont_ar hr]; rfl)) rfl (vin hj hn) hd ?_
  rw [clamp (by omega)]
  exact k C H locs L h1 h2 h3 h4
theorem g_lald (hd : D1 Y.2.1 pc .laload pc') (hr : Ar S r 13 n) (hj : j < n) (k : Go γ Ω Y Z cs ss S M pc' ls (vl (M r j) :: st)) : Go γ Ω Y Z cs ss S M pc ls (vi (j : Int) :: vr Ω r :: st) := by
  obtain ⟨hd, rfl⟩ := hd
  intro C H locs L h1 h2 h3 h4
  have hn := ar_le hr
  refine va_lald (i := Int32.ofInt (j : Int)) C.1 C.2.1 (cx_K C) h1.2.1 r 2 ((wsO_get hr.2.1).trans (by rw [cont_ar hr]; rfl)) rfl (vin hj hn) hd ?_
  rw [clamp (by omega)]
  exact k C H locs L h1 h2 h3 h4
theorem g_aald {q : Nat} (hd : D1 Y.2.1 pc .aaload pc') (hr : Ar S r c n) (hc : c = 15 ∨ c = 16) (hj : j < n) (hq : S.2 r j = (q : Int)) (k : Go γ Ω Y Z cs ss S M pc' ls (vr Ω q :: st)) : Go γ Ω Y Z cs ss S M pc ls (vi (j : Int) :: vr Ω r :: st) := by
  obtain ⟨hd, rfl⟩ := hd
  intro C H locs L h1 h2 h3 h4
  have hn := ar_le hr
  have e : va_rf (ro Ω (S.2 r j)) = vr Ω q := by rw [hq]; rfl
  rcases hc with rfl | rfl
  · refine va_aldq (i := Int32.ofInt (j : Int)) (C := RX3) C.1 C.2.1 (cx_K C) h1.2.1 r 4 ((wsO_get hr.2.1).trans (by rw [cont_ar hr]; rfl)) rfl (vin hj hn) hd ?_
    rw [clamp (by omega), e]
    exact k C H locs L h1 h2 h3 h4
  · refine va_aldq (i := Int32.ofInt (j : Int)) (C := RX7) C.1 C.2.1 (cx_K C) h1.2.1 r 5 ((wsO_get hr.2.1).trans (by rw [cont_ar hr]; rfl)) rfl (vin hj hn) hd ?_
    rw [clamp (by omega), e]
    exact k C H locs L h1 h2 h3 h4
def tyi (c : Nat) : Nat := c - 11
theorem g_alen (hd : D1 Y.2.1 pc .arraylength pc') (hr : Ar S r c n) (hc : c < 17) (k : Go γ Ω Y Z cs ss S M pc' ls (vi (n : Int) :: st)) : Go γ Ω Y Z cs ss S M pc ls (vr Ω r :: st) := by
  obtain ⟨hd, rfl⟩ := hd
  intro C H locs L h1 h2 h3 h4
  have hc0 := hr.2.2
  have go : ∀ (t0 : Nat) (ty : FieldType), (tys Ω.2.2.1)[t0]? = some (Ω.2.2.1.1 c, ty) → (arr Ω S M r c n).1 = n → W (cP γ) Ω.1 (cE γ) (cR γ) (cS γ) (cM γ) (cA γ) (cB γ) (cMe γ) (cC γ) H locs cs ss Z (F0 (cM γ) pc L (vr Ω r :: st)) := fun t0 ty ht hn => va_alen C.1 C.2.1 (cx_K C) h1.2.1 r t0 ((wsO_get hr.2.1).trans (by rw [cont_ar hr])) ht (by rw [hn, ← Int32.ofInt_eq_ofNat]) hd (k C H locs L h1 h2 h3 h4)
  rcases (show c = 11 ∨ c = 12 ∨ c = 13 ∨ c = 14 ∨ c = 15 ∨ c = 16 by omega) with rfl | rfl | rfl | rfl | rfl | rfl
  · exact go 0 _ rfl rfl
  · exact go 1 _ rfl rfl
  · exact go 2 _ rfl rfl
  · exact go 3 _ rfl rfl
  · exact go 4 _ rfl rfl
  · exact go 5 _ rfl rfl
/-- writing arrays -/
theorem hat_of {H : Heap} (hW : HW Ω S M H) (hr : Ar S r c n) : H[bs Ω + r]? = some (vp_cell (Ω.2.2.1.1 c) (arr Ω S M r c n)) := by
  have h : va_at Ω.2.2.1 vwCl (bs Ω + r, .inl (Ω.2.2.1.1 c, arr Ω S M r c n)) H := hW.2.1 r _ ((wsO_get hr.2.1).trans (by rw [cont_ar hr]))
  exact h
theorem hw_puta {H H1 : Heap} (hW : HW Ω S M H) (hr : Ar S r c n) (he : H1[bs Ω + r]? = some (vp_cell (Ω.2.2.1.1 c) (arr Ω S (up M r j z) r c n))) (hz : H1.size = H.size) (ho : ∀ q : Nat, q ≠ bs Ω + r → H1[q]? = H[q]?) : HW Ω S (up M r j z) H1 := by
  refine hw_put hW hr.2.1 rfl (hW.2.2.upM hr.2.1) ?_ (fun k hk => cont_eq (up_row hk) rfl) hz ho
  rw [cont_ar hr]
  exact he
theorem g_iast (hd : D1 Y.2.1 pc .iastore pc') (hr : Ar S r 12 n) (hj : j < n) (k : Go γ Ω Y Z cs ss S (up M r j z) pc' ls st) : Go γ Ω Y Z cs ss S M pc ls (vi z :: vi (j : Int) :: vr Ω r :: st) := by
  obtain ⟨hd, rfl⟩ := hd
  intro C H locs L h1 h2 h3 h4
  have hn := ar_le hr
  have hat := hat_of h1 hr
  refine W.iast (j := Int32.ofInt (j : Int)) (x := Int32.ofInt z) C.1 C.2.1 hat (((cx_K C).2 1 _ rfl).1 n (fun j => .int (Int32.ofInt (M r j)))) (fun q => by cases q) (by show ¬ (_ ∨ (arrV _ _ _).slots.size ≤ _); rw [arrV_size]; exact vin hj hn) rfl rfl hd fun H1 e zz oq => ?_
  refine k C H1 _ L (hw_puta h1 hr ?_ zz oq) (lo_put h2 oq) (lc_put h3) h4
  rw [e, clamp (by omega)]
  show some ((vp_cell _ (n, .inl _)).setSlot j _) = some (vp_cell _ (n, .inl _))
  rw [vp_cell_i, vp_cell_i, arrV_store]
  congr 2
  funext q
  by_cases hq : q = j
  · subst hq
    simp [updV, up]
  · simp [updV, up, hq]
theorem g_bast (hd : D1 Y.2.1 pc .bastore pc') (hr : Ar S r 11 n) (hj : j < n) (hz : -128 ≤ z ∧ z < 128) (k : Go γ Ω Y Z cs ss S (up M r j z) pc' ls st) : Go γ Ω Y Z cs ss S M pc ls (vi z :: vi (j : Int) :: vr Ω r :: st) := by
  obtain ⟨hd, rfl⟩ := hd
  intro C H locs L h1 h2 h3 h4
  have hn := ar_le hr
  have hat := hat_of h1 hr
  have hnz : (Int8.ofInt z).toInt32 = Int32.ofInt z := by rw [Int8.toInt32_ofInt (by rw [i8a]; exact hz.1) (by rw [i8b]; omega)]
  refine W.bast (j := Int32.ofInt (j : Int)) (x := Int32.ofInt z) C.1 C.2.1 hat (((cx_K C).2 0 _ rfl).1 n (fun j => .int (Int32.ofInt (M r j)))) (fun q => by cases q) (by show ¬ (_ ∨ (arrV _ _ _).slots.size ≤ _); rw [arrV_size]; exact vin hj hn) rfl rfl hd fun H1 e zz oq => ?_
  refine k C H1 _ L (hw_puta h1 hr ?_ zz oq) (lo_put h2 oq) (lc_put h3) h4
  rw [e, clamp (by omega)]
  show some ((vp_cell _ (n, .inl _)).setSlot j _) = some (vp_cell _ (n, .inl _))
  rw [vp_cell_i, vp_cell_i, arrV_store]
  congr 2
  funext q
  by_cases hq : q = j
  · subst hq
    simp [updV, up, narrow, hnz]
  · simp [updV, up, hq]
theorem g_zast (hd : D1 Y.2.1 pc .bastore pc') (hr : Ar S r 14 n) (hj : j < n) (hz : z = 0 ∨ z = 1) (k : Go γ Ω Y Z cs ss S (up M r j z) pc' ls st) : Go γ Ω Y Z cs ss S M pc ls (vi z :: vi (j : Int) :: vr Ω r :: st) := by
  obtain ⟨hd, rfl⟩ := hd
  intro C H locs L h1 h2 h3 h4
  have hn := ar_le hr
  have hat := hat_of h1 hr
  refine W.zast (j := Int32.ofInt (j : Int)) (x := Int32.ofInt z) C.1 C.2.1 hat (((cx_K C).2 3 _ rfl).1 n (fun j => .int (Int32.ofInt (M r j)))) (fun q => by cases q) (by show ¬ (_ ∨ (arrV _ _ _).slots.size ≤ _); rw [arrV_size]; exact vin hj hn) rfl rfl hd fun H1 e zz oq => ?_
  refine k C H1 _ L (hw_puta h1 hr ?_ zz oq) (lo_put h2 oq) (lc_put h3) h4
  rw [e, clamp (by omega)]
  show some ((vp_cell _ (n, .inl _)).setSlot j _) = some (vp_cell _ (n, .inl _))
  rw [vp_cell_i, vp_cell_i, arrV_store]
  congr 2
  funext q
  by_cases hq : q = j
  · subst hq
    rcases hz with rfl | rfl <;> simp [updV, up, narrow] <;> decide
  · simp [updV, up, hq]
theorem g_last (hd : D1 Y.2.1 pc .lastore pc') (hr : Ar S r 13 n) (hj : j < n) (k : Go γ Ω Y Z cs ss S (up M r j z) pc' ls st) : Go γ Ω Y Z cs ss S M pc ls (vl z :: vi (j : Int) :: vr Ω r :: st) := by
  obtain ⟨hd, rfl⟩ := hd
  intro C H locs L h1 h2 h3 h4
  have hn := ar_le hr
  have hat := hat_of h1 hr
  refine W.last (j := Int32.ofInt (j : Int)) (x := Int64.ofInt z) C.1 C.2.1 hat (((cx_K C).2 2 _ rfl).1 n (fun j => .long (Int64.ofInt (M r j)))) (fun q => by cases q) (by show ¬ (_ ∨ (arrV _ _ _).slots.size ≤ _); rw [arrV_size]; exact vin hj hn) rfl rfl hd fun H1 e zz oq => ?_
  refine k C H1 _ L (hw_puta h1 hr ?_ zz oq) (lo_put h2 oq) (lc_put h3) h4
  rw [e, clamp (by omega)]
  show some ((vp_cell _ (n, .inr (.inl _))).setSlot j _) = some (vp_cell _ (n, .inr (.inl _)))
  rw [vp_cell_l, vp_cell_l, arrV_store]
  congr 2
  funext q
  by_cases hq : q = j
  · subst hq
    simp [updV, up]
  · simp [updV, up, hq]
end GA
