/-! the heap's rows over the one memory -/
def cl (c : Nat) : vw_C := vwCl.getD c ("", TX0, 0)
def cN (c : Nat) : String := (cl c).1
def cT (c : Nat) : u_T := (cl c).2.1
def cL (c : Nat) : Nat := (cl c).2.2
theorem cl_at {c : Nat} (h : c < 11) : vwCl[c]? = some (cN c, cT c, cL c) := by
  revert h; revert c
  have : ∀ c, c < 11 → vwCl[c]? = some (cl c) := by
    intro c h
    simp only [cl, List.getD_eq_getElem?_getD]
    have hl : c < vwCl.length := h
    rw [List.getElem?_eq_getElem hl]
    rfl
  exact fun {c} h => this c h
def tyT : List (Nat → FieldType) := [tyX0, tyX1, tyX2, tyX3, tyX4, tyX5, tyX6, tyX7, tyX8, tyX9, tyX10]
def tyC (c : Nat) : Nat → FieldType := tyT.getD c tyX0
theorem lt11 {p : Nat → Prop} (h0 : p 0) (h1 : p 1) (h2 : p 2) (h3 : p 3) (h4 : p 4) (h5 : p 5) (h6 : p 6) (h7 : p 7) (h8 : p 8) (h9 : p 9) (h10 : p 10) : ∀ c, c < 11 → p c := by
  intro c h
  rcases (show c = 0 ∨ c = 1 ∨ c = 2 ∨ c = 3 ∨ c = 4 ∨ c = 5 ∨ c = 6 ∨ c = 7 ∨ c = 8 ∨ c = 9 ∨ c = 10 by omega) with rfl | rfl | rfl | rfl | rfl | rfl | rfl | rfl | rfl | rfl | rfl <;> assumption
theorem tyC_ok : ∀ c, c < 11 → ∀ k, k < cL c → parseFieldDescriptor (cT c k).2.2.1 = some (tyC c k) := lt11 tyX0_ok tyX1_ok tyX2_ok tyX3_ok tyX4_ok tyX5_ok tyX6_ok tyX7_ok tyX8_ok tyX9_ok tyX10_ok
theorem nmC_ok : ∀ c, c < 11 → ∀ a, a < cL c → ∀ b, b < cL c → a ≠ b → (cT c a).2.1 ≠ (cT c b).2.1 := lt11 nmX0 nmX1 nmX2 nmX3 nmX4 nmX5 nmX6 nmX7 nmX8 nmX9 nmX10
theorem wsC_all (C : String) (T : u_T) (N : Nat) (h : (u_ws C T N).all (fun w => decide (w ∈ lw_tbl) && goodWord w) = true) : ∀ w ∈ u_ws C T N, w ∈ Ug := by
  intro w hw
  have h1 := List.all_eq_true.mp h w hw
  simp only [Bool.and_eq_true, decide_eq_true_eq] at h1
  exact List.mem_filter.mpr ⟨h1.1, h1.2⟩
theorem wsC_ok : ∀ c, c < 11 → ∀ w ∈ u_ws (cN c) (cT c) (cL c), w ∈ Ug :=
  lt11 (wsC_all RX0 TX0 5 (by decide +kernel)) (wsC_all RX1 TX1 8 (by decide +kernel)) (wsC_all RX2 TX2 4 (by decide +kernel)) (wsC_all RX3 TX3 8 (by decide +kernel)) (wsC_all RX4 TX4 4 (by decide +kernel)) (wsC_all RX5 TX5 5 (by decide +kernel)) (wsC_all RX6 TX6 3 (by decide +kernel)) (wsC_all RX7 TX7 3 (by decide +kernel)) (wsC_all RX8 TX8 1 (by decide +kernel)) (wsC_all RX9 TX9 8 (by decide +kernel)) (wsC_all RX10 TX10 44 (by decide +kernel))
theorem fk_len : ∀ c, c < 11 → (fk c).length = cL c := by decide +kernel
/-- cell r is there, an object of class c -/
def Ob (S : Sg) (r c : Nat) : Prop := sh r = (c, 0) ∧ r < S.1 ∧ c < 11
/-- cell r is there, an array of kind c and length n -/
def Ar (S : Sg) (r c n : Nat) : Prop := sh r = (c, n) ∧ r < S.1 ∧ 11 ≤ c
theorem cont_ob {Ω : Ow} {S : Sg} {M : Mm} {r c : Nat} (h : Ob S r c) : cont Ω S M r = .inr (c, fsv Ω S M r c) := by
  obtain ⟨h1, -, h2⟩ := h
  rw [cont, h1, if_neg (by omega)]
theorem cont_ar {Ω : Ow} {S : Sg} {M : Mm} {r c n : Nat} (h : Ar S r c n) : cont Ω S M r = .inl (Ω.2.2.1.1 c, arr Ω S M r c n) := by
  obtain ⟨h1, -, h2⟩ := h
  rw [cont, h1, if_pos h2]
theorem cont_eq {Ω : Ow} {S S' : Sg} {M M' : Mm} {k : Nat} (h1 : M' k = M k) (h2 : S'.2 k = S.2 k) : cont Ω S' M' k = cont Ω S M k := by
  unfold cont arr fsv fv
  rw [h1, h2]
theorem fsv_get {Ω : Ow} {S : Sg} {M : Mm} {r c j : Nat} {b : Bool} (h : (fk c)[j]? = some b) : (fsv Ω S M r c)[j]? = some (fv Ω S M r j b) := by
  have hl := (List.getElem?_eq_some_iff.mp h).1
  have hg : (fk c).getD j false = b := by rw [List.getD_eq_getElem?_getD, h]; rfl
  have hg2 : (fk c)[j] = b := (List.getElem?_eq_some_iff.mp h).2
  simp [fsv, hl, hg2]
theorem up_row {f : Nat → Nat → Int} {k j a : Nat} {z : Int} (h : a ≠ k) : up f k j z a = f a := by funext i; simp [up, h]
theorem fsv_set {Ω : Ow} {S S' : Sg} {M M' : Mm} {r c j : Nat} {b : Bool} {v : Value} (h : (fk c)[j]? = some b) (hv : fv Ω S' M' r j b = v) (hm : ∀ i, i ≠ j → M' r i = M r i) (hs : ∀ i, i ≠ j → S'.2 r i = S.2 r i) : (fsv Ω S M r c).set j v = fsv Ω S' M' r c := by
  have hl := (List.getElem?_eq_some_iff.mp h).1
  apply List.ext_getElem?
  intro i
  by_cases hi : i < (fk c).length
  · have hb : (fk c)[i]? = some ((fk c).getD i false) := by rw [List.getD_eq_getElem?_getD, List.getElem?_eq_getElem hi]; rfl
    by_cases hij : i = j
    · subst hij
      rw [List.getElem?_set_self (by simpa [fsv] using hl), fsv_get h, hv]
    · rw [List.getElem?_set_ne (Ne.symm hij), fsv_get hb, fsv_get hb]
      unfold fv
      rw [hm i hij, hs i hij]
  · rw [List.getElem?_eq_none (by simp [fsv]; omega), List.getElem?_eq_none (by simp [fsv]; omega)]
theorem wsO_set {Ω : Ow} {S S' : Sg} {M M' : Mm} {r : Nat} {e : va_E} (hr : r < S.1) (h1 : S'.1 = S.1) (he : cont Ω S' M' r = e) (hk : ∀ k, k ≠ r → cont Ω S' M' k = cont Ω S M k) : (wsO Ω S M).set r (bs Ω + r, e) = wsO Ω S' M' := by
  have hlen : (wsO Ω S M).length = S.1 := by simp [wsO]
  apply List.ext_getElem?
  intro i
  by_cases hi : i < S.1
  · by_cases hir : i = r
    · subst hir
      rw [List.getElem?_set_self (by omega), wsO_get (by omega), he]
    · rw [List.getElem?_set_ne (Ne.symm hir), wsO_get hi, wsO_get (by omega), hk i hir]
  · rw [List.getElem?_eq_none (by rw [List.length_set]; omega), List.getElem?_eq_none (by simp [wsO]; omega)]
theorem Fresh.upM {S : Sg} {M : Mm} (h : Fresh S M) {r j : Nat} {z : Int} (hr : r < S.1) : Fresh S (up M r j z) := fun k hk i => ⟨by rw [up_n (by omega)]; exact (h k hk i).1, (h k hk i).2⟩
theorem Fresh.upS {S : Sg} {M : Mm} (h : Fresh S M) {r j : Nat} {z : Int} (hr : r < S.1) : Fresh (S.1, up S.2 r j z) M := fun k hk i => ⟨(h k hk i).1, by show up S.2 r j z k i = -1; rw [up_n (by have : S.1 ≤ k := hk; omega)]; exact (h k hk i).2⟩
/-- after one write: the world is that of the new memory -/
theorem hw_put {Ω : Ow} {S S' : Sg} {M M' : Mm} {H H1 : Heap} {r : Nat} (hW : HW Ω S M H) (hr : r < S.1) (h1 : S'.1 = S.1) (hF : Fresh S' M') (he : va_at Ω.2.2.1 vwCl (bs Ω + r, cont Ω S' M' r) H1) (hk : ∀ k, k ≠ r → cont Ω S' M' k = cont Ω S M k) (hz : H1.size = H.size) (ho : ∀ q : Nat, q ≠ bs Ω + r → H1[q]? = H[q]?) : HW Ω S' M' H1 := by
  refine ⟨by rw [hz, hW.1, h1], ?_, hF⟩
  rw [← wsO_set hr h1 rfl hk]
  exact hW.2.1.set wsO_D (wsO_get hr) he ho
theorem lo_put {Ω : Ow} {H H1 : Heap} {H0 : Heap} {r : Nat} (h : ∀ q : Nat, q < bs Ω → H[q]? = H0[q]?) (ho : ∀ q : Nat, q ≠ bs Ω + r → H1[q]? = H[q]?) : ∀ q : Nat, q < bs Ω → H1[q]? = H0[q]? := fun q hq => (ho q (by omega)).trans (h q hq)
theorem lc_put {Ω : Ow} {locs : List Loc} {r k : Nat} (h : ∀ q ∈ locs, bs Ω ≤ q.base) : ∀ q ∈ locs ++ [⟨bs Ω + r, k⟩], bs Ω ≤ q.base := by
  intro q hq
  rcases List.mem_append.mp hq with h1 | h1
  · exact h q h1
  · rw [List.mem_singleton] at h1
    subst h1
    exact Nat.le_add_right _ _
/-- how a field is linked -/
def FL (own : String) (idx c j : Nat) : Prop := (Cond.fieldLink own idx (cT c j).1 (cT c j).2.1 (cT c j).2.2.1 ∈ Ug) ∨ ∃ host : String, Cond.fieldLinkNest own idx (cT c j).1 (cT c j).2.1 (cT c j).2.2.1 host ∈ nestW
def GF (cc : ByteArray) (own : String) (pc c j pc' : Nat) (b : Bool) : Prop := ∃ idx, D3 cc pc (.getfield idx) pc' ∧ FL own idx c j ∧ c < 11 ∧ (fk c)[j]? = some b
def PF (cc : ByteArray) (own : String) (pc c j pc' : Nat) (b : Bool) : Prop := ∃ idx, D3 cc pc (.putfield idx) pc' ∧ FL own idx c j ∧ c < 11 ∧ (fk c)[j]? = some b ∧ (cT c j).2.2.2 = false
/-- of a final field, in the constructor -/
def QF (cc : ByteArray) (own : String) (pc c j pc' : Nat) (b : Bool) : Prop := ∃ idx, D3 cc pc (.putfield idx) pc' ∧ (Cond.fieldLink own idx (cT c j).1 (cT c j).2.1 (cT c j).2.2.1 ∈ Ug) ∧ c < 11 ∧ (fk c)[j]? = some b ∧ (cT c j).2.2.2 = true ∧ (cT c j).1 = own
section GH
variable {γ : Cg} {Ω : Ow} {Y : Md} {Z : State → Prop} {cs ss : Nat} {S : Sg} {M : Mm} {pc pc' tgt : Nat} {ls : List (Option Value)} {st : List Value} {a b z : Int} {r c j n : Nat}
theorem cx_K (C : Cx γ Ω Y) : va_K Ω.2.2.1 vwCl (tys Ω.2.2.1) (cS γ) := C.2.2.2.2.2.2.2.2.1.1.moved C.2.2.2.2.2.2.2.2.2.1.alike
theorem cx_N (C : Cx γ Ω Y) {a : String} {i : Nat} {b n d h : String} (hw : Cond.fieldLinkNest a i b n d h ∈ nestW) : (Cond.fieldLinkNest a i b n d h).before (cA γ) (cS γ) = true := va_Nw.use rfl (va_Nw.warmF C.2.2.2.2.2.2.2.2.2.1 (C.2.2.2.2.2.2.2.2.1.2.1 _ hw))
theorem cx_NM (C : Cx γ Ω Y) {a : String} {i : Nat} {x : MethodName} {h : String} (hw : Cond.methodLinkNest a i x h ∈ nestW) : va_Nw (Cond.methodLinkNest a i x h) (cS γ) := va_Nw.warmM C.2.2.2.2.2.2.2.2.2.1 (C.2.2.2.2.2.2.2.2.1.2.1 _ hw)
theorem g_getv {b : Bool} (hf : GF Y.2.1 Y.1.cls pc c j pc' b) (hr : Ob S r c) (k : Go γ Ω Y Z cs ss S M pc' ls (fv Ω S M r j b :: st)) : Go γ Ω Y Z cs ss S M pc ls (vr Ω r :: st) := by
  obtain ⟨idx, ⟨hd, rfl⟩, hl, hc, hb⟩ := hf
  intro C H locs L h1 h2 h3 h4
  have hj : j < cL c := by rw [← fk_len c hc]; exact (List.getElem?_eq_some_iff.mp hb).1
  rcases hl with hl | ⟨host, hl⟩
  · exact va_get C.1 C.2.1 C.2.2.2.2.1 (wsC_ok c hc) C.2.2.2.1 (cx_K C) h1.2.1 r ((wsO_get hr.2.1).trans (by rw [cont_ob hr])) (cl_at hc) j hj (C.2.2.2.2.1 _ hl) (fun _ h => h) (fsv_get hb) hd (k C H locs L h1 h2 h3 h4)
  · exact va_getN C.1 C.2.1 C.2.2.2.2.1 (wsC_ok c hc) C.2.2.2.1 (cx_K C) h1.2.1 r ((wsO_get hr.2.1).trans (by rw [cont_ob hr])) (cl_at hc) j hj (cx_N C hl) (fun _ h => h) (fsv_get hb) hd (k C H locs L h1 h2 h3 h4)
theorem g_getI (hf : GF Y.2.1 Y.1.cls pc c j pc' false) (hr : Ob S r c) (k : Go γ Ω Y Z cs ss S M pc' ls (vi (M r j) :: st)) : Go γ Ω Y Z cs ss S M pc ls (vr Ω r :: st) := g_getv hf hr k
theorem g_getR {q : Nat} (hf : GF Y.2.1 Y.1.cls pc c j pc' true) (hr : Ob S r c) (hq : S.2 r j = (q : Int)) (k : Go γ Ω Y Z cs ss S M pc' ls (vr Ω q :: st)) : Go γ Ω Y Z cs ss S M pc ls (vr Ω r :: st) := g_getv hf hr (by rw [fv, if_pos rfl, hq]; exact k)
theorem narrow_of {ty : FieldType} {v : Value} (h : (ty = .int ∧ ∃ x, v = .int x) ∨ (ty = .boolean ∧ (v = .int 0 ∨ v = .int 1)) ∨ (ty = .long ∧ ∃ x, v = .long x) ∨ ((∃ n, ty = .object n) ∨ ∃ n, ty = .array n) ∧ (v = .null ∨ ∃ a, v = .ref a)) : narrow ty v = v ∧ fits ty v = true := by
  rcases h with ⟨rfl, x, rfl⟩ | ⟨rfl, rfl | rfl⟩ | ⟨rfl, x, rfl⟩ | ⟨⟨n, rfl⟩ | ⟨n, rfl⟩, rfl | ⟨a, rfl⟩⟩ <;> exact ⟨rfl, rfl⟩
/-- a value that fits field j of class c -/
def Fit (Ω : Ow) (c j : Nat) (b : Bool) (z : Int) : Prop := narrow (tyC c j) (if b = true then rv Ω z else vi z) = (if b = true then rv Ω z else vi z) ∧ fits (tyC c j) (if b = true then rv Ω z else vi z) = true
def putS (S : Sg) (b : Bool) (r j : Nat) (z : Int) : Sg := if b = true then (S.1, up S.2 r j z) else S
def putM (M : Mm) (b : Bool) (r j : Nat) (z : Int) : Mm := if b = true then M else up M r j z
theorem hw_putf {H H1 : Heap} {b : Bool} (hW : HW Ω S M H) (hr : Ob S r c) (hb : (fk c)[j]? = some b) (he : va_at Ω.2.2.1 vwCl (bs Ω + r, .inr (c, (fsv Ω S M r c).set j (if b = true then rv Ω z else vi z))) H1) (hz : H1.size = H.size) (ho : ∀ q : Nat, q ≠ bs Ω + r → H1[q]? = H[q]?) : HW Ω (putS S b r j z) (putM M b r j z) H1 := by
  have hr' : Ob (putS S b r j z) r c := by cases b <;> exact hr
  refine hw_put hW hr.2.1 (by cases b <;> rfl) (by cases b; exact hW.2.2.upM hr.2.1; exact hW.2.2.upS hr.2.1) ?_ (fun k hk => cont_eq (by cases b; exact up_row hk; rfl) (by cases b; rfl; exact up_row hk)) hz ho
  rw [cont_ob hr', ← fsv_set (S := S) (M := M) (S' := putS S b r j z) (M' := putM M b r j z) (v := if b = true then rv Ω z else vi z) hb (by cases b <;> simp [fv, putS, putM, up_s]) (fun i hi => by cases b; exact up_n (by omega); rfl) (fun i hi => by cases b; rfl; exact up_n (by omega))]
  exact he
theorem g_putv {b : Bool} (hf : PF Y.2.1 Y.1.cls pc c j pc' b) (hr : Ob S r c) (hz : Fit Ω c j b z) (k : Go γ Ω Y Z cs ss (putS S b r j z) (putM M b r j z) pc' ls st) : Go γ Ω Y Z cs ss S M pc ls ((if b = true then rv Ω z else vi z) :: vr Ω r :: st) := by
  obtain ⟨idx, ⟨hd, rfl⟩, hl, hc, hb, hfin⟩ := hf
  intro C H locs L h1 h2 h3 h4
  have hj : j < cL c := by rw [← fk_len c hc]; exact (List.getElem?_eq_some_iff.mp hb).1
  have hK := cx_K C
  have hts := C.2.2.2.2.1
  have hin := wsC_ok c hc
  have hap := va_apart (own := Y.1.cls) hts hin (tyC c) (tyC_ok c hc) (nmC_ok c hc) hK (cl_at hc)
  have hat : va_at Ω.2.2.1 vwCl (bs Ω + r, .inr (c, fsv Ω S M r c)) H := h1.2.1 r _ ((wsO_get hr.2.1).trans (by rw [cont_ob hr]))
  obtain ⟨rr, e1, cell, q1, q2, q3, q4⟩ := hat
  have hrr : rr = (cN c, cT c, cL c) := Option.some.inj (e1.symm.trans (cl_at hc))
  subst hrr
  obtain ⟨hSl, hfc, kC, hkC, hkind⟩ := hK.1 c _ (cl_at hc)
  obtain ⟨cf, kf, fi, f, hi, hsl⟩ := hSl j hj
  have hlay := hts _ (hin _ (u_in_lay hj))
  unfold u_lay at hlay
  rw [if_neg (by rw [hfin]; decide)] at hlay
  have hst := (u_facts hfc hkC (u_lays hts hin hj) hi).1
  have h6 := u_store hfc hkC hkind hlay hi (tyC_ok c hc j hj) hz.1 hz.2
  have hfs : j < (fsv Ω S M r c).length := by simp [fsv, fk_len c hc, hj]
  have fin : ∀ H' : Heap, H'[bs Ω + r]? = some (cell.setSlot f.slot (if b = true then rv Ω z else vi z)) → H'.size = H.size → (∀ q : Nat, q ≠ bs Ω + r → H'[q]? = H[q]?) → W (cP γ) Ω.1 (cE γ) (cR γ) (cS γ) (cM γ) (cA γ) (cB γ) (cMe γ) (cC γ) H' (locs ++ [⟨bs Ω + r, f.slot⟩]) cs ss Z (F0 (cM γ) (pc + 3) L st) := fun H' e1 e2 e3 => by
    rw [hsl] at e1
    refine k C H' _ L (hw_putf h1 hr hb ⟨_, cl_at hc, t_OB.to (V := updV (vp_V (fsv Ω S M r c)) j (if b = true then rv Ω z else vi z)) ⟨_, e1, q2, q3, t_set q4 hap hj _⟩ (fun i _ => vp_updV_set hfs _ i)⟩ e2 e3) (lo_put h2 e3) (lc_put h3) h4
  rcases hl with hl | ⟨host, hl⟩
  · exact W.putK C.1 C.2.1 (f := f) ⟨C.2.2.2.1, C.2.2.2.2.1 _ hl, ⟨_, _, _, hi⟩, hst⟩ (by rw [q2]; exact h6) q1 q3 (by rw [hsl]; exact k2_hasslot (q4 j hj)) rfl rfl hd fin
  · exact va_WputK C.1 C.2.1 (f := f) C.2.2.2.1 (cx_N C hl) hi hst (by rw [q2]; exact h6) q1 q3 (by rw [hsl]; exact k2_hasslot (q4 j hj)) rfl rfl hd fin
end GH
