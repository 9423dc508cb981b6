section GC
variable {γ : Cg} {Ω : Ow} {Y Y2 : Md} {Z : State → Prop} {cs ss : Nat} {S : Sg} {M : Mm} {pc pc' tgt : Nat} {ls : List (Option Value)} {st rest As : List Value} {a b z : Int} {r c j n i d mc ms κ : Nat} {v : Value} {Q : Int → Sg → Mm → Prop}
/-- the tables know the method: n arguments -/
def MOK (Y2 : Md) (n : Nat) : Prop := Cond.code Y2.1 Y2.2.1 Y2.2.2.1 Y2.2.2.2 ∈ Ug ∧ Cond.initialized Y2.1.cls ∈ Ug ∧ Y2.1.cls ≠ "java/lang/invoke/MethodHandle" ∧ Y2.1.cls ≠ "java/lang/invoke/VarHandle" ∧ (parseMethodDescriptor Y2.1.desc).map (fun d => d.parameters.length) = some n
def MVI (Y2 : Md) : Prop := Cond.instanceMethod Y2.1 ∈ Ug ∧ Cond.selects Y2.1.cls Y2.1 Y2.1 ∈ Ug
def MLK (own : String) (idx : Nat) (Y2 : Md) : Prop := Cond.methodLink own idx Y2.1 ∈ Ug ∨ ∃ host : String, Cond.methodLinkNest own idx Y2.1 host ∈ nestW
theorem wsM_in (h : Cond.code Y2.1 Y2.2.1 Y2.2.2.1 Y2.2.2.2 ∈ Ug) : ∀ w ∈ wsM Y2, w ∈ Ug := fun w hw => by
  rcases List.mem_cons.mp hw with h1 | h1
  · rw [h1]; exact h
  · exact h1
theorem blind {As : List Value} : FrameBlind (va_Pc As (Wd Ω S M)) := fun a U g mk h => ⟨h.1, h.2⟩
theorem wd_of (C : Cx γ Ω Y) {H : Heap} (h1 : HW Ω S M H) (h2 : ∀ q : Nat, q < bs Ω → H[q]? = Ω.2.1.heap[q]?) (U : State) (hU : U.heap = H) (hW : (cS γ).WarmedH U.vm) : Wd Ω S M U := ⟨C.2.2.2.2.2.2.2.2.1, State.WarmedH.trans C.2.2.2.2.2.2.2.2.2.1 hW, by rw [hU]; exact h2, by rw [hU]; exact h1⟩
/-- behind a call -/
theorem go_call (hr : Cx γ Ω Y → ∀ (H : Heap) (locs : List Loc) (L : Array Slot), HW Ω S M H → (∀ q : Nat, q < bs Ω → H[q]? = Ω.2.1.heap[q]?) → L.size = Y.2.2.1 → ∃ a, va_Run (cP γ) Ω.1 (cE γ) (cR γ) (cS γ) (cM γ) (cA γ) (cB γ) (cMe γ) (cC γ) H locs cs ss mc ms (F0 (cM γ) pc L st) rest (Qf Ω κ Q a) (Lo Ω))
    (k : ∀ x S' M', Q x S' M' → Go γ Ω Y Z (cs + mc) (ss + ms) S' M' (pc + 3) ls ((rk Ω κ x).toList ++ rest)) : Go γ Ω Y Z cs ss S M pc ls st := by
  intro C H locs L h1 h2 h3 h4 T hT X
  obtain ⟨a, hr⟩ := hr C H locs L h1 h2 h4.1
  obtain ⟨v, st₀, t, T', LL, h0, X', hL, e1, e2, ⟨x, S', M', hv, hQ, hlo, hHW⟩, st⟩ := hr T hT X
  cases hv
  have h5 : ∀ q ∈ locs ++ LL, bs Ω ≤ q.base := fun q hq => by
    rcases List.mem_append.mp hq with h | h
    · exact h3 q h
    · exact hL q h
  obtain ⟨t2, a1, b1⟩ := k x S' M' hQ C T'.heap (locs ++ LL) L (by rw [e1]; exact hHW) (by rw [e1]; exact hlo) h5 h4 T' rfl X'
  exact ⟨t2, st t2 a1, b1⟩
theorem g_callv0 {x : Nat} (hC : Ct Ω Y2 d mc ms κ (.ref x :: As) S M Q) (hd : ∃ idx, D3 Y.2.1 pc (.invokevirtual idx) pc' ∧ MLK Y.1.cls idx Y2) (hm : MOK Y2 As.length) (hv : MVI Y2) (hrec : Cx γ Ω Y → ∀ H : Heap, HW Ω S M H → (∀ q : Nat, q < bs Ω → H[q]? = Ω.2.1.heap[q]?) → ∃ cell : Cell, H[x]? = some cell ∧ cell.vm.isStatics = false ∧ (cS γ).vm.findClass Y2.1.cls = some cell.cls) (hs : st = As.reverse ++ (.ref x :: rest)) (hw : (rest.map fun v => v.category).sum ≤ 8)
    (hR : d + 1 ≤ (cR γ).frames ∧ 8 + (Y2.2.2.1 + 11) + 40 * d ≤ (cR γ).locals) (hf : cs + mc ≤ (cR γ).cells ∧ ss + ms ≤ (cR γ).slots) (k : ∀ x S' M', Q x S' M' → Go γ Ω Y Z (cs + mc) (ss + ms) S' M' pc' ls ((rk Ω κ x).toList ++ rest)) : Go γ Ω Y Z cs ss S M pc ls st := by
  obtain ⟨idx, ⟨hd, rfl⟩, hl⟩ := hd
  subst hs
  refine go_call (fun C H locs L h1 h2 hL => ⟨(Value.ref x :: As).toArray, ?_⟩) k
  have hts := C.2.2.2.2.1
  have hp : PreV (cS γ) H Y2.1.cls x (va_Pc (.ref x :: As) (Wd Ω S M)) As := ⟨blind, hrec C H h1 h2, fun U hU hW => ⟨rfl, wd_of C h1 h2 U hU hW⟩⟩
  rcases hl with hl | ⟨host, hl⟩
  · refine va_runV (nL := Y.2.2.1) (Ts := Ug) (own := Y.1.cls) (C := Y2.1.cls) ⟨C.1, C.2.1, C.2.2.1, C.2.2.2.1, hts⟩ hC (cwV As.length hts (ug_in fun w hw => ?_) rfl rfl rfl ⟨rfl, hm.2.2.1, hm.2.2.2.1, hm.2.2.2.2⟩ hR) hp rfl rfl hL rfl (lv_room hw) hd hf
    unfold wsV at hw
    simp only [List.cons_append, List.nil_append, List.mem_cons] at hw
    rcases hw with rfl | rfl | rfl | rfl | hw
    · exact hl
    · exact hv.1
    · exact hv.2
    · exact hm.2.1
    · exact wsM_in hm.1 w hw
  · exact va_runVN (nL := Y.2.2.1) (Ts := Ug) (own := Y.1.cls) (C := Y2.1.cls) ⟨C.1, C.2.1, C.2.2.1, C.2.2.2.1, hts⟩ hC ⟨va_cnB As.length hts (ug_in (wsM_in hm.1)) rfl rfl rfl (cx_NM C hl) (hts _ hm.2.1) ⟨hm.2.2.1, hm.2.2.2.1, hm.2.2.2.2⟩ hR, hts _ hv.1, hts _ hv.2⟩ hp rfl rfl hL rfl (lv_room hw) hd hf
theorem g_callv (hC : Ct Ω Y2 d mc ms κ (vr Ω r :: As) S M Q) (hd : ∃ idx, D3 Y.2.1 pc (.invokevirtual idx) pc' ∧ MLK Y.1.cls idx Y2) (hm : MOK Y2 As.length) (hv : MVI Y2) (hr : Ob S r c) (hcn : Y2.1.cls = cN c) (hs : st = As.reverse ++ (vr Ω r :: rest)) (hw : (rest.map fun v => v.category).sum ≤ 8)
    (hR : d + 1 ≤ (cR γ).frames ∧ 8 + (Y2.2.2.1 + 11) + 40 * d ≤ (cR γ).locals) (hf : cs + mc ≤ (cR γ).cells ∧ ss + ms ≤ (cR γ).slots) (k : ∀ x S' M', Q x S' M' → Go γ Ω Y Z (cs + mc) (ss + ms) S' M' pc' ls ((rk Ω κ x).toList ++ rest)) : Go γ Ω Y Z cs ss S M pc ls st :=
  g_callv0 hC hd hm hv (fun C H h1 h2 => by rw [hcn]; exact va_recv (cx_K C) h1.2.1 (cl_at hr.2.2) ((wsO_get hr.2.1).trans (by rw [cont_ob hr]))) hs hw hR hf k
theorem g_calls (hC : Ct Ω Y2 d mc ms κ As S M Q) (hd : ∃ idx, D3 Y.2.1 pc (.invokestatic idx) pc' ∧ MLK Y.1.cls idx Y2) (hm : MOK Y2 As.length) (hv : Cond.static Y2.1 ∈ Ug) (hs : st = As.reverse ++ rest) (hw : (rest.map fun v => v.category).sum ≤ 8)
    (hR : d + 1 ≤ (cR γ).frames ∧ 8 + (Y2.2.2.1 + 11) + 40 * d ≤ (cR γ).locals) (hf : cs + mc ≤ (cR γ).cells ∧ ss + ms ≤ (cR γ).slots) (k : ∀ x S' M', Q x S' M' → Go γ Ω Y Z (cs + mc) (ss + ms) S' M' pc' ls ((rk Ω κ x).toList ++ rest)) : Go γ Ω Y Z cs ss S M pc ls st := by
  obtain ⟨idx, ⟨hd, rfl⟩, hl⟩ := hd
  subst hs
  refine go_call (fun C H locs L h1 h2 hL => ⟨As.toArray, ?_⟩) k
  have hts := C.2.2.2.2.1
  have hp : PreS (cS γ) H (va_Pc As (Wd Ω S M)) As := ⟨blind, fun U hU hW => ⟨rfl, wd_of C h1 h2 U hU hW⟩⟩
  rcases hl with hl | ⟨host, hl⟩
  · refine va_runS (nL := Y.2.2.1) (Ts := Ug) (own := Y.1.cls) ⟨C.1, C.2.1, C.2.2.1, C.2.2.2.1, hts⟩ hC (va_cwS As.length hts (ug_in fun w hw => ?_) rfl rfl rfl ⟨hm.2.2.1, hm.2.2.2.1, hm.2.2.2.2⟩ hR) hp rfl rfl hL rfl (lv_room hw) hd hf
    unfold va_wsS at hw
    simp only [List.cons_append, List.nil_append, List.mem_cons] at hw
    rcases hw with rfl | rfl | rfl | hw
    · exact hl
    · exact hv
    · exact hm.2.1
    · exact wsM_in hm.1 w hw
  · exact va_runSN (nL := Y.2.2.1) (Ts := Ug) (own := Y.1.cls) ⟨C.1, C.2.1, C.2.2.1, C.2.2.2.1, hts⟩ hC ⟨va_cnB As.length hts (ug_in (wsM_in hm.1)) rfl rfl rfl (cx_NM C hl) (hts _ hm.2.1) ⟨hm.2.2.1, hm.2.2.2.1, hm.2.2.2.2⟩ hR, hts _ hv, trivial⟩ hp rfl rfl hL rfl (lv_room hw) hd hf
/-- a constructor -/
theorem g_calli (hC : Ct Ω Y2 d mc ms 0 (vr Ω r :: As) S M Q) (hd : ∃ idx, D3 Y.2.1 pc (.invokespecial idx) pc' ∧ MLK Y.1.cls idx Y2) (hm : MOK Y2 As.length) (hret : Y2.2.2.2 = none) (hy : Y2.1.name = "<init>") (hv : Cond.instanceMethod Y2.1 ∈ Ug) (hs : st = As.reverse ++ (vr Ω r :: rest)) (hw : (rest.map fun v => v.category).sum ≤ 8)
    (hR : d + 1 ≤ (cR γ).frames ∧ 8 + (Y2.2.2.1 + 11) + 40 * d ≤ (cR γ).locals) (hf : cs + mc ≤ (cR γ).cells ∧ ss + ms ≤ (cR γ).slots) (k : ∀ x S' M', Q x S' M' → Go γ Ω Y Z (cs + mc) (ss + ms) S' M' pc' ls rest) : Go γ Ω Y Z cs ss S M pc ls st := by
  obtain ⟨idx, ⟨hd, rfl⟩, hl⟩ := hd
  subst hs
  refine go_call (κ := 0) (fun C H locs L h1 h2 hL => ⟨(Value.ref (bs Ω + r) :: As).toArray, ?_⟩) k
  have hts := C.2.2.2.2.1
  have hp : PreS (cS γ) H (va_Pc (vr Ω r :: As) (Wd Ω S M)) (Value.ref (bs Ω + r) :: As) := ⟨blind, fun U hU hW => ⟨rfl, wd_of C h1 h2 U hU hW⟩⟩
  have hco := hm.1
  rw [hret] at hco
  have hwm : wsM Y2 = Cond.code Y2.1 Y2.2.1 Y2.2.2.1 none :: Ug := by unfold wsM; rw [hret]
  rcases hl with hl | ⟨host, hl⟩
  · exact va_runI (nL := Y.2.2.1) (Ts := Ug) (own := Y.1.cls) ⟨C.1, C.2.1, C.2.2.1, C.2.2.2.1, hts⟩ hC (cwI As.length hts (ug_in (wsM_in hm.1)) hwm rfl rfl (hts _ hm.2.1) (hts _ hl) (hts _ hv) hy ⟨hm.2.2.1, hm.2.2.2.1, hm.2.2.2.2⟩ hR) hp rfl rfl hL rfl (lv_room hw) hd hf
  · exact va_runIN (nL := Y.2.2.1) (Ts := Ug) (own := Y.1.cls) ⟨C.1, C.2.1, C.2.2.1, C.2.2.2.1, hts⟩ hC ⟨va_cnB As.length hts (ug_in (wsM_in hm.1)) hwm rfl rfl (cx_NM C hl) (hts _ hm.2.1) ⟨hm.2.2.1, hm.2.2.2.1, hm.2.2.2.2⟩ hR, hy, hts _ hv⟩ hp rfl rfl hL rfl (lv_room hw) hd hf
end GC
