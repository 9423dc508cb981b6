section GL
variable {γ : Cg} {Ω : Ow} {Y : Md} {Z : State → Prop} {cs ss : Nat} {S : Sg} {M : Mm} {pc pc' tgt : Nat} {ls : List (Option Value)} {st : List Value} {a b z : Int} {r c j n i : Nat} {v : Value}
/-- loads and stores, of any kind -/
def LI (cc : ByteArray) (pc i pc' : Nat) : Prop := (∃ k : Fin 4, (k : Nat) = i ∧ D1 cc pc (.iload_n k) pc') ∨ D2 cc pc (.iload i) pc'
def LL (cc : ByteArray) (pc i pc' : Nat) : Prop := (∃ k : Fin 4, (k : Nat) = i ∧ D1 cc pc (.lload_n k) pc') ∨ D2 cc pc (.lload i) pc'
def LA (cc : ByteArray) (pc i pc' : Nat) : Prop := (∃ k : Fin 4, (k : Nat) = i ∧ D1 cc pc (.aload_n k) pc') ∨ D2 cc pc (.aload i) pc'
def SI (cc : ByteArray) (pc i pc' : Nat) : Prop := (∃ k : Fin 4, (k : Nat) = i ∧ D1 cc pc (.istore_n k) pc') ∨ D2 cc pc (.istore i) pc'
def SA (cc : ByteArray) (pc i pc' : Nat) : Prop := (∃ k : Fin 4, (k : Nat) = i ∧ D1 cc pc (.astore_n k) pc') ∨ D2 cc pc (.astore i) pc'
theorem g_ild (hd : LI Y.2.1 pc i pc') (hl : ls[i]? = some (some (vi z))) (k : Go γ Ω Y Z cs ss S M pc' ls (vi z :: st)) : Go γ Ω Y Z cs ss S M pc ls st := by
  rcases hd with ⟨q, hq, hd, rfl⟩ | ⟨hd, rfl⟩
  · exact fun C H locs L h1 h2 h3 h4 => lv_iload_n C.1 C.2.1 hd hq (lh_at h4 hl) (k C H locs L h1 h2 h3 h4)
  · exact fun C H locs L h1 h2 h3 h4 => lv_iload C.1 C.2.1 hd (lh_at h4 hl) (k C H locs L h1 h2 h3 h4)
theorem g_lld (hd : LL Y.2.1 pc i pc') (hl : ls[i]? = some (some (vl z))) (k : Go γ Ω Y Z cs ss S M pc' ls (vl z :: st)) : Go γ Ω Y Z cs ss S M pc ls st := by
  rcases hd with ⟨q, hq, hd, rfl⟩ | ⟨hd, rfl⟩
  · exact fun C H locs L h1 h2 h3 h4 => lv_lload_n C.1 C.2.1 hd hq (lh_at h4 hl) (k C H locs L h1 h2 h3 h4)
  · exact fun C H locs L h1 h2 h3 h4 => lv_lload C.1 C.2.1 hd (lh_at h4 hl) (k C H locs L h1 h2 h3 h4)
theorem g_ald {x : Nat} (hd : LA Y.2.1 pc i pc') (hl : ls[i]? = some (some (.ref x))) (k : Go γ Ω Y Z cs ss S M pc' ls (.ref x :: st)) : Go γ Ω Y Z cs ss S M pc ls st := by
  rcases hd with ⟨q, hq, hd, rfl⟩ | ⟨hd, rfl⟩
  · exact fun C H locs L h1 h2 h3 h4 => lv_aload_n C.1 C.2.1 hd hq (lh_at h4 hl) (k C H locs L h1 h2 h3 h4)
  · exact fun C H locs L h1 h2 h3 h4 => lv_aload C.1 C.2.1 hd (lh_at h4 hl) (k C H locs L h1 h2 h3 h4)
theorem g_aldN (hd : LA Y.2.1 pc i pc') (hl : ls[i]? = some (some .null)) (k : Go γ Ω Y Z cs ss S M pc' ls (.null :: st)) : Go γ Ω Y Z cs ss S M pc ls st := by
  rcases hd with ⟨q, hq, hd, rfl⟩ | ⟨hd, rfl⟩
  · exact fun C H locs L h1 h2 h3 h4 => lv_aload_nN C.1 C.2.1 hd hq (lh_at h4 hl) (k C H locs L h1 h2 h3 h4)
  · exact fun C H locs L h1 h2 h3 h4 => lv_aloadN C.1 C.2.1 hd (lh_at h4 hl) (k C H locs L h1 h2 h3 h4)
/-- no long lies just ahead of place i -/
def nol (ls : List (Option Value)) (i : Nat) : Prop := match i with
  | 0 => True
  | i + 1 => ∀ v, ls[i]? = some (some v) → v.category = 1
theorem lh_set {L : Array Slot} {n : Nat} {ls : List (Option Value)} {i : Nat} {v : Value} (hn : nol ls i) (h : lv_has L n ((i, v) :: (lpr 0 ls).filter (fun q => !(q.1 == i) && !(q.1 + 1 == i && q.2.category == 2)))) : lh L n (ls.set i (some v)) := by
  refine ⟨h.1, h.2.1, fun q hq => ?_⟩
  obtain ⟨k, h1, h2⟩ := (mem_lpr _ _ _).mp hq
  rw [Nat.zero_add] at h1
  refine h.2.2 q ?_
  by_cases hk : k = i
  · subst hk
    have h3 : q.2 = v := by
      by_cases hl : k < ls.length
      · rw [List.getElem?_set_self hl] at h2
        exact (Option.some.inj (Option.some.inj h2)).symm
      · rw [List.getElem?_eq_none (by rw [List.length_set]; omega)] at h2
        cases h2
    obtain ⟨q1, q2⟩ := q
    simp only at h1 h3
    subst h1; subst h3
    exact List.mem_cons_self
  · rw [List.getElem?_set_ne (Ne.symm hk)] at h2
    refine List.mem_cons_of_mem _ (List.mem_filter.mpr ⟨(mem_lpr _ _ _).mpr ⟨k, by omega, h2⟩, ?_⟩)
    have h4 : ¬ (q.1 + 1 = i ∧ q.2.category = 2) := by
      rintro ⟨e1, e2⟩
      subst e1
      have := hn q.2 (by rw [h1]; exact h2)
      omega
    simp only [Bool.and_eq_true, Bool.not_eq_true', beq_eq_false_iff_ne, ne_eq, Bool.and_eq_false_iff]
    refine ⟨by omega, ?_⟩
    by_cases h5 : q.1 + 1 = i
    · right; intro h6; exact h4 ⟨h5, h6⟩
    · left; exact h5
theorem g_ist (hd : SI Y.2.1 pc i pc') (hi : i < Y.2.2.1) (hn : nol ls i) (k : Go γ Ω Y Z cs ss S M pc' (ls.set i (some (vi z))) st) : Go γ Ω Y Z cs ss S M pc ls (vi z :: st) := by
  rcases hd with ⟨q, hq, hd, rfl⟩ | ⟨hd, rfl⟩
  · exact fun C H locs L h1 h2 h3 h4 => lv_istore_n C.1 C.2.1 hd hq h4 hi rfl (fun L' h5 => k C H locs L' h1 h2 h3 (lh_set hn h5))
  · exact fun C H locs L h1 h2 h3 h4 => lv_istore C.1 C.2.1 hd h4 hi rfl (fun L' h5 => k C H locs L' h1 h2 h3 (lh_set hn h5))
theorem g_ast {x : Nat} (hd : SA Y.2.1 pc i pc') (hi : i < Y.2.2.1) (hn : nol ls i) (k : Go γ Ω Y Z cs ss S M pc' (ls.set i (some (.ref x))) st) : Go γ Ω Y Z cs ss S M pc ls (.ref x :: st) := by
  rcases hd with ⟨q, hq, hd, rfl⟩ | ⟨hd, rfl⟩
  · exact fun C H locs L h1 h2 h3 h4 => lv_astore_n C.1 C.2.1 hd hq h4 hi rfl (fun L' h5 => k C H locs L' h1 h2 h3 (lh_set hn h5))
  · exact fun C H locs L h1 h2 h3 h4 => lv_astore C.1 C.2.1 hd h4 hi rfl (fun L' h5 => k C H locs L' h1 h2 h3 (lh_set hn h5))
theorem g_astN (hd : SA Y.2.1 pc i pc') (hi : i < Y.2.2.1) (hn : nol ls i) (k : Go γ Ω Y Z cs ss S M pc' (ls.set i (some .null)) st) : Go γ Ω Y Z cs ss S M pc ls (.null :: st) := by
  rcases hd with ⟨q, hq, hd, rfl⟩ | ⟨hd, rfl⟩
  · exact fun C H locs L h1 h2 h3 h4 => lv_astore_nN C.1 C.2.1 hd hq h4 hi rfl (fun L' h5 => k C H locs L' h1 h2 h3 (lh_set hn h5))
  · exact fun C H locs L h1 h2 h3 h4 => lv_astoreN C.1 C.2.1 hd h4 hi rfl (fun L' h5 => k C H locs L' h1 h2 h3 (lh_set hn h5))
theorem lpr_idx {i : Nat} {v : Value} (h : ls[i]? = some (some v)) : ∃ k : Nat, (lpr 0 ls)[k]? = some (i, v) := List.getElem?_of_mem ((mem_lpr ls 0 (i, v)).mpr ⟨i, by simp, h⟩)
theorem g_iinc {d : Int} (hd : D3 Y.2.1 pc (.iinc i d) pc') (hl : ls[i]? = some (some (vi z))) (hi : i < Y.2.2.1) (hn : nol ls i) (k : Go γ Ω Y Z cs ss S M pc' (ls.set i (some (vi (z + d)))) st) : Go γ Ω Y Z cs ss S M pc ls st := by
  obtain ⟨hd, rfl⟩ := hd
  intro C H locs L h1 h2 h3 h4
  obtain ⟨q, hq⟩ := lpr_idx hl
  exact lv_iinc (v := Int32.ofInt (z + d)) C.1 C.2.1 hd h4 hq (Int32.ofInt_add _ _).symm hi rfl (fun L' h5 => k C H locs L' h1 h2 h3 (lh_set hn h5))
/-! a method's contract -/
def rk (Ω : Ow) (κ : Nat) (x : Int) : Option Value := match κ with
  | 0 => none
  | 1 => some (vi x)
  | 2 => some (vl x)
  | _ => some (rv Ω x)
def Wd (Ω : Ow) (S : Sg) (M : Mm) (U : State) : Prop := Fx Ω ∧ Ω.2.1.WarmedH U.vm ∧ (∀ q : Nat, q < bs Ω → U.heap[q]? = Ω.2.1.heap[q]?) ∧ HW Ω S M U.heap
def Qf (Ω : Ow) (κ : Nat) (Q : Int → Sg → Mm → Prop) : Array Value → State → Outcome → State → Prop := fun _ _ o t => ∃ (x : Int) (S' : Sg) (M' : Mm), o = .returned (rk Ω κ x) ∧ Q x S' M' ∧ (∀ q : Nat, q < bs Ω → t.heap[q]? = Ω.2.1.heap[q]?) ∧ HW Ω S' M' t.heap
def wsM (Y : Md) : List Cond := .code Y.1 Y.2.1 Y.2.2.1 Y.2.2.2 :: Ug
/-- depth d: so many frames, so many words of locals -/
def rmd (d mc ms : Nat) : Room := { frames := d, cells := mc, slots := ms, locals := 40 * d }
/-- Y, called with the values As at the memory M, comes back with an answer x and a memory M' of which Q holds; it makes at most mc cells of ms places, and goes at most d deep -/
def Ct (Ω : Ow) (Y : Md) (d mc ms κ : Nat) (As : List Value) (S : Sg) (M : Mm) (Q : Int → Sg → Mm → Prop) : Prop := Met Ω.1 Y.1 (wsM Y) (rmd d mc ms) (va_Pc As (Wd Ω S M)) (Qf Ω κ Q) mc ms (Lo Ω)
/-- a method's end -/
def Zm (γ : Cg) (Ω : Ow) (κ mc ms : Nat) (Q : Int → Sg → Mm → Prop) : State → Prop := MQ (cB γ) (Qf Ω κ Q) (cA γ) (cS γ) mc ms (Lo Ω)
theorem Ct.mk {Ω : Ow} {Y : Md} {d mc ms κ : Nat} {As : List Value} {S : Sg} {M : Mm} {Q : Int → Sg → Mm → Prop} (hy : plainName Y.1.cls = true) (hlen : (lg_sl As).length ≤ Y.2.2.1) (ls : List (Option Value)) (hls : ∀ (q : Nat × Value), q ∈ lpr 0 ls → q ∈ lv_args 0 As)
    (k : ∀ γ : Cg, cR γ = rmd d mc ms → (cS γ).heap.size = bs Ω + S.1 → Go γ Ω Y (Zm γ Ω κ mc ms Q) 0 0 S M 0 ls []) : Ct Ω Y d mc ms κ As S M Q := by
  refine Met.ofW (cc := Y.2.1) (maxL := Y.2.2.1) (ret := Y.2.2.2) hy rfl ?_
  intro p e s m args below meth c s₁ B hml hv
  obtain ⟨rfl, hFx, hWm, hlo, hHW⟩ := hv
  have hl := lv_entry As (n := Y.2.2.1) hlen
  rw [lg_entry_eq]
  generalize (lg_sl As ++ List.replicate (Y.2.2.1 - (lg_sl As).length) Slot.unset).toArray = L at hl ⊢
  have hts := atoms_spec (ws := wsM Y) B.pre
  refine k (p, e, (headSpec (wsM Y) (rmd d mc ms)).room, s, m, As.toArray, below, meth, c) rfl hHW.1 ⟨B.exec, B.bytes, hml, findClass_of_methodNamed B.named, fun w hw => hts w (List.mem_cons_of_mem _ hw), B.returns, B.notSynchronized, (name_of_methodNamed B.named B.method).1, hFx, hWm, hlo⟩ s.heap [] L hHW hlo (fun q h => by cases h) ⟨hl.1, hl.2.1, fun q hq => hl.2.2 q (hls q hq)⟩
theorem Ct.weaken {Ω : Ow} {Y : Md} {d mc ms κ : Nat} {As : List Value} {S : Sg} {M : Mm} {Q Q' : Int → Sg → Mm → Prop} (h : Ct Ω Y d mc ms κ As S M Q) (hq : ∀ x S' M', Q x S' M' → Q' x S' M') : Ct Ω Y d mc ms κ As S M Q' := by
  intro p e h1 h2 h3 s m args below hf happ hP hK
  obtain ⟨n, o, a1, a2, a3, ⟨x, S', M', b1, b2, b3⟩, b4⟩ := h p e h1 h2 h3 s m args below hf happ hP hK
  exact ⟨n, o, a1, a2, a3, ⟨x, S', M', b1, hq _ _ _ b2, b3⟩, b4⟩
/-- the method's own returns -/
theorem g_ret0 {κ mc ms : Nat} {Q : Int → Sg → Mm → Prop} (hd : decode Y.2.1 pc = .ok (.return_, 1)) (hr : Y.2.2.2 = none) (x : Int) (hq : Q x S M) (h1 : cs ≤ mc) (h2 : ss ≤ ms) : Go γ Ω Y (Zm γ Ω 0 mc ms Q) cs ss S M pc ls [] := by
  intro C H locs L a1 a2 a3 a4
  refine W.widen h1 h2 ?_
  exact W.vret C.1 C.2.1 (C.2.2.2.2.2.1.trans hr) (fun t ht hW => ⟨x, S, M, rfl, hq, by rw [ht]; exact a2, by rw [ht]; exact a1⟩) a3 hd C.2.2.2.2.2.2.1
theorem g_reti {mc ms : Nat} {Q : Int → Sg → Mm → Prop} (hd : decode Y.2.1 pc = .ok (.ireturn, 1)) (hr : Y.2.2.2 = some .int) (hq : Q z S M) (h1 : cs ≤ mc) (h2 : ss ≤ ms) : Go γ Ω Y (Zm γ Ω 1 mc ms Q) cs ss S M pc ls [vi z] := by
  intro C H locs L a1 a2 a3 a4
  refine W.widen h1 h2 ?_
  exact W.iret (v := Int32.ofInt z) C.1 C.2.1 (C.2.2.2.2.2.1.trans hr) (fun t ht hW => ⟨z, S, M, rfl, hq, by rw [ht]; exact a2, by rw [ht]; exact a1⟩) a3 hd C.2.2.2.2.2.2.1
/-- of a type that narrows -/
theorem g_retn {mc ms : Nat} {Q : Int → Sg → Mm → Prop} {ty : FieldType} (hd : decode Y.2.1 pc = .ok (.ireturn, 1)) (hr : Y.2.2.2 = some ty) (hn : narrow ty (vi z) = vi z) (hq : Q z S M) (h1 : cs ≤ mc) (h2 : ss ≤ ms) : Go γ Ω Y (Zm γ Ω 1 mc ms Q) cs ss S M pc ls [vi z] := by
  intro C H locs L a1 a2 a3 a4
  refine W.widen h1 h2 ?_
  exact W.zret (v := Int32.ofInt z) C.1 C.2.1 (C.2.2.2.2.2.1.trans hr) hn (fun t ht hW => ⟨z, S, M, rfl, hq, by rw [ht]; exact a2, by rw [ht]; exact a1⟩) a3 hd C.2.2.2.2.2.2.1
theorem nar_bool (h : z = 0 ∨ z = 1) : narrow .boolean (vi z) = vi z := by
  rcases h with rfl | rfl
  · rw [vi0]; rfl
  · rw [vi1]; rfl
theorem g_retz {mc ms : Nat} {Q : Int → Sg → Mm → Prop} (hd : decode Y.2.1 pc = .ok (.ireturn, 1)) (hr : Y.2.2.2 = some .boolean) (hn : z = 0 ∨ z = 1) (hq : Q z S M) (h1 : cs ≤ mc) (h2 : ss ≤ ms) : Go γ Ω Y (Zm γ Ω 1 mc ms Q) cs ss S M pc ls [vi z] := g_retn hd hr (nar_bool hn) hq h1 h2
theorem g_retl {mc ms : Nat} {Q : Int → Sg → Mm → Prop} (hd : decode Y.2.1 pc = .ok (.lreturn, 1)) (hr : Y.2.2.2 = some .long) (hq : Q z S M) (h1 : cs ≤ mc) (h2 : ss ≤ ms) : Go γ Ω Y (Zm γ Ω 2 mc ms Q) cs ss S M pc ls [vl z] := by
  intro C H locs L a1 a2 a3 a4
  refine W.widen h1 h2 ?_
  exact W.lret (v := Int64.ofInt z) C.1 C.2.1 (C.2.2.2.2.2.1.trans hr) (fun t ht hW => ⟨z, S, M, rfl, hq, by rw [ht]; exact a2, by rw [ht]; exact a1⟩) a3 hd C.2.2.2.2.2.2.1
theorem g_reta {mc ms : Nat} {Q : Int → Sg → Mm → Prop} {rt : FieldType} (hd : decode Y.2.1 pc = .ok (.areturn, 1)) (hr : Y.2.2.2 = some rt) (hrt : (∃ n, rt = .object n) ∨ ∃ t, rt = .array t) {x : Int} (hx : v = rv Ω x) (hq : Q x S M) (h1 : cs ≤ mc) (h2 : ss ≤ ms) : Go γ Ω Y (Zm γ Ω 3 mc ms Q) cs ss S M pc ls [v] := by
  subst hx
  intro C H locs L a1 a2 a3 a4
  refine W.widen h1 h2 ?_
  exact W.aret (v := rv Ω x) C.1 C.2.1 (C.2.2.2.2.2.1.trans hr) hrt (by cases x; exact Or.inr ⟨_, rfl⟩; exact Or.inl rfl) (fun t ht hW => ⟨x, S, M, rfl, hq, by rw [ht]; exact a2, by rw [ht]; exact a1⟩) a3 hd C.2.2.2.2.2.2.1
end GL
