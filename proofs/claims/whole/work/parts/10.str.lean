section GS
variable {γ : Cg} {Ω : Ow} {Y Y2 : Md} {Z : State → Prop} {cs ss : Nat} {S : Sg} {M : Mm} {pc pc' tgt : Nat} {ls : List (Option Value)} {st rest As : List Value} {a b z : Int} {r c j n i d mc ms κ : Nat} {v : Value} {Q : Int → Sg → Mm → Prop}
/-! constants: the table of KINDS above, Strings -/
theorem cx_fx (C : Cx γ Ω Y) : Fx Ω := C.2.2.2.2.2.2.2.2.1
theorem cx_al (C : Cx γ Ω Y) : Ω.2.1.vm.Alike (cS γ).vm := C.2.2.2.2.2.2.2.2.2.1.alike
theorem cx_lo (C : Cx γ Ω Y) : ∀ q : Nat, q < Ω.2.1.heap.size → ¬ Lo Ω q → (cS γ).heap[q]? = Ω.2.1.heap[q]? := fun q _ h => C.2.2.2.2.2.2.2.2.2.2 q (Nat.lt_of_not_le h)
/-- the world below stands -/
theorem vaS_lo (C : Cx γ Ω Y) {H : Heap} {locs : List Loc} (h1 : HW Ω S M H) (h2 : ∀ q : Nat, q < bs Ω → H[q]? = Ω.2.1.heap[q]?) (h3 : ∀ q ∈ locs, bs Ω ≤ q.base) (hz : (cS γ).heap.size ≤ bs Ω + S.1) : va_S (Lo Ω) (cS γ).heap H locs := ⟨by rw [h1.1]; exact hz, fun q _ h => by rw [h2 q (Nat.lt_of_not_le h), C.2.2.2.2.2.2.2.2.2.2 q (Nat.lt_of_not_le h)], h3⟩
theorem g_kabS (hz : (cS γ).heap.size ≤ bs Ω + S.1) (hd : ∃ (idx : Nat) (host : String), D3 Y.2.1 pc (.getstatic idx) pc' ∧ Cond.fieldLinkNest Y.1.cls idx RX9 "KIND_ABOVE" "[I" host ∈ nestW) (k : Go γ Ω Y Z cs ss S M pc' ls (.ref (ka Ω 0) :: st)) : Go γ Ω Y Z cs ss S M pc ls st := by
  obtain ⟨idx, host, ⟨hd, rfl⟩, hl⟩ := hd
  exact fun C H locs L h1 h2 h3 h4 => va_getsN C.1 C.2.1 (((cx_fx C).2.2.1.moved (cx_al C)).kept (cx_lo C)) (vaS_lo C h1 h2 h3 hz) C.2.2.2.1 (cx_N C hl) (fun _ h => h) hd (k C H locs L h1 h2 h3 h4)
theorem g_kab (hz : (cS γ).heap.size ≤ bs Ω + S.1) (hd : D1 Y.2.1 pc .iaload pc') (hj : j < 7) (k : Go γ Ω Y Z cs ss S M pc' ls (vi (kAb.getD j 0) :: st)) : Go γ Ω Y Z cs ss S M pc ls (vi (j : Int) :: .ref (ka Ω 0) :: st) := by
  obtain ⟨hd, rfl⟩ := hd
  exact fun C H locs L h1 h2 h3 h4 => va_ti (i := Int32.ofInt (j : Int)) C.1 C.2.1 (((cx_fx C).2.2.2.1.moved (cx_al C)).kept (cx_lo C)) (vaS_lo C h1 h2 h3 hz) (vin hj (by decide)) (by rw [clamp (by omega)]) hd (k C H locs L h1 h2 h3 h4)
/-- String.COMPACT_STRINGS is true -/
theorem g_compact (hz : (cS γ).heap.size ≤ bs Ω + S.1) (hd : ∃ idx : Nat, D3 Y.2.1 pc (.getstatic idx) pc' ∧ Cond.fieldLink Y.1.cls idx "java/lang/String" "COMPACT_STRINGS" "Z" ∈ Ug) (k : Go γ Ω Y Z cs ss S M pc' ls (vi 1 :: st)) : Go γ Ω Y Z cs ss S M pc ls st := by
  obtain ⟨idx, ⟨hd, rfl⟩, hl⟩ := hd
  exact fun C H locs L h1 h2 h3 h4 => va_gets C.1 C.2.1 (((cx_fx C).2.2.2.2.1.moved (cx_al C)).kept (cx_lo C)) (vaS_lo C h1 h2 h3 hz) C.2.2.2.1 (C.2.2.2.2.1 _ hl) (fun _ h => h) hd (by have h := k C H locs L h1 h2 h3 h4; rw [vi1] at h; exact h)
/-- the formatter of refusals: null, or something -/
theorem g_siob (hz : (cS γ).heap.size ≤ bs Ω + S.1) (hd : ∃ idx : Nat, D3 Y.2.1 pc (.getstatic idx) pc' ∧ Cond.fieldLink Y.1.cls idx "jdk/internal/util/Preconditions" "SIOOBE_FORMATTER" "Ljava/util/function/BiFunction;" ∈ Ug) (k : ∀ v : Value, (v = .null ∨ ∃ x, v = .ref x) → Go γ Ω Y Z cs ss S M pc' ls (v :: st)) : Go γ Ω Y Z cs ss S M pc ls st := by
  obtain ⟨idx, ⟨hd, rfl⟩, hl⟩ := hd
  intro C H locs L h1 h2 h3 h4
  rcases ((cx_fx C).2.2.2.2.2.1.moved (cx_al C)).kept (cx_lo C) with hz0 | ⟨t, hz0⟩
  · exact va_gets C.1 C.2.1 hz0 (vaS_lo C h1 h2 h3 hz) C.2.2.2.1 (C.2.2.2.2.1 _ hl) (fun _ h => h) hd (k _ (Or.inl rfl) C H locs L h1 h2 h3 h4)
  · exact va_gets C.1 C.2.1 hz0 (vaS_lo C h1 h2 h3 hz) C.2.2.2.1 (C.2.2.2.2.1 _ hl) (fun _ h => h) hd (k _ (Or.inr ⟨_, rfl⟩) C H locs L h1 h2 h3 h4)
theorem cx_str (C : Cx γ Ω Y) (hi : i < 9) : Fs Ω i Ω.2.1 Ω.2.1.heap := (cx_fx C).2.2.2.2.2.2.1 i hi
theorem g_ldcS (hi : i < 9) (hd : D2 Y.2.1 pc (.ldc (sc i).2.1) pc') (ho : (sc i).1 = Y.1.cls) (k : Go γ Ω Y Z cs ss S M pc' ls (.ref (ka Ω (1 + i)) :: st)) : Go γ Ω Y Z cs ss S M pc ls st := by
  obtain ⟨hd, rfl⟩ := hd
  exact fun C H locs L h1 h2 h3 h4 => va_ldcS C.1 C.2.1 C.2.2.2.1 (by have h := (cx_str C hi).1.warm C.2.2.2.2.2.2.2.2.2.1; rw [ho] at h; exact h) hd (k C H locs L h1 h2 h3 h4)
theorem g_sval (hz : (cS γ).heap.size ≤ bs Ω + S.1) (hi : i < 9) (hd : ∃ idx : Nat, D3 Y.2.1 pc (.getfield idx) pc' ∧ Cond.fieldLink Y.1.cls idx "java/lang/String" "value" "[B" ∈ Ug) (k : Go γ Ω Y Z cs ss S M pc' ls (.ref (ka Ω (20 + i)) :: st)) : Go γ Ω Y Z cs ss S M pc ls (.ref (ka Ω (1 + i)) :: st) := by
  obtain ⟨idx, ⟨hd, rfl⟩, hl⟩ := hd
  exact fun C H locs L h1 h2 h3 h4 => vk_getf C.1 C.2.1 (((cx_str C hi).2.2.2.1.moved (cx_al C)).kept (cx_lo C)) (vaS_lo C h1 h2 h3 hz) C.2.2.2.1 (C.2.2.2.2.1 _ hl) (fun _ h => h) hd (k C H locs L h1 h2 h3 h4)
theorem g_scod (hz : (cS γ).heap.size ≤ bs Ω + S.1) (hi : i < 9) (hd : ∃ idx : Nat, D3 Y.2.1 pc (.getfield idx) pc' ∧ Cond.fieldLink Y.1.cls idx "java/lang/String" "coder" "B" ∈ Ug) (k : Go γ Ω Y Z cs ss S M pc' ls (vi 0 :: st)) : Go γ Ω Y Z cs ss S M pc ls (.ref (ka Ω (1 + i)) :: st) := by
  obtain ⟨idx, ⟨hd, rfl⟩, hl⟩ := hd
  exact fun C H locs L h1 h2 h3 h4 => vk_getf C.1 C.2.1 (((cx_str C hi).2.2.1.moved (cx_al C)).kept (cx_lo C)) (vaS_lo C h1 h2 h3 hz) C.2.2.2.1 (C.2.2.2.2.1 _ hl) (fun _ h => h) hd (by have h := k C H locs L h1 h2 h3 h4; rw [vi0] at h; exact h)
theorem g_slen (hz : (cS γ).heap.size ≤ bs Ω + S.1) (hi : i < 9) (hd : D1 Y.2.1 pc .arraylength pc') (k : Go γ Ω Y Z cs ss S M pc' ls (vi ((sc i).2.2.2.length : Int) :: st)) : Go γ Ω Y Z cs ss S M pc ls (.ref (ka Ω (20 + i)) :: st) := by
  obtain ⟨hd, rfl⟩ := hd
  exact fun C H locs L h1 h2 h3 h4 => va_tlen C.1 C.2.1 (((cx_str C hi).2.2.2.2.moved (cx_al C)).kept (cx_lo C)) (vaS_lo C h1 h2 h3 hz) (Int32.ofInt_eq_ofNat).symm hd (k C H locs L h1 h2 h3 h4)
theorem g_sald (hz : (cS γ).heap.size ≤ bs Ω + S.1) (hi : i < 9) (hd : D1 Y.2.1 pc .baload pc') (hj : j < (sc i).2.2.2.length) (hl : (sc i).2.2.2.length ≤ 1000) (k : Go γ Ω Y Z cs ss S M pc' ls (vi ((sc i).2.2.2.getD j 0) :: st)) : Go γ Ω Y Z cs ss S M pc ls (vi (j : Int) :: .ref (ka Ω (20 + i)) :: st) := by
  obtain ⟨hd, rfl⟩ := hd
  exact fun C H locs L h1 h2 h3 h4 => va_tb (i := Int32.ofInt (j : Int)) C.1 C.2.1 (((cx_str C hi).2.2.2.2.moved (cx_al C)).kept (cx_lo C)) (vaS_lo C h1 h2 h3 hz) (vin hj hl) (by rw [clamp (by omega)]) hd (k C H locs L h1 h2 h3 h4)
/-- a String as a receiver -/
theorem str_rec (hi : i < 9) (hcls : Y2.1.cls = "java/lang/String") : Cx γ Ω Y → ∀ H : Heap, HW Ω S M H → (∀ q : Nat, q < bs Ω → H[q]? = Ω.2.1.heap[q]?) → ∃ cell : Cell, H[ka Ω (1 + i)]? = some cell ∧ cell.vm.isStatics = false ∧ (cS γ).vm.findClass Y2.1.cls = some cell.cls := by
  intro C H h1 h2
  obtain ⟨cell, e1, e2, e3, e4⟩ := (cx_str C hi).2.1.moved (cx_al C)
  exact ⟨cell, by rw [h2 _ (Nat.lt_of_not_le e4)]; exact e1, e2, by rw [hcls]; exact e3⟩
end GS
