/-! THE WORLD AS ONE MEMORY. Cells that the run makes are numbered 0, 1, 2 .. as they are made (cell k lies at the address base + k); M k j is the number in place j of cell k, S.2 k j the cell that place j of cell k points to (-1: null), S.1 how many cells there are. Which class or array each cell is: sh. -/
abbrev Mm : Type := Nat → Nat → Int
abbrev Sg : Type := Nat × (Nat → Nat → Int)
abbrev Ow : Type := Launch × State × va_G × (Nat → Nat)
abbrev Md : Type := MethodName × ByteArray × Nat × Option FieldType
abbrev Cg : Type := Program × Env × Room × State × MethodId × Array Value × List Frame × Method × Code
def bs (Ω : Ow) : Nat := Ω.2.1.heap.size
def vi (z : Int) : Value := .int (Int32.ofInt z)
def vl (z : Int) : Value := .long (Int64.ofInt z)
def vr (Ω : Ow) (r : Nat) : Value := .ref (bs Ω + r)
def ro (Ω : Ow) : Int → Option Nat
  | .ofNat r => some (bs Ω + r)
  | .negSucc _ => none
def rv (Ω : Ow) : Int → Value
  | .ofNat r => .ref (bs Ω + r)
  | .negSucc _ => .null
theorem rv_ro (Ω : Ow) (x : Int) : va_rf (ro Ω x) = rv Ω x := by cases x <;> rfl
theorem rv_nat (Ω : Ow) (r : Nat) : rv Ω (r : Int) = vr Ω r := rfl
def up (f : Nat → Nat → Int) (k j : Nat) (z : Int) : Nat → Nat → Int := fun a c => if a = k ∧ c = j then z else f a c
theorem up_s (f : Nat → Nat → Int) (k j : Nat) (z : Int) : up f k j z k j = z := by simp [up]
theorem up_n {f : Nat → Nat → Int} {k j a c : Nat} {z : Int} (h : ¬ (a = k ∧ c = j)) : up f k j z a c = f a c := by simp [up, h]
/-- the cells' kinds (0 .. 10 the classes in the order of vwCl; 11 bytes, 12 ints, 13 longs, 14 booleans, 15 PEOPLE, 16 tapes) and lengths, in the order in which they are made -/
def shT : List (Nat × Nat) := [(9, 0), (2, 0), (11, 100), (1, 0), (12, 10), (12, 10), (12, 10), (12, 100), (12, 6), (0, 0), (12, 20), (16, 6),
  (1, 0), (12, 10), (12, 10), (12, 10), (12, 100), (12, 6),
  (4, 0), (6, 0), (12, 15), (6, 0), (12, 30), (6, 0), (12, 24), (5, 0), (15, 6), (3, 0), (12, 4), (3, 0), (12, 4), (3, 0), (12, 4), (3, 0), (12, 4), (3, 0), (12, 4), (3, 0), (12, 4),
  (4, 0), (6, 0), (12, 15), (6, 0), (12, 30), (6, 0), (12, 24), (5, 0), (15, 6), (3, 0), (12, 4), (3, 0), (12, 4), (3, 0), (12, 4), (3, 0), (12, 4), (3, 0), (12, 4), (3, 0), (12, 4),
  (8, 0), (5, 0), (15, 6), (3, 0), (12, 4), (3, 0), (12, 4), (3, 0), (12, 4), (3, 0), (12, 4), (3, 0), (12, 4), (3, 0), (12, 4),
  (7, 0), (13, 60), (7, 0), (13, 60), (7, 0), (13, 60), (7, 0), (13, 60), (7, 0), (13, 60), (7, 0), (13, 60),
  (10, 0), (12, 6), (12, 6), (12, 6), (12, 6), (12, 6), (12, 24), (12, 100), (12, 6), (12, 61), (12, 61), (12, 61), (12, 61), (12, 800), (14, 110), (12, 5), (12, 5), (12, 5), (12, 10), (12, 10), (12, 8), (12, 8), (12, 20), (12, 112), (12, 112), (12, 6), (12, 6), (12, 6), (13, 360)]
def shL : List (Nat × Nat) := [(1, 0), (12, 10), (12, 10), (12, 10), (12, 100), (12, 6)]
def sh (k : Nat) : Nat × Nat := if k < 116 then shT.getD k (0, 0) else shL.getD ((k - 116) % 6) (0, 0)
/-- which fields point -/
def fkT : List (List Bool) := [[true, false, false, false, false], [false, false, true, true, true, false, true, true], [true, false, false, true], [false, false, false, false, false, false, true, false], [true, true, true, true], [true, false, false, false, true], [true, false, false], [false, false, true], [true], [true, true, false, true, false, true, true, true],
  [false, true, true, true, true, true, true, false, false, false, true, false, false, false, false, false, false, true, true, true, true, true, true, false, true, false, true, true, true, false, true, true, false, true, true, false, true, false, true, true, true, true, true, true]]
def fk (c : Nat) : List Bool := fkT.getD c []
def fv (Ω : Ow) (S : Sg) (M : Mm) (k j : Nat) (r : Bool) : Value := if r = true then rv Ω (S.2 k j) else vi (M k j)
def fsv (Ω : Ow) (S : Sg) (M : Mm) (k c : Nat) : List Value := (List.range (fk c).length).map fun j => fv Ω S M k j ((fk c).getD j false)
def arr (Ω : Ow) (S : Sg) (M : Mm) (k c n : Nat) : vp_A := if c = 13 then (n, .inr (.inl fun j => Int64.ofInt (M k j))) else if 15 ≤ c then (n, .inr (.inr (.inr (.inr fun j => ro Ω (S.2 k j))))) else (n, .inl fun j => Int32.ofInt (M k j))
def cont (Ω : Ow) (S : Sg) (M : Mm) (k : Nat) : va_E := if 11 ≤ (sh k).1 then .inl (Ω.2.2.1.1 (sh k).1, arr Ω S M k (sh k).1 (sh k).2) else .inr ((sh k).1, fsv Ω S M k (sh k).1)
def wsO (Ω : Ow) (S : Sg) (M : Mm) : va_W := (List.range S.1).map fun k => (bs Ω + k, cont Ω S M k)
theorem wsO_get {Ω : Ow} {S : Sg} {M : Mm} {k : Nat} (h : k < S.1) : (wsO Ω S M)[k]? = some (bs Ω + k, cont Ω S M k) := by simp [wsO, h]
theorem wsO_at {Ω : Ow} {S : Sg} {M : Mm} {k : Nat} {q : Nat × va_E} (h : (wsO Ω S M)[k]? = some q) : k < S.1 ∧ q = (bs Ω + k, cont Ω S M k) := by
  by_cases hk : k < S.1
  · rw [wsO_get hk] at h
    exact ⟨hk, (Option.some.inj h).symm⟩
  · have h1 : (wsO Ω S M)[k]? = none := List.getElem?_eq_none (by simp [wsO]; omega)
    rw [h1] at h
    cases h
theorem wsO_D {Ω : Ow} {S : Sg} {M : Mm} : va_D (fun q : Nat => bs Ω ≤ q) (wsO Ω S M) := by
  refine ⟨fun i j p q hi hj hpq => ?_, fun k q hk => ?_⟩
  · obtain ⟨-, rfl⟩ := wsO_at hi
    obtain ⟨-, rfl⟩ := wsO_at hj
    have h1 : bs Ω + i = bs Ω + j := hpq
    omega
  · obtain ⟨-, rfl⟩ := wsO_at hk
    exact Nat.le_add_right _ _
/-- what is not made yet is empty -/
def Fresh (S : Sg) (M : Mm) : Prop := ∀ k, S.1 ≤ k → ∀ j, M k j = 0 ∧ S.2 k j = -1
def HW (Ω : Ow) (S : Sg) (M : Mm) (H : Heap) : Prop := H.size = bs Ω + S.1 ∧ va_P Ω.2.2.1 vwCl (wsO Ω S M) H ∧ Fresh S M
def tys (D : va_G) : List (ClassId × FieldType) := [(D.1 11, .byte), (D.1 12, .int), (D.1 13, .long), (D.1 14, .boolean), (D.1 15, .object RX3), (D.1 16, .object RX7)]
/-- the places of the String constants: class, entry, text; its signs -/
def scT : List (String × Nat × String × List Int) := [("WitnessPays$Law", 28, "pkvamd", [112, 107, 118, 97, 109, 100]), ("WitnessPays$LawText", 73, "0123456789", [48, 49, 50, 51, 52, 53, 54, 55, 56, 57]), ("WitnessPays$LawText", 65, "pkvamd", [112, 107, 118, 97, 109, 100]), ("WitnessPays$LawText", 71, "<=>", [60, 61, 62]),
  ("WitnessPaysModel", 194, "far ", [102, 97, 114, 32]), ("WitnessPaysModel", 200, "near ", [110, 101, 97, 114, 32]), ("WitnessPaysModel", 202, "fine ", [102, 105, 110, 101, 32]), ("WitnessPaysModel", 163, "pkvamd", [112, 107, 118, 97, 109, 100]), ("WitnessPaysModel", 168, "<=>", [60, 61, 62])]
def sc (i : Nat) : String × Nat × String × List Int := scT.getD i ("", 0, "", [])
/-- the addresses of constants: 0 the table of KINDS above; 1 + i the String i, 20 + i its bytes -/
def ka (Ω : Ow) (i : Nat) : Nat := Ω.2.2.2 i
def kAb : List Int := [-1, 0, 0, 0, 1, 2, 3]
def Lo (Ω : Ow) : Nat → Prop := fun q => bs Ω ≤ q
def Fs (Ω : Ow) (i : Nat) (U : State) (H : Heap) : Prop := vk_R (sc i).1 (sc i).2.1 (sc i).2.2.1 (ka Ω (1 + i)) U ∧ va_O "java/lang/String" (ka Ω (1 + i)) (Lo Ω) U H ∧ va_OF "java/lang/String" "coder" "B" (.int 0) (ka Ω (1 + i)) (Lo Ω) U H ∧ va_OF "java/lang/String" "value" "[B" (.ref (ka Ω (20 + i))) (ka Ω (1 + i)) (Lo Ω) U H ∧ va_T .byte (ka Ω (20 + i)) (sc i).2.2.2.length (fun j => vi ((sc i).2.2.2.getD j 0)) (Lo Ω) U H
def Fx (Ω : Ow) : Prop := va_K Ω.2.2.1 vwCl (tys Ω.2.2.1) Ω.2.1 ∧ (∀ w ∈ nestW, va_Nw w Ω.2.1) ∧ va_Z RX9 "KIND_ABOVE" "[I" (.ref (ka Ω 0)) (Lo Ω) Ω.2.1 Ω.2.1.heap ∧ va_T .int (ka Ω 0) 7 (fun j => vi (kAb.getD j 0)) (Lo Ω) Ω.2.1 Ω.2.1.heap ∧
  va_Z "java/lang/String" "COMPACT_STRINGS" "Z" (.int 1) (Lo Ω) Ω.2.1 Ω.2.1.heap ∧ va_Zq "jdk/internal/util/Preconditions" "SIOOBE_FORMATTER" "Ljava/util/function/BiFunction;" (Lo Ω) Ω.2.1 Ω.2.1.heap ∧ (∀ i, i < 9 → Fs Ω i Ω.2.1 Ω.2.1.heap) ∧ va_AO RX3 Ω.2.1 ∧ va_AO RX7 Ω.2.1
abbrev cP (γ : Cg) : Program := γ.1
abbrev cE (γ : Cg) : Env := γ.2.1
abbrev cR (γ : Cg) : Room := γ.2.2.1
abbrev cS (γ : Cg) : State := γ.2.2.2.1
abbrev cM (γ : Cg) : MethodId := γ.2.2.2.2.1
abbrev cA (γ : Cg) : Array Value := γ.2.2.2.2.2.1
abbrev cB (γ : Cg) : List Frame := γ.2.2.2.2.2.2.1
abbrev cMe (γ : Cg) : Method := γ.2.2.2.2.2.2.2.1
abbrev cC (γ : Cg) : Code := γ.2.2.2.2.2.2.2.2
/-- what is known of the method that runs -/
def Cx (γ : Cg) (Ω : Ow) (Y : Md) : Prop := (cP γ).tables.exec = Jvm.exec ∧ (cC γ).code = Y.2.1 ∧ (cC γ).maxLocals = Y.2.2.1 ∧ (cS γ).vm.findClass Y.1.cls = some (cM γ).cls ∧ (∀ w ∈ Ug, w.before (cA γ) (cS γ) = true) ∧ (cMe γ).sig.returnType = Y.2.2.2 ∧ (cMe γ).locks = false ∧ (cMe γ).name = Y.1.name ∧ Fx Ω ∧ Ω.2.1.WarmedH (cS γ).vm ∧ ∀ q : Nat, q < bs Ω → (cS γ).heap[q]? = Ω.2.1.heap[q]?
/-- the locals by their places -/
def lpr : Nat → List (Option Value) → List (Nat × Value)
  | _, [] => []
  | k, none :: t => lpr (k + 1) t
  | k, some v :: t => (k, v) :: lpr (k + 1) t
def lh (L : Array Slot) (n : Nat) (ls : List (Option Value)) : Prop := lv_has L n (lpr 0 ls)
/-- from this point on the method comes to its end, and Z holds there -/
def Go (γ : Cg) (Ω : Ow) (Y : Md) (Z : State → Prop) (cs ss : Nat) (S : Sg) (M : Mm) (pc : Nat) (ls : List (Option Value)) (st : List Value) : Prop :=
  Cx γ Ω Y → ∀ (H : Heap) (locs : List Loc) (L : Array Slot), HW Ω S M H → (∀ q : Nat, q < bs Ω → H[q]? = Ω.2.1.heap[q]?) → (∀ q ∈ locs, bs Ω ≤ q.base) → lh L Y.2.2.1 ls → W (cP γ) Ω.1 (cE γ) (cR γ) (cS γ) (cM γ) (cA γ) (cB γ) (cMe γ) (cC γ) H locs cs ss Z (F0 (cM γ) pc L st)
theorem mem_lpr : ∀ (ls : List (Option Value)) (k : Nat) (q : Nat × Value), q ∈ lpr k ls ↔ ∃ i, q.1 = k + i ∧ ls[i]? = some (some q.2) := by
  intro ls
  induction ls with
  | nil => intro k q; simp [lpr]
  | cons a t ih =>
    intro k q
    cases a with
    | none =>
      simp only [lpr, ih]
      constructor
      · rintro ⟨i, h1, h2⟩
        exact ⟨i + 1, by omega, by simpa using h2⟩
      · rintro ⟨i, h1, h2⟩
        cases i with
        | zero => simp at h2
        | succ i => exact ⟨i, by omega, by simpa using h2⟩
    | some v =>
      simp only [lpr, List.mem_cons, ih]
      constructor
      · rintro (h | ⟨i, h1, h2⟩)
        · subst h
          exact ⟨0, by simp, by simp⟩
        · exact ⟨i + 1, by omega, by simpa using h2⟩
      · rintro ⟨i, h1, h2⟩
        cases i with
        | zero =>
          left
          simp at h2
          obtain ⟨a, b⟩ := q
          simp at h1 h2
          rw [h1, h2]
        | succ i => exact Or.inr ⟨i, by omega, by simpa using h2⟩
theorem lh_at {L : Array Slot} {n : Nat} {ls : List (Option Value)} {i : Nat} {v : Value} (h : lh L n ls) (hi : ls[i]? = some (some v)) : L[i]? = some (.val v) := h.2.2 (i, v) ((mem_lpr ls 0 (i, v)).mpr ⟨i, by simp, hi⟩)
/-- fewer locals are known -/
def lle : List (Option Value) → List (Option Value) → Prop
  | [], _ => True
  | none :: t, _ :: u => lle t u
  | some v :: t, x :: u => x = some v ∧ lle t u
  | none :: t, [] => lle t []
  | some _ :: _, [] => False
theorem lle_get : ∀ {l m : List (Option Value)}, lle l m → ∀ {i : Nat} {v : Value}, l[i]? = some (some v) → m[i]? = some (some v) := by
  intro l
  induction l with
  | nil => intro m _ i v h; simp at h
  | cons a t ih =>
    intro m hm i v h
    cases m with
    | nil =>
      cases a with
      | none =>
        cases i with
        | zero => simp at h
        | succ i =>
          have h1 := ih (m := []) hm (i := i) (by simpa using h)
          simp at h1
      | some w => exact hm.elim
    | cons b u =>
      cases a with
      | none =>
        cases i with
        | zero => simp at h
        | succ i => simpa using ih (m := u) hm (i := i) (by simpa using h)
      | some w =>
        cases i with
        | zero => simp at h; rw [← h]; simpa using hm.1
        | succ i => simpa using ih (m := u) hm.2 (i := i) (by simpa using h)
theorem lh_le {L : Array Slot} {n : Nat} {ls ls' : List (Option Value)} (h : lh L n ls) (hl : lle ls' ls) : lh L n ls' := by
  refine ⟨h.1, h.2.1, fun q hq => ?_⟩
  obtain ⟨i, h1, h2⟩ := (mem_lpr _ _ _).mp hq
  have h3 := lh_at h (lle_get hl h2)
  rw [h1, Nat.zero_add]
  exact h3
theorem i8a : Int8.minValue.toInt = -128 := by decide +kernel
theorem i8b : Int8.maxValue.toInt = 127 := by decide +kernel
theorem i16a : Int16.minValue.toInt = -32768 := by decide +kernel
theorem i16b : Int16.maxValue.toInt = 32767 := by decide +kernel
theorem i32a : Int32.minValue.toInt = -2147483648 := by decide +kernel
theorem i32b : Int32.maxValue.toInt = 2147483647 := by decide +kernel
theorem i64a : Int64.minValue.toInt = -9223372036854775808 := by decide +kernel
theorem i64b : Int64.maxValue.toInt = 9223372036854775807 := by decide +kernel
section GO
variable {γ : Cg} {Ω : Ow} {Y : Md} {Z : State → Prop} {cs ss : Nat} {S : Sg} {M : Mm} {pc pc' : Nat} {ls ls' : List (Option Value)} {st st' : List Value}
/-- fewer locals -/
theorem Go.le (k : Go γ Ω Y Z cs ss S M pc ls' st) (h : lle ls' ls) : Go γ Ω Y Z cs ss S M pc ls st := fun C H locs L h1 h2 h3 h4 => k C H locs L h1 h2 h3 (lh_le h4 h)
theorem Go.wide {cs' ss' : Nat} (k : Go γ Ω Y Z cs' ss' S M pc ls st) (h1 : cs ≤ cs') (h2 : ss ≤ ss') : Go γ Ω Y Z cs ss S M pc ls st := fun C H locs L a b c d => W.widen h1 h2 (k C H locs L a b c d)
abbrev D1 (cc : ByteArray) (pc : Nat) (i : Instr) (pc' : Nat) : Prop := decode cc pc = .ok (i, 1) ∧ pc + 1 = pc'
abbrev D2 (cc : ByteArray) (pc : Nat) (i : Instr) (pc' : Nat) : Prop := decode cc pc = .ok (i, 2) ∧ pc + 2 = pc'
abbrev D3 (cc : ByteArray) (pc : Nat) (i : Instr) (pc' : Nat) : Prop := decode cc pc = .ok (i, 3) ∧ pc + 3 = pc'
/-- a constant, of any kind -/
def IC (cc : ByteArray) (own : String) (pc : Nat) (z : Int) (pc' : Nat) : Prop := D1 cc pc (.iconst z) pc' ∨ (D2 cc pc (.bipush z) pc' ∧ -128 ≤ z ∧ z < 128) ∨ (D3 cc pc (.sipush z) pc' ∧ -32768 ≤ z ∧ z < 32768) ∨ (∃ i, D2 cc pc (.ldc i) pc' ∧ Jvm.Cond.constant own i (Int32.ofInt z) ∈ Ug) ∨ (∃ i, D3 cc pc (.ldc_w i) pc' ∧ Jvm.Cond.constant own i (Int32.ofInt z) ∈ Ug)
theorem g_const {z : Int} (hd : IC Y.2.1 Y.1.cls pc z pc') (k : Go γ Ω Y Z cs ss S M pc' ls (vi z :: st)) : Go γ Ω Y Z cs ss S M pc ls st := by
  intro C H locs L h1 h2 h3 h4
  have k2 := k C H locs L h1 h2 h3 h4
  rcases hd with ⟨hd, rfl⟩ | ⟨⟨hd, rfl⟩, r1, r2⟩ | ⟨⟨hd, rfl⟩, r1, r2⟩ | ⟨i, ⟨hd, rfl⟩, hw⟩ | ⟨i, ⟨hd, rfl⟩, hw⟩
  · exact lv_iconst C.1 C.2.1 hd rfl k2
  · exact lv_bipush C.1 C.2.1 hd (Int8.toInt32_ofInt (by rw [i8a]; exact r1) (by rw [i8b]; omega)) k2
  · exact lv_sipush C.1 C.2.1 hd (Int16.toInt32_ofInt (by rw [i16a]; exact r1) (by rw [i16b]; omega)) k2
  · exact lv_ldc C.1 C.2.1 C.2.2.2.1 (C.2.2.2.2.1 _ hw) hd k2
  · exact lv_ldcw C.1 C.2.1 C.2.2.2.1 (C.2.2.2.2.1 _ hw) hd k2
end GO
