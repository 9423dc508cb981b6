section GN
variable {γ : Cg} {Ω : Ow} {Y : Md} {Z : State → Prop} {cs ss : Nat} {S : Sg} {M : Mm} {pc pc' tgt : Nat} {ls : List (Option Value)} {st : List Value} {a b z : Int} {r c j n i : Nat} {v : Value}
theorem g_objInit (hd : ∃ idx, D3 Y.2.1 pc (.invokespecial idx) pc' ∧ Cond.methodLink Y.1.cls idx objectInit ∈ Ug) (hi : Cond.instanceMethod objectInit ∈ Ug) (hco : Cond.code objectInit ⟨#[0xb1]⟩ 1 none ∈ Ug) (hR : 1 ≤ (cR γ).frames ∧ (st.map fun v => v.category).sum + 12 ≤ (cR γ).locals) (k : Go γ Ω Y Z cs ss S M pc' ls st) : Go γ Ω Y Z cs ss S M pc ls (vr Ω r :: st) := by
  obtain ⟨idx, ⟨hd, rfl⟩, hl⟩ := hd
  intro C H locs L h1 h2 h3 h4
  refine W.objInit (idx := idx) C.1 C.2.1 C.2.2.2.1 (C.2.2.2.2.1 _ hl) (C.2.2.2.2.1 _ hi) (C.2.2.2.2.1 _ hco) rfl (by show L.size = _; rw [C.2.2.1]; exact h4.1) rfl hd hR.1 ?_ (k C H locs L h1 h2 h3 h4)
  have h := hR.2
  show 2 * 0 + _ + 12 ≤ _
  omega
theorem dflt : ∀ c, c < 11 → ∀ j, j < cL c → defaultValue (tyC c j) = if (fk c).getD j false = true then .null else .int 0 := by decide +kernel
theorem fsv_new (hF : Fresh S M) (hc : c < 11) (hk : S.1 ≤ r) : ∀ j, j < cL c → defaultValue (tyC c j) = vp_V (fsv Ω S M r c) j := by
  intro j hj
  have hl : j < (fk c).length := by rw [fk_len c hc]; exact hj
  have hb : (fk c)[j]? = some ((fk c).getD j false) := by rw [List.getD_eq_getElem?_getD, List.getElem?_eq_getElem hl]; rfl
  have hg : (fsv Ω S M r c).getD j .null = fv Ω S M r j ((fk c).getD j false) := by rw [List.getD_eq_getElem?_getD, fsv_get hb]; rfl
  rw [dflt c hc j hj, vp_V, hg, fv, (hF r hk j).1, (hF r hk j).2]
  cases (fk c).getD j false
  · rw [if_neg (by decide), if_neg (by decide), vi0]
  · rfl
theorem wsO_push {S : Sg} {M : Mm} : wsO Ω (S.1 + 1, S.2) M = wsO Ω S M ++ [(bs Ω + S.1, cont Ω S M S.1)] := by
  unfold wsO
  rw [List.range_succ, List.map_append]
  rfl
theorem hw_new {H H1 : Heap} (hW : HW Ω S M H) (he : va_at Ω.2.2.1 vwCl (bs Ω + S.1, cont Ω S M S.1) H1) (hz : H1.size = H.size + 1) (ho : ∀ q : Nat, q < H.size → H1[q]? = H[q]?) : HW Ω (S.1 + 1, S.2) M H1 := by
  refine ⟨by rw [hz, hW.1]; rfl, ?_, fun k hk j => hW.2.2 k (by have : S.1 + 1 ≤ k := hk; omega) j⟩
  rw [wsO_push]
  refine va_P.app (hW.2.1.kept (fun k q hq => ?_)) (fun k q hq => ?_)
  · have hlt := (hW.2.1 k q hq).lt
    exact ho q.1 hlt
  · have hz : k < 1 := (List.getElem?_eq_some_iff.mp hq).1
    rw [show k = 0 by omega] at hq
    cases hq
    exact he
/-- a new object -/
theorem g_new {q : Nat} (hd : ∃ idx, D3 Y.2.1 pc (.new idx) pc' ∧ Cond.classLink Y.1.cls idx (cN c) ∈ Ug) (hin : Cond.instantiable (cN c) (cL c) ∈ Ug) (hini : Cond.initialized (cN c) ∈ Ug) (hc : c < 11) (hq : S.1 = q) (hs : sh q = (c, 0)) (hcells : cs + 1 ≤ (cR γ).cells) (hslots : ss + cL c ≤ (cR γ).slots) (k : Go γ Ω Y Z (cs + 1) (ss + cL c) (q + 1, S.2) M pc' ls (vr Ω q :: st)) : Go γ Ω Y Z cs ss S M pc ls st := by
  subst hq
  obtain ⟨idx, ⟨hd, rfl⟩, hl⟩ := hd
  intro C H locs L h1 h2 h3 h4
  have hK := cx_K C
  have hKn := hK.1 c _ (cl_at hc)
  refine W.newcK C.1 C.2.1 C.2.2.2.1 (C.2.2.2.2.1 _ hl) (C.2.2.2.2.1 _ hin) (C.2.2.2.2.1 _ hini) rfl hd hcells hslots hKn.2.1 h1.1 fun H1 kC hkC e1 z1 o1 => ?_
  refine k C H1 locs L (hw_new h1 ?_ (by rw [z1, h1.1]) (fun q hq => o1 q (by rw [← h1.1]; exact hq))) (fun q hq => (o1 q (by omega)).trans (h2 q hq)) h3 h4
  rw [cont, hs, if_neg (by have : c < 11 := hc; show ¬ 11 ≤ c; omega)]
  exact ⟨_, cl_at hc, (u_born (tyC c) C.2.2.2.2.1 (wsC_ok c hc) hKn hkC e1 (tyC_ok c hc)).to (fsv_new h1.2.2 hc (Nat.le_refl _))⟩
theorem arr_new (hF : Fresh S M) (hk : S.1 ≤ r) {cA : ClassId} {n : Nat} : vp_cell cA (arr Ω S M r 11 n) = arrV cA n (fun _ => .int 0) ∧ vp_cell cA (arr Ω S M r 12 n) = arrV cA n (fun _ => .int 0) ∧ vp_cell cA (arr Ω S M r 13 n) = arrV cA n (fun _ => .long 0) ∧ vp_cell cA (arr Ω S M r 14 n) = arrV cA n (fun _ => .int 0) ∧ vp_cell cA (arr Ω S M r 15 n) = arrV cA n (fun _ => .null) ∧ vp_cell cA (arr Ω S M r 16 n) = arrV cA n (fun _ => .null) := by
  have hm : M r = fun _ => 0 := funext fun j => (hF r hk j).1
  have hs : S.2 r = fun _ => -1 := funext fun j => (hF r hk j).2
  have z32 : Int32.ofInt 0 = 0 := by decide
  have z64 : Int64.ofInt 0 = 0 := by decide
  unfold arr
  rw [hm, hs]
  refine ⟨?_, ?_, ?_, ?_, ?_, ?_⟩
  · rw [if_neg (by decide), if_neg (by decide), vp_cell_i]; show arrV cA n (fun _ => Value.int (Int32.ofInt 0)) = _; rw [z32]
  · rw [if_neg (by decide), if_neg (by decide), vp_cell_i]; show arrV cA n (fun _ => Value.int (Int32.ofInt 0)) = _; rw [z32]
  · rw [if_pos rfl, vp_cell_l]; show arrV cA n (fun _ => Value.long (Int64.ofInt 0)) = _; rw [z64]
  · rw [if_neg (by decide), if_neg (by decide), vp_cell_i]; show arrV cA n (fun _ => Value.int (Int32.ofInt 0)) = _; rw [z32]
  · rw [if_neg (by decide), if_pos (by decide), vp_cell_q]; rfl
  · rw [if_neg (by decide), if_pos (by decide), vp_cell_q]; rfl
/-- a new array of numbers -/
theorem g_newa {q : Nat} {atype : ArrayType} (hd : D2 Y.2.1 pc (.newarray atype) pc') (hA : Cond.arrayClass (newarray.typeOf atype) ∈ Ug) (hat : (atype = .byte ∧ c = 11) ∨ (atype = .int ∧ c = 12) ∨ (atype = .long ∧ c = 13) ∨ (atype = .boolean ∧ c = 14)) (hn : n ≤ 1000) (hq : S.1 = q) (hs : sh q = (c, n)) (hcells : cs + 1 ≤ (cR γ).cells) (hslots : ss + n ≤ (cR γ).slots) (k : Go γ Ω Y Z (cs + 1) (ss + n) (q + 1, S.2) M pc' ls (vr Ω q :: st)) : Go γ Ω Y Z cs ss S M pc ls (vi (n : Int) :: st) := by
  subst hq
  obtain ⟨hd, rfl⟩ := hd
  intro C H locs L h1 h2 h3 h4
  have hK := cx_K C
  have hb : n * componentBytes (newarray.typeOf atype) ≤ 536870912 := by
    rcases hat with ⟨rfl, -⟩ | ⟨rfl, -⟩ | ⟨rfl, -⟩ | ⟨rfl, -⟩ <;> (show n * _ ≤ _; simp [newarray.typeOf, componentBytes]; omega)
  refine va_newaK (n := Int32.ofInt (n : Int)) C.1 C.2.1 (C.2.2.2.2.1 _ hA) rfl hd rfl (by rw [zI, oI_lt (by omega) (by omega)]; omega) (clamp (by omega)) hb hcells hslots h1.1 fun H1 cA e1 z1 o1 hAr hNm => ?_
  refine k C H1 locs L (hw_new h1 ?_ (by rw [z1, h1.1]) (fun q hq => o1 q (by rw [← h1.1]; exact hq))) (fun q hq => (o1 q (by omega)).trans (h2 q hq)) h3 h4
  have hnew := arr_new (Ω := Ω) h1.2.2 (Nat.le_refl S.1) (cA := cA) (n := n)
  rcases hat with ⟨rfl, rfl⟩ | ⟨rfl, rfl⟩ | ⟨rfl, rfl⟩ | ⟨rfl, rfl⟩
  · have hc : Ω.2.2.1.1 11 = cA := Option.some.inj ((hK.2 0 _ rfl).2.symm.trans hNm)
    rw [cont, hs, if_pos (show 11 ≤ 11 by decide)]
    show H1[_]? = some (vp_cell (Ω.2.2.1.1 11) _)
    rw [hc, hnew.1]
    exact e1
  · have hc : Ω.2.2.1.1 12 = cA := Option.some.inj ((hK.2 1 _ rfl).2.symm.trans hNm)
    rw [cont, hs, if_pos (show 11 ≤ 12 by decide)]
    show H1[_]? = some (vp_cell (Ω.2.2.1.1 12) _)
    rw [hc, hnew.2.1]
    exact e1
  · have hc : Ω.2.2.1.1 13 = cA := Option.some.inj ((hK.2 2 _ rfl).2.symm.trans hNm)
    rw [cont, hs, if_pos (show 11 ≤ 13 by decide)]
    show H1[_]? = some (vp_cell (Ω.2.2.1.1 13) _)
    rw [hc, hnew.2.2.1]
    exact e1
  · have hc : Ω.2.2.1.1 14 = cA := Option.some.inj ((hK.2 3 _ rfl).2.symm.trans hNm)
    rw [cont, hs, if_pos (show 11 ≤ 14 by decide)]
    show H1[_]? = some (vp_cell (Ω.2.2.1.1 14) _)
    rw [hc, hnew.2.2.2.1]
    exact e1
/-- a new array of objects -/
theorem g_newq {q : Nat} {C0 : String} (hd : ∃ idx, D3 Y.2.1 pc (.anewarray idx) pc' ∧ Cond.classLink Y.1.cls idx C0 ∈ Ug) (hat : (C0 = RX3 ∧ c = 15) ∨ (C0 = RX7 ∧ c = 16)) (hn : n ≤ 1000) (hq : S.1 = q) (hs : sh q = (c, n)) (hcells : cs + 1 ≤ (cR γ).cells) (hslots : ss + n ≤ (cR γ).slots) (k : Go γ Ω Y Z (cs + 1) (ss + n) (q + 1, S.2) M pc' ls (vr Ω q :: st)) : Go γ Ω Y Z cs ss S M pc ls (vi (n : Int) :: st) := by
  subst hq
  obtain ⟨idx, ⟨hd, rfl⟩, hl⟩ := hd
  intro C H locs L h1 h2 h3 h4
  have hK := cx_K C
  have hcl : (Int32.ofInt (n : Int)).toNatClampNeg = n := clamp (by omega)
  have hA : (Cond.arrayOver (.object C0)).before (cA γ) (cS γ) = true := by
    rcases hat with ⟨rfl, -⟩ | ⟨rfl, -⟩
    · exact va_AO.use (va_AO.moved C.2.2.2.2.2.2.2.2.2.1.alike C.2.2.2.2.2.2.2.2.1.2.2.2.2.2.2.2.1)
    · exact va_AO.use (va_AO.moved C.2.2.2.2.2.2.2.2.2.1.alike C.2.2.2.2.2.2.2.2.1.2.2.2.2.2.2.2.2)
  refine W.anew (n := Int32.ofInt (n : Int)) C.1 C.2.1 C.2.2.2.1 (C.2.2.2.2.1 _ hl) hA rfl hd rfl (by rw [zI, oI_lt (by omega) (by omega)]; omega) (by rw [hcl]; omega) hcells (by rw [hcl]; exact hslots) fun cA kA comp f1 f2 f3 f4 => ?_
  rw [hcl]
  generalize hH1 : H.push ({ cls := cA, slots := Array.replicate n .null, vm := .none } : Cell) = H1
  have z1 : H1.size = H.size + 1 := by rw [← hH1, Array.size_push]
  have e1 : H1[H.size]? = some (arrV cA n (fun _ => .null)) := by rw [← hH1, Array.getElem?_push_size, ← arrV_new]
  have o1 : ∀ q : Nat, q < H.size → H1[q]? = H[q]? := fun q hq => by rw [← hH1, Array.getElem?_push, if_neg (Nat.ne_of_lt hq)]
  rw [h1.1] at e1 ⊢
  refine k C H1 locs L (hw_new h1 ?_ z1 o1) (fun q hq => (o1 q (by rw [h1.1]; omega)).trans (h2 q hq)) h3 h4
  have hnew := arr_new (Ω := Ω) h1.2.2 (Nat.le_refl S.1) (cA := cA) (n := n)
  rcases hat with ⟨rfl, rfl⟩ | ⟨rfl, rfl⟩
  · obtain ⟨kA', comp', g1, g2, g3, g4⟩ := (hK.2 4 _ rfl).2
    have hc : Ω.2.2.1.1 15 = cA := Option.some.inj (g4.symm.trans f1)
    rw [cont, hs, if_pos (show 11 ≤ 15 by decide)]
    show H1[_]? = some (vp_cell (Ω.2.2.1.1 15) _)
    rw [hc, hnew.2.2.2.2.1]
    exact e1
  · obtain ⟨kA', comp', g1, g2, g3, g4⟩ := (hK.2 5 _ rfl).2
    have hc : Ω.2.2.1.1 16 = cA := Option.some.inj (g4.symm.trans f1)
    rw [cont, hs, if_pos (show 11 ≤ 16 by decide)]
    show H1[_]? = some (vp_cell (Ω.2.2.1.1 16) _)
    rw [hc, hnew.2.2.2.2.2]
    exact e1
/-- an object comes into an array of objects -/
theorem g_aast {q qc : Nat} (hd : D1 Y.2.1 pc .aastore pc') (hr : Ar S r c n) (hat : (c = 15 ∧ qc = 3) ∨ (c = 16 ∧ qc = 7)) (hj : j < n) (hq : Ob S q qc) (k : Go γ Ω Y Z cs ss (S.1, up S.2 r j (q : Int)) M pc' ls st) : Go γ Ω Y Z cs ss S M pc ls (vr Ω q :: vi (j : Int) :: vr Ω r :: st) := by
  obtain ⟨hd, rfl⟩ := hd
  intro C H locs L h1 h2 h3 h4
  have hn := ar_le hr
  have hK := cx_K C
  have hatv := hat_of h1 hr
  have hvt : va_at Ω.2.2.1 vwCl (bs Ω + q, .inr (qc, fsv Ω S M q qc)) H := h1.2.1 q _ ((wsO_get hq.2.1).trans (by rw [cont_ob hq]))
  obtain ⟨r', hr', cellV, g1, g2, g3, -⟩ := hvt
  have hcls := (hK.1 qc _ (cl_at hq.2.2)).2
  have go : ∀ (t0 : Nat) (kA : Class) (comp : ClassId), (cS γ).vm.classes[Ω.2.2.1.1 c]? = some kA → kA.kind = .array comp (.object (cN qc)) → (cS γ).vm.findClass (cN qc) = some comp → arr Ω S M r c n = (n, .inr (.inr (.inr (.inr fun j => ro Ω (S.2 r j))))) → arr Ω (S.1, up S.2 r j (q : Int)) M r c n = (n, .inr (.inr (.inr (.inr fun i => ro Ω (up S.2 r j (q : Int) r i))))) → W (cP γ) Ω.1 (cE γ) (cR γ) (cS γ) (cM γ) (cA γ) (cB γ) (cMe γ) (cC γ) H locs cs ss Z (F0 (cM γ) pc L (vr Ω q :: vi (j : Int) :: vr Ω r :: st)) := fun t0 kA comp k1 k2 k3 ea eb => by
    have hcomp : comp = Ω.2.2.1.1 qc := Option.some.inj (k3.symm.trans hcls.1)
    subst hcomp
    obtain ⟨kC, hkC, -⟩ := hcls.2
    have hcl : (Int32.ofInt (j : Int)).toNatClampNeg = j := clamp (by omega)
    rw [ea] at hatv
    refine W.aast (j := Int32.ofInt (j : Int)) C.1 C.2.1 hatv (fun q h => by cases h) (fun h => by cases h) k1 k2 rfl hkC ⟨by rw [zI, oI_lt (by omega) (by omega)]; omega, by show _ < (arrV _ _ _).slots.size; rw [arrV_size, hcl]; exact hj⟩ g1 (fun q h => by rw [g3] at h; cases h) (by rw [g2]; exact hkC) (by rw [g2]; exact va_assign hcls) rfl rfl hd fun H1 e zz oq => ?_
    refine k C H1 _ L (hw_put h1 hr.2.1 rfl (h1.2.2.upS hr.2.1) ?_ (fun k hk => cont_eq rfl (up_row hk)) zz oq) (lo_put h2 oq) (lc_put h3) h4
    have hr' : Ar (S.1, up S.2 r j (q : Int)) r c n := hr
    rw [cont_ar hr', eb]
    show H1[_]? = some (vp_cell _ _)
    rw [e, hcl, vp_cell_q, vp_cell_q, arrV_store]
    congr 2
    funext i
    by_cases hi : i = j
    · subst hi
      simp [updV, up, vr, ro, va_rf]
    · simp [updV, up, hi]
  rcases hat with ⟨rfl, rfl⟩ | ⟨rfl, rfl⟩
  · obtain ⟨kA, comp, k1, k2, k3, -⟩ := (hK.2 4 _ rfl).2
    exact go 4 kA comp k1 k2 k3 rfl rfl
  · obtain ⟨kA, comp, k1, k2, k3, -⟩ := (hK.2 5 _ rfl).2
    exact go 5 kA comp k1 k2 k3 rfl rfl
end GN
