/-! the law: its loop, its whole -/
theorem ClsF.cong {S S' : Sg} {M M' : Mm} (h : ClsF S M) (e : ∀ k, k < 87 → row2 S S' M M' k) : ClsF S' M' := by
  obtain ⟨h0, hM0, ⟨h10, h13, h1⟩, hL3, ⟨h9, hM9⟩, hT, hL12, s18, s39, h60, s61⟩ := h
  exact ⟨by rw [(e 0 (by decide)).1]; exact h0, fun j => by rw [(e 0 (by decide)).2]; exact hM0 j, ⟨by rw [(e 1 (by decide)).1]; exact h10, by rw [(e 1 (by decide)).1]; exact h13, fun j => by rw [(e 1 (by decide)).2]; exact h1 j⟩, hL3.cong (e 3 (by decide)), ⟨by rw [(e 9 (by decide)).1]; exact h9, fun j => by rw [(e 9 (by decide)).2]; exact hM9 j⟩, fun i hi => ⟨by rw [(e 11 (by decide)).1]; exact (hT i hi).1, (hT i hi).2.cong (e _ (by omega)) (e _ (by omega)).2⟩, hL12.cong (e 12 (by decide)), s18.cong (fun k a b => e k (by omega)), s39.cong (fun k a b => e k (by omega)), by rw [(e 60 (by decide)).1]; exact h60, s61.cong (fun k a b => e k (by omega))⟩
theorem law_loop {γ : Cg} {Ω : Ow} {nm : String} {Z : State → Prop} {sb L : Nat} {xs : Nat → Int32} (hγ : cR γ = room_1) (hS : Scr γ Ω sb L xs) (hend : ∀ (S : Sg) (M : Mm) (ls : List (Option Value)), Go γ Ω (mL nm) Z 600000 7302250 S M 1262 ls [vi 1]) : ∀ (n i : Nat) (S : Sg) (M : Mm) (s : Wt), L < 6 * (i + n) → i ≤ 512 → LI2 S M s → Go γ Ω (mL nm) Z (116 + 6 * i) (3296 + 144 * i) S M 18 (lsL Ω sb i) [] := by
  have hL : L ≤ 3072 := hS.2.2.2.2
  have head : ∀ (i : Nat) (S : Sg) (M : Mm), i ≤ 512 → (6 * i + 6 ≤ L → Go γ Ω (mL nm) Z (116 + 6 * i) (3296 + 144 * i) S M 27 (lsL Ω sb i) []) → Go γ Ω (mL nm) Z (116 + 6 * i) (3296 + 144 * i) S M 18 (lsL Ω sb i) [] := by
    intro i S M h5 k
    refine g_ild (z := ((6 * i : Nat) : Int)) f_L_law_18 rfl ?_
    refine g_ald f_L_law_19 rfl ?_
    refine g_scl hS f_L_law_20 ?_
    refine g_const f_L_law_21 ?_
    refine g_isub f_L_law_23 ?_
    refine g_icmp_gt f_L_law_24 rfl ⟨by omega, by omega⟩ ⟨by omega, by omega⟩ (fun hc => ?_) (fun hc => k (by omega))
    refine g_const f_L_law_1261 ?_
    exact Go.wide (hend _ _ _) (by omega) (by omega)
  intro n
  induction n with
  | zero =>
    intro i S M s hn h5 hI
    exact head i S M h5 (fun hi => absurd hi (by omega))
  | succ n ih =>
    intro i S M s hn h5 hI
    refine head i S M h5 (fun hi => ?_)
    have back : ∀ (S : Sg) (M : Mm) (s : Wt), LI2 S M s → Go γ Ω (mL nm) Z (116 + 6 * i + 6) (3296 + 144 * i + 144) S M 1255 (lsL Ω sb i) [] := by
      intro S M s hI
      refine g_inc_3 f_L_law_1255 (by decide : (3 : Nat) < 4) c1v ?_
      refine g_goto f_L_law_1258 ?_
      have h := ih (i + 1) S M s (by omega) (by omega) hI
      have e : lsL Ω sb (i + 1) = [some (.ref sb), some (vr Ω 0), some (vr Ω 87), some (vi (((6 * i : Nat) : Int) + 6))] := by
        unfold lsL
        rw [show ((6 * (i + 1) : Nat) : Int) = ((6 * i : Nat) : Int) + 6 by omega]
      rw [e] at h
      exact Go.wide h (by omega) (by omega)
    refine g_arg0 hS hi f_L_law_27 f_L_law_28 f_L_law_29 ?_
    refine g_const f_L_law_30 ?_
    refine g_iand f_L_law_32 ?_
    exact g_tab f_L_law_33 (rg_of _) (fun _ => Go.wide (back S M s hI) (by omega) (by omega)) (casC (fun _ => lw_c0 hγ hS hi hI back) (casC (fun _ => lw_c1 hγ hS hi hI back) (casC (fun _ => lw_c2 hγ hS hi hI back) (casC (fun _ => lw_c3 hγ hS hi hI back) (casC (fun _ => lw_c4 hγ hS hi hI back) (casC (fun _ => lw_c5 hγ hS hi hI back) (casC (fun _ => lw_c6 hγ hS hi hI back) (casC (fun _ => lw_c7 hγ hS hi hI back) (casC (fun _ => lw_c8 hγ hS hi hI back) (casC (fun _ => lw_c9 hγ hS hi hI back) (casC (fun _ => lw_c10 hγ hS hi hI back) (casC (fun _ => lw_c11 hγ hS hi hI back) (casC (fun _ => lw_c12 hγ hS hi hI back) (casC (fun _ => lw_c13 hγ hS hi hI back) (casC (fun _ => lw_c14 hγ hS hi hI back) (casC (fun _ => lw_c15 hγ hS hi hI back) (casC (fun _ => lw_c16 hγ hS hi hI back) (casC (fun _ => lw_c17 hγ hS hi hI back) (casC (fun _ => lw_c18 hγ hS hi hI back) (casC (fun _ => lw_c19 hγ hS hi hI back) (casC (fun _ => lw_c20 hγ hS hi hI back) (casC (fun _ => lw_c21 hγ hS hi hI back) (casC (fun _ => lw_c22 hγ hS hi hI back) (casC (fun _ => lw_c23 hγ hS hi hI back) (casC (fun _ => lw_c24 hγ hS hi hI back) (casC (fun _ => lw_c25 hγ hS hi hI back) (casC (fun _ => lw_c26 hγ hS hi hI back) (casC (fun _ => lw_c27 hγ hS hi hI back) (casC (fun _ => lw_c28 hγ hS hi hI back) (casC (fun _ => lw_c29 hγ hS hi hI back) (casC (fun _ => lw_c30 hγ hS hi hI back) (casC (fun _ => lw_c31 hγ hS hi hI back) (casC (fun _ => lw_c32 hγ hS hi hI back) (casC (fun _ => lw_c33 hγ hS hi hI back) casN))))))))))))))))))))))))))))))))))
theorem law_body {γ : Cg} {Ω : Ow} {nm : String} {Z : State → Prop} {sb L : Nat} {xs : Nat → Int32} (hγ : cR γ = room_1) (hS : Scr γ Ω sb L xs) (hend : ∀ (S : Sg) (M : Mm) (ls : List (Option Value)), Go γ Ω (mL nm) Z 600000 7302250 S M 1262 ls [vi 1]) : Go γ Ω (mL nm) Z 0 0 (0, fun _ _ => -1) (fun _ _ => 0) 0 [some (.ref sb), none, none, none] [] := by
  have hL : L ≤ 3072 := hS.2.2.2.2
  refine g_new (q := 0) (c := 9) f_L_law_0 ins_9 ini_9 (by decide) rfl (by decide +kernel) (cells_l (ss := 0) hγ ⟨Nat.le_of_ble_eq_true rfl, Nat.le_of_ble_eq_true rfl⟩).1 (cells_l (cs := 0) hγ ⟨Nat.le_of_ble_eq_true rfl, Nat.le_of_ble_eq_true rfl⟩).2 ?_
  refine g_dup f_L_law_3 rfl ?_
  refine g_li hγ (c_x9Init rfl (fun _ _ => rfl)) f_L_law_4 mo_X9_init rfl rfl mi_X9_init rfl (Nat.le_of_ble_eq_true rfl) ⟨by decide, by decide⟩ ⟨Nat.le_of_ble_eq_true rfl, Nat.le_of_ble_eq_true rfl⟩ (fun x S1 M1 hq => ?_)
  obtain ⟨a1, a2, a3⟩ := hq
  refine g_ast_1 f_L_law_7 (by decide : (1 : Nat) < 4) c1r ?_
  refine g_new (q := 87) (c := 10) f_L_law_8 ins_10 ini_10 (by decide) a1 (by decide +kernel) (cells_l (ss := 0) hγ ⟨Nat.le_of_ble_eq_true rfl, Nat.le_of_ble_eq_true rfl⟩).1 (cells_l (cs := 0) hγ ⟨Nat.le_of_ble_eq_true rfl, Nat.le_of_ble_eq_true rfl⟩).2 ?_
  refine g_dup f_L_law_11 rfl ?_
  refine g_li hγ (c_x10Init (S := (88, S1.2)) rfl (fun k hk j => by rw [(a3 k hk).2])) f_L_law_12 mo_X10_init rfl rfl mi_X10_init rfl (Nat.le_of_ble_eq_true rfl) ⟨by decide, by decide⟩ ⟨Nat.le_of_ble_eq_true rfl, Nat.le_of_ble_eq_true rfl⟩ (fun x S2 M2 hr => ?_)
  obtain ⟨b1, b2, b3⟩ := hr
  refine g_ast_2 f_L_law_15 (by decide : (2 : Nat) < 4) c1v ?_
  refine g_const f_L_law_16 ?_
  refine g_ist_3 f_L_law_17 (by decide : (3 : Nat) < 4) c1v ?_
  have a4 : ClsF (88, S1.2) M1 := ClsF.cong a2 (fun _ _ => ⟨rfl, rfl⟩)
  have hcl : ClsF S2 M2 := ClsF.cong a4 b3
  have hI : LI2 S2 M2 s0 := ⟨w_beg b1 hcl b2, m_beg b2, s0_ok⟩
  exact Go.wide (law_loop hγ hS hend 513 0 S2 M2 s0 (by omega) (by decide) hI) (Nat.le_of_ble_eq_true rfl) (Nat.le_of_ble_eq_true rfl)
