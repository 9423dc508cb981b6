/-! the law: its cases -/
abbrev mL (n : String) : Md := (⟨RL, n, "([I)Z"⟩, cL_law, 4, ret)
theorem sh9 : sh 0 = (9, 0) ∧ 0 < 116 ∧ 9 < 11 := by decide +kernel
theorem sh10 : sh 87 = (10, 0) ∧ 87 < 116 ∧ 10 < 11 := by decide +kernel
theorem lw_c0 {γ : Cg} {Ω : Ow} {nm : String} {Z : State → Prop} {S : Sg} {M : Mm} {s : Wt} {sb L i : Nat} {xs : Nat → Int32} (hγ : cR γ = room_1) (hS : Scr γ Ω sb L xs) (hi : 6 * i + 6 ≤ L) (hI : LI2 S M s) (back : ∀ S M s, LI2 S M s → Go γ Ω (mL nm) Z (116 + 6 * i + 6) (3296 + 144 * i + 144) S M 1255 (lsL Ω sb i) []) : Go γ Ω (mL nm) Z (116 + 6 * i) (3296 + 144 * i) S M 184 (lsL Ω sb i) [] := by
  have hL : L ≤ 3072 := hS.2.2.2.2
  refine g_alv f_L_law_184 rfl ?_
  refine g_arg hS 1 hi (by decide) f_L_law_185 f_L_law_186 f_L_law_187 f_L_law_188 f_L_law_189 ?_
  refine g_arg hS 2 hi (by decide) f_L_law_190 f_L_law_191 f_L_law_192 f_L_law_193 f_L_law_194 ?_
  refine g_arg hS 3 hi (by decide) f_L_law_195 f_L_law_196 f_L_law_197 f_L_law_198 f_L_law_199 ?_
  refine g_lv1 hγ (w_one hI.1 hI.2.2.1 (scv xs (6 * i + 1)) (scv xs (6 * i + 2)) (scv xs (6 * i + 3)) (scv_rg xs _) (scv_rg xs _) (scv_rg xs _)) f_L_law_200 mo_X9_one mv_X9_one (obn hI.1.1 sh9) rfl rfl (Nat.le_of_ble_eq_true rfl) ⟨by decide, by decide⟩ ⟨by omega, by omega⟩ (fun x S1 M1 hq => ?_)
  refine g_alv f_L_law_203 rfl ?_
  refine g_arg hS 1 hi (by decide) f_L_law_204 f_L_law_205 f_L_law_206 f_L_law_207 f_L_law_208 ?_
  refine g_arg hS 2 hi (by decide) f_L_law_209 f_L_law_210 f_L_law_211 f_L_law_212 f_L_law_213 ?_
  refine g_arg hS 3 hi (by decide) f_L_law_214 f_L_law_215 f_L_law_216 f_L_law_217 f_L_law_218 ?_
  refine g_lv1 hγ (m_one hq.2.1.1 (hI.2.1.mfr hI.2.2.1 hq.2.2) hI.2.2.1 (scv xs (6 * i + 1)) (scv xs (6 * i + 2)) (scv xs (6 * i + 3)) (scv_rg xs _) (scv_rg xs _) (scv_rg xs _)) f_L_law_219 mo_X10_one mv_X10_one (obn hq.2.1.1 sh10) rfl rfl (Nat.le_of_ble_eq_true rfl) ⟨by decide, by decide⟩ ⟨by omega, by omega⟩ (fun y S2 M2 hr => ?_)
  refine g_eqS f_L_law_222 (hq.1.trans hr.1.symm) ?_
  exact Go.wide (back _ _ _ (LI2.go (S := S) (M := M) hI.2.2.one hq.2.1 hr.2)) (by omega) (by omega)
theorem lw_c1 {γ : Cg} {Ω : Ow} {nm : String} {Z : State → Prop} {S : Sg} {M : Mm} {s : Wt} {sb L i : Nat} {xs : Nat → Int32} (hγ : cR γ = room_1) (hS : Scr γ Ω sb L xs) (hi : 6 * i + 6 ≤ L) (hI : LI2 S M s) (back : ∀ S M s, LI2 S M s → Go γ Ω (mL nm) Z (116 + 6 * i + 6) (3296 + 144 * i + 144) S M 1255 (lsL Ω sb i) []) : Go γ Ω (mL nm) Z (116 + 6 * i) (3296 + 144 * i) S M 227 (lsL Ω sb i) [] := by
  have hL : L ≤ 3072 := hS.2.2.2.2
  refine g_alv f_L_law_227 rfl ?_
  refine g_arg hS 1 hi (by decide) f_L_law_228 f_L_law_229 f_L_law_230 f_L_law_231 f_L_law_232 ?_
  refine g_arg hS 2 hi (by decide) f_L_law_233 f_L_law_234 f_L_law_235 f_L_law_236 f_L_law_237 ?_
  refine g_lv1 hγ (w_of hI.1 hI.2.2.1 (scv xs (6 * i + 1)) (scv xs (6 * i + 2)) (scv_rg xs _) (scv_rg xs _)) f_L_law_238 mo_X9_of mv_X9_of (obn hI.1.1 sh9) rfl rfl (Nat.le_of_ble_eq_true rfl) ⟨by decide, by decide⟩ ⟨by omega, by omega⟩ (fun x S1 M1 hq => ?_)
  refine g_alv f_L_law_241 rfl ?_
  refine g_arg hS 1 hi (by decide) f_L_law_242 f_L_law_243 f_L_law_244 f_L_law_245 f_L_law_246 ?_
  refine g_arg hS 2 hi (by decide) f_L_law_247 f_L_law_248 f_L_law_249 f_L_law_250 f_L_law_251 ?_
  refine g_lv1 hγ (m_of hq.2.1.1 (hI.2.1.mfr hI.2.2.1 hq.2.2) hI.2.2.1 (scv xs (6 * i + 1)) (scv xs (6 * i + 2)) (scv_rg xs _) (scv_rg xs _)) f_L_law_252 mo_X10_of mv_X10_of (obn hq.2.1.1 sh10) rfl rfl (Nat.le_of_ble_eq_true rfl) ⟨by decide, by decide⟩ ⟨by omega, by omega⟩ (fun y S2 M2 hr => ?_)
  refine g_eqS f_L_law_255 (hq.1.trans hr.1.symm) ?_
  exact Go.wide (back _ _ _ (LI2.go (S := S) (M := M) hI.2.2 hq.2.1 hr.2)) (by omega) (by omega)
theorem lw_c2 {γ : Cg} {Ω : Ow} {nm : String} {Z : State → Prop} {S : Sg} {M : Mm} {s : Wt} {sb L i : Nat} {xs : Nat → Int32} (hγ : cR γ = room_1) (hS : Scr γ Ω sb L xs) (hi : 6 * i + 6 ≤ L) (hI : LI2 S M s) (back : ∀ S M s, LI2 S M s → Go γ Ω (mL nm) Z (116 + 6 * i + 6) (3296 + 144 * i + 144) S M 1255 (lsL Ω sb i) []) : Go γ Ω (mL nm) Z (116 + 6 * i) (3296 + 144 * i) S M 260 (lsL Ω sb i) [] := by
  have hL : L ≤ 3072 := hS.2.2.2.2
  refine g_alv f_L_law_260 rfl ?_
  refine g_arg hS 1 hi (by decide) f_L_law_261 f_L_law_262 f_L_law_263 f_L_law_264 f_L_law_265 ?_
  refine g_arg hS 2 hi (by decide) f_L_law_266 f_L_law_267 f_L_law_268 f_L_law_269 f_L_law_270 ?_
  refine g_arg hS 3 hi (by decide) f_L_law_271 f_L_law_272 f_L_law_273 f_L_law_274 f_L_law_275 ?_
  refine g_lv1 hγ (w_set hI.1 hI.2.2.1 (scv xs (6 * i + 1)) (scv xs (6 * i + 2)) (scv xs (6 * i + 3)) (scv_rg xs _) (scv_rg xs _) (scv_rg xs _)) f_L_law_276 mo_X9_set mv_X9_set (obn hI.1.1 sh9) rfl rfl (Nat.le_of_ble_eq_true rfl) ⟨by decide, by decide⟩ ⟨by omega, by omega⟩ (fun x S1 M1 hq => ?_)
  refine g_alv f_L_law_279 rfl ?_
  refine g_arg hS 1 hi (by decide) f_L_law_280 f_L_law_281 f_L_law_282 f_L_law_283 f_L_law_284 ?_
  refine g_arg hS 2 hi (by decide) f_L_law_285 f_L_law_286 f_L_law_287 f_L_law_288 f_L_law_289 ?_
  refine g_arg hS 3 hi (by decide) f_L_law_290 f_L_law_291 f_L_law_292 f_L_law_293 f_L_law_294 ?_
  refine g_lv1 hγ (m_set hq.2.1.1 (hI.2.1.mfr hI.2.2.1 hq.2.2) hI.2.2.1 (scv xs (6 * i + 1)) (scv xs (6 * i + 2)) (scv xs (6 * i + 3)) (scv_rg xs _) (scv_rg xs _) (scv_rg xs _)) f_L_law_295 mo_X10_set mv_X10_set (obn hq.2.1.1 sh10) rfl rfl (Nat.le_of_ble_eq_true rfl) ⟨by decide, by decide⟩ ⟨by omega, by omega⟩ (fun y S2 M2 hr => ?_)
  refine g_eqS f_L_law_298 (hq.1.trans hr.1.symm) ?_
  exact Go.wide (back _ _ _ (LI2.go (S := S) (M := M) hI.2.2.set hq.2.1 hr.2)) (by omega) (by omega)
theorem lw_c3 {γ : Cg} {Ω : Ow} {nm : String} {Z : State → Prop} {S : Sg} {M : Mm} {s : Wt} {sb L i : Nat} {xs : Nat → Int32} (hγ : cR γ = room_1) (hS : Scr γ Ω sb L xs) (hi : 6 * i + 6 ≤ L) (hI : LI2 S M s) (back : ∀ S M s, LI2 S M s → Go γ Ω (mL nm) Z (116 + 6 * i + 6) (3296 + 144 * i + 144) S M 1255 (lsL Ω sb i) []) : Go γ Ω (mL nm) Z (116 + 6 * i) (3296 + 144 * i) S M 303 (lsL Ω sb i) [] := by
  have hL : L ≤ 3072 := hS.2.2.2.2
  refine g_alv f_L_law_303 rfl ?_
  refine g_arg hS 1 hi (by decide) f_L_law_304 f_L_law_305 f_L_law_306 f_L_law_307 f_L_law_308 ?_
  refine g_arg hS 2 hi (by decide) f_L_law_309 f_L_law_310 f_L_law_311 f_L_law_312 f_L_law_313 ?_
  refine g_if_eq f_L_law_314 rfl (scv_rg xs _) (fun hb => ?_) (fun hb => ?_)
  · refine g_const f_L_law_321 ?_
    refine g_lv1 hγ (w_leave hI.1 hI.2.2.1 (scv xs (6 * i + 1)) (0) (scv_rg xs _) (by decide)) f_L_law_322 mo_X9_leave mv_X9_leave (obn hI.1.1 sh9) rfl rfl (Nat.le_of_ble_eq_true rfl) ⟨by decide, by decide⟩ ⟨by omega, by omega⟩ (fun x S1 M1 hq => ?_)
    refine g_alv f_L_law_325 rfl ?_
    refine g_arg hS 1 hi (by decide) f_L_law_326 f_L_law_327 f_L_law_328 f_L_law_329 f_L_law_330 ?_
    refine g_arg hS 2 hi (by decide) f_L_law_331 f_L_law_332 f_L_law_333 f_L_law_334 f_L_law_335 ?_
    refine g_if_eq f_L_law_336 rfl (scv_rg xs _) (fun _ => ?_) (fun q => absurd hb q)
    refine g_const f_L_law_343 ?_
    refine g_lv1 hγ (m_leave hq.2.1.1 (hI.2.1.mfr hI.2.2.1 hq.2.2) hI.2.2.1 (scv xs (6 * i + 1)) (0) (scv_rg xs _) (by decide)) f_L_law_344 mo_X10_leave mv_X10_leave (obn hq.2.1.1 sh10) rfl rfl (Nat.le_of_ble_eq_true rfl) ⟨by decide, by decide⟩ ⟨by omega, by omega⟩ (fun y S2 M2 hr => ?_)
    refine g_eqS f_L_law_347 (hq.1.trans hr.1.symm) ?_
    exact Go.wide (back _ _ _ (LI2.go (S := S) (M := M) (hI.2.2.leave (by decide)) hq.2.1 hr.2)) (by omega) (by omega)
  · refine g_const f_L_law_317 ?_
    refine g_goto f_L_law_318 ?_
    refine g_lv1 hγ (w_leave hI.1 hI.2.2.1 (scv xs (6 * i + 1)) (1) (scv_rg xs _) (by decide)) f_L_law_322 mo_X9_leave mv_X9_leave (obn hI.1.1 sh9) rfl rfl (Nat.le_of_ble_eq_true rfl) ⟨by decide, by decide⟩ ⟨by omega, by omega⟩ (fun x S1 M1 hq => ?_)
    refine g_alv f_L_law_325 rfl ?_
    refine g_arg hS 1 hi (by decide) f_L_law_326 f_L_law_327 f_L_law_328 f_L_law_329 f_L_law_330 ?_
    refine g_arg hS 2 hi (by decide) f_L_law_331 f_L_law_332 f_L_law_333 f_L_law_334 f_L_law_335 ?_
    refine g_if_eq f_L_law_336 rfl (scv_rg xs _) (fun q => absurd q hb) (fun _ => ?_)
    refine g_const f_L_law_339 ?_
    refine g_goto f_L_law_340 ?_
    refine g_lv1 hγ (m_leave hq.2.1.1 (hI.2.1.mfr hI.2.2.1 hq.2.2) hI.2.2.1 (scv xs (6 * i + 1)) (1) (scv_rg xs _) (by decide)) f_L_law_344 mo_X10_leave mv_X10_leave (obn hq.2.1.1 sh10) rfl rfl (Nat.le_of_ble_eq_true rfl) ⟨by decide, by decide⟩ ⟨by omega, by omega⟩ (fun y S2 M2 hr => ?_)
    refine g_eqS f_L_law_347 (hq.1.trans hr.1.symm) ?_
    exact Go.wide (back _ _ _ (LI2.go (S := S) (M := M) (hI.2.2.leave (by decide)) hq.2.1 hr.2)) (by omega) (by omega)
theorem lw_c4 {γ : Cg} {Ω : Ow} {nm : String} {Z : State → Prop} {S : Sg} {M : Mm} {s : Wt} {sb L i : Nat} {xs : Nat → Int32} (hγ : cR γ = room_1) (hS : Scr γ Ω sb L xs) (hi : 6 * i + 6 ≤ L) (hI : LI2 S M s) (back : ∀ S M s, LI2 S M s → Go γ Ω (mL nm) Z (116 + 6 * i + 6) (3296 + 144 * i + 144) S M 1255 (lsL Ω sb i) []) : Go γ Ω (mL nm) Z (116 + 6 * i) (3296 + 144 * i) S M 352 (lsL Ω sb i) [] := by
  have hL : L ≤ 3072 := hS.2.2.2.2
  refine g_alv f_L_law_352 rfl ?_
  refine g_arg hS 1 hi (by decide) f_L_law_353 f_L_law_354 f_L_law_355 f_L_law_356 f_L_law_357 ?_
  refine g_lv1 hγ (w_walls hI.1 hI.2.2.1 (scv xs (6 * i + 1)) (scv_rg xs _)) f_L_law_358 mo_X9_walls mv_X9_walls (obn hI.1.1 sh9) rfl rfl (Nat.le_of_ble_eq_true rfl) ⟨by decide, by decide⟩ ⟨by omega, by omega⟩ (fun x S1 M1 hq => ?_)
  refine g_alv f_L_law_361 rfl ?_
  refine g_arg hS 1 hi (by decide) f_L_law_362 f_L_law_363 f_L_law_364 f_L_law_365 f_L_law_366 ?_
  refine g_lv1 hγ (m_walls hq.2.1.1 (hI.2.1.mfr hI.2.2.1 hq.2.2) hI.2.2.1 (scv xs (6 * i + 1)) (scv_rg xs _)) f_L_law_367 mo_X10_walls mv_X10_walls (obn hq.2.1.1 sh10) rfl rfl (Nat.le_of_ble_eq_true rfl) ⟨by decide, by decide⟩ ⟨by omega, by omega⟩ (fun y S2 M2 hr => ?_)
  refine g_eqS f_L_law_370 (hq.1.trans hr.1.symm) ?_
  exact Go.wide (back _ _ _ (LI2.go (S := S) (M := M) hI.2.2.walls hq.2.1 hr.2)) (by omega) (by omega)
theorem lw_c5 {γ : Cg} {Ω : Ow} {nm : String} {Z : State → Prop} {S : Sg} {M : Mm} {s : Wt} {sb L i : Nat} {xs : Nat → Int32} (hγ : cR γ = room_1) (hS : Scr γ Ω sb L xs) (hi : 6 * i + 6 ≤ L) (hI : LI2 S M s) (back : ∀ S M s, LI2 S M s → Go γ Ω (mL nm) Z (116 + 6 * i + 6) (3296 + 144 * i + 144) S M 1255 (lsL Ω sb i) []) : Go γ Ω (mL nm) Z (116 + 6 * i) (3296 + 144 * i) S M 375 (lsL Ω sb i) [] := by
  have hL : L ≤ 3072 := hS.2.2.2.2
  refine g_alv f_L_law_375 rfl ?_
  refine g_arg hS 1 hi (by decide) f_L_law_376 f_L_law_377 f_L_law_378 f_L_law_379 f_L_law_380 ?_
  refine g_arg hS 2 hi (by decide) f_L_law_381 f_L_law_382 f_L_law_383 f_L_law_384 f_L_law_385 ?_
  refine g_arg hS 3 hi (by decide) f_L_law_386 f_L_law_387 f_L_law_388 f_L_law_389 f_L_law_390 ?_
  refine g_lv1 hγ (w_row hI.1 hI.2.2.1 (scv xs (6 * i + 1)) (scv xs (6 * i + 2)) (scv xs (6 * i + 3)) (scv_rg xs _) (scv_rg xs _) (scv_rg xs _)) f_L_law_391 mo_X9_row mv_X9_row (obn hI.1.1 sh9) rfl rfl (Nat.le_of_ble_eq_true rfl) ⟨by decide, by decide⟩ ⟨by omega, by omega⟩ (fun x S1 M1 hq => ?_)
  refine g_alv f_L_law_394 rfl ?_
  refine g_arg hS 1 hi (by decide) f_L_law_395 f_L_law_396 f_L_law_397 f_L_law_398 f_L_law_399 ?_
  refine g_arg hS 2 hi (by decide) f_L_law_400 f_L_law_401 f_L_law_402 f_L_law_403 f_L_law_404 ?_
  refine g_arg hS 3 hi (by decide) f_L_law_405 f_L_law_406 f_L_law_407 f_L_law_408 f_L_law_409 ?_
  refine g_lv1 hγ (m_row hq.2.1.1 (hI.2.1.mfr hI.2.2.1 hq.2.2) hI.2.2.1 (scv xs (6 * i + 1)) (scv xs (6 * i + 2)) (scv xs (6 * i + 3)) (scv_rg xs _) (scv_rg xs _) (scv_rg xs _)) f_L_law_410 mo_X10_row mv_X10_row (obn hq.2.1.1 sh10) rfl rfl (Nat.le_of_ble_eq_true rfl) ⟨by decide, by decide⟩ ⟨by omega, by omega⟩ (fun y S2 M2 hr => ?_)
  refine g_eqS f_L_law_413 (hq.1.trans hr.1.symm) ?_
  exact Go.wide (back _ _ _ (LI2.go (S := S) (M := M) hI.2.2.row hq.2.1 hr.2)) (by omega) (by omega)
theorem lw_c6 {γ : Cg} {Ω : Ow} {nm : String} {Z : State → Prop} {S : Sg} {M : Mm} {s : Wt} {sb L i : Nat} {xs : Nat → Int32} (hγ : cR γ = room_1) (hS : Scr γ Ω sb L xs) (hi : 6 * i + 6 ≤ L) (hI : LI2 S M s) (back : ∀ S M s, LI2 S M s → Go γ Ω (mL nm) Z (116 + 6 * i + 6) (3296 + 144 * i + 144) S M 1255 (lsL Ω sb i) []) : Go γ Ω (mL nm) Z (116 + 6 * i) (3296 + 144 * i) S M 418 (lsL Ω sb i) [] := by
  have hL : L ≤ 3072 := hS.2.2.2.2
  refine g_alv f_L_law_418 rfl ?_
  refine g_arg hS 1 hi (by decide) f_L_law_419 f_L_law_420 f_L_law_421 f_L_law_422 f_L_law_423 ?_
  refine g_lv1 hγ (w_feed hI.1 hI.2.2.1 (scv xs (6 * i + 1)) (scv_rg xs _)) f_L_law_424 mo_X9_feed mv_X9_feed (obn hI.1.1 sh9) rfl rfl (Nat.le_of_ble_eq_true rfl) ⟨by decide, by decide⟩ ⟨by omega, by omega⟩ (fun x S1 M1 hq => ?_)
  refine g_alv f_L_law_427 rfl ?_
  refine g_arg hS 1 hi (by decide) f_L_law_428 f_L_law_429 f_L_law_430 f_L_law_431 f_L_law_432 ?_
  refine g_lv1 hγ (m_feed hq.2.1.1 (hI.2.1.mfr hI.2.2.1 hq.2.2) hI.2.2.1 (scv xs (6 * i + 1)) (scv_rg xs _)) f_L_law_433 mo_X10_feed mv_X10_feed (obn hq.2.1.1 sh10) rfl rfl (Nat.le_of_ble_eq_true rfl) ⟨by decide, by decide⟩ ⟨by omega, by omega⟩ (fun y S2 M2 hr => ?_)
  refine g_eqS f_L_law_436 (hq.1.trans hr.1.symm) ?_
  exact Go.wide (back _ _ _ (LI2.go (S := S) (M := M) hI.2.2.feed hq.2.1 hr.2)) (by omega) (by omega)
theorem lw_c7 {γ : Cg} {Ω : Ow} {nm : String} {Z : State → Prop} {S : Sg} {M : Mm} {s : Wt} {sb L i : Nat} {xs : Nat → Int32} (hγ : cR γ = room_1) (hS : Scr γ Ω sb L xs) (hi : 6 * i + 6 ≤ L) (hI : LI2 S M s) (back : ∀ S M s, LI2 S M s → Go γ Ω (mL nm) Z (116 + 6 * i + 6) (3296 + 144 * i + 144) S M 1255 (lsL Ω sb i) []) : Go γ Ω (mL nm) Z (116 + 6 * i) (3296 + 144 * i) S M 441 (lsL Ω sb i) [] := by
  have hL : L ≤ 3072 := hS.2.2.2.2
  refine g_alv f_L_law_441 rfl ?_
  refine g_lv1 hγ (w_statute hI.1 hI.2.2.1 ) f_L_law_442 mo_X9_statute mv_X9_statute (obn hI.1.1 sh9) rfl rfl (Nat.le_of_ble_eq_true rfl) ⟨by decide, by decide⟩ ⟨by omega, by omega⟩ (fun x S1 M1 hq => ?_)
  refine g_alv f_L_law_445 rfl ?_
  refine g_lv1 hγ (m_statute hq.2.1.1 (hI.2.1.mfr hI.2.2.1 hq.2.2) hI.2.2.1 ) f_L_law_446 mo_X10_statute mv_X10_statute (obn hq.2.1.1 sh10) rfl rfl (Nat.le_of_ble_eq_true rfl) ⟨by decide, by decide⟩ ⟨by omega, by omega⟩ (fun y S2 M2 hr => ?_)
  refine g_eqS f_L_law_449 (hq.1.trans hr.1.symm) ?_
  exact Go.wide (back _ _ _ (LI2.go (S := S) (M := M) hI.2.2.statute hq.2.1 hr.2)) (by omega) (by omega)
theorem lw_c8 {γ : Cg} {Ω : Ow} {nm : String} {Z : State → Prop} {S : Sg} {M : Mm} {s : Wt} {sb L i : Nat} {xs : Nat → Int32} (hγ : cR γ = room_1) (hS : Scr γ Ω sb L xs) (hi : 6 * i + 6 ≤ L) (hI : LI2 S M s) (back : ∀ S M s, LI2 S M s → Go γ Ω (mL nm) Z (116 + 6 * i + 6) (3296 + 144 * i + 144) S M 1255 (lsL Ω sb i) []) : Go γ Ω (mL nm) Z (116 + 6 * i) (3296 + 144 * i) S M 454 (lsL Ω sb i) [] := by
  have hL : L ≤ 3072 := hS.2.2.2.2
  refine g_alv f_L_law_454 rfl ?_
  refine g_arg hS 1 hi (by decide) f_L_law_455 f_L_law_456 f_L_law_457 f_L_law_458 f_L_law_459 ?_
  refine g_lv1 hγ (w_told hI.1 hI.2.2.1 (scv xs (6 * i + 1)) (scv_rg xs _)) f_L_law_460 mo_X9_told mv_X9_told (obn hI.1.1 sh9) rfl rfl (Nat.le_of_ble_eq_true rfl) ⟨by decide, by decide⟩ ⟨by omega, by omega⟩ (fun x S1 M1 hq => ?_)
  refine g_alv f_L_law_463 rfl ?_
  refine g_arg hS 1 hi (by decide) f_L_law_464 f_L_law_465 f_L_law_466 f_L_law_467 f_L_law_468 ?_
  refine g_lv1 hγ (m_told hq.2.1.1 (hI.2.1.mfr hI.2.2.1 hq.2.2) hI.2.2.1 (scv xs (6 * i + 1)) (scv_rg xs _)) f_L_law_469 mo_X10_told mv_X10_told (obn hq.2.1.1 sh10) rfl rfl (Nat.le_of_ble_eq_true rfl) ⟨by decide, by decide⟩ ⟨by omega, by omega⟩ (fun y S2 M2 hr => ?_)
  refine g_eqS f_L_law_472 (hq.1.trans hr.1.symm) ?_
  exact Go.wide (back _ _ _ (LI2.go (S := S) (M := M) hI.2.2 hq.2.1 hr.2)) (by omega) (by omega)
theorem lw_c9 {γ : Cg} {Ω : Ow} {nm : String} {Z : State → Prop} {S : Sg} {M : Mm} {s : Wt} {sb L i : Nat} {xs : Nat → Int32} (hγ : cR γ = room_1) (hS : Scr γ Ω sb L xs) (hi : 6 * i + 6 ≤ L) (hI : LI2 S M s) (back : ∀ S M s, LI2 S M s → Go γ Ω (mL nm) Z (116 + 6 * i + 6) (3296 + 144 * i + 144) S M 1255 (lsL Ω sb i) []) : Go γ Ω (mL nm) Z (116 + 6 * i) (3296 + 144 * i) S M 477 (lsL Ω sb i) [] := by
  have hL : L ≤ 3072 := hS.2.2.2.2
  refine g_alv f_L_law_477 rfl ?_
  refine g_arg hS 1 hi (by decide) f_L_law_478 f_L_law_479 f_L_law_480 f_L_law_481 f_L_law_482 ?_
  refine g_lv1 hγ (w_deed hI.1 hI.2.2.1 (scv xs (6 * i + 1)) (scv_rg xs _)) f_L_law_483 mo_X9_deed mv_X9_deed (obn hI.1.1 sh9) rfl rfl (Nat.le_of_ble_eq_true rfl) ⟨by decide, by decide⟩ ⟨by omega, by omega⟩ (fun x S1 M1 hq => ?_)
  refine g_alv f_L_law_486 rfl ?_
  refine g_arg hS 1 hi (by decide) f_L_law_487 f_L_law_488 f_L_law_489 f_L_law_490 f_L_law_491 ?_
  refine g_lv1 hγ (m_deed hq.2.1.1 (hI.2.1.mfr hI.2.2.1 hq.2.2) hI.2.2.1 (scv xs (6 * i + 1)) (scv_rg xs _)) f_L_law_492 mo_X10_deed mv_X10_deed (obn hq.2.1.1 sh10) rfl rfl (Nat.le_of_ble_eq_true rfl) ⟨by decide, by decide⟩ ⟨by omega, by omega⟩ (fun y S2 M2 hr => ?_)
  refine g_eqS f_L_law_495 (hq.1.trans hr.1.symm) ?_
  exact Go.wide (back _ _ _ (LI2.go (S := S) (M := M) hI.2.2.deed hq.2.1 hr.2)) (by omega) (by omega)
theorem lw_c10 {γ : Cg} {Ω : Ow} {nm : String} {Z : State → Prop} {S : Sg} {M : Mm} {s : Wt} {sb L i : Nat} {xs : Nat → Int32} (hγ : cR γ = room_1) (hS : Scr γ Ω sb L xs) (hi : 6 * i + 6 ≤ L) (hI : LI2 S M s) (back : ∀ S M s, LI2 S M s → Go γ Ω (mL nm) Z (116 + 6 * i + 6) (3296 + 144 * i + 144) S M 1255 (lsL Ω sb i) []) : Go γ Ω (mL nm) Z (116 + 6 * i) (3296 + 144 * i) S M 500 (lsL Ω sb i) [] := by
  have hL : L ≤ 3072 := hS.2.2.2.2
  refine g_alv f_L_law_500 rfl ?_
  refine g_arg hS 1 hi (by decide) f_L_law_501 f_L_law_502 f_L_law_503 f_L_law_504 f_L_law_505 ?_
  refine g_lv1 hγ (w_pass hI.1 hI.2.2.1 (scv xs (6 * i + 1)) (scv_rg xs _)) f_L_law_506 mo_X9_pass mv_X9_pass (obn hI.1.1 sh9) rfl rfl (Nat.le_of_ble_eq_true rfl) ⟨by decide, by decide⟩ ⟨by omega, by omega⟩ (fun x S1 M1 hq => ?_)
  refine g_alv f_L_law_509 rfl ?_
  refine g_arg hS 1 hi (by decide) f_L_law_510 f_L_law_511 f_L_law_512 f_L_law_513 f_L_law_514 ?_
  refine g_lv1 hγ (m_pass hq.2.1.1 (hI.2.1.mfr hI.2.2.1 hq.2.2) hI.2.2.1 (scv xs (6 * i + 1)) (scv_rg xs _)) f_L_law_515 mo_X10_pass mv_X10_pass (obn hq.2.1.1 sh10) rfl rfl (Nat.le_of_ble_eq_true rfl) ⟨by decide, by decide⟩ ⟨by omega, by omega⟩ (fun y S2 M2 hr => ?_)
  refine g_eqS f_L_law_518 (hq.1.trans hr.1.symm) ?_
  exact Go.wide (back _ _ _ (LI2.go (S := S) (M := M) hI.2.2.pass hq.2.1 hr.2)) (by omega) (by omega)
theorem lw_c11 {γ : Cg} {Ω : Ow} {nm : String} {Z : State → Prop} {S : Sg} {M : Mm} {s : Wt} {sb L i : Nat} {xs : Nat → Int32} (hγ : cR γ = room_1) (hS : Scr γ Ω sb L xs) (hi : 6 * i + 6 ≤ L) (hI : LI2 S M s) (back : ∀ S M s, LI2 S M s → Go γ Ω (mL nm) Z (116 + 6 * i + 6) (3296 + 144 * i + 144) S M 1255 (lsL Ω sb i) []) : Go γ Ω (mL nm) Z (116 + 6 * i) (3296 + 144 * i) S M 523 (lsL Ω sb i) [] := by
  have hL : L ≤ 3072 := hS.2.2.2.2
  refine g_alv f_L_law_523 rfl ?_
  refine g_arg hS 1 hi (by decide) f_L_law_524 f_L_law_525 f_L_law_526 f_L_law_527 f_L_law_528 ?_
  refine g_arg hS 2 hi (by decide) f_L_law_529 f_L_law_530 f_L_law_531 f_L_law_532 f_L_law_533 ?_
  refine g_lv1 hγ (w_at hI.1 hI.2.2.1 (scv xs (6 * i + 1)) (scv xs (6 * i + 2)) (scv_rg xs _) (scv_rg xs _)) f_L_law_534 mo_X9_at mv_X9_at (obn hI.1.1 sh9) rfl rfl (Nat.le_of_ble_eq_true rfl) ⟨by decide, by decide⟩ ⟨by omega, by omega⟩ (fun x S1 M1 hq => ?_)
  refine g_alv f_L_law_537 rfl ?_
  refine g_arg hS 1 hi (by decide) f_L_law_538 f_L_law_539 f_L_law_540 f_L_law_541 f_L_law_542 ?_
  refine g_arg hS 2 hi (by decide) f_L_law_543 f_L_law_544 f_L_law_545 f_L_law_546 f_L_law_547 ?_
  refine g_lv1 hγ (m_at hq.2.1.1 (hI.2.1.mfr hI.2.2.1 hq.2.2) hI.2.2.1 (scv xs (6 * i + 1)) (scv xs (6 * i + 2)) (scv_rg xs _) (scv_rg xs _)) f_L_law_548 mo_X10_at mv_X10_at (obn hq.2.1.1 sh10) rfl rfl (Nat.le_of_ble_eq_true rfl) ⟨by decide, by decide⟩ ⟨by omega, by omega⟩ (fun y S2 M2 hr => ?_)
  refine g_eqS f_L_law_551 (hq.1.trans hr.1.symm) ?_
  exact Go.wide (back _ _ _ (LI2.go (S := S) (M := M) hI.2.2 hq.2.1 hr.2)) (by omega) (by omega)
theorem lw_c12 {γ : Cg} {Ω : Ow} {nm : String} {Z : State → Prop} {S : Sg} {M : Mm} {s : Wt} {sb L i : Nat} {xs : Nat → Int32} (hγ : cR γ = room_1) (hS : Scr γ Ω sb L xs) (hi : 6 * i + 6 ≤ L) (hI : LI2 S M s) (back : ∀ S M s, LI2 S M s → Go γ Ω (mL nm) Z (116 + 6 * i + 6) (3296 + 144 * i + 144) S M 1255 (lsL Ω sb i) []) : Go γ Ω (mL nm) Z (116 + 6 * i) (3296 + 144 * i) S M 556 (lsL Ω sb i) [] := by
  have hL : L ≤ 3072 := hS.2.2.2.2
  refine g_alv f_L_law_556 rfl ?_
  refine g_arg hS 1 hi (by decide) f_L_law_557 f_L_law_558 f_L_law_559 f_L_law_560 f_L_law_561 ?_
  refine g_arg hS 2 hi (by decide) f_L_law_562 f_L_law_563 f_L_law_564 f_L_law_565 f_L_law_566 ?_
  refine g_lv1 hγ (w_share hI.1 hI.2.2.1 (scv xs (6 * i + 1)) (scv xs (6 * i + 2)) (scv_rg xs _) (scv_rg xs _)) f_L_law_567 mo_X9_share mv_X9_share (obn hI.1.1 sh9) rfl rfl (Nat.le_of_ble_eq_true rfl) ⟨by decide, by decide⟩ ⟨by omega, by omega⟩ (fun x S1 M1 hq => ?_)
  refine g_alv f_L_law_570 rfl ?_
  refine g_arg hS 1 hi (by decide) f_L_law_571 f_L_law_572 f_L_law_573 f_L_law_574 f_L_law_575 ?_
  refine g_arg hS 2 hi (by decide) f_L_law_576 f_L_law_577 f_L_law_578 f_L_law_579 f_L_law_580 ?_
  refine g_lv1 hγ (m_share hq.2.1.1 (hI.2.1.mfr hI.2.2.1 hq.2.2) hI.2.2.1 (scv xs (6 * i + 1)) (scv xs (6 * i + 2)) (scv_rg xs _) (scv_rg xs _)) f_L_law_581 mo_X10_share mv_X10_share (obn hq.2.1.1 sh10) rfl rfl (Nat.le_of_ble_eq_true rfl) ⟨by decide, by decide⟩ ⟨by omega, by omega⟩ (fun y S2 M2 hr => ?_)
  refine g_eqS f_L_law_584 (hq.1.trans hr.1.symm) ?_
  exact Go.wide (back _ _ _ (LI2.go (S := S) (M := M) hI.2.2 hq.2.1 hr.2)) (by omega) (by omega)
theorem lw_c13 {γ : Cg} {Ω : Ow} {nm : String} {Z : State → Prop} {S : Sg} {M : Mm} {s : Wt} {sb L i : Nat} {xs : Nat → Int32} (hγ : cR γ = room_1) (hS : Scr γ Ω sb L xs) (hi : 6 * i + 6 ≤ L) (hI : LI2 S M s) (back : ∀ S M s, LI2 S M s → Go γ Ω (mL nm) Z (116 + 6 * i + 6) (3296 + 144 * i + 144) S M 1255 (lsL Ω sb i) []) : Go γ Ω (mL nm) Z (116 + 6 * i) (3296 + 144 * i) S M 589 (lsL Ω sb i) [] := by
  have hL : L ≤ 3072 := hS.2.2.2.2
  refine g_alv f_L_law_589 rfl ?_
  refine g_arg hS 1 hi (by decide) f_L_law_590 f_L_law_591 f_L_law_592 f_L_law_593 f_L_law_594 ?_
  refine g_arg hS 2 hi (by decide) f_L_law_595 f_L_law_596 f_L_law_597 f_L_law_598 f_L_law_599 ?_
  refine g_arg hS 3 hi (by decide) f_L_law_600 f_L_law_601 f_L_law_602 f_L_law_603 f_L_law_604 ?_
  refine g_lv1 hγ (w_see hI.1 hI.2.2.1 (scv xs (6 * i + 1)) (scv xs (6 * i + 2)) (scv xs (6 * i + 3)) (scv_rg xs _) (scv_rg xs _) (scv_rg xs _)) f_L_law_605 mo_X9_see mv_X9_see (obn hI.1.1 sh9) rfl rfl (Nat.le_of_ble_eq_true rfl) ⟨by decide, by decide⟩ ⟨by omega, by omega⟩ (fun x S1 M1 hq => ?_)
  refine g_alv f_L_law_608 rfl ?_
  refine g_arg hS 1 hi (by decide) f_L_law_609 f_L_law_610 f_L_law_611 f_L_law_612 f_L_law_613 ?_
  refine g_arg hS 2 hi (by decide) f_L_law_614 f_L_law_615 f_L_law_616 f_L_law_617 f_L_law_618 ?_
  refine g_arg hS 3 hi (by decide) f_L_law_619 f_L_law_620 f_L_law_621 f_L_law_622 f_L_law_623 ?_
  refine g_lv1 hγ (m_see hq.2.1.1 (hI.2.1.mfr hI.2.2.1 hq.2.2) hI.2.2.1 (scv xs (6 * i + 1)) (scv xs (6 * i + 2)) (scv xs (6 * i + 3)) (scv_rg xs _) (scv_rg xs _) (scv_rg xs _)) f_L_law_624 mo_X10_see mv_X10_see (obn hq.2.1.1 sh10) rfl rfl (Nat.le_of_ble_eq_true rfl) ⟨by decide, by decide⟩ ⟨by omega, by omega⟩ (fun y S2 M2 hr => ?_)
  refine g_eqS f_L_law_627 (hq.1.trans hr.1.symm) ?_
  exact Go.wide (back _ _ _ (LI2.go (S := S) (M := M) hI.2.2.see hq.2.1 hr.2)) (by omega) (by omega)
theorem lw_c14 {γ : Cg} {Ω : Ow} {nm : String} {Z : State → Prop} {S : Sg} {M : Mm} {s : Wt} {sb L i : Nat} {xs : Nat → Int32} (hγ : cR γ = room_1) (hS : Scr γ Ω sb L xs) (hi : 6 * i + 6 ≤ L) (hI : LI2 S M s) (back : ∀ S M s, LI2 S M s → Go γ Ω (mL nm) Z (116 + 6 * i + 6) (3296 + 144 * i + 144) S M 1255 (lsL Ω sb i) []) : Go γ Ω (mL nm) Z (116 + 6 * i) (3296 + 144 * i) S M 632 (lsL Ω sb i) [] := by
  have hL : L ≤ 3072 := hS.2.2.2.2
  refine g_alv f_L_law_632 rfl ?_
  refine g_lv1 hγ (w_wrong hI.1 hI.2.2.1 ) f_L_law_633 mo_X9_wrong mv_X9_wrong (obn hI.1.1 sh9) rfl rfl (Nat.le_of_ble_eq_true rfl) ⟨by decide, by decide⟩ ⟨by omega, by omega⟩ (fun x S1 M1 hq => ?_)
  refine g_alv f_L_law_636 rfl ?_
  refine g_lv1 hγ (m_wrong hq.2.1.1 (hI.2.1.mfr hI.2.2.1 hq.2.2) hI.2.2.1 ) f_L_law_637 mo_X10_wrong mv_X10_wrong (obn hq.2.1.1 sh10) rfl rfl (Nat.le_of_ble_eq_true rfl) ⟨by decide, by decide⟩ ⟨by omega, by omega⟩ (fun y S2 M2 hr => ?_)
  refine g_eqS f_L_law_640 (hq.1.trans hr.1.symm) ?_
  exact Go.wide (back _ _ _ (LI2.go (S := S) (M := M) hI.2.2 hq.2.1 hr.2)) (by omega) (by omega)
theorem lw_c15 {γ : Cg} {Ω : Ow} {nm : String} {Z : State → Prop} {S : Sg} {M : Mm} {s : Wt} {sb L i : Nat} {xs : Nat → Int32} (hγ : cR γ = room_1) (hS : Scr γ Ω sb L xs) (hi : 6 * i + 6 ≤ L) (hI : LI2 S M s) (back : ∀ S M s, LI2 S M s → Go γ Ω (mL nm) Z (116 + 6 * i + 6) (3296 + 144 * i + 144) S M 1255 (lsL Ω sb i) []) : Go γ Ω (mL nm) Z (116 + 6 * i) (3296 + 144 * i) S M 645 (lsL Ω sb i) [] := by
  have hL : L ≤ 3072 := hS.2.2.2.2
  refine g_alv f_L_law_645 rfl ?_
  refine g_arg hS 1 hi (by decide) f_L_law_646 f_L_law_647 f_L_law_648 f_L_law_649 f_L_law_650 ?_
  refine g_lv1 hγ (w_from hI.1 hI.2.2.1 (scv xs (6 * i + 1)) (scv_rg xs _)) f_L_law_651 mo_X9_from mv_X9_from (obn hI.1.1 sh9) rfl rfl (Nat.le_of_ble_eq_true rfl) ⟨by decide, by decide⟩ ⟨by omega, by omega⟩ (fun x S1 M1 hq => ?_)
  refine g_alv f_L_law_654 rfl ?_
  refine g_arg hS 1 hi (by decide) f_L_law_655 f_L_law_656 f_L_law_657 f_L_law_658 f_L_law_659 ?_
  refine g_lv1 hγ (m_from hq.2.1.1 (hI.2.1.mfr hI.2.2.1 hq.2.2) hI.2.2.1 (scv xs (6 * i + 1)) (scv_rg xs _)) f_L_law_660 mo_X10_from mv_X10_from (obn hq.2.1.1 sh10) rfl rfl (Nat.le_of_ble_eq_true rfl) ⟨by decide, by decide⟩ ⟨by omega, by omega⟩ (fun y S2 M2 hr => ?_)
  refine g_eqS f_L_law_663 (hq.1.trans hr.1.symm) ?_
  exact Go.wide (back _ _ _ (LI2.go (S := S) (M := M) hI.2.2 hq.2.1 hr.2)) (by omega) (by omega)
theorem lw_c16 {γ : Cg} {Ω : Ow} {nm : String} {Z : State → Prop} {S : Sg} {M : Mm} {s : Wt} {sb L i : Nat} {xs : Nat → Int32} (hγ : cR γ = room_1) (hS : Scr γ Ω sb L xs) (hi : 6 * i + 6 ≤ L) (hI : LI2 S M s) (back : ∀ S M s, LI2 S M s → Go γ Ω (mL nm) Z (116 + 6 * i + 6) (3296 + 144 * i + 144) S M 1255 (lsL Ω sb i) []) : Go γ Ω (mL nm) Z (116 + 6 * i) (3296 + 144 * i) S M 668 (lsL Ω sb i) [] := by
  have hL : L ≤ 3072 := hS.2.2.2.2
  refine g_alv f_L_law_668 rfl ?_
  refine g_arg hS 1 hi (by decide) f_L_law_669 f_L_law_670 f_L_law_671 f_L_law_672 f_L_law_673 ?_
  refine g_arg hS 2 hi (by decide) f_L_law_674 f_L_law_675 f_L_law_676 f_L_law_677 f_L_law_678 ?_
  refine g_lv1 hγ (w_can hI.1 hI.2.2.1 (scv xs (6 * i + 1)) (scv xs (6 * i + 2)) (scv_rg xs _) (scv_rg xs _)) f_L_law_679 mo_X9_can mv_X9_can (obn hI.1.1 sh9) rfl rfl (Nat.le_of_ble_eq_true rfl) ⟨by decide, by decide⟩ ⟨by omega, by omega⟩ (fun x S1 M1 hq => ?_)
  refine g_alv f_L_law_682 rfl ?_
  refine g_arg hS 1 hi (by decide) f_L_law_683 f_L_law_684 f_L_law_685 f_L_law_686 f_L_law_687 ?_
  refine g_arg hS 2 hi (by decide) f_L_law_688 f_L_law_689 f_L_law_690 f_L_law_691 f_L_law_692 ?_
  refine g_lv1 hγ (m_can hq.2.1.1 (hI.2.1.mfr hI.2.2.1 hq.2.2) hI.2.2.1 (scv xs (6 * i + 1)) (scv xs (6 * i + 2)) (scv_rg xs _) (scv_rg xs _)) f_L_law_693 mo_X10_can mv_X10_can (obn hq.2.1.1 sh10) rfl rfl (Nat.le_of_ble_eq_true rfl) ⟨by decide, by decide⟩ ⟨by omega, by omega⟩ (fun y S2 M2 hr => ?_)
  refine g_eqS f_L_law_696 (hq.1.trans hr.1.symm) ?_
  exact Go.wide (back _ _ _ (LI2.go (S := S) (M := M) hI.2.2 hq.2.1 hr.2)) (by omega) (by omega)
theorem lw_c17 {γ : Cg} {Ω : Ow} {nm : String} {Z : State → Prop} {S : Sg} {M : Mm} {s : Wt} {sb L i : Nat} {xs : Nat → Int32} (hγ : cR γ = room_1) (hS : Scr γ Ω sb L xs) (hi : 6 * i + 6 ≤ L) (hI : LI2 S M s) (back : ∀ S M s, LI2 S M s → Go γ Ω (mL nm) Z (116 + 6 * i + 6) (3296 + 144 * i + 144) S M 1255 (lsL Ω sb i) []) : Go γ Ω (mL nm) Z (116 + 6 * i) (3296 + 144 * i) S M 701 (lsL Ω sb i) [] := by
  have hL : L ≤ 3072 := hS.2.2.2.2
  refine g_alv f_L_law_701 rfl ?_
  refine g_arg hS 1 hi (by decide) f_L_law_702 f_L_law_703 f_L_law_704 f_L_law_705 f_L_law_706 ?_
  refine g_arg hS 2 hi (by decide) f_L_law_707 f_L_law_708 f_L_law_709 f_L_law_710 f_L_law_711 ?_
  refine g_lv2 hγ (w_odds hI.1 hI.2.2.1 (scv xs (6 * i + 1)) (scv xs (6 * i + 2)) (scv_rg xs _) (scv_rg xs _)) f_L_law_712 mo_X9_odds mv_X9_odds (obn hI.1.1 sh9) rfl rfl (Nat.le_of_ble_eq_true rfl) ⟨by decide, by decide⟩ ⟨by omega, by omega⟩ (fun x S1 M1 hq => ?_)
  refine g_alv f_L_law_715 rfl ?_
  refine g_arg hS 1 hi (by decide) f_L_law_716 f_L_law_717 f_L_law_718 f_L_law_719 f_L_law_720 ?_
  refine g_arg hS 2 hi (by decide) f_L_law_721 f_L_law_722 f_L_law_723 f_L_law_724 f_L_law_725 ?_
  refine g_lv2 hγ (m_odds hq.2.1.1 (hI.2.1.mfr hI.2.2.1 hq.2.2) hI.2.2.1 (scv xs (6 * i + 1)) (scv xs (6 * i + 2)) (scv_rg xs _) (scv_rg xs _)) f_L_law_726 mo_X10_odds mv_X10_odds (obn hq.2.1.1 sh10) rfl rfl (Nat.le_of_ble_eq_true rfl) ⟨by decide, by decide⟩ ⟨by omega, by omega⟩ (fun y S2 M2 hr => ?_)
  refine g_eqL f_L_law_729 f_L_law_730 (hq.1.trans hr.1.symm) ?_
  exact Go.wide (back _ _ _ (LI2.go (S := S) (M := M) hI.2.2 hq.2.1 hr.2)) (by omega) (by omega)
theorem lw_c18 {γ : Cg} {Ω : Ow} {nm : String} {Z : State → Prop} {S : Sg} {M : Mm} {s : Wt} {sb L i : Nat} {xs : Nat → Int32} (hγ : cR γ = room_1) (hS : Scr γ Ω sb L xs) (hi : 6 * i + 6 ≤ L) (hI : LI2 S M s) (back : ∀ S M s, LI2 S M s → Go γ Ω (mL nm) Z (116 + 6 * i + 6) (3296 + 144 * i + 144) S M 1255 (lsL Ω sb i) []) : Go γ Ω (mL nm) Z (116 + 6 * i) (3296 + 144 * i) S M 735 (lsL Ω sb i) [] := by
  have hL : L ≤ 3072 := hS.2.2.2.2
  refine g_alv f_L_law_735 rfl ?_
  refine g_arg hS 1 hi (by decide) f_L_law_736 f_L_law_737 f_L_law_738 f_L_law_739 f_L_law_740 ?_
  refine g_lv2 hγ (w_mean hI.1 hI.2.2.1 (scv xs (6 * i + 1)) (scv_rg xs _)) f_L_law_741 mo_X9_mean mv_X9_mean (obn hI.1.1 sh9) rfl rfl (Nat.le_of_ble_eq_true rfl) ⟨by decide, by decide⟩ ⟨by omega, by omega⟩ (fun x S1 M1 hq => ?_)
  refine g_alv f_L_law_744 rfl ?_
  refine g_arg hS 1 hi (by decide) f_L_law_745 f_L_law_746 f_L_law_747 f_L_law_748 f_L_law_749 ?_
  refine g_lv2 hγ (m_mean hq.2.1.1 (hI.2.1.mfr hI.2.2.1 hq.2.2) hI.2.2.1 (scv xs (6 * i + 1)) (scv_rg xs _)) f_L_law_750 mo_X10_mean mv_X10_mean (obn hq.2.1.1 sh10) rfl rfl (Nat.le_of_ble_eq_true rfl) ⟨by decide, by decide⟩ ⟨by omega, by omega⟩ (fun y S2 M2 hr => ?_)
  refine g_eqL f_L_law_753 f_L_law_754 (hq.1.trans hr.1.symm) ?_
  exact Go.wide (back _ _ _ (LI2.go (S := S) (M := M) hI.2.2 hq.2.1 hr.2)) (by omega) (by omega)
theorem lw_c19 {γ : Cg} {Ω : Ow} {nm : String} {Z : State → Prop} {S : Sg} {M : Mm} {s : Wt} {sb L i : Nat} {xs : Nat → Int32} (hγ : cR γ = room_1) (hS : Scr γ Ω sb L xs) (hi : 6 * i + 6 ≤ L) (hI : LI2 S M s) (back : ∀ S M s, LI2 S M s → Go γ Ω (mL nm) Z (116 + 6 * i + 6) (3296 + 144 * i + 144) S M 1255 (lsL Ω sb i) []) : Go γ Ω (mL nm) Z (116 + 6 * i) (3296 + 144 * i) S M 759 (lsL Ω sb i) [] := by
  have hL : L ≤ 3072 := hS.2.2.2.2
  refine g_alv f_L_law_759 rfl ?_
  refine g_arg hS 1 hi (by decide) f_L_law_760 f_L_law_761 f_L_law_762 f_L_law_763 f_L_law_764 ?_
  refine g_arg hS 2 hi (by decide) f_L_law_765 f_L_law_766 f_L_law_767 f_L_law_768 f_L_law_769 ?_
  refine g_lv1 hγ (w_plan hI.1 hI.2.2.1 (scv xs (6 * i + 1)) (scv xs (6 * i + 2)) (scv_rg xs _) (scv_rg xs _)) f_L_law_770 mo_X9_plan mv_X9_plan (obn hI.1.1 sh9) rfl rfl (Nat.le_of_ble_eq_true rfl) ⟨by decide, by decide⟩ ⟨by omega, by omega⟩ (fun x S1 M1 hq => ?_)
  refine g_alv f_L_law_773 rfl ?_
  refine g_arg hS 1 hi (by decide) f_L_law_774 f_L_law_775 f_L_law_776 f_L_law_777 f_L_law_778 ?_
  refine g_arg hS 2 hi (by decide) f_L_law_779 f_L_law_780 f_L_law_781 f_L_law_782 f_L_law_783 ?_
  refine g_lv1 hγ (m_plan hq.2.1.1 (hI.2.1.mfr hI.2.2.1 hq.2.2) hI.2.2.1 (scv xs (6 * i + 1)) (scv xs (6 * i + 2)) (scv_rg xs _) (scv_rg xs _)) f_L_law_784 mo_X10_plan mv_X10_plan (obn hq.2.1.1 sh10) rfl rfl (Nat.le_of_ble_eq_true rfl) ⟨by decide, by decide⟩ ⟨by omega, by omega⟩ (fun y S2 M2 hr => ?_)
  refine g_eqS f_L_law_787 (hq.1.trans hr.1.symm) ?_
  exact Go.wide (back _ _ _ (LI2.go (S := S) (M := M) (hI.2.2.plan (scv_rg xs _)) hq.2.1 hr.2)) (by omega) (by omega)
theorem lw_c20 {γ : Cg} {Ω : Ow} {nm : String} {Z : State → Prop} {S : Sg} {M : Mm} {s : Wt} {sb L i : Nat} {xs : Nat → Int32} (hγ : cR γ = room_1) (hS : Scr γ Ω sb L xs) (hi : 6 * i + 6 ≤ L) (hI : LI2 S M s) (back : ∀ S M s, LI2 S M s → Go γ Ω (mL nm) Z (116 + 6 * i + 6) (3296 + 144 * i + 144) S M 1255 (lsL Ω sb i) []) : Go γ Ω (mL nm) Z (116 + 6 * i) (3296 + 144 * i) S M 792 (lsL Ω sb i) [] := by
  have hL : L ≤ 3072 := hS.2.2.2.2
  refine g_alv f_L_law_792 rfl ?_
  refine g_arg hS 1 hi (by decide) f_L_law_793 f_L_law_794 f_L_law_795 f_L_law_796 f_L_law_797 ?_
  refine g_lv1 hγ (w_ends hI.1 hI.2.2.1 (scv xs (6 * i + 1)) (scv_rg xs _)) f_L_law_798 mo_X9_ends mv_X9_ends (obn hI.1.1 sh9) rfl rfl (Nat.le_of_ble_eq_true rfl) ⟨by decide, by decide⟩ ⟨by omega, by omega⟩ (fun x S1 M1 hq => ?_)
  refine g_alv f_L_law_801 rfl ?_
  refine g_arg hS 1 hi (by decide) f_L_law_802 f_L_law_803 f_L_law_804 f_L_law_805 f_L_law_806 ?_
  refine g_lv1 hγ (m_ends hq.2.1.1 (hI.2.1.mfr hI.2.2.1 hq.2.2) hI.2.2.1 (scv xs (6 * i + 1)) (scv_rg xs _)) f_L_law_807 mo_X10_ends mv_X10_ends (obn hq.2.1.1 sh10) rfl rfl (Nat.le_of_ble_eq_true rfl) ⟨by decide, by decide⟩ ⟨by omega, by omega⟩ (fun y S2 M2 hr => ?_)
  refine g_eqS f_L_law_810 (hq.1.trans hr.1.symm) ?_
  exact Go.wide (back _ _ _ (LI2.go (S := S) (M := M) hI.2.2 hq.2.1 hr.2)) (by omega) (by omega)
theorem lw_c21 {γ : Cg} {Ω : Ow} {nm : String} {Z : State → Prop} {S : Sg} {M : Mm} {s : Wt} {sb L i : Nat} {xs : Nat → Int32} (hγ : cR γ = room_1) (hS : Scr γ Ω sb L xs) (hi : 6 * i + 6 ≤ L) (hI : LI2 S M s) (back : ∀ S M s, LI2 S M s → Go γ Ω (mL nm) Z (116 + 6 * i + 6) (3296 + 144 * i + 144) S M 1255 (lsL Ω sb i) []) : Go γ Ω (mL nm) Z (116 + 6 * i) (3296 + 144 * i) S M 815 (lsL Ω sb i) [] := by
  have hL : L ≤ 3072 := hS.2.2.2.2
  refine g_alv f_L_law_815 rfl ?_
  refine g_arg hS 1 hi (by decide) f_L_law_816 f_L_law_817 f_L_law_818 f_L_law_819 f_L_law_820 ?_
  refine g_arg hS 2 hi (by decide) f_L_law_821 f_L_law_822 f_L_law_823 f_L_law_824 f_L_law_825 ?_
  refine g_lv1 hγ (w_book hI.1 hI.2.2.1 (scv xs (6 * i + 1)) (scv xs (6 * i + 2)) (scv_rg xs _) (scv_rg xs _)) f_L_law_826 mo_X9_book mv_X9_book (obn hI.1.1 sh9) rfl rfl (Nat.le_of_ble_eq_true rfl) ⟨by decide, by decide⟩ ⟨by omega, by omega⟩ (fun x S1 M1 hq => ?_)
  refine g_alv f_L_law_829 rfl ?_
  refine g_arg hS 1 hi (by decide) f_L_law_830 f_L_law_831 f_L_law_832 f_L_law_833 f_L_law_834 ?_
  refine g_arg hS 2 hi (by decide) f_L_law_835 f_L_law_836 f_L_law_837 f_L_law_838 f_L_law_839 ?_
  refine g_lv1 hγ (m_book hq.2.1.1 (hI.2.1.mfr hI.2.2.1 hq.2.2) hI.2.2.1 (scv xs (6 * i + 1)) (scv xs (6 * i + 2)) (scv_rg xs _) (scv_rg xs _)) f_L_law_840 mo_X10_book mv_X10_book (obn hq.2.1.1 sh10) rfl rfl (Nat.le_of_ble_eq_true rfl) ⟨by decide, by decide⟩ ⟨by omega, by omega⟩ (fun y S2 M2 hr => ?_)
  refine g_eqS f_L_law_843 (hq.1.trans hr.1.symm) ?_
  exact Go.wide (back _ _ _ (LI2.go (S := S) (M := M) hI.2.2.book hq.2.1 hr.2)) (by omega) (by omega)
theorem lw_c22 {γ : Cg} {Ω : Ow} {nm : String} {Z : State → Prop} {S : Sg} {M : Mm} {s : Wt} {sb L i : Nat} {xs : Nat → Int32} (hγ : cR γ = room_1) (hS : Scr γ Ω sb L xs) (hi : 6 * i + 6 ≤ L) (hI : LI2 S M s) (back : ∀ S M s, LI2 S M s → Go γ Ω (mL nm) Z (116 + 6 * i + 6) (3296 + 144 * i + 144) S M 1255 (lsL Ω sb i) []) : Go γ Ω (mL nm) Z (116 + 6 * i) (3296 + 144 * i) S M 848 (lsL Ω sb i) [] := by
  have hL : L ≤ 3072 := hS.2.2.2.2
  refine g_alv f_L_law_848 rfl ?_
  refine g_lv1 hγ (w_looked hI.1 hI.2.2.1 ) f_L_law_849 mo_X9_looked mv_X9_looked (obn hI.1.1 sh9) rfl rfl (Nat.le_of_ble_eq_true rfl) ⟨by decide, by decide⟩ ⟨by omega, by omega⟩ (fun x S1 M1 hq => ?_)
  refine g_alv f_L_law_852 rfl ?_
  refine g_lv1 hγ (m_looked hq.2.1.1 (hI.2.1.mfr hI.2.2.1 hq.2.2) hI.2.2.1 hI.2.2.2.1) f_L_law_853 mo_X10_looked mv_X10_looked (obn hq.2.1.1 sh10) rfl rfl (Nat.le_of_ble_eq_true rfl) ⟨by decide, by decide⟩ ⟨by omega, by omega⟩ (fun y S2 M2 hr => ?_)
  refine g_eqS f_L_law_856 (hq.1.trans hr.1.symm) ?_
  exact Go.wide (back _ _ _ (LI2.go (S := S) (M := M) hI.2.2 hq.2.1 hr.2)) (by omega) (by omega)
theorem lw_c23 {γ : Cg} {Ω : Ow} {nm : String} {Z : State → Prop} {S : Sg} {M : Mm} {s : Wt} {sb L i : Nat} {xs : Nat → Int32} (hγ : cR γ = room_1) (hS : Scr γ Ω sb L xs) (hi : 6 * i + 6 ≤ L) (hI : LI2 S M s) (back : ∀ S M s, LI2 S M s → Go γ Ω (mL nm) Z (116 + 6 * i + 6) (3296 + 144 * i + 144) S M 1255 (lsL Ω sb i) []) : Go γ Ω (mL nm) Z (116 + 6 * i) (3296 + 144 * i) S M 861 (lsL Ω sb i) [] := by
  have hL : L ≤ 3072 := hS.2.2.2.2
  refine g_alv f_L_law_861 rfl ?_
  refine g_arg hS 1 hi (by decide) f_L_law_862 f_L_law_863 f_L_law_864 f_L_law_865 f_L_law_866 ?_
  refine g_arg hS 2 hi (by decide) f_L_law_867 f_L_law_868 f_L_law_869 f_L_law_870 f_L_law_871 ?_
  refine g_lv1 hγ (w_judge hI.1 hI.2.2.1 (scv xs (6 * i + 1)) (scv xs (6 * i + 2)) (scv_rg xs _) (scv_rg xs _)) f_L_law_872 mo_X9_judge mv_X9_judge (obn hI.1.1 sh9) rfl rfl (Nat.le_of_ble_eq_true rfl) ⟨by decide, by decide⟩ ⟨by omega, by omega⟩ (fun x S1 M1 hq => ?_)
  refine g_alv f_L_law_875 rfl ?_
  refine g_arg hS 1 hi (by decide) f_L_law_876 f_L_law_877 f_L_law_878 f_L_law_879 f_L_law_880 ?_
  refine g_arg hS 2 hi (by decide) f_L_law_881 f_L_law_882 f_L_law_883 f_L_law_884 f_L_law_885 ?_
  refine g_lv1 hγ (m_judge hq.2.1.1 (hI.2.1.mfr hI.2.2.1 hq.2.2) hI.2.2.1 (scv xs (6 * i + 1)) (scv xs (6 * i + 2)) (scv_rg xs _) (scv_rg xs _)) f_L_law_886 mo_X10_judge mv_X10_judge (obn hq.2.1.1 sh10) rfl rfl (Nat.le_of_ble_eq_true rfl) ⟨by decide, by decide⟩ ⟨by omega, by omega⟩ (fun y S2 M2 hr => ?_)
  refine g_eqS f_L_law_889 (hq.1.trans hr.1.symm) ?_
  exact Go.wide (back _ _ _ (LI2.go (S := S) (M := M) hI.2.2 hq.2.1 hr.2)) (by omega) (by omega)
theorem lw_c24 {γ : Cg} {Ω : Ow} {nm : String} {Z : State → Prop} {S : Sg} {M : Mm} {s : Wt} {sb L i : Nat} {xs : Nat → Int32} (hγ : cR γ = room_1) (hS : Scr γ Ω sb L xs) (hi : 6 * i + 6 ≤ L) (hI : LI2 S M s) (back : ∀ S M s, LI2 S M s → Go γ Ω (mL nm) Z (116 + 6 * i + 6) (3296 + 144 * i + 144) S M 1255 (lsL Ω sb i) []) : Go γ Ω (mL nm) Z (116 + 6 * i) (3296 + 144 * i) S M 894 (lsL Ω sb i) [] := by
  have hL : L ≤ 3072 := hS.2.2.2.2
  refine g_alv f_L_law_894 rfl ?_
  refine g_lv1 hγ (w_image hI.1 hI.2.2.1 ) f_L_law_895 mo_X9_image mv_X9_image (obn hI.1.1 sh9) rfl rfl (Nat.le_of_ble_eq_true rfl) ⟨by decide, by decide⟩ ⟨by omega, by omega⟩ (fun x S1 M1 hq => ?_)
  refine g_alv f_L_law_898 rfl ?_
  refine g_lv1 hγ (m_image hq.2.1.1 (hI.2.1.mfr hI.2.2.1 hq.2.2) hI.2.2.1 ) f_L_law_899 mo_X10_image mv_X10_image (obn hq.2.1.1 sh10) rfl rfl (Nat.le_of_ble_eq_true rfl) ⟨by decide, by decide⟩ ⟨by omega, by omega⟩ (fun y S2 M2 hr => ?_)
  refine g_eqS f_L_law_902 (hq.1.trans hr.1.symm) ?_
  exact Go.wide (back _ _ _ (LI2.go (S := S) (M := M) hI.2.2.image hq.2.1 hr.2)) (by omega) (by omega)
theorem lw_c25 {γ : Cg} {Ω : Ow} {nm : String} {Z : State → Prop} {S : Sg} {M : Mm} {s : Wt} {sb L i : Nat} {xs : Nat → Int32} (hγ : cR γ = room_1) (hS : Scr γ Ω sb L xs) (hi : 6 * i + 6 ≤ L) (hI : LI2 S M s) (back : ∀ S M s, LI2 S M s → Go γ Ω (mL nm) Z (116 + 6 * i + 6) (3296 + 144 * i + 144) S M 1255 (lsL Ω sb i) []) : Go γ Ω (mL nm) Z (116 + 6 * i) (3296 + 144 * i) S M 907 (lsL Ω sb i) [] := by
  have hL : L ≤ 3072 := hS.2.2.2.2
  refine g_alv f_L_law_907 rfl ?_
  refine g_lv1 hγ (w_undo hI.1 hI.2.2.1 ) f_L_law_908 mo_X9_undo mv_X9_undo (obn hI.1.1 sh9) rfl rfl (Nat.le_of_ble_eq_true rfl) ⟨by decide, by decide⟩ ⟨by omega, by omega⟩ (fun x S1 M1 hq => ?_)
  refine g_alv f_L_law_911 rfl ?_
  refine g_lv1 hγ (m_undo hq.2.1.1 (hI.2.1.mfr hI.2.2.1 hq.2.2) hI.2.2.1 ) f_L_law_912 mo_X10_undo mv_X10_undo (obn hq.2.1.1 sh10) rfl rfl (Nat.le_of_ble_eq_true rfl) ⟨by decide, by decide⟩ ⟨by omega, by omega⟩ (fun y S2 M2 hr => ?_)
  refine g_eqS f_L_law_915 (hq.1.trans hr.1.symm) ?_
  exact Go.wide (back _ _ _ (LI2.go (S := S) (M := M) hI.2.2.undo hq.2.1 hr.2)) (by omega) (by omega)
theorem lw_c26 {γ : Cg} {Ω : Ow} {nm : String} {Z : State → Prop} {S : Sg} {M : Mm} {s : Wt} {sb L i : Nat} {xs : Nat → Int32} (hγ : cR γ = room_1) (hS : Scr γ Ω sb L xs) (hi : 6 * i + 6 ≤ L) (hI : LI2 S M s) (back : ∀ S M s, LI2 S M s → Go γ Ω (mL nm) Z (116 + 6 * i + 6) (3296 + 144 * i + 144) S M 1255 (lsL Ω sb i) []) : Go γ Ω (mL nm) Z (116 + 6 * i) (3296 + 144 * i) S M 920 (lsL Ω sb i) [] := by
  have hL : L ≤ 3072 := hS.2.2.2.2
  refine g_alv f_L_law_920 rfl ?_
  refine g_arg hS 1 hi (by decide) f_L_law_921 f_L_law_922 f_L_law_923 f_L_law_924 f_L_law_925 ?_
  refine g_arg hS 2 hi (by decide) f_L_law_926 f_L_law_927 f_L_law_928 f_L_law_929 f_L_law_930 ?_
  refine g_arg hS 3 hi (by decide) f_L_law_931 f_L_law_932 f_L_law_933 f_L_law_934 f_L_law_935 ?_
  refine g_lv1 hγ (w_act hI.1 hI.2.2.1 (scv xs (6 * i + 1)) (scv xs (6 * i + 2)) (scv xs (6 * i + 3)) (scv_rg xs _) (scv_rg xs _)) f_L_law_936 mo_X9_act mv_X9_act (obn hI.1.1 sh9) rfl rfl (Nat.le_of_ble_eq_true rfl) ⟨by decide, by decide⟩ ⟨by omega, by omega⟩ (fun x S1 M1 hq => ?_)
  refine g_alv f_L_law_939 rfl ?_
  refine g_arg hS 1 hi (by decide) f_L_law_940 f_L_law_941 f_L_law_942 f_L_law_943 f_L_law_944 ?_
  refine g_arg hS 2 hi (by decide) f_L_law_945 f_L_law_946 f_L_law_947 f_L_law_948 f_L_law_949 ?_
  refine g_arg hS 3 hi (by decide) f_L_law_950 f_L_law_951 f_L_law_952 f_L_law_953 f_L_law_954 ?_
  refine g_lv1 hγ (m_act hq.2.1.1 (hI.2.1.mfr hI.2.2.1 hq.2.2) hI.2.2.1 (scv xs (6 * i + 1)) (scv xs (6 * i + 2)) (scv xs (6 * i + 3)) (scv_rg xs _) (scv_rg xs _)) f_L_law_955 mo_X10_act mv_X10_act (obn hq.2.1.1 sh10) rfl rfl (Nat.le_of_ble_eq_true rfl) ⟨by decide, by decide⟩ ⟨by omega, by omega⟩ (fun y S2 M2 hr => ?_)
  refine g_eqS f_L_law_958 (hq.1.trans hr.1.symm) ?_
  exact Go.wide (back _ _ _ (LI2.go (S := S) (M := M) hI.2.2.act hq.2.1 hr.2)) (by omega) (by omega)
theorem lw_c27 {γ : Cg} {Ω : Ow} {nm : String} {Z : State → Prop} {S : Sg} {M : Mm} {s : Wt} {sb L i : Nat} {xs : Nat → Int32} (hγ : cR γ = room_1) (hS : Scr γ Ω sb L xs) (hi : 6 * i + 6 ≤ L) (hI : LI2 S M s) (back : ∀ S M s, LI2 S M s → Go γ Ω (mL nm) Z (116 + 6 * i + 6) (3296 + 144 * i + 144) S M 1255 (lsL Ω sb i) []) : Go γ Ω (mL nm) Z (116 + 6 * i) (3296 + 144 * i) S M 963 (lsL Ω sb i) [] := by
  have hL : L ≤ 3072 := hS.2.2.2.2
  refine g_alv f_L_law_963 rfl ?_
  refine g_arg hS 1 hi (by decide) f_L_law_964 f_L_law_965 f_L_law_966 f_L_law_967 f_L_law_968 ?_
  refine g_lv1 hγ (w_trace hI.1 hI.2.2.1 (scv xs (6 * i + 1)) (scv_rg xs _)) f_L_law_969 mo_X9_trace mv_X9_trace (obn hI.1.1 sh9) rfl rfl (Nat.le_of_ble_eq_true rfl) ⟨by decide, by decide⟩ ⟨by omega, by omega⟩ (fun x S1 M1 hq => ?_)
  refine g_alv f_L_law_972 rfl ?_
  refine g_arg hS 1 hi (by decide) f_L_law_973 f_L_law_974 f_L_law_975 f_L_law_976 f_L_law_977 ?_
  refine g_lv1 hγ (m_trace hq.2.1.1 (hI.2.1.mfr hI.2.2.1 hq.2.2) hI.2.2.1 (scv xs (6 * i + 1)) (scv_rg xs _)) f_L_law_978 mo_X10_trace mv_X10_trace (obn hq.2.1.1 sh10) rfl rfl (Nat.le_of_ble_eq_true rfl) ⟨by decide, by decide⟩ ⟨by omega, by omega⟩ (fun y S2 M2 hr => ?_)
  refine g_eqS f_L_law_981 (hq.1.trans hr.1.symm) ?_
  exact Go.wide (back _ _ _ (LI2.go (S := S) (M := M) hI.2.2 hq.2.1 hr.2)) (by omega) (by omega)
theorem lw_c28 {γ : Cg} {Ω : Ow} {nm : String} {Z : State → Prop} {S : Sg} {M : Mm} {s : Wt} {sb L i : Nat} {xs : Nat → Int32} (hγ : cR γ = room_1) (hS : Scr γ Ω sb L xs) (hi : 6 * i + 6 ≤ L) (hI : LI2 S M s) (back : ∀ S M s, LI2 S M s → Go γ Ω (mL nm) Z (116 + 6 * i + 6) (3296 + 144 * i + 144) S M 1255 (lsL Ω sb i) []) : Go γ Ω (mL nm) Z (116 + 6 * i) (3296 + 144 * i) S M 986 (lsL Ω sb i) [] := by
  have hL : L ≤ 3072 := hS.2.2.2.2
  refine g_alv f_L_law_986 rfl ?_
  refine g_arg hS 1 hi (by decide) f_L_law_987 f_L_law_988 f_L_law_989 f_L_law_990 f_L_law_991 ?_
  refine g_arg hS 2 hi (by decide) f_L_law_992 f_L_law_993 f_L_law_994 f_L_law_995 f_L_law_996 ?_
  refine g_lv1 hγ (w_taken hI.1 hI.2.2.1 (scv xs (6 * i + 1)) (scv xs (6 * i + 2)) (scv_rg xs _) (scv_rg xs _)) f_L_law_997 mo_X9_taken mv_X9_taken (obn hI.1.1 sh9) rfl rfl (Nat.le_of_ble_eq_true rfl) ⟨by decide, by decide⟩ ⟨by omega, by omega⟩ (fun x S1 M1 hq => ?_)
  refine g_alv f_L_law_1000 rfl ?_
  refine g_arg hS 1 hi (by decide) f_L_law_1001 f_L_law_1002 f_L_law_1003 f_L_law_1004 f_L_law_1005 ?_
  refine g_arg hS 2 hi (by decide) f_L_law_1006 f_L_law_1007 f_L_law_1008 f_L_law_1009 f_L_law_1010 ?_
  refine g_lv1 hγ (m_taken hq.2.1.1 (hI.2.1.mfr hI.2.2.1 hq.2.2) hI.2.2.1 (scv xs (6 * i + 1)) (scv xs (6 * i + 2)) (scv_rg xs _) (scv_rg xs _)) f_L_law_1011 mo_X10_taken mv_X10_taken (obn hq.2.1.1 sh10) rfl rfl (Nat.le_of_ble_eq_true rfl) ⟨by decide, by decide⟩ ⟨by omega, by omega⟩ (fun y S2 M2 hr => ?_)
  refine g_eqS f_L_law_1014 (hq.1.trans hr.1.symm) ?_
  exact Go.wide (back _ _ _ (LI2.go (S := S) (M := M) hI.2.2 hq.2.1 hr.2)) (by omega) (by omega)
theorem lw_c29 {γ : Cg} {Ω : Ow} {nm : String} {Z : State → Prop} {S : Sg} {M : Mm} {s : Wt} {sb L i : Nat} {xs : Nat → Int32} (hγ : cR γ = room_1) (hS : Scr γ Ω sb L xs) (hi : 6 * i + 6 ≤ L) (hI : LI2 S M s) (back : ∀ S M s, LI2 S M s → Go γ Ω (mL nm) Z (116 + 6 * i + 6) (3296 + 144 * i + 144) S M 1255 (lsL Ω sb i) []) : Go γ Ω (mL nm) Z (116 + 6 * i) (3296 + 144 * i) S M 1019 (lsL Ω sb i) [] := by
  have hL : L ≤ 3072 := hS.2.2.2.2
  refine g_alv f_L_law_1019 rfl ?_
  refine g_arg hS 1 hi (by decide) f_L_law_1020 f_L_law_1021 f_L_law_1022 f_L_law_1023 f_L_law_1024 ?_
  refine g_lv1 hγ (w_count hI.1 hI.2.2.1 (scv xs (6 * i + 1)) (scv_rg xs _)) f_L_law_1025 mo_X9_count mv_X9_count (obn hI.1.1 sh9) rfl rfl (Nat.le_of_ble_eq_true rfl) ⟨by decide, by decide⟩ ⟨by omega, by omega⟩ (fun x S1 M1 hq => ?_)
  refine g_alv f_L_law_1028 rfl ?_
  refine g_arg hS 1 hi (by decide) f_L_law_1029 f_L_law_1030 f_L_law_1031 f_L_law_1032 f_L_law_1033 ?_
  refine g_lv1 hγ (m_count hq.2.1.1 (hI.2.1.mfr hI.2.2.1 hq.2.2) hI.2.2.1 (scv xs (6 * i + 1)) (scv_rg xs _)) f_L_law_1034 mo_X10_count mv_X10_count (obn hq.2.1.1 sh10) rfl rfl (Nat.le_of_ble_eq_true rfl) ⟨by decide, by decide⟩ ⟨by omega, by omega⟩ (fun y S2 M2 hr => ?_)
  refine g_eqS f_L_law_1037 (hq.1.trans hr.1.symm) ?_
  exact Go.wide (back _ _ _ (LI2.go (S := S) (M := M) hI.2.2 hq.2.1 hr.2)) (by omega) (by omega)
theorem lw_c30 {γ : Cg} {Ω : Ow} {nm : String} {Z : State → Prop} {S : Sg} {M : Mm} {s : Wt} {sb L i : Nat} {xs : Nat → Int32} (hγ : cR γ = room_1) (hS : Scr γ Ω sb L xs) (hi : 6 * i + 6 ≤ L) (hI : LI2 S M s) (back : ∀ S M s, LI2 S M s → Go γ Ω (mL nm) Z (116 + 6 * i + 6) (3296 + 144 * i + 144) S M 1255 (lsL Ω sb i) []) : Go γ Ω (mL nm) Z (116 + 6 * i) (3296 + 144 * i) S M 1042 (lsL Ω sb i) [] := by
  have hL : L ≤ 3072 := hS.2.2.2.2
  refine g_alv f_L_law_1042 rfl ?_
  refine g_arg hS 1 hi (by decide) f_L_law_1043 f_L_law_1044 f_L_law_1045 f_L_law_1046 f_L_law_1047 ?_
  refine g_arg hS 2 hi (by decide) f_L_law_1048 f_L_law_1049 f_L_law_1050 f_L_law_1051 f_L_law_1052 ?_
  refine g_arg hS 3 hi (by decide) f_L_law_1053 f_L_law_1054 f_L_law_1055 f_L_law_1056 f_L_law_1057 ?_
  refine g_lv1 hγ (w_tape hI.1 hI.2.2.1 (scv xs (6 * i + 1)) (scv xs (6 * i + 2)) (scv xs (6 * i + 3)) (scv_rg xs _) (scv_rg xs _) (scv_rg xs _)) f_L_law_1058 mo_X9_tape mv_X9_tape (obn hI.1.1 sh9) rfl rfl (Nat.le_of_ble_eq_true rfl) ⟨by decide, by decide⟩ ⟨by omega, by omega⟩ (fun x S1 M1 hq => ?_)
  refine g_alv f_L_law_1061 rfl ?_
  refine g_arg hS 1 hi (by decide) f_L_law_1062 f_L_law_1063 f_L_law_1064 f_L_law_1065 f_L_law_1066 ?_
  refine g_arg hS 2 hi (by decide) f_L_law_1067 f_L_law_1068 f_L_law_1069 f_L_law_1070 f_L_law_1071 ?_
  refine g_arg hS 3 hi (by decide) f_L_law_1072 f_L_law_1073 f_L_law_1074 f_L_law_1075 f_L_law_1076 ?_
  refine g_lv1 hγ (m_tape hq.2.1.1 (hI.2.1.mfr hI.2.2.1 hq.2.2) hI.2.2.1 (scv xs (6 * i + 1)) (scv xs (6 * i + 2)) (scv xs (6 * i + 3)) (scv_rg xs _) (scv_rg xs _) (scv_rg xs _)) f_L_law_1077 mo_X10_tape mv_X10_tape (obn hq.2.1.1 sh10) rfl rfl (Nat.le_of_ble_eq_true rfl) ⟨by decide, by decide⟩ ⟨by omega, by omega⟩ (fun y S2 M2 hr => ?_)
  refine g_eqS f_L_law_1080 (hq.1.trans hr.1.symm) ?_
  exact Go.wide (back _ _ _ (LI2.go (S := S) (M := M) hI.2.2.tape hq.2.1 hr.2)) (by omega) (by omega)
theorem lw_c31 {γ : Cg} {Ω : Ow} {nm : String} {Z : State → Prop} {S : Sg} {M : Mm} {s : Wt} {sb L i : Nat} {xs : Nat → Int32} (hγ : cR γ = room_1) (hS : Scr γ Ω sb L xs) (hi : 6 * i + 6 ≤ L) (hI : LI2 S M s) (back : ∀ S M s, LI2 S M s → Go γ Ω (mL nm) Z (116 + 6 * i + 6) (3296 + 144 * i + 144) S M 1255 (lsL Ω sb i) []) : Go γ Ω (mL nm) Z (116 + 6 * i) (3296 + 144 * i) S M 1085 (lsL Ω sb i) [] := by
  have hL : L ≤ 3072 := hS.2.2.2.2
  refine g_alv f_L_law_1085 rfl ?_
  refine g_arg hS 1 hi (by decide) f_L_law_1086 f_L_law_1087 f_L_law_1088 f_L_law_1089 f_L_law_1090 ?_
  refine g_arg hS 2 hi (by decide) f_L_law_1091 f_L_law_1092 f_L_law_1093 f_L_law_1094 f_L_law_1095 ?_
  refine g_arg hS 3 hi (by decide) f_L_law_1096 f_L_law_1097 f_L_law_1098 f_L_law_1099 f_L_law_1100 ?_
  refine g_i2l f_L_law_1101 (scv_rg xs _) ?_
  refine g_const f_L_law_1102 ?_
  refine g_lshl f_L_law_1104 ?_
  refine g_arg hS 4 hi (by decide) f_L_law_1105 f_L_law_1106 f_L_law_1107 f_L_law_1108 f_L_law_1109 ?_
  refine g_i2l f_L_law_1110 (scv_rg xs _) ?_
  refine g_ldc2 (z := 4294967295) f_L_law_1111 (ldcL (by decide) w_1354) ?_
  refine g_land f_L_law_1114 ?_
  refine g_lor f_L_law_1115 ?_
  refine g_lv1 hγ (w_item hI.1 hI.2.2.1 (scv xs (6 * i + 1)) (scv xs (6 * i + 2)) (bopL (fun x y => x ||| y) (blshl (scv xs (6 * i + 3)) (32)) (bopL (fun x y => x &&& y) (scv xs (6 * i + 4)) (4294967295))) (scv_rg xs _) (scv_rg xs _) (wl_rgL _ _)) f_L_law_1116 mo_X9_item mv_X9_item (obn hI.1.1 sh9) rfl rfl (Nat.le_of_ble_eq_true rfl) ⟨by decide, by decide⟩ ⟨by omega, by omega⟩ (fun x S1 M1 hq => ?_)
  refine g_alv f_L_law_1119 rfl ?_
  refine g_arg hS 1 hi (by decide) f_L_law_1120 f_L_law_1121 f_L_law_1122 f_L_law_1123 f_L_law_1124 ?_
  refine g_arg hS 2 hi (by decide) f_L_law_1125 f_L_law_1126 f_L_law_1127 f_L_law_1128 f_L_law_1129 ?_
  refine g_arg hS 3 hi (by decide) f_L_law_1130 f_L_law_1131 f_L_law_1132 f_L_law_1133 f_L_law_1134 ?_
  refine g_i2l f_L_law_1135 (scv_rg xs _) ?_
  refine g_const f_L_law_1136 ?_
  refine g_lshl f_L_law_1138 ?_
  refine g_arg hS 4 hi (by decide) f_L_law_1139 f_L_law_1140 f_L_law_1141 f_L_law_1142 f_L_law_1143 ?_
  refine g_i2l f_L_law_1144 (scv_rg xs _) ?_
  refine g_ldc2 (z := 4294967295) f_L_law_1145 (ldcL (by decide) w_1354) ?_
  refine g_land f_L_law_1148 ?_
  refine g_lor f_L_law_1149 ?_
  refine g_lv1 hγ (m_item hq.2.1.1 (hI.2.1.mfr hI.2.2.1 hq.2.2) hI.2.2.1 (scv xs (6 * i + 1)) (scv xs (6 * i + 2)) (bopL (fun x y => x ||| y) (blshl (scv xs (6 * i + 3)) (32)) (bopL (fun x y => x &&& y) (scv xs (6 * i + 4)) (4294967295))) (scv_rg xs _) (scv_rg xs _) (wl_rgL _ _)) f_L_law_1150 mo_X10_item mv_X10_item (obn hq.2.1.1 sh10) rfl rfl (Nat.le_of_ble_eq_true rfl) ⟨by decide, by decide⟩ ⟨by omega, by omega⟩ (fun y S2 M2 hr => ?_)
  refine g_eqS f_L_law_1153 (hq.1.trans hr.1.symm) ?_
  exact Go.wide (back _ _ _ (LI2.go (S := S) (M := M) (hI.2.2.item (wl_rgL _ _)) hq.2.1 hr.2)) (by omega) (by omega)
theorem lw_c32 {γ : Cg} {Ω : Ow} {nm : String} {Z : State → Prop} {S : Sg} {M : Mm} {s : Wt} {sb L i : Nat} {xs : Nat → Int32} (hγ : cR γ = room_1) (hS : Scr γ Ω sb L xs) (hi : 6 * i + 6 ≤ L) (hI : LI2 S M s) (back : ∀ S M s, LI2 S M s → Go γ Ω (mL nm) Z (116 + 6 * i + 6) (3296 + 144 * i + 144) S M 1255 (lsL Ω sb i) []) : Go γ Ω (mL nm) Z (116 + 6 * i) (3296 + 144 * i) S M 1158 (lsL Ω sb i) [] := by
  have hL : L ≤ 3072 := hS.2.2.2.2
  refine g_alv f_L_law_1158 rfl ?_
  refine g_arg hS 1 hi (by decide) f_L_law_1159 f_L_law_1160 f_L_law_1161 f_L_law_1162 f_L_law_1163 ?_
  refine g_arg hS 2 hi (by decide) f_L_law_1164 f_L_law_1165 f_L_law_1166 f_L_law_1167 f_L_law_1168 ?_
  refine g_lv2 hγ (w_read hI.1 hI.2.2.1 (scv xs (6 * i + 1)) (scv xs (6 * i + 2)) (scv_rg xs _) (scv_rg xs _)) f_L_law_1169 mo_X9_read mv_X9_read (obn hI.1.1 sh9) rfl rfl (Nat.le_of_ble_eq_true rfl) ⟨by decide, by decide⟩ ⟨by omega, by omega⟩ (fun x S1 M1 hq => ?_)
  refine g_alv f_L_law_1172 rfl ?_
  refine g_arg hS 1 hi (by decide) f_L_law_1173 f_L_law_1174 f_L_law_1175 f_L_law_1176 f_L_law_1177 ?_
  refine g_arg hS 2 hi (by decide) f_L_law_1178 f_L_law_1179 f_L_law_1180 f_L_law_1181 f_L_law_1182 ?_
  refine g_lv2 hγ (m_read hq.2.1.1 (hI.2.1.mfr hI.2.2.1 hq.2.2) hI.2.2.1 (scv xs (6 * i + 1)) (scv xs (6 * i + 2)) (scv_rg xs _) (scv_rg xs _)) f_L_law_1183 mo_X10_read mv_X10_read (obn hq.2.1.1 sh10) rfl rfl (Nat.le_of_ble_eq_true rfl) ⟨by decide, by decide⟩ ⟨by omega, by omega⟩ (fun y S2 M2 hr => ?_)
  refine g_eqL f_L_law_1186 f_L_law_1187 (hq.1.trans hr.1.symm) ?_
  exact Go.wide (back _ _ _ (LI2.go (S := S) (M := M) hI.2.2 hq.2.1 hr.2)) (by omega) (by omega)
theorem lw_c33 {γ : Cg} {Ω : Ow} {nm : String} {Z : State → Prop} {S : Sg} {M : Mm} {s : Wt} {sb L i : Nat} {xs : Nat → Int32} (hγ : cR γ = room_1) (hS : Scr γ Ω sb L xs) (hi : 6 * i + 6 ≤ L) (hI : LI2 S M s) (back : ∀ S M s, LI2 S M s → Go γ Ω (mL nm) Z (116 + 6 * i + 6) (3296 + 144 * i + 144) S M 1255 (lsL Ω sb i) []) : Go γ Ω (mL nm) Z (116 + 6 * i) (3296 + 144 * i) S M 1192 (lsL Ω sb i) [] := by
  have hL : L ≤ 3072 := hS.2.2.2.2
  refine g_alv f_L_law_1192 rfl ?_
  refine g_arg hS 1 hi (by decide) f_L_law_1193 f_L_law_1194 f_L_law_1195 f_L_law_1196 f_L_law_1197 ?_
  refine g_arg hS 2 hi (by decide) f_L_law_1198 f_L_law_1199 f_L_law_1200 f_L_law_1201 f_L_law_1202 ?_
  refine g_arg hS 3 hi (by decide) f_L_law_1203 f_L_law_1204 f_L_law_1205 f_L_law_1206 f_L_law_1207 ?_
  refine g_arg hS 4 hi (by decide) f_L_law_1208 f_L_law_1209 f_L_law_1210 f_L_law_1211 f_L_law_1212 ?_
  refine g_arg hS 5 hi (by decide) f_L_law_1213 f_L_law_1214 f_L_law_1215 f_L_law_1216 f_L_law_1217 ?_
  refine g_lv1 hγ (w_shift hI.1 hI.2.2.1 (scv xs (6 * i + 1)) (scv xs (6 * i + 2)) (scv xs (6 * i + 3)) (scv xs (6 * i + 4)) (scv xs (6 * i + 5)) (scv_rg xs _) (scv_rg xs _) (scv_rg xs _) (scv_rg xs _) (scv_rg xs _)) f_L_law_1218 mo_X9_shift mv_X9_shift (obn hI.1.1 sh9) rfl rfl (Nat.le_of_ble_eq_true rfl) ⟨by decide, by decide⟩ ⟨by omega, by omega⟩ (fun x S1 M1 hq => ?_)
  refine g_alv f_L_law_1221 rfl ?_
  refine g_arg hS 1 hi (by decide) f_L_law_1222 f_L_law_1223 f_L_law_1224 f_L_law_1225 f_L_law_1226 ?_
  refine g_arg hS 2 hi (by decide) f_L_law_1227 f_L_law_1228 f_L_law_1229 f_L_law_1230 f_L_law_1231 ?_
  refine g_arg hS 3 hi (by decide) f_L_law_1232 f_L_law_1233 f_L_law_1234 f_L_law_1235 f_L_law_1236 ?_
  refine g_arg hS 4 hi (by decide) f_L_law_1237 f_L_law_1238 f_L_law_1239 f_L_law_1240 f_L_law_1241 ?_
  refine g_arg hS 5 hi (by decide) f_L_law_1242 f_L_law_1243 f_L_law_1244 f_L_law_1245 f_L_law_1246 ?_
  refine g_lv1 hγ (m_shift hq.2.1.1 (hI.2.1.mfr hI.2.2.1 hq.2.2) hI.2.2.1 (scv xs (6 * i + 1)) (scv xs (6 * i + 2)) (scv xs (6 * i + 3)) (scv xs (6 * i + 4)) (scv xs (6 * i + 5)) (scv_rg xs _) (scv_rg xs _) (scv_rg xs _) (scv_rg xs _) (scv_rg xs _)) f_L_law_1247 mo_X10_shift mv_X10_shift (obn hq.2.1.1 sh10) rfl rfl (Nat.le_of_ble_eq_true rfl) ⟨by decide, by decide⟩ ⟨by omega, by omega⟩ (fun y S2 M2 hr => ?_)
  refine g_eqS f_L_law_1250 (hq.1.trans hr.1.symm) ?_
  exact Go.wide (back _ _ _ (LI2.go (S := S) (M := M) hI.2.2.shift hq.2.1 hr.2)) (by omega) (by omega)
