-- THE LAW: its 44 calls, over any pair of pictures of one state
def lw_av (k : Nat) (a : Nat → Int32) : List Value := match k with
  | 0 => []
  | 1 => []
  | 2 => []
  | 3 => [.int (a 1), .int (a 2), .int (a 3)]
  | 4 => [.int (a 1), .int (a 2), .long ((((a 3)).toInt64 <<< ((nI 32).toInt64 &&& 63)) ||| (((a 4)).toInt64 &&& 4294967295))]
  | 5 => [.int (a 1), .int (a 2)]
  | 6 => [.int (a 1), .int (a 2), .int (a 3), .int (a 4), .int (a 5)]
  | 7 => [.int (a 1), .int (a 2), .int (a 3), .int (a 4), .int (a 5)]
  | 8 => [.int (a 1)]
  | 9 => [.int (a 1)]
  | 10 => [.int (a 1)]
  | 11 => [.int (a 1)]
  | 12 => [.int (a 1)]
  | 13 => [.int (a 1), .int (a 2)]
  | 14 => [.int (a 1), .int (a 2)]
  | 15 => [.int (a 1), .int (a 2)]
  | 16 => [.int (a 1), .int (a 2)]
  | 17 => [.int (a 1), .int (a 2), .int (a 3), .int (a 4), .int (a 5)]
  | 18 => [.int (a 1), .int (a 2)]
  | 19 => [.int (a 1), .int (a 2), .int (a 3)]
  | 20 => [.int (a 1), .int (a 2)]
  | 21 => [.int (a 1)]
  | 22 => [.int (a 1), .int (a 2)]
  | 23 => [.int (a 1), .int (a 2), .int (a 3)]
  | 24 => [.int (a 1)]
  | 25 => [.int (a 1)]
  | 26 => [.int (a 1)]
  | 27 => [.int (a 1), .int (a 2), .int (a 3)]
  | 28 => [.int (a 1), .int (a 2)]
  | 29 => [.int (a 1)]
  | 30 => [.int (a 1), .int (a 2)]
  | 31 => [.int (a 1)]
  | 32 => [.int (a 1)]
  | 33 => [.int (a 1), .int (a 2), .int (a 3)]
  | 34 => [.int (a 1), .int (a 2)]
  | 35 => [.int (a 1), .int (a 2), .int (a 3)]
  | 36 => [.int (a 1)]
  | 37 => [.int (a 1), .int (a 2)]
  | 38 => [.int (a 1)]
  | 39 => [.int (a 1)]
  | 40 => [.int (a 1), .int (a 2)]
  | 41 => [.int (a 1)]
  | 42 => []
  | 43 => []
  | _ => []
def lw_mX (k : Nat) : Mt := match k with
  | 0 => mt_X11_status
  | 1 => mt_X11_top
  | 2 => mt_X11_bottom
  | 3 => mt_X11_tray
  | 4 => mt_X11_write
  | 5 => mt_X11_read
  | 6 => mt_X11_pour
  | 7 => mt_X11_feed
  | 8 => mt_X11_town
  | 9 => mt_X11_law
  | 10 => mt_X11_plan
  | 11 => mt_X11_fault
  | 12 => mt_X11_many
  | 13 => mt_X11_thing
  | 14 => mt_X11_making
  | 15 => mt_X11_awake
  | 16 => mt_X11_want
  | 17 => mt_X11_night
  | 18 => mt_X11_soonest
  | 19 => mt_X11_bars
  | 20 => mt_X11_labour
  | 21 => mt_X11_hands
  | 22 => mt_X11_day
  | 23 => mt_X11_days
  | 24 => mt_X11_step
  | 25 => mt_X11_stepTime
  | 26 => mt_X11_firstNight
  | 27 => mt_X11_price
  | 28 => mt_X11_kept
  | 29 => mt_X11_bestKept
  | 30 => mt_X11_more
  | 31 => mt_X11_bestMore
  | 32 => mt_X11_shift
  | 33 => mt_X11_west
  | 34 => mt_X11_speed
  | 35 => mt_X11_way
  | 36 => mt_X11_judged
  | 37 => mt_X11_done
  | 38 => mt_X11_there
  | 39 => mt_X11_lives
  | 40 => mt_X11_ill
  | 41 => mt_X11_lived
  | 42 => mt_X11_mark
  | 43 => mt_X11_back
  | _ => mt_X11_status
def lw_mY (k : Nat) : Mt := match k with
  | 0 => mt_X12_status
  | 1 => mt_X12_top
  | 2 => mt_X12_bottom
  | 3 => mt_X12_tray
  | 4 => mt_X12_write
  | 5 => mt_X12_read
  | 6 => mt_X12_pour
  | 7 => mt_X12_feed
  | 8 => mt_X12_town
  | 9 => mt_X12_law
  | 10 => mt_X12_plan
  | 11 => mt_X12_fault
  | 12 => mt_X12_many
  | 13 => mt_X12_thing
  | 14 => mt_X12_making
  | 15 => mt_X12_awake
  | 16 => mt_X12_want
  | 17 => mt_X12_night
  | 18 => mt_X12_soonest
  | 19 => mt_X12_bars
  | 20 => mt_X12_labour
  | 21 => mt_X12_hands
  | 22 => mt_X12_day
  | 23 => mt_X12_days
  | 24 => mt_X12_step
  | 25 => mt_X12_stepTime
  | 26 => mt_X12_firstNight
  | 27 => mt_X12_price
  | 28 => mt_X12_kept
  | 29 => mt_X12_bestKept
  | 30 => mt_X12_more
  | 31 => mt_X12_bestMore
  | 32 => mt_X12_shift
  | 33 => mt_X12_west
  | 34 => mt_X12_speed
  | 35 => mt_X12_way
  | 36 => mt_X12_judged
  | 37 => mt_X12_done
  | 38 => mt_X12_there
  | 39 => mt_X12_lives
  | 40 => mt_X12_ill
  | 41 => mt_X12_lived
  | 42 => mt_X12_mark
  | 43 => mt_X12_back
  | _ => mt_X12_status
def lw_isV (k : Nat) (v : Value) : Prop := match k with
  | 1 => ∃ z, v = .long z
  | 2 => ∃ z, v = .long z
  | 5 => ∃ z, v = .long z
  | _ => ∃ z, v = .int z
def r_api {Sg : Type} (R : Mem → Sg → Prop) (G : Wd) (h : Nat) (mt : Mt) (av : List Value) (F : Sg → Value × Sg) : Prop := ∀ (M : Mem) (σ : Sg) (Q : Rq), R M σ → (∀ M', R M' (F σ).2 → Q (some (F σ).1) G M') → Ca h mt 0 0 (.ref 0 :: av) G M Q
section RL3
variable {p : Program} {l : Launch} {e : Env} {s : State} {m : MethodId} {below : List Frame} {meth : Method} {c : Code} {b L : Nat} {xs : Nat → Int32} {D : va_G} {cA : Nat → ClassId} {adX adY : Nat → Nat} {cells slots : Nat}
variable {Sg : Type} {RX RY : Mem → Sg → Prop} {F : Nat → (Nat → Int32) → Sg → Value × Sg} {hx hy : Nat → Nat}
theorem lw_c_0 (C : lw_Ctx p s m meth c b L xs D cA adX adY) (hc : cells ≤ 600000 ∧ slots ≤ 7302250) (hX : ∀ k, k < 44 → ∀ a, r_api RX GX (hx k) (lw_mX k) (lw_av k a) (F k a)) (hY : ∀ k, k < 44 → ∀ a, r_api RY GY (hy k) (lw_mY k) (lw_av k a) (F k a)) (hhX : ∀ k, hx k ≤ 1000) (hhY : ∀ k, hy k ≤ 1000) (hF : ∀ k a σ, lw_isV k (F k a σ).1) {j : Nat} (hj : j + 6 ≤ L) {σ : Sg} {Mx My : Mem} (rx : RX Mx σ) (ry : RY My σ) (kk : ∀ (σ' : Sg) (Mx' My' : Mem), RX Mx' σ' → RY My' σ' → Rl p l e s m below meth c b D cA adX adY cells slots 1609 (nI j) [] Mx' My') : Rl p l e s m below meth c b D cA adX adY cells slots 224 (nI j) [] Mx My := by
  refine Rl_x (pc := 224) C dL_law_224 ?_
  refine Rl_callX (rest := []) (As := []) (pc := 225) C dL_law_225 mv_L_13 rfl (hhX 0) rfl rfl rfl (Nat.le_of_ble_eq_true rfl) hc ?_
  refine hX 0 (by decide) (fun q => xs (j + q)) Mx σ _ rx (fun Mx2 rx2 => ⟨rfl, _, rfl, ?_, ?_⟩)
  · obtain ⟨z, hz⟩ := hF 0 (fun q => xs (j + q)) σ; intro ad; rw [hz]; rfl
  refine Rl_m (pc := 228) C dL_law_228 ?_
  refine Rl_callY (rest := [(F 0 (fun q => xs (j + q)) σ).1]) (As := []) (pc := 229) C dL_law_229 mv_L_17 rfl (hhY 0) rfl rfl rfl ?_ hc ?_
  · obtain ⟨z, hz⟩ := hF 0 (fun q => xs (j + q)) σ; rw [hz]; exact Nat.le_of_ble_eq_true rfl
  refine hY 0 (by decide) (fun q => xs (j + q)) My σ _ ry (fun My2 ry2 => ⟨rfl, _, rfl, ?_, ?_⟩)
  · obtain ⟨z, hz⟩ := hF 0 (fun q => xs (j + q)) σ; intro ad; rw [hz]; rfl
  obtain ⟨z, hz⟩ := hF 0 (fun q => xs (j + q)) σ
  rw [hz]
  exact Rl_same (pc := 232) 1609 C dL_law_232 (by decide) (kk _ _ _ rx2 ry2)
theorem lw_c_1 (C : lw_Ctx p s m meth c b L xs D cA adX adY) (hc : cells ≤ 600000 ∧ slots ≤ 7302250) (hX : ∀ k, k < 44 → ∀ a, r_api RX GX (hx k) (lw_mX k) (lw_av k a) (F k a)) (hY : ∀ k, k < 44 → ∀ a, r_api RY GY (hy k) (lw_mY k) (lw_av k a) (F k a)) (hhX : ∀ k, hx k ≤ 1000) (hhY : ∀ k, hy k ≤ 1000) (hF : ∀ k a σ, lw_isV k (F k a σ).1) {j : Nat} (hj : j + 6 ≤ L) {σ : Sg} {Mx My : Mem} (rx : RX Mx σ) (ry : RY My σ) (kk : ∀ (σ' : Sg) (Mx' My' : Mem), RX Mx' σ' → RY My' σ' → Rl p l e s m below meth c b D cA adX adY cells slots 1609 (nI j) [] Mx' My') : Rl p l e s m below meth c b D cA adX adY cells slots 237 (nI j) [] Mx My := by
  refine Rl_x (pc := 237) C dL_law_237 ?_
  refine Rl_callX (rest := []) (As := []) (pc := 238) C dL_law_238 mv_L_18 rfl (hhX 1) rfl rfl rfl (Nat.le_of_ble_eq_true rfl) hc ?_
  refine hX 1 (by decide) (fun q => xs (j + q)) Mx σ _ rx (fun Mx2 rx2 => ⟨rfl, _, rfl, ?_, ?_⟩)
  · obtain ⟨z, hz⟩ := hF 1 (fun q => xs (j + q)) σ; intro ad; rw [hz]; rfl
  refine Rl_m (pc := 241) C dL_law_241 ?_
  refine Rl_callY (rest := [(F 1 (fun q => xs (j + q)) σ).1]) (As := []) (pc := 242) C dL_law_242 mv_L_22 rfl (hhY 1) rfl rfl rfl ?_ hc ?_
  · obtain ⟨z, hz⟩ := hF 1 (fun q => xs (j + q)) σ; rw [hz]; exact Nat.le_of_ble_eq_true rfl
  refine hY 1 (by decide) (fun q => xs (j + q)) My σ _ ry (fun My2 ry2 => ⟨rfl, _, rfl, ?_, ?_⟩)
  · obtain ⟨z, hz⟩ := hF 1 (fun q => xs (j + q)) σ; intro ad; rw [hz]; rfl
  obtain ⟨z, hz⟩ := hF 1 (fun q => xs (j + q)) σ
  rw [hz]
  exact Rl_sameL (pc := 245) 1609 C dL_law_245 dL_law_246 (by decide) (kk _ _ _ rx2 ry2)
theorem lw_c_2 (C : lw_Ctx p s m meth c b L xs D cA adX adY) (hc : cells ≤ 600000 ∧ slots ≤ 7302250) (hX : ∀ k, k < 44 → ∀ a, r_api RX GX (hx k) (lw_mX k) (lw_av k a) (F k a)) (hY : ∀ k, k < 44 → ∀ a, r_api RY GY (hy k) (lw_mY k) (lw_av k a) (F k a)) (hhX : ∀ k, hx k ≤ 1000) (hhY : ∀ k, hy k ≤ 1000) (hF : ∀ k a σ, lw_isV k (F k a σ).1) {j : Nat} (hj : j + 6 ≤ L) {σ : Sg} {Mx My : Mem} (rx : RX Mx σ) (ry : RY My σ) (kk : ∀ (σ' : Sg) (Mx' My' : Mem), RX Mx' σ' → RY My' σ' → Rl p l e s m below meth c b D cA adX adY cells slots 1609 (nI j) [] Mx' My') : Rl p l e s m below meth c b D cA adX adY cells slots 251 (nI j) [] Mx My := by
  refine Rl_x (pc := 251) C dL_law_251 ?_
  refine Rl_callX (rest := []) (As := []) (pc := 252) C dL_law_252 mv_L_23 rfl (hhX 2) rfl rfl rfl (Nat.le_of_ble_eq_true rfl) hc ?_
  refine hX 2 (by decide) (fun q => xs (j + q)) Mx σ _ rx (fun Mx2 rx2 => ⟨rfl, _, rfl, ?_, ?_⟩)
  · obtain ⟨z, hz⟩ := hF 2 (fun q => xs (j + q)) σ; intro ad; rw [hz]; rfl
  refine Rl_m (pc := 255) C dL_law_255 ?_
  refine Rl_callY (rest := [(F 2 (fun q => xs (j + q)) σ).1]) (As := []) (pc := 256) C dL_law_256 mv_L_26 rfl (hhY 2) rfl rfl rfl ?_ hc ?_
  · obtain ⟨z, hz⟩ := hF 2 (fun q => xs (j + q)) σ; rw [hz]; exact Nat.le_of_ble_eq_true rfl
  refine hY 2 (by decide) (fun q => xs (j + q)) My σ _ ry (fun My2 ry2 => ⟨rfl, _, rfl, ?_, ?_⟩)
  · obtain ⟨z, hz⟩ := hF 2 (fun q => xs (j + q)) σ; intro ad; rw [hz]; rfl
  obtain ⟨z, hz⟩ := hF 2 (fun q => xs (j + q)) σ
  rw [hz]
  exact Rl_sameL (pc := 259) 1609 C dL_law_259 dL_law_260 (by decide) (kk _ _ _ rx2 ry2)
theorem lw_c_3 (C : lw_Ctx p s m meth c b L xs D cA adX adY) (hc : cells ≤ 600000 ∧ slots ≤ 7302250) (hX : ∀ k, k < 44 → ∀ a, r_api RX GX (hx k) (lw_mX k) (lw_av k a) (F k a)) (hY : ∀ k, k < 44 → ∀ a, r_api RY GY (hy k) (lw_mY k) (lw_av k a) (F k a)) (hhX : ∀ k, hx k ≤ 1000) (hhY : ∀ k, hy k ≤ 1000) (hF : ∀ k a σ, lw_isV k (F k a σ).1) {j : Nat} (hj : j + 6 ≤ L) {σ : Sg} {Mx My : Mem} (rx : RX Mx σ) (ry : RY My σ) (kk : ∀ (σ' : Sg) (Mx' My' : Mem), RX Mx' σ' → RY My' σ' → Rl p l e s m below meth c b D cA adX adY cells slots 1609 (nI j) [] Mx' My') : Rl p l e s m below meth c b D cA adX adY cells slots 265 (nI j) [] Mx My := by
  refine Rl_x (pc := 265) C dL_law_265 ?_
  refine Rl_arg (pc := 266) 1 C dL_law_266 dL_law_267 dL_law_268 dL_law_269 dL_law_270 rfl (by omega) ?_
  refine Rl_arg (pc := 271) 2 C dL_law_271 dL_law_272 dL_law_273 dL_law_274 dL_law_275 rfl (by omega) ?_
  refine Rl_arg (pc := 276) 3 C dL_law_276 dL_law_277 dL_law_278 dL_law_279 dL_law_280 rfl (by omega) ?_
  refine Rl_callX (rest := []) (As := [.int (xs (j + 1)), .int (xs (j + 2)), .int (xs (j + 3))]) (pc := 281) C dL_law_281 mv_L_27 rfl (hhX 3) rfl rfl rfl (Nat.le_of_ble_eq_true rfl) hc ?_
  refine hX 3 (by decide) (fun q => xs (j + q)) Mx σ _ rx (fun Mx2 rx2 => ⟨rfl, _, rfl, ?_, ?_⟩)
  · obtain ⟨z, hz⟩ := hF 3 (fun q => xs (j + q)) σ; intro ad; rw [hz]; rfl
  refine Rl_m (pc := 284) C dL_law_284 ?_
  refine Rl_arg (pc := 285) 1 C dL_law_285 dL_law_286 dL_law_287 dL_law_288 dL_law_289 rfl (by omega) ?_
  refine Rl_arg (pc := 290) 2 C dL_law_290 dL_law_291 dL_law_292 dL_law_293 dL_law_294 rfl (by omega) ?_
  refine Rl_arg (pc := 295) 3 C dL_law_295 dL_law_296 dL_law_297 dL_law_298 dL_law_299 rfl (by omega) ?_
  refine Rl_callY (rest := [(F 3 (fun q => xs (j + q)) σ).1]) (As := [.int (xs (j + 1)), .int (xs (j + 2)), .int (xs (j + 3))]) (pc := 300) C dL_law_300 mv_L_31 rfl (hhY 3) rfl rfl rfl ?_ hc ?_
  · obtain ⟨z, hz⟩ := hF 3 (fun q => xs (j + q)) σ; rw [hz]; exact Nat.le_of_ble_eq_true rfl
  refine hY 3 (by decide) (fun q => xs (j + q)) My σ _ ry (fun My2 ry2 => ⟨rfl, _, rfl, ?_, ?_⟩)
  · obtain ⟨z, hz⟩ := hF 3 (fun q => xs (j + q)) σ; intro ad; rw [hz]; rfl
  obtain ⟨z, hz⟩ := hF 3 (fun q => xs (j + q)) σ
  rw [hz]
  exact Rl_same (pc := 303) 1609 C dL_law_303 (by decide) (kk _ _ _ rx2 ry2)
theorem lw_c_4 (C : lw_Ctx p s m meth c b L xs D cA adX adY) (hc : cells ≤ 600000 ∧ slots ≤ 7302250) (hX : ∀ k, k < 44 → ∀ a, r_api RX GX (hx k) (lw_mX k) (lw_av k a) (F k a)) (hY : ∀ k, k < 44 → ∀ a, r_api RY GY (hy k) (lw_mY k) (lw_av k a) (F k a)) (hhX : ∀ k, hx k ≤ 1000) (hhY : ∀ k, hy k ≤ 1000) (hF : ∀ k a σ, lw_isV k (F k a σ).1) {j : Nat} (hj : j + 6 ≤ L) {σ : Sg} {Mx My : Mem} (rx : RX Mx σ) (ry : RY My σ) (kk : ∀ (σ' : Sg) (Mx' My' : Mem), RX Mx' σ' → RY My' σ' → Rl p l e s m below meth c b D cA adX adY cells slots 1609 (nI j) [] Mx' My') : Rl p l e s m below meth c b D cA adX adY cells slots 308 (nI j) [] Mx My := by
  refine Rl_x (pc := 308) C dL_law_308 ?_
  refine Rl_arg (pc := 309) 1 C dL_law_309 dL_law_310 dL_law_311 dL_law_312 dL_law_313 rfl (by omega) ?_
  refine Rl_arg (pc := 314) 2 C dL_law_314 dL_law_315 dL_law_316 dL_law_317 dL_law_318 rfl (by omega) ?_
  refine Rl_arg (pc := 319) 3 C dL_law_319 dL_law_320 dL_law_321 dL_law_322 dL_law_323 rfl (by omega) ?_
  refine Rl_i2l (pc := 324) C dL_law_324 ?_
  refine Rl_bipush (pc := 325) (nI 32) C dL_law_325 rfl ?_
  refine Rl_lshl (pc := 327) C dL_law_327 ?_
  refine Rl_arg (pc := 328) 4 C dL_law_328 dL_law_329 dL_law_330 dL_law_331 dL_law_332 rfl (by omega) ?_
  refine Rl_i2l (pc := 333) C dL_law_333 ?_
  refine Rl_ldc2 (pc := 334) C dL_law_334 tw_2182 ?_
  refine Rl_land (pc := 337) C dL_law_337 ?_
  refine Rl_lor (pc := 338) C dL_law_338 ?_
  refine Rl_callX (rest := []) (As := [.int (xs (j + 1)), .int (xs (j + 2)), .long ((((xs (j + 3))).toInt64 <<< ((nI 32).toInt64 &&& 63)) ||| (((xs (j + 4))).toInt64 &&& 4294967295))]) (pc := 339) C dL_law_339 mv_L_34 rfl (hhX 4) rfl rfl rfl (Nat.le_of_ble_eq_true rfl) hc ?_
  refine hX 4 (by decide) (fun q => xs (j + q)) Mx σ _ rx (fun Mx2 rx2 => ⟨rfl, _, rfl, ?_, ?_⟩)
  · obtain ⟨z, hz⟩ := hF 4 (fun q => xs (j + q)) σ; intro ad; rw [hz]; rfl
  refine Rl_m (pc := 342) C dL_law_342 ?_
  refine Rl_arg (pc := 343) 1 C dL_law_343 dL_law_344 dL_law_345 dL_law_346 dL_law_347 rfl (by omega) ?_
  refine Rl_arg (pc := 348) 2 C dL_law_348 dL_law_349 dL_law_350 dL_law_351 dL_law_352 rfl (by omega) ?_
  refine Rl_arg (pc := 353) 3 C dL_law_353 dL_law_354 dL_law_355 dL_law_356 dL_law_357 rfl (by omega) ?_
  refine Rl_i2l (pc := 358) C dL_law_358 ?_
  refine Rl_bipush (pc := 359) (nI 32) C dL_law_359 rfl ?_
  refine Rl_lshl (pc := 361) C dL_law_361 ?_
  refine Rl_arg (pc := 362) 4 C dL_law_362 dL_law_363 dL_law_364 dL_law_365 dL_law_366 rfl (by omega) ?_
  refine Rl_i2l (pc := 367) C dL_law_367 ?_
  refine Rl_ldc2 (pc := 368) C dL_law_368 tw_2182 ?_
  refine Rl_land (pc := 371) C dL_law_371 ?_
  refine Rl_lor (pc := 372) C dL_law_372 ?_
  refine Rl_callY (rest := [(F 4 (fun q => xs (j + q)) σ).1]) (As := [.int (xs (j + 1)), .int (xs (j + 2)), .long ((((xs (j + 3))).toInt64 <<< ((nI 32).toInt64 &&& 63)) ||| (((xs (j + 4))).toInt64 &&& 4294967295))]) (pc := 373) C dL_law_373 mv_L_38 rfl (hhY 4) rfl rfl rfl ?_ hc ?_
  · obtain ⟨z, hz⟩ := hF 4 (fun q => xs (j + q)) σ; rw [hz]; exact Nat.le_of_ble_eq_true rfl
  refine hY 4 (by decide) (fun q => xs (j + q)) My σ _ ry (fun My2 ry2 => ⟨rfl, _, rfl, ?_, ?_⟩)
  · obtain ⟨z, hz⟩ := hF 4 (fun q => xs (j + q)) σ; intro ad; rw [hz]; rfl
  obtain ⟨z, hz⟩ := hF 4 (fun q => xs (j + q)) σ
  rw [hz]
  exact Rl_same (pc := 376) 1609 C dL_law_376 (by decide) (kk _ _ _ rx2 ry2)
theorem lw_c_5 (C : lw_Ctx p s m meth c b L xs D cA adX adY) (hc : cells ≤ 600000 ∧ slots ≤ 7302250) (hX : ∀ k, k < 44 → ∀ a, r_api RX GX (hx k) (lw_mX k) (lw_av k a) (F k a)) (hY : ∀ k, k < 44 → ∀ a, r_api RY GY (hy k) (lw_mY k) (lw_av k a) (F k a)) (hhX : ∀ k, hx k ≤ 1000) (hhY : ∀ k, hy k ≤ 1000) (hF : ∀ k a σ, lw_isV k (F k a σ).1) {j : Nat} (hj : j + 6 ≤ L) {σ : Sg} {Mx My : Mem} (rx : RX Mx σ) (ry : RY My σ) (kk : ∀ (σ' : Sg) (Mx' My' : Mem), RX Mx' σ' → RY My' σ' → Rl p l e s m below meth c b D cA adX adY cells slots 1609 (nI j) [] Mx' My') : Rl p l e s m below meth c b D cA adX adY cells slots 381 (nI j) [] Mx My := by
  refine Rl_x (pc := 381) C dL_law_381 ?_
  refine Rl_arg (pc := 382) 1 C dL_law_382 dL_law_383 dL_law_384 dL_law_385 dL_law_386 rfl (by omega) ?_
  refine Rl_arg (pc := 387) 2 C dL_law_387 dL_law_388 dL_law_389 dL_law_390 dL_law_391 rfl (by omega) ?_
  refine Rl_callX (rest := []) (As := [.int (xs (j + 1)), .int (xs (j + 2))]) (pc := 392) C dL_law_392 mv_L_39 rfl (hhX 5) rfl rfl rfl (Nat.le_of_ble_eq_true rfl) hc ?_
  refine hX 5 (by decide) (fun q => xs (j + q)) Mx σ _ rx (fun Mx2 rx2 => ⟨rfl, _, rfl, ?_, ?_⟩)
  · obtain ⟨z, hz⟩ := hF 5 (fun q => xs (j + q)) σ; intro ad; rw [hz]; rfl
  refine Rl_m (pc := 395) C dL_law_395 ?_
  refine Rl_arg (pc := 396) 1 C dL_law_396 dL_law_397 dL_law_398 dL_law_399 dL_law_400 rfl (by omega) ?_
  refine Rl_arg (pc := 401) 2 C dL_law_401 dL_law_402 dL_law_403 dL_law_404 dL_law_405 rfl (by omega) ?_
  refine Rl_callY (rest := [(F 5 (fun q => xs (j + q)) σ).1]) (As := [.int (xs (j + 1)), .int (xs (j + 2))]) (pc := 406) C dL_law_406 mv_L_43 rfl (hhY 5) rfl rfl rfl ?_ hc ?_
  · obtain ⟨z, hz⟩ := hF 5 (fun q => xs (j + q)) σ; rw [hz]; exact Nat.le_of_ble_eq_true rfl
  refine hY 5 (by decide) (fun q => xs (j + q)) My σ _ ry (fun My2 ry2 => ⟨rfl, _, rfl, ?_, ?_⟩)
  · obtain ⟨z, hz⟩ := hF 5 (fun q => xs (j + q)) σ; intro ad; rw [hz]; rfl
  obtain ⟨z, hz⟩ := hF 5 (fun q => xs (j + q)) σ
  rw [hz]
  exact Rl_sameL (pc := 409) 1609 C dL_law_409 dL_law_410 (by decide) (kk _ _ _ rx2 ry2)
theorem lw_c_6 (C : lw_Ctx p s m meth c b L xs D cA adX adY) (hc : cells ≤ 600000 ∧ slots ≤ 7302250) (hX : ∀ k, k < 44 → ∀ a, r_api RX GX (hx k) (lw_mX k) (lw_av k a) (F k a)) (hY : ∀ k, k < 44 → ∀ a, r_api RY GY (hy k) (lw_mY k) (lw_av k a) (F k a)) (hhX : ∀ k, hx k ≤ 1000) (hhY : ∀ k, hy k ≤ 1000) (hF : ∀ k a σ, lw_isV k (F k a σ).1) {j : Nat} (hj : j + 6 ≤ L) {σ : Sg} {Mx My : Mem} (rx : RX Mx σ) (ry : RY My σ) (kk : ∀ (σ' : Sg) (Mx' My' : Mem), RX Mx' σ' → RY My' σ' → Rl p l e s m below meth c b D cA adX adY cells slots 1609 (nI j) [] Mx' My') : Rl p l e s m below meth c b D cA adX adY cells slots 415 (nI j) [] Mx My := by
  refine Rl_x (pc := 415) C dL_law_415 ?_
  refine Rl_arg (pc := 416) 1 C dL_law_416 dL_law_417 dL_law_418 dL_law_419 dL_law_420 rfl (by omega) ?_
  refine Rl_arg (pc := 421) 2 C dL_law_421 dL_law_422 dL_law_423 dL_law_424 dL_law_425 rfl (by omega) ?_
  refine Rl_arg (pc := 426) 3 C dL_law_426 dL_law_427 dL_law_428 dL_law_429 dL_law_430 rfl (by omega) ?_
  refine Rl_arg (pc := 431) 4 C dL_law_431 dL_law_432 dL_law_433 dL_law_434 dL_law_435 rfl (by omega) ?_
  refine Rl_arg (pc := 436) 5 C dL_law_436 dL_law_437 dL_law_438 dL_law_439 dL_law_440 rfl (by omega) ?_
  refine Rl_callX (rest := []) (As := [.int (xs (j + 1)), .int (xs (j + 2)), .int (xs (j + 3)), .int (xs (j + 4)), .int (xs (j + 5))]) (pc := 441) C dL_law_441 mv_L_44 rfl (hhX 6) rfl rfl rfl (Nat.le_of_ble_eq_true rfl) hc ?_
  refine hX 6 (by decide) (fun q => xs (j + q)) Mx σ _ rx (fun Mx2 rx2 => ⟨rfl, _, rfl, ?_, ?_⟩)
  · obtain ⟨z, hz⟩ := hF 6 (fun q => xs (j + q)) σ; intro ad; rw [hz]; rfl
  refine Rl_m (pc := 444) C dL_law_444 ?_
  refine Rl_arg (pc := 445) 1 C dL_law_445 dL_law_446 dL_law_447 dL_law_448 dL_law_449 rfl (by omega) ?_
  refine Rl_arg (pc := 450) 2 C dL_law_450 dL_law_451 dL_law_452 dL_law_453 dL_law_454 rfl (by omega) ?_
  refine Rl_arg (pc := 455) 3 C dL_law_455 dL_law_456 dL_law_457 dL_law_458 dL_law_459 rfl (by omega) ?_
  refine Rl_arg (pc := 460) 4 C dL_law_460 dL_law_461 dL_law_462 dL_law_463 dL_law_464 rfl (by omega) ?_
  refine Rl_arg (pc := 465) 5 C dL_law_465 dL_law_466 dL_law_467 dL_law_468 dL_law_469 rfl (by omega) ?_
  refine Rl_callY (rest := [(F 6 (fun q => xs (j + q)) σ).1]) (As := [.int (xs (j + 1)), .int (xs (j + 2)), .int (xs (j + 3)), .int (xs (j + 4)), .int (xs (j + 5))]) (pc := 470) C dL_law_470 mv_L_48 rfl (hhY 6) rfl rfl rfl ?_ hc ?_
  · obtain ⟨z, hz⟩ := hF 6 (fun q => xs (j + q)) σ; rw [hz]; exact Nat.le_of_ble_eq_true rfl
  refine hY 6 (by decide) (fun q => xs (j + q)) My σ _ ry (fun My2 ry2 => ⟨rfl, _, rfl, ?_, ?_⟩)
  · obtain ⟨z, hz⟩ := hF 6 (fun q => xs (j + q)) σ; intro ad; rw [hz]; rfl
  obtain ⟨z, hz⟩ := hF 6 (fun q => xs (j + q)) σ
  rw [hz]
  exact Rl_same (pc := 473) 1609 C dL_law_473 (by decide) (kk _ _ _ rx2 ry2)
theorem lw_c_7 (C : lw_Ctx p s m meth c b L xs D cA adX adY) (hc : cells ≤ 600000 ∧ slots ≤ 7302250) (hX : ∀ k, k < 44 → ∀ a, r_api RX GX (hx k) (lw_mX k) (lw_av k a) (F k a)) (hY : ∀ k, k < 44 → ∀ a, r_api RY GY (hy k) (lw_mY k) (lw_av k a) (F k a)) (hhX : ∀ k, hx k ≤ 1000) (hhY : ∀ k, hy k ≤ 1000) (hF : ∀ k a σ, lw_isV k (F k a σ).1) {j : Nat} (hj : j + 6 ≤ L) {σ : Sg} {Mx My : Mem} (rx : RX Mx σ) (ry : RY My σ) (kk : ∀ (σ' : Sg) (Mx' My' : Mem), RX Mx' σ' → RY My' σ' → Rl p l e s m below meth c b D cA adX adY cells slots 1609 (nI j) [] Mx' My') : Rl p l e s m below meth c b D cA adX adY cells slots 478 (nI j) [] Mx My := by
  refine Rl_x (pc := 478) C dL_law_478 ?_
  refine Rl_arg (pc := 479) 1 C dL_law_479 dL_law_480 dL_law_481 dL_law_482 dL_law_483 rfl (by omega) ?_
  refine Rl_arg (pc := 484) 2 C dL_law_484 dL_law_485 dL_law_486 dL_law_487 dL_law_488 rfl (by omega) ?_
  refine Rl_arg (pc := 489) 3 C dL_law_489 dL_law_490 dL_law_491 dL_law_492 dL_law_493 rfl (by omega) ?_
  refine Rl_arg (pc := 494) 4 C dL_law_494 dL_law_495 dL_law_496 dL_law_497 dL_law_498 rfl (by omega) ?_
  refine Rl_arg (pc := 499) 5 C dL_law_499 dL_law_500 dL_law_501 dL_law_502 dL_law_503 rfl (by omega) ?_
  refine Rl_callX (rest := []) (As := [.int (xs (j + 1)), .int (xs (j + 2)), .int (xs (j + 3)), .int (xs (j + 4)), .int (xs (j + 5))]) (pc := 504) C dL_law_504 mv_L_49 rfl (hhX 7) rfl rfl rfl (Nat.le_of_ble_eq_true rfl) hc ?_
  refine hX 7 (by decide) (fun q => xs (j + q)) Mx σ _ rx (fun Mx2 rx2 => ⟨rfl, _, rfl, ?_, ?_⟩)
  · obtain ⟨z, hz⟩ := hF 7 (fun q => xs (j + q)) σ; intro ad; rw [hz]; rfl
  refine Rl_m (pc := 507) C dL_law_507 ?_
  refine Rl_arg (pc := 508) 1 C dL_law_508 dL_law_509 dL_law_510 dL_law_511 dL_law_512 rfl (by omega) ?_
  refine Rl_arg (pc := 513) 2 C dL_law_513 dL_law_514 dL_law_515 dL_law_516 dL_law_517 rfl (by omega) ?_
  refine Rl_arg (pc := 518) 3 C dL_law_518 dL_law_519 dL_law_520 dL_law_521 dL_law_522 rfl (by omega) ?_
  refine Rl_arg (pc := 523) 4 C dL_law_523 dL_law_524 dL_law_525 dL_law_526 dL_law_527 rfl (by omega) ?_
  refine Rl_arg (pc := 528) 5 C dL_law_528 dL_law_529 dL_law_530 dL_law_531 dL_law_532 rfl (by omega) ?_
  refine Rl_callY (rest := [(F 7 (fun q => xs (j + q)) σ).1]) (As := [.int (xs (j + 1)), .int (xs (j + 2)), .int (xs (j + 3)), .int (xs (j + 4)), .int (xs (j + 5))]) (pc := 533) C dL_law_533 mv_L_53 rfl (hhY 7) rfl rfl rfl ?_ hc ?_
  · obtain ⟨z, hz⟩ := hF 7 (fun q => xs (j + q)) σ; rw [hz]; exact Nat.le_of_ble_eq_true rfl
  refine hY 7 (by decide) (fun q => xs (j + q)) My σ _ ry (fun My2 ry2 => ⟨rfl, _, rfl, ?_, ?_⟩)
  · obtain ⟨z, hz⟩ := hF 7 (fun q => xs (j + q)) σ; intro ad; rw [hz]; rfl
  obtain ⟨z, hz⟩ := hF 7 (fun q => xs (j + q)) σ
  rw [hz]
  exact Rl_same (pc := 536) 1609 C dL_law_536 (by decide) (kk _ _ _ rx2 ry2)
theorem lw_c_8 (C : lw_Ctx p s m meth c b L xs D cA adX adY) (hc : cells ≤ 600000 ∧ slots ≤ 7302250) (hX : ∀ k, k < 44 → ∀ a, r_api RX GX (hx k) (lw_mX k) (lw_av k a) (F k a)) (hY : ∀ k, k < 44 → ∀ a, r_api RY GY (hy k) (lw_mY k) (lw_av k a) (F k a)) (hhX : ∀ k, hx k ≤ 1000) (hhY : ∀ k, hy k ≤ 1000) (hF : ∀ k a σ, lw_isV k (F k a σ).1) {j : Nat} (hj : j + 6 ≤ L) {σ : Sg} {Mx My : Mem} (rx : RX Mx σ) (ry : RY My σ) (kk : ∀ (σ' : Sg) (Mx' My' : Mem), RX Mx' σ' → RY My' σ' → Rl p l e s m below meth c b D cA adX adY cells slots 1609 (nI j) [] Mx' My') : Rl p l e s m below meth c b D cA adX adY cells slots 541 (nI j) [] Mx My := by
  refine Rl_x (pc := 541) C dL_law_541 ?_
  refine Rl_arg (pc := 542) 1 C dL_law_542 dL_law_543 dL_law_544 dL_law_545 dL_law_546 rfl (by omega) ?_
  refine Rl_callX (rest := []) (As := [.int (xs (j + 1))]) (pc := 547) C dL_law_547 mv_L_54 rfl (hhX 8) rfl rfl rfl (Nat.le_of_ble_eq_true rfl) hc ?_
  refine hX 8 (by decide) (fun q => xs (j + q)) Mx σ _ rx (fun Mx2 rx2 => ⟨rfl, _, rfl, ?_, ?_⟩)
  · obtain ⟨z, hz⟩ := hF 8 (fun q => xs (j + q)) σ; intro ad; rw [hz]; rfl
  refine Rl_m (pc := 550) C dL_law_550 ?_
  refine Rl_arg (pc := 551) 1 C dL_law_551 dL_law_552 dL_law_553 dL_law_554 dL_law_555 rfl (by omega) ?_
  refine Rl_callY (rest := [(F 8 (fun q => xs (j + q)) σ).1]) (As := [.int (xs (j + 1))]) (pc := 556) C dL_law_556 mv_L_58 rfl (hhY 8) rfl rfl rfl ?_ hc ?_
  · obtain ⟨z, hz⟩ := hF 8 (fun q => xs (j + q)) σ; rw [hz]; exact Nat.le_of_ble_eq_true rfl
  refine hY 8 (by decide) (fun q => xs (j + q)) My σ _ ry (fun My2 ry2 => ⟨rfl, _, rfl, ?_, ?_⟩)
  · obtain ⟨z, hz⟩ := hF 8 (fun q => xs (j + q)) σ; intro ad; rw [hz]; rfl
  obtain ⟨z, hz⟩ := hF 8 (fun q => xs (j + q)) σ
  rw [hz]
  exact Rl_same (pc := 559) 1609 C dL_law_559 (by decide) (kk _ _ _ rx2 ry2)
theorem lw_c_9 (C : lw_Ctx p s m meth c b L xs D cA adX adY) (hc : cells ≤ 600000 ∧ slots ≤ 7302250) (hX : ∀ k, k < 44 → ∀ a, r_api RX GX (hx k) (lw_mX k) (lw_av k a) (F k a)) (hY : ∀ k, k < 44 → ∀ a, r_api RY GY (hy k) (lw_mY k) (lw_av k a) (F k a)) (hhX : ∀ k, hx k ≤ 1000) (hhY : ∀ k, hy k ≤ 1000) (hF : ∀ k a σ, lw_isV k (F k a σ).1) {j : Nat} (hj : j + 6 ≤ L) {σ : Sg} {Mx My : Mem} (rx : RX Mx σ) (ry : RY My σ) (kk : ∀ (σ' : Sg) (Mx' My' : Mem), RX Mx' σ' → RY My' σ' → Rl p l e s m below meth c b D cA adX adY cells slots 1609 (nI j) [] Mx' My') : Rl p l e s m below meth c b D cA adX adY cells slots 564 (nI j) [] Mx My := by
  refine Rl_x (pc := 564) C dL_law_564 ?_
  refine Rl_arg (pc := 565) 1 C dL_law_565 dL_law_566 dL_law_567 dL_law_568 dL_law_569 rfl (by omega) ?_
  refine Rl_callX (rest := []) (As := [.int (xs (j + 1))]) (pc := 570) C dL_law_570 mv_L_59 rfl (hhX 9) rfl rfl rfl (Nat.le_of_ble_eq_true rfl) hc ?_
  refine hX 9 (by decide) (fun q => xs (j + q)) Mx σ _ rx (fun Mx2 rx2 => ⟨rfl, _, rfl, ?_, ?_⟩)
  · obtain ⟨z, hz⟩ := hF 9 (fun q => xs (j + q)) σ; intro ad; rw [hz]; rfl
  refine Rl_m (pc := 573) C dL_law_573 ?_
  refine Rl_arg (pc := 574) 1 C dL_law_574 dL_law_575 dL_law_576 dL_law_577 dL_law_578 rfl (by omega) ?_
  refine Rl_callY (rest := [(F 9 (fun q => xs (j + q)) σ).1]) (As := [.int (xs (j + 1))]) (pc := 579) C dL_law_579 mv_L_62 rfl (hhY 9) rfl rfl rfl ?_ hc ?_
  · obtain ⟨z, hz⟩ := hF 9 (fun q => xs (j + q)) σ; rw [hz]; exact Nat.le_of_ble_eq_true rfl
  refine hY 9 (by decide) (fun q => xs (j + q)) My σ _ ry (fun My2 ry2 => ⟨rfl, _, rfl, ?_, ?_⟩)
  · obtain ⟨z, hz⟩ := hF 9 (fun q => xs (j + q)) σ; intro ad; rw [hz]; rfl
  obtain ⟨z, hz⟩ := hF 9 (fun q => xs (j + q)) σ
  rw [hz]
  exact Rl_same (pc := 582) 1609 C dL_law_582 (by decide) (kk _ _ _ rx2 ry2)
theorem lw_c_10 (C : lw_Ctx p s m meth c b L xs D cA adX adY) (hc : cells ≤ 600000 ∧ slots ≤ 7302250) (hX : ∀ k, k < 44 → ∀ a, r_api RX GX (hx k) (lw_mX k) (lw_av k a) (F k a)) (hY : ∀ k, k < 44 → ∀ a, r_api RY GY (hy k) (lw_mY k) (lw_av k a) (F k a)) (hhX : ∀ k, hx k ≤ 1000) (hhY : ∀ k, hy k ≤ 1000) (hF : ∀ k a σ, lw_isV k (F k a σ).1) {j : Nat} (hj : j + 6 ≤ L) {σ : Sg} {Mx My : Mem} (rx : RX Mx σ) (ry : RY My σ) (kk : ∀ (σ' : Sg) (Mx' My' : Mem), RX Mx' σ' → RY My' σ' → Rl p l e s m below meth c b D cA adX adY cells slots 1609 (nI j) [] Mx' My') : Rl p l e s m below meth c b D cA adX adY cells slots 587 (nI j) [] Mx My := by
  refine Rl_x (pc := 587) C dL_law_587 ?_
  refine Rl_arg (pc := 588) 1 C dL_law_588 dL_law_589 dL_law_590 dL_law_591 dL_law_592 rfl (by omega) ?_
  refine Rl_callX (rest := []) (As := [.int (xs (j + 1))]) (pc := 593) C dL_law_593 mv_L_63 rfl (hhX 10) rfl rfl rfl (Nat.le_of_ble_eq_true rfl) hc ?_
  refine hX 10 (by decide) (fun q => xs (j + q)) Mx σ _ rx (fun Mx2 rx2 => ⟨rfl, _, rfl, ?_, ?_⟩)
  · obtain ⟨z, hz⟩ := hF 10 (fun q => xs (j + q)) σ; intro ad; rw [hz]; rfl
  refine Rl_m (pc := 596) C dL_law_596 ?_
  refine Rl_arg (pc := 597) 1 C dL_law_597 dL_law_598 dL_law_599 dL_law_600 dL_law_601 rfl (by omega) ?_
  refine Rl_callY (rest := [(F 10 (fun q => xs (j + q)) σ).1]) (As := [.int (xs (j + 1))]) (pc := 602) C dL_law_602 mv_L_66 rfl (hhY 10) rfl rfl rfl ?_ hc ?_
  · obtain ⟨z, hz⟩ := hF 10 (fun q => xs (j + q)) σ; rw [hz]; exact Nat.le_of_ble_eq_true rfl
  refine hY 10 (by decide) (fun q => xs (j + q)) My σ _ ry (fun My2 ry2 => ⟨rfl, _, rfl, ?_, ?_⟩)
  · obtain ⟨z, hz⟩ := hF 10 (fun q => xs (j + q)) σ; intro ad; rw [hz]; rfl
  obtain ⟨z, hz⟩ := hF 10 (fun q => xs (j + q)) σ
  rw [hz]
  exact Rl_same (pc := 605) 1609 C dL_law_605 (by decide) (kk _ _ _ rx2 ry2)
theorem lw_c_11 (C : lw_Ctx p s m meth c b L xs D cA adX adY) (hc : cells ≤ 600000 ∧ slots ≤ 7302250) (hX : ∀ k, k < 44 → ∀ a, r_api RX GX (hx k) (lw_mX k) (lw_av k a) (F k a)) (hY : ∀ k, k < 44 → ∀ a, r_api RY GY (hy k) (lw_mY k) (lw_av k a) (F k a)) (hhX : ∀ k, hx k ≤ 1000) (hhY : ∀ k, hy k ≤ 1000) (hF : ∀ k a σ, lw_isV k (F k a σ).1) {j : Nat} (hj : j + 6 ≤ L) {σ : Sg} {Mx My : Mem} (rx : RX Mx σ) (ry : RY My σ) (kk : ∀ (σ' : Sg) (Mx' My' : Mem), RX Mx' σ' → RY My' σ' → Rl p l e s m below meth c b D cA adX adY cells slots 1609 (nI j) [] Mx' My') : Rl p l e s m below meth c b D cA adX adY cells slots 610 (nI j) [] Mx My := by
  refine Rl_x (pc := 610) C dL_law_610 ?_
  refine Rl_arg (pc := 611) 1 C dL_law_611 dL_law_612 dL_law_613 dL_law_614 dL_law_615 rfl (by omega) ?_
  refine Rl_callX (rest := []) (As := [.int (xs (j + 1))]) (pc := 616) C dL_law_616 mv_L_67 rfl (hhX 11) rfl rfl rfl (Nat.le_of_ble_eq_true rfl) hc ?_
  refine hX 11 (by decide) (fun q => xs (j + q)) Mx σ _ rx (fun Mx2 rx2 => ⟨rfl, _, rfl, ?_, ?_⟩)
  · obtain ⟨z, hz⟩ := hF 11 (fun q => xs (j + q)) σ; intro ad; rw [hz]; rfl
  refine Rl_m (pc := 619) C dL_law_619 ?_
  refine Rl_arg (pc := 620) 1 C dL_law_620 dL_law_621 dL_law_622 dL_law_623 dL_law_624 rfl (by omega) ?_
  refine Rl_callY (rest := [(F 11 (fun q => xs (j + q)) σ).1]) (As := [.int (xs (j + 1))]) (pc := 625) C dL_law_625 mv_L_70 rfl (hhY 11) rfl rfl rfl ?_ hc ?_
  · obtain ⟨z, hz⟩ := hF 11 (fun q => xs (j + q)) σ; rw [hz]; exact Nat.le_of_ble_eq_true rfl
  refine hY 11 (by decide) (fun q => xs (j + q)) My σ _ ry (fun My2 ry2 => ⟨rfl, _, rfl, ?_, ?_⟩)
  · obtain ⟨z, hz⟩ := hF 11 (fun q => xs (j + q)) σ; intro ad; rw [hz]; rfl
  obtain ⟨z, hz⟩ := hF 11 (fun q => xs (j + q)) σ
  rw [hz]
  exact Rl_same (pc := 628) 1609 C dL_law_628 (by decide) (kk _ _ _ rx2 ry2)
theorem lw_c_12 (C : lw_Ctx p s m meth c b L xs D cA adX adY) (hc : cells ≤ 600000 ∧ slots ≤ 7302250) (hX : ∀ k, k < 44 → ∀ a, r_api RX GX (hx k) (lw_mX k) (lw_av k a) (F k a)) (hY : ∀ k, k < 44 → ∀ a, r_api RY GY (hy k) (lw_mY k) (lw_av k a) (F k a)) (hhX : ∀ k, hx k ≤ 1000) (hhY : ∀ k, hy k ≤ 1000) (hF : ∀ k a σ, lw_isV k (F k a σ).1) {j : Nat} (hj : j + 6 ≤ L) {σ : Sg} {Mx My : Mem} (rx : RX Mx σ) (ry : RY My σ) (kk : ∀ (σ' : Sg) (Mx' My' : Mem), RX Mx' σ' → RY My' σ' → Rl p l e s m below meth c b D cA adX adY cells slots 1609 (nI j) [] Mx' My') : Rl p l e s m below meth c b D cA adX adY cells slots 633 (nI j) [] Mx My := by
  refine Rl_x (pc := 633) C dL_law_633 ?_
  refine Rl_arg (pc := 634) 1 C dL_law_634 dL_law_635 dL_law_636 dL_law_637 dL_law_638 rfl (by omega) ?_
  refine Rl_callX (rest := []) (As := [.int (xs (j + 1))]) (pc := 639) C dL_law_639 mv_L_71 rfl (hhX 12) rfl rfl rfl (Nat.le_of_ble_eq_true rfl) hc ?_
  refine hX 12 (by decide) (fun q => xs (j + q)) Mx σ _ rx (fun Mx2 rx2 => ⟨rfl, _, rfl, ?_, ?_⟩)
  · obtain ⟨z, hz⟩ := hF 12 (fun q => xs (j + q)) σ; intro ad; rw [hz]; rfl
  refine Rl_m (pc := 642) C dL_law_642 ?_
  refine Rl_arg (pc := 643) 1 C dL_law_643 dL_law_644 dL_law_645 dL_law_646 dL_law_647 rfl (by omega) ?_
  refine Rl_callY (rest := [(F 12 (fun q => xs (j + q)) σ).1]) (As := [.int (xs (j + 1))]) (pc := 648) C dL_law_648 mv_L_74 rfl (hhY 12) rfl rfl rfl ?_ hc ?_
  · obtain ⟨z, hz⟩ := hF 12 (fun q => xs (j + q)) σ; rw [hz]; exact Nat.le_of_ble_eq_true rfl
  refine hY 12 (by decide) (fun q => xs (j + q)) My σ _ ry (fun My2 ry2 => ⟨rfl, _, rfl, ?_, ?_⟩)
  · obtain ⟨z, hz⟩ := hF 12 (fun q => xs (j + q)) σ; intro ad; rw [hz]; rfl
  obtain ⟨z, hz⟩ := hF 12 (fun q => xs (j + q)) σ
  rw [hz]
  exact Rl_same (pc := 651) 1609 C dL_law_651 (by decide) (kk _ _ _ rx2 ry2)
theorem lw_c_13 (C : lw_Ctx p s m meth c b L xs D cA adX adY) (hc : cells ≤ 600000 ∧ slots ≤ 7302250) (hX : ∀ k, k < 44 → ∀ a, r_api RX GX (hx k) (lw_mX k) (lw_av k a) (F k a)) (hY : ∀ k, k < 44 → ∀ a, r_api RY GY (hy k) (lw_mY k) (lw_av k a) (F k a)) (hhX : ∀ k, hx k ≤ 1000) (hhY : ∀ k, hy k ≤ 1000) (hF : ∀ k a σ, lw_isV k (F k a σ).1) {j : Nat} (hj : j + 6 ≤ L) {σ : Sg} {Mx My : Mem} (rx : RX Mx σ) (ry : RY My σ) (kk : ∀ (σ' : Sg) (Mx' My' : Mem), RX Mx' σ' → RY My' σ' → Rl p l e s m below meth c b D cA adX adY cells slots 1609 (nI j) [] Mx' My') : Rl p l e s m below meth c b D cA adX adY cells slots 656 (nI j) [] Mx My := by
  refine Rl_x (pc := 656) C dL_law_656 ?_
  refine Rl_arg (pc := 657) 1 C dL_law_657 dL_law_658 dL_law_659 dL_law_660 dL_law_661 rfl (by omega) ?_
  refine Rl_arg (pc := 662) 2 C dL_law_662 dL_law_663 dL_law_664 dL_law_665 dL_law_666 rfl (by omega) ?_
  refine Rl_callX (rest := []) (As := [.int (xs (j + 1)), .int (xs (j + 2))]) (pc := 667) C dL_law_667 mv_L_75 rfl (hhX 13) rfl rfl rfl (Nat.le_of_ble_eq_true rfl) hc ?_
  refine hX 13 (by decide) (fun q => xs (j + q)) Mx σ _ rx (fun Mx2 rx2 => ⟨rfl, _, rfl, ?_, ?_⟩)
  · obtain ⟨z, hz⟩ := hF 13 (fun q => xs (j + q)) σ; intro ad; rw [hz]; rfl
  refine Rl_m (pc := 670) C dL_law_670 ?_
  refine Rl_arg (pc := 671) 1 C dL_law_671 dL_law_672 dL_law_673 dL_law_674 dL_law_675 rfl (by omega) ?_
  refine Rl_arg (pc := 676) 2 C dL_law_676 dL_law_677 dL_law_678 dL_law_679 dL_law_680 rfl (by omega) ?_
  refine Rl_callY (rest := [(F 13 (fun q => xs (j + q)) σ).1]) (As := [.int (xs (j + 1)), .int (xs (j + 2))]) (pc := 681) C dL_law_681 mv_L_79 rfl (hhY 13) rfl rfl rfl ?_ hc ?_
  · obtain ⟨z, hz⟩ := hF 13 (fun q => xs (j + q)) σ; rw [hz]; exact Nat.le_of_ble_eq_true rfl
  refine hY 13 (by decide) (fun q => xs (j + q)) My σ _ ry (fun My2 ry2 => ⟨rfl, _, rfl, ?_, ?_⟩)
  · obtain ⟨z, hz⟩ := hF 13 (fun q => xs (j + q)) σ; intro ad; rw [hz]; rfl
  obtain ⟨z, hz⟩ := hF 13 (fun q => xs (j + q)) σ
  rw [hz]
  exact Rl_same (pc := 684) 1609 C dL_law_684 (by decide) (kk _ _ _ rx2 ry2)
theorem lw_c_14 (C : lw_Ctx p s m meth c b L xs D cA adX adY) (hc : cells ≤ 600000 ∧ slots ≤ 7302250) (hX : ∀ k, k < 44 → ∀ a, r_api RX GX (hx k) (lw_mX k) (lw_av k a) (F k a)) (hY : ∀ k, k < 44 → ∀ a, r_api RY GY (hy k) (lw_mY k) (lw_av k a) (F k a)) (hhX : ∀ k, hx k ≤ 1000) (hhY : ∀ k, hy k ≤ 1000) (hF : ∀ k a σ, lw_isV k (F k a σ).1) {j : Nat} (hj : j + 6 ≤ L) {σ : Sg} {Mx My : Mem} (rx : RX Mx σ) (ry : RY My σ) (kk : ∀ (σ' : Sg) (Mx' My' : Mem), RX Mx' σ' → RY My' σ' → Rl p l e s m below meth c b D cA adX adY cells slots 1609 (nI j) [] Mx' My') : Rl p l e s m below meth c b D cA adX adY cells slots 689 (nI j) [] Mx My := by
  refine Rl_x (pc := 689) C dL_law_689 ?_
  refine Rl_arg (pc := 690) 1 C dL_law_690 dL_law_691 dL_law_692 dL_law_693 dL_law_694 rfl (by omega) ?_
  refine Rl_arg (pc := 695) 2 C dL_law_695 dL_law_696 dL_law_697 dL_law_698 dL_law_699 rfl (by omega) ?_
  refine Rl_callX (rest := []) (As := [.int (xs (j + 1)), .int (xs (j + 2))]) (pc := 700) C dL_law_700 mv_L_80 rfl (hhX 14) rfl rfl rfl (Nat.le_of_ble_eq_true rfl) hc ?_
  refine hX 14 (by decide) (fun q => xs (j + q)) Mx σ _ rx (fun Mx2 rx2 => ⟨rfl, _, rfl, ?_, ?_⟩)
  · obtain ⟨z, hz⟩ := hF 14 (fun q => xs (j + q)) σ; intro ad; rw [hz]; rfl
  refine Rl_m (pc := 703) C dL_law_703 ?_
  refine Rl_arg (pc := 704) 1 C dL_law_704 dL_law_705 dL_law_706 dL_law_707 dL_law_708 rfl (by omega) ?_
  refine Rl_arg (pc := 709) 2 C dL_law_709 dL_law_710 dL_law_711 dL_law_712 dL_law_713 rfl (by omega) ?_
  refine Rl_callY (rest := [(F 14 (fun q => xs (j + q)) σ).1]) (As := [.int (xs (j + 1)), .int (xs (j + 2))]) (pc := 714) C dL_law_714 mv_L_83 rfl (hhY 14) rfl rfl rfl ?_ hc ?_
  · obtain ⟨z, hz⟩ := hF 14 (fun q => xs (j + q)) σ; rw [hz]; exact Nat.le_of_ble_eq_true rfl
  refine hY 14 (by decide) (fun q => xs (j + q)) My σ _ ry (fun My2 ry2 => ⟨rfl, _, rfl, ?_, ?_⟩)
  · obtain ⟨z, hz⟩ := hF 14 (fun q => xs (j + q)) σ; intro ad; rw [hz]; rfl
  obtain ⟨z, hz⟩ := hF 14 (fun q => xs (j + q)) σ
  rw [hz]
  exact Rl_same (pc := 717) 1609 C dL_law_717 (by decide) (kk _ _ _ rx2 ry2)
theorem lw_c_15 (C : lw_Ctx p s m meth c b L xs D cA adX adY) (hc : cells ≤ 600000 ∧ slots ≤ 7302250) (hX : ∀ k, k < 44 → ∀ a, r_api RX GX (hx k) (lw_mX k) (lw_av k a) (F k a)) (hY : ∀ k, k < 44 → ∀ a, r_api RY GY (hy k) (lw_mY k) (lw_av k a) (F k a)) (hhX : ∀ k, hx k ≤ 1000) (hhY : ∀ k, hy k ≤ 1000) (hF : ∀ k a σ, lw_isV k (F k a σ).1) {j : Nat} (hj : j + 6 ≤ L) {σ : Sg} {Mx My : Mem} (rx : RX Mx σ) (ry : RY My σ) (kk : ∀ (σ' : Sg) (Mx' My' : Mem), RX Mx' σ' → RY My' σ' → Rl p l e s m below meth c b D cA adX adY cells slots 1609 (nI j) [] Mx' My') : Rl p l e s m below meth c b D cA adX adY cells slots 722 (nI j) [] Mx My := by
  refine Rl_x (pc := 722) C dL_law_722 ?_
  refine Rl_arg (pc := 723) 1 C dL_law_723 dL_law_724 dL_law_725 dL_law_726 dL_law_727 rfl (by omega) ?_
  refine Rl_arg (pc := 728) 2 C dL_law_728 dL_law_729 dL_law_730 dL_law_731 dL_law_732 rfl (by omega) ?_
  refine Rl_callX (rest := []) (As := [.int (xs (j + 1)), .int (xs (j + 2))]) (pc := 733) C dL_law_733 mv_L_84 rfl (hhX 15) rfl rfl rfl (Nat.le_of_ble_eq_true rfl) hc ?_
  refine hX 15 (by decide) (fun q => xs (j + q)) Mx σ _ rx (fun Mx2 rx2 => ⟨rfl, _, rfl, ?_, ?_⟩)
  · obtain ⟨z, hz⟩ := hF 15 (fun q => xs (j + q)) σ; intro ad; rw [hz]; rfl
  refine Rl_m (pc := 736) C dL_law_736 ?_
  refine Rl_arg (pc := 737) 1 C dL_law_737 dL_law_738 dL_law_739 dL_law_740 dL_law_741 rfl (by omega) ?_
  refine Rl_arg (pc := 742) 2 C dL_law_742 dL_law_743 dL_law_744 dL_law_745 dL_law_746 rfl (by omega) ?_
  refine Rl_callY (rest := [(F 15 (fun q => xs (j + q)) σ).1]) (As := [.int (xs (j + 1)), .int (xs (j + 2))]) (pc := 747) C dL_law_747 mv_L_87 rfl (hhY 15) rfl rfl rfl ?_ hc ?_
  · obtain ⟨z, hz⟩ := hF 15 (fun q => xs (j + q)) σ; rw [hz]; exact Nat.le_of_ble_eq_true rfl
  refine hY 15 (by decide) (fun q => xs (j + q)) My σ _ ry (fun My2 ry2 => ⟨rfl, _, rfl, ?_, ?_⟩)
  · obtain ⟨z, hz⟩ := hF 15 (fun q => xs (j + q)) σ; intro ad; rw [hz]; rfl
  obtain ⟨z, hz⟩ := hF 15 (fun q => xs (j + q)) σ
  rw [hz]
  exact Rl_same (pc := 750) 1609 C dL_law_750 (by decide) (kk _ _ _ rx2 ry2)
theorem lw_c_16 (C : lw_Ctx p s m meth c b L xs D cA adX adY) (hc : cells ≤ 600000 ∧ slots ≤ 7302250) (hX : ∀ k, k < 44 → ∀ a, r_api RX GX (hx k) (lw_mX k) (lw_av k a) (F k a)) (hY : ∀ k, k < 44 → ∀ a, r_api RY GY (hy k) (lw_mY k) (lw_av k a) (F k a)) (hhX : ∀ k, hx k ≤ 1000) (hhY : ∀ k, hy k ≤ 1000) (hF : ∀ k a σ, lw_isV k (F k a σ).1) {j : Nat} (hj : j + 6 ≤ L) {σ : Sg} {Mx My : Mem} (rx : RX Mx σ) (ry : RY My σ) (kk : ∀ (σ' : Sg) (Mx' My' : Mem), RX Mx' σ' → RY My' σ' → Rl p l e s m below meth c b D cA adX adY cells slots 1609 (nI j) [] Mx' My') : Rl p l e s m below meth c b D cA adX adY cells slots 755 (nI j) [] Mx My := by
  refine Rl_x (pc := 755) C dL_law_755 ?_
  refine Rl_arg (pc := 756) 1 C dL_law_756 dL_law_757 dL_law_758 dL_law_759 dL_law_760 rfl (by omega) ?_
  refine Rl_arg (pc := 761) 2 C dL_law_761 dL_law_762 dL_law_763 dL_law_764 dL_law_765 rfl (by omega) ?_
  refine Rl_callX (rest := []) (As := [.int (xs (j + 1)), .int (xs (j + 2))]) (pc := 766) C dL_law_766 mv_L_88 rfl (hhX 16) rfl rfl rfl (Nat.le_of_ble_eq_true rfl) hc ?_
  refine hX 16 (by decide) (fun q => xs (j + q)) Mx σ _ rx (fun Mx2 rx2 => ⟨rfl, _, rfl, ?_, ?_⟩)
  · obtain ⟨z, hz⟩ := hF 16 (fun q => xs (j + q)) σ; intro ad; rw [hz]; rfl
  refine Rl_m (pc := 769) C dL_law_769 ?_
  refine Rl_arg (pc := 770) 1 C dL_law_770 dL_law_771 dL_law_772 dL_law_773 dL_law_774 rfl (by omega) ?_
  refine Rl_arg (pc := 775) 2 C dL_law_775 dL_law_776 dL_law_777 dL_law_778 dL_law_779 rfl (by omega) ?_
  refine Rl_callY (rest := [(F 16 (fun q => xs (j + q)) σ).1]) (As := [.int (xs (j + 1)), .int (xs (j + 2))]) (pc := 780) C dL_law_780 mv_L_91 rfl (hhY 16) rfl rfl rfl ?_ hc ?_
  · obtain ⟨z, hz⟩ := hF 16 (fun q => xs (j + q)) σ; rw [hz]; exact Nat.le_of_ble_eq_true rfl
  refine hY 16 (by decide) (fun q => xs (j + q)) My σ _ ry (fun My2 ry2 => ⟨rfl, _, rfl, ?_, ?_⟩)
  · obtain ⟨z, hz⟩ := hF 16 (fun q => xs (j + q)) σ; intro ad; rw [hz]; rfl
  obtain ⟨z, hz⟩ := hF 16 (fun q => xs (j + q)) σ
  rw [hz]
  exact Rl_same (pc := 783) 1609 C dL_law_783 (by decide) (kk _ _ _ rx2 ry2)
theorem lw_c_17 (C : lw_Ctx p s m meth c b L xs D cA adX adY) (hc : cells ≤ 600000 ∧ slots ≤ 7302250) (hX : ∀ k, k < 44 → ∀ a, r_api RX GX (hx k) (lw_mX k) (lw_av k a) (F k a)) (hY : ∀ k, k < 44 → ∀ a, r_api RY GY (hy k) (lw_mY k) (lw_av k a) (F k a)) (hhX : ∀ k, hx k ≤ 1000) (hhY : ∀ k, hy k ≤ 1000) (hF : ∀ k a σ, lw_isV k (F k a σ).1) {j : Nat} (hj : j + 6 ≤ L) {σ : Sg} {Mx My : Mem} (rx : RX Mx σ) (ry : RY My σ) (kk : ∀ (σ' : Sg) (Mx' My' : Mem), RX Mx' σ' → RY My' σ' → Rl p l e s m below meth c b D cA adX adY cells slots 1609 (nI j) [] Mx' My') : Rl p l e s m below meth c b D cA adX adY cells slots 788 (nI j) [] Mx My := by
  refine Rl_x (pc := 788) C dL_law_788 ?_
  refine Rl_arg (pc := 789) 1 C dL_law_789 dL_law_790 dL_law_791 dL_law_792 dL_law_793 rfl (by omega) ?_
  refine Rl_arg (pc := 794) 2 C dL_law_794 dL_law_795 dL_law_796 dL_law_797 dL_law_798 rfl (by omega) ?_
  refine Rl_arg (pc := 799) 3 C dL_law_799 dL_law_800 dL_law_801 dL_law_802 dL_law_803 rfl (by omega) ?_
  refine Rl_arg (pc := 804) 4 C dL_law_804 dL_law_805 dL_law_806 dL_law_807 dL_law_808 rfl (by omega) ?_
  refine Rl_arg (pc := 809) 5 C dL_law_809 dL_law_810 dL_law_811 dL_law_812 dL_law_813 rfl (by omega) ?_
  refine Rl_callX (rest := []) (As := [.int (xs (j + 1)), .int (xs (j + 2)), .int (xs (j + 3)), .int (xs (j + 4)), .int (xs (j + 5))]) (pc := 814) C dL_law_814 mv_L_92 rfl (hhX 17) rfl rfl rfl (Nat.le_of_ble_eq_true rfl) hc ?_
  refine hX 17 (by decide) (fun q => xs (j + q)) Mx σ _ rx (fun Mx2 rx2 => ⟨rfl, _, rfl, ?_, ?_⟩)
  · obtain ⟨z, hz⟩ := hF 17 (fun q => xs (j + q)) σ; intro ad; rw [hz]; rfl
  refine Rl_m (pc := 817) C dL_law_817 ?_
  refine Rl_arg (pc := 818) 1 C dL_law_818 dL_law_819 dL_law_820 dL_law_821 dL_law_822 rfl (by omega) ?_
  refine Rl_arg (pc := 823) 2 C dL_law_823 dL_law_824 dL_law_825 dL_law_826 dL_law_827 rfl (by omega) ?_
  refine Rl_arg (pc := 828) 3 C dL_law_828 dL_law_829 dL_law_830 dL_law_831 dL_law_832 rfl (by omega) ?_
  refine Rl_arg (pc := 833) 4 C dL_law_833 dL_law_834 dL_law_835 dL_law_836 dL_law_837 rfl (by omega) ?_
  refine Rl_arg (pc := 838) 5 C dL_law_838 dL_law_839 dL_law_840 dL_law_841 dL_law_842 rfl (by omega) ?_
  refine Rl_callY (rest := [(F 17 (fun q => xs (j + q)) σ).1]) (As := [.int (xs (j + 1)), .int (xs (j + 2)), .int (xs (j + 3)), .int (xs (j + 4)), .int (xs (j + 5))]) (pc := 843) C dL_law_843 mv_L_95 rfl (hhY 17) rfl rfl rfl ?_ hc ?_
  · obtain ⟨z, hz⟩ := hF 17 (fun q => xs (j + q)) σ; rw [hz]; exact Nat.le_of_ble_eq_true rfl
  refine hY 17 (by decide) (fun q => xs (j + q)) My σ _ ry (fun My2 ry2 => ⟨rfl, _, rfl, ?_, ?_⟩)
  · obtain ⟨z, hz⟩ := hF 17 (fun q => xs (j + q)) σ; intro ad; rw [hz]; rfl
  obtain ⟨z, hz⟩ := hF 17 (fun q => xs (j + q)) σ
  rw [hz]
  exact Rl_same (pc := 846) 1609 C dL_law_846 (by decide) (kk _ _ _ rx2 ry2)
theorem lw_c_18 (C : lw_Ctx p s m meth c b L xs D cA adX adY) (hc : cells ≤ 600000 ∧ slots ≤ 7302250) (hX : ∀ k, k < 44 → ∀ a, r_api RX GX (hx k) (lw_mX k) (lw_av k a) (F k a)) (hY : ∀ k, k < 44 → ∀ a, r_api RY GY (hy k) (lw_mY k) (lw_av k a) (F k a)) (hhX : ∀ k, hx k ≤ 1000) (hhY : ∀ k, hy k ≤ 1000) (hF : ∀ k a σ, lw_isV k (F k a σ).1) {j : Nat} (hj : j + 6 ≤ L) {σ : Sg} {Mx My : Mem} (rx : RX Mx σ) (ry : RY My σ) (kk : ∀ (σ' : Sg) (Mx' My' : Mem), RX Mx' σ' → RY My' σ' → Rl p l e s m below meth c b D cA adX adY cells slots 1609 (nI j) [] Mx' My') : Rl p l e s m below meth c b D cA adX adY cells slots 851 (nI j) [] Mx My := by
  refine Rl_x (pc := 851) C dL_law_851 ?_
  refine Rl_arg (pc := 852) 1 C dL_law_852 dL_law_853 dL_law_854 dL_law_855 dL_law_856 rfl (by omega) ?_
  refine Rl_arg (pc := 857) 2 C dL_law_857 dL_law_858 dL_law_859 dL_law_860 dL_law_861 rfl (by omega) ?_
  refine Rl_callX (rest := []) (As := [.int (xs (j + 1)), .int (xs (j + 2))]) (pc := 862) C dL_law_862 mv_L_96 rfl (hhX 18) rfl rfl rfl (Nat.le_of_ble_eq_true rfl) hc ?_
  refine hX 18 (by decide) (fun q => xs (j + q)) Mx σ _ rx (fun Mx2 rx2 => ⟨rfl, _, rfl, ?_, ?_⟩)
  · obtain ⟨z, hz⟩ := hF 18 (fun q => xs (j + q)) σ; intro ad; rw [hz]; rfl
  refine Rl_m (pc := 865) C dL_law_865 ?_
  refine Rl_arg (pc := 866) 1 C dL_law_866 dL_law_867 dL_law_868 dL_law_869 dL_law_870 rfl (by omega) ?_
  refine Rl_arg (pc := 871) 2 C dL_law_871 dL_law_872 dL_law_873 dL_law_874 dL_law_875 rfl (by omega) ?_
  refine Rl_callY (rest := [(F 18 (fun q => xs (j + q)) σ).1]) (As := [.int (xs (j + 1)), .int (xs (j + 2))]) (pc := 876) C dL_law_876 mv_L_99 rfl (hhY 18) rfl rfl rfl ?_ hc ?_
  · obtain ⟨z, hz⟩ := hF 18 (fun q => xs (j + q)) σ; rw [hz]; exact Nat.le_of_ble_eq_true rfl
  refine hY 18 (by decide) (fun q => xs (j + q)) My σ _ ry (fun My2 ry2 => ⟨rfl, _, rfl, ?_, ?_⟩)
  · obtain ⟨z, hz⟩ := hF 18 (fun q => xs (j + q)) σ; intro ad; rw [hz]; rfl
  obtain ⟨z, hz⟩ := hF 18 (fun q => xs (j + q)) σ
  rw [hz]
  exact Rl_same (pc := 879) 1609 C dL_law_879 (by decide) (kk _ _ _ rx2 ry2)
theorem lw_c_19 (C : lw_Ctx p s m meth c b L xs D cA adX adY) (hc : cells ≤ 600000 ∧ slots ≤ 7302250) (hX : ∀ k, k < 44 → ∀ a, r_api RX GX (hx k) (lw_mX k) (lw_av k a) (F k a)) (hY : ∀ k, k < 44 → ∀ a, r_api RY GY (hy k) (lw_mY k) (lw_av k a) (F k a)) (hhX : ∀ k, hx k ≤ 1000) (hhY : ∀ k, hy k ≤ 1000) (hF : ∀ k a σ, lw_isV k (F k a σ).1) {j : Nat} (hj : j + 6 ≤ L) {σ : Sg} {Mx My : Mem} (rx : RX Mx σ) (ry : RY My σ) (kk : ∀ (σ' : Sg) (Mx' My' : Mem), RX Mx' σ' → RY My' σ' → Rl p l e s m below meth c b D cA adX adY cells slots 1609 (nI j) [] Mx' My') : Rl p l e s m below meth c b D cA adX adY cells slots 884 (nI j) [] Mx My := by
  refine Rl_x (pc := 884) C dL_law_884 ?_
  refine Rl_arg (pc := 885) 1 C dL_law_885 dL_law_886 dL_law_887 dL_law_888 dL_law_889 rfl (by omega) ?_
  refine Rl_arg (pc := 890) 2 C dL_law_890 dL_law_891 dL_law_892 dL_law_893 dL_law_894 rfl (by omega) ?_
  refine Rl_arg (pc := 895) 3 C dL_law_895 dL_law_896 dL_law_897 dL_law_898 dL_law_899 rfl (by omega) ?_
  refine Rl_callX (rest := []) (As := [.int (xs (j + 1)), .int (xs (j + 2)), .int (xs (j + 3))]) (pc := 900) C dL_law_900 mv_L_100 rfl (hhX 19) rfl rfl rfl (Nat.le_of_ble_eq_true rfl) hc ?_
  refine hX 19 (by decide) (fun q => xs (j + q)) Mx σ _ rx (fun Mx2 rx2 => ⟨rfl, _, rfl, ?_, ?_⟩)
  · obtain ⟨z, hz⟩ := hF 19 (fun q => xs (j + q)) σ; intro ad; rw [hz]; rfl
  refine Rl_m (pc := 903) C dL_law_903 ?_
  refine Rl_arg (pc := 904) 1 C dL_law_904 dL_law_905 dL_law_906 dL_law_907 dL_law_908 rfl (by omega) ?_
  refine Rl_arg (pc := 909) 2 C dL_law_909 dL_law_910 dL_law_911 dL_law_912 dL_law_913 rfl (by omega) ?_
  refine Rl_arg (pc := 914) 3 C dL_law_914 dL_law_915 dL_law_916 dL_law_917 dL_law_918 rfl (by omega) ?_
  refine Rl_callY (rest := [(F 19 (fun q => xs (j + q)) σ).1]) (As := [.int (xs (j + 1)), .int (xs (j + 2)), .int (xs (j + 3))]) (pc := 919) C dL_law_919 mv_L_104 rfl (hhY 19) rfl rfl rfl ?_ hc ?_
  · obtain ⟨z, hz⟩ := hF 19 (fun q => xs (j + q)) σ; rw [hz]; exact Nat.le_of_ble_eq_true rfl
  refine hY 19 (by decide) (fun q => xs (j + q)) My σ _ ry (fun My2 ry2 => ⟨rfl, _, rfl, ?_, ?_⟩)
  · obtain ⟨z, hz⟩ := hF 19 (fun q => xs (j + q)) σ; intro ad; rw [hz]; rfl
  obtain ⟨z, hz⟩ := hF 19 (fun q => xs (j + q)) σ
  rw [hz]
  exact Rl_same (pc := 922) 1609 C dL_law_922 (by decide) (kk _ _ _ rx2 ry2)
theorem lw_c_20 (C : lw_Ctx p s m meth c b L xs D cA adX adY) (hc : cells ≤ 600000 ∧ slots ≤ 7302250) (hX : ∀ k, k < 44 → ∀ a, r_api RX GX (hx k) (lw_mX k) (lw_av k a) (F k a)) (hY : ∀ k, k < 44 → ∀ a, r_api RY GY (hy k) (lw_mY k) (lw_av k a) (F k a)) (hhX : ∀ k, hx k ≤ 1000) (hhY : ∀ k, hy k ≤ 1000) (hF : ∀ k a σ, lw_isV k (F k a σ).1) {j : Nat} (hj : j + 6 ≤ L) {σ : Sg} {Mx My : Mem} (rx : RX Mx σ) (ry : RY My σ) (kk : ∀ (σ' : Sg) (Mx' My' : Mem), RX Mx' σ' → RY My' σ' → Rl p l e s m below meth c b D cA adX adY cells slots 1609 (nI j) [] Mx' My') : Rl p l e s m below meth c b D cA adX adY cells slots 927 (nI j) [] Mx My := by
  refine Rl_x (pc := 927) C dL_law_927 ?_
  refine Rl_arg (pc := 928) 1 C dL_law_928 dL_law_929 dL_law_930 dL_law_931 dL_law_932 rfl (by omega) ?_
  refine Rl_arg (pc := 933) 2 C dL_law_933 dL_law_934 dL_law_935 dL_law_936 dL_law_937 rfl (by omega) ?_
  refine Rl_callX (rest := []) (As := [.int (xs (j + 1)), .int (xs (j + 2))]) (pc := 938) C dL_law_938 mv_L_105 rfl (hhX 20) rfl rfl rfl (Nat.le_of_ble_eq_true rfl) hc ?_
  refine hX 20 (by decide) (fun q => xs (j + q)) Mx σ _ rx (fun Mx2 rx2 => ⟨rfl, _, rfl, ?_, ?_⟩)
  · obtain ⟨z, hz⟩ := hF 20 (fun q => xs (j + q)) σ; intro ad; rw [hz]; rfl
  refine Rl_m (pc := 941) C dL_law_941 ?_
  refine Rl_arg (pc := 942) 1 C dL_law_942 dL_law_943 dL_law_944 dL_law_945 dL_law_946 rfl (by omega) ?_
  refine Rl_arg (pc := 947) 2 C dL_law_947 dL_law_948 dL_law_949 dL_law_950 dL_law_951 rfl (by omega) ?_
  refine Rl_callY (rest := [(F 20 (fun q => xs (j + q)) σ).1]) (As := [.int (xs (j + 1)), .int (xs (j + 2))]) (pc := 952) C dL_law_952 mv_L_108 rfl (hhY 20) rfl rfl rfl ?_ hc ?_
  · obtain ⟨z, hz⟩ := hF 20 (fun q => xs (j + q)) σ; rw [hz]; exact Nat.le_of_ble_eq_true rfl
  refine hY 20 (by decide) (fun q => xs (j + q)) My σ _ ry (fun My2 ry2 => ⟨rfl, _, rfl, ?_, ?_⟩)
  · obtain ⟨z, hz⟩ := hF 20 (fun q => xs (j + q)) σ; intro ad; rw [hz]; rfl
  obtain ⟨z, hz⟩ := hF 20 (fun q => xs (j + q)) σ
  rw [hz]
  exact Rl_same (pc := 955) 1609 C dL_law_955 (by decide) (kk _ _ _ rx2 ry2)
theorem lw_c_21 (C : lw_Ctx p s m meth c b L xs D cA adX adY) (hc : cells ≤ 600000 ∧ slots ≤ 7302250) (hX : ∀ k, k < 44 → ∀ a, r_api RX GX (hx k) (lw_mX k) (lw_av k a) (F k a)) (hY : ∀ k, k < 44 → ∀ a, r_api RY GY (hy k) (lw_mY k) (lw_av k a) (F k a)) (hhX : ∀ k, hx k ≤ 1000) (hhY : ∀ k, hy k ≤ 1000) (hF : ∀ k a σ, lw_isV k (F k a σ).1) {j : Nat} (hj : j + 6 ≤ L) {σ : Sg} {Mx My : Mem} (rx : RX Mx σ) (ry : RY My σ) (kk : ∀ (σ' : Sg) (Mx' My' : Mem), RX Mx' σ' → RY My' σ' → Rl p l e s m below meth c b D cA adX adY cells slots 1609 (nI j) [] Mx' My') : Rl p l e s m below meth c b D cA adX adY cells slots 960 (nI j) [] Mx My := by
  refine Rl_x (pc := 960) C dL_law_960 ?_
  refine Rl_arg (pc := 961) 1 C dL_law_961 dL_law_962 dL_law_963 dL_law_964 dL_law_965 rfl (by omega) ?_
  refine Rl_callX (rest := []) (As := [.int (xs (j + 1))]) (pc := 966) C dL_law_966 mv_L_109 rfl (hhX 21) rfl rfl rfl (Nat.le_of_ble_eq_true rfl) hc ?_
  refine hX 21 (by decide) (fun q => xs (j + q)) Mx σ _ rx (fun Mx2 rx2 => ⟨rfl, _, rfl, ?_, ?_⟩)
  · obtain ⟨z, hz⟩ := hF 21 (fun q => xs (j + q)) σ; intro ad; rw [hz]; rfl
  refine Rl_m (pc := 969) C dL_law_969 ?_
  refine Rl_arg (pc := 970) 1 C dL_law_970 dL_law_971 dL_law_972 dL_law_973 dL_law_974 rfl (by omega) ?_
  refine Rl_callY (rest := [(F 21 (fun q => xs (j + q)) σ).1]) (As := [.int (xs (j + 1))]) (pc := 975) C dL_law_975 mv_L_112 rfl (hhY 21) rfl rfl rfl ?_ hc ?_
  · obtain ⟨z, hz⟩ := hF 21 (fun q => xs (j + q)) σ; rw [hz]; exact Nat.le_of_ble_eq_true rfl
  refine hY 21 (by decide) (fun q => xs (j + q)) My σ _ ry (fun My2 ry2 => ⟨rfl, _, rfl, ?_, ?_⟩)
  · obtain ⟨z, hz⟩ := hF 21 (fun q => xs (j + q)) σ; intro ad; rw [hz]; rfl
  obtain ⟨z, hz⟩ := hF 21 (fun q => xs (j + q)) σ
  rw [hz]
  exact Rl_same (pc := 978) 1609 C dL_law_978 (by decide) (kk _ _ _ rx2 ry2)
theorem lw_c_22 (C : lw_Ctx p s m meth c b L xs D cA adX adY) (hc : cells ≤ 600000 ∧ slots ≤ 7302250) (hX : ∀ k, k < 44 → ∀ a, r_api RX GX (hx k) (lw_mX k) (lw_av k a) (F k a)) (hY : ∀ k, k < 44 → ∀ a, r_api RY GY (hy k) (lw_mY k) (lw_av k a) (F k a)) (hhX : ∀ k, hx k ≤ 1000) (hhY : ∀ k, hy k ≤ 1000) (hF : ∀ k a σ, lw_isV k (F k a σ).1) {j : Nat} (hj : j + 6 ≤ L) {σ : Sg} {Mx My : Mem} (rx : RX Mx σ) (ry : RY My σ) (kk : ∀ (σ' : Sg) (Mx' My' : Mem), RX Mx' σ' → RY My' σ' → Rl p l e s m below meth c b D cA adX adY cells slots 1609 (nI j) [] Mx' My') : Rl p l e s m below meth c b D cA adX adY cells slots 983 (nI j) [] Mx My := by
  refine Rl_x (pc := 983) C dL_law_983 ?_
  refine Rl_arg (pc := 984) 1 C dL_law_984 dL_law_985 dL_law_986 dL_law_987 dL_law_988 rfl (by omega) ?_
  refine Rl_arg (pc := 989) 2 C dL_law_989 dL_law_990 dL_law_991 dL_law_992 dL_law_993 rfl (by omega) ?_
  refine Rl_callX (rest := []) (As := [.int (xs (j + 1)), .int (xs (j + 2))]) (pc := 994) C dL_law_994 mv_L_113 rfl (hhX 22) rfl rfl rfl (Nat.le_of_ble_eq_true rfl) hc ?_
  refine hX 22 (by decide) (fun q => xs (j + q)) Mx σ _ rx (fun Mx2 rx2 => ⟨rfl, _, rfl, ?_, ?_⟩)
  · obtain ⟨z, hz⟩ := hF 22 (fun q => xs (j + q)) σ; intro ad; rw [hz]; rfl
  refine Rl_m (pc := 997) C dL_law_997 ?_
  refine Rl_arg (pc := 998) 1 C dL_law_998 dL_law_999 dL_law_1000 dL_law_1001 dL_law_1002 rfl (by omega) ?_
  refine Rl_arg (pc := 1003) 2 C dL_law_1003 dL_law_1004 dL_law_1005 dL_law_1006 dL_law_1007 rfl (by omega) ?_
  refine Rl_callY (rest := [(F 22 (fun q => xs (j + q)) σ).1]) (As := [.int (xs (j + 1)), .int (xs (j + 2))]) (pc := 1008) C dL_law_1008 mv_L_116 rfl (hhY 22) rfl rfl rfl ?_ hc ?_
  · obtain ⟨z, hz⟩ := hF 22 (fun q => xs (j + q)) σ; rw [hz]; exact Nat.le_of_ble_eq_true rfl
  refine hY 22 (by decide) (fun q => xs (j + q)) My σ _ ry (fun My2 ry2 => ⟨rfl, _, rfl, ?_, ?_⟩)
  · obtain ⟨z, hz⟩ := hF 22 (fun q => xs (j + q)) σ; intro ad; rw [hz]; rfl
  obtain ⟨z, hz⟩ := hF 22 (fun q => xs (j + q)) σ
  rw [hz]
  exact Rl_same (pc := 1011) 1609 C dL_law_1011 (by decide) (kk _ _ _ rx2 ry2)
theorem lw_c_23 (C : lw_Ctx p s m meth c b L xs D cA adX adY) (hc : cells ≤ 600000 ∧ slots ≤ 7302250) (hX : ∀ k, k < 44 → ∀ a, r_api RX GX (hx k) (lw_mX k) (lw_av k a) (F k a)) (hY : ∀ k, k < 44 → ∀ a, r_api RY GY (hy k) (lw_mY k) (lw_av k a) (F k a)) (hhX : ∀ k, hx k ≤ 1000) (hhY : ∀ k, hy k ≤ 1000) (hF : ∀ k a σ, lw_isV k (F k a σ).1) {j : Nat} (hj : j + 6 ≤ L) {σ : Sg} {Mx My : Mem} (rx : RX Mx σ) (ry : RY My σ) (kk : ∀ (σ' : Sg) (Mx' My' : Mem), RX Mx' σ' → RY My' σ' → Rl p l e s m below meth c b D cA adX adY cells slots 1609 (nI j) [] Mx' My') : Rl p l e s m below meth c b D cA adX adY cells slots 1016 (nI j) [] Mx My := by
  refine Rl_x (pc := 1016) C dL_law_1016 ?_
  refine Rl_arg (pc := 1017) 1 C dL_law_1017 dL_law_1018 dL_law_1019 dL_law_1020 dL_law_1021 rfl (by omega) ?_
  refine Rl_arg (pc := 1022) 2 C dL_law_1022 dL_law_1023 dL_law_1024 dL_law_1025 dL_law_1026 rfl (by omega) ?_
  refine Rl_arg (pc := 1027) 3 C dL_law_1027 dL_law_1028 dL_law_1029 dL_law_1030 dL_law_1031 rfl (by omega) ?_
  refine Rl_callX (rest := []) (As := [.int (xs (j + 1)), .int (xs (j + 2)), .int (xs (j + 3))]) (pc := 1032) C dL_law_1032 mv_L_117 rfl (hhX 23) rfl rfl rfl (Nat.le_of_ble_eq_true rfl) hc ?_
  refine hX 23 (by decide) (fun q => xs (j + q)) Mx σ _ rx (fun Mx2 rx2 => ⟨rfl, _, rfl, ?_, ?_⟩)
  · obtain ⟨z, hz⟩ := hF 23 (fun q => xs (j + q)) σ; intro ad; rw [hz]; rfl
  refine Rl_m (pc := 1035) C dL_law_1035 ?_
  refine Rl_arg (pc := 1036) 1 C dL_law_1036 dL_law_1037 dL_law_1038 dL_law_1039 dL_law_1040 rfl (by omega) ?_
  refine Rl_arg (pc := 1041) 2 C dL_law_1041 dL_law_1042 dL_law_1043 dL_law_1044 dL_law_1045 rfl (by omega) ?_
  refine Rl_arg (pc := 1046) 3 C dL_law_1046 dL_law_1047 dL_law_1048 dL_law_1049 dL_law_1050 rfl (by omega) ?_
  refine Rl_callY (rest := [(F 23 (fun q => xs (j + q)) σ).1]) (As := [.int (xs (j + 1)), .int (xs (j + 2)), .int (xs (j + 3))]) (pc := 1051) C dL_law_1051 mv_L_120 rfl (hhY 23) rfl rfl rfl ?_ hc ?_
  · obtain ⟨z, hz⟩ := hF 23 (fun q => xs (j + q)) σ; rw [hz]; exact Nat.le_of_ble_eq_true rfl
  refine hY 23 (by decide) (fun q => xs (j + q)) My σ _ ry (fun My2 ry2 => ⟨rfl, _, rfl, ?_, ?_⟩)
  · obtain ⟨z, hz⟩ := hF 23 (fun q => xs (j + q)) σ; intro ad; rw [hz]; rfl
  obtain ⟨z, hz⟩ := hF 23 (fun q => xs (j + q)) σ
  rw [hz]
  exact Rl_same (pc := 1054) 1609 C dL_law_1054 (by decide) (kk _ _ _ rx2 ry2)
theorem lw_c_24 (C : lw_Ctx p s m meth c b L xs D cA adX adY) (hc : cells ≤ 600000 ∧ slots ≤ 7302250) (hX : ∀ k, k < 44 → ∀ a, r_api RX GX (hx k) (lw_mX k) (lw_av k a) (F k a)) (hY : ∀ k, k < 44 → ∀ a, r_api RY GY (hy k) (lw_mY k) (lw_av k a) (F k a)) (hhX : ∀ k, hx k ≤ 1000) (hhY : ∀ k, hy k ≤ 1000) (hF : ∀ k a σ, lw_isV k (F k a σ).1) {j : Nat} (hj : j + 6 ≤ L) {σ : Sg} {Mx My : Mem} (rx : RX Mx σ) (ry : RY My σ) (kk : ∀ (σ' : Sg) (Mx' My' : Mem), RX Mx' σ' → RY My' σ' → Rl p l e s m below meth c b D cA adX adY cells slots 1609 (nI j) [] Mx' My') : Rl p l e s m below meth c b D cA adX adY cells slots 1059 (nI j) [] Mx My := by
  refine Rl_x (pc := 1059) C dL_law_1059 ?_
  refine Rl_arg (pc := 1060) 1 C dL_law_1060 dL_law_1061 dL_law_1062 dL_law_1063 dL_law_1064 rfl (by omega) ?_
  refine Rl_callX (rest := []) (As := [.int (xs (j + 1))]) (pc := 1065) C dL_law_1065 mv_L_121 rfl (hhX 24) rfl rfl rfl (Nat.le_of_ble_eq_true rfl) hc ?_
  refine hX 24 (by decide) (fun q => xs (j + q)) Mx σ _ rx (fun Mx2 rx2 => ⟨rfl, _, rfl, ?_, ?_⟩)
  · obtain ⟨z, hz⟩ := hF 24 (fun q => xs (j + q)) σ; intro ad; rw [hz]; rfl
  refine Rl_m (pc := 1068) C dL_law_1068 ?_
  refine Rl_arg (pc := 1069) 1 C dL_law_1069 dL_law_1070 dL_law_1071 dL_law_1072 dL_law_1073 rfl (by omega) ?_
  refine Rl_callY (rest := [(F 24 (fun q => xs (j + q)) σ).1]) (As := [.int (xs (j + 1))]) (pc := 1074) C dL_law_1074 mv_L_124 rfl (hhY 24) rfl rfl rfl ?_ hc ?_
  · obtain ⟨z, hz⟩ := hF 24 (fun q => xs (j + q)) σ; rw [hz]; exact Nat.le_of_ble_eq_true rfl
  refine hY 24 (by decide) (fun q => xs (j + q)) My σ _ ry (fun My2 ry2 => ⟨rfl, _, rfl, ?_, ?_⟩)
  · obtain ⟨z, hz⟩ := hF 24 (fun q => xs (j + q)) σ; intro ad; rw [hz]; rfl
  obtain ⟨z, hz⟩ := hF 24 (fun q => xs (j + q)) σ
  rw [hz]
  exact Rl_same (pc := 1077) 1609 C dL_law_1077 (by decide) (kk _ _ _ rx2 ry2)
theorem lw_c_25 (C : lw_Ctx p s m meth c b L xs D cA adX adY) (hc : cells ≤ 600000 ∧ slots ≤ 7302250) (hX : ∀ k, k < 44 → ∀ a, r_api RX GX (hx k) (lw_mX k) (lw_av k a) (F k a)) (hY : ∀ k, k < 44 → ∀ a, r_api RY GY (hy k) (lw_mY k) (lw_av k a) (F k a)) (hhX : ∀ k, hx k ≤ 1000) (hhY : ∀ k, hy k ≤ 1000) (hF : ∀ k a σ, lw_isV k (F k a σ).1) {j : Nat} (hj : j + 6 ≤ L) {σ : Sg} {Mx My : Mem} (rx : RX Mx σ) (ry : RY My σ) (kk : ∀ (σ' : Sg) (Mx' My' : Mem), RX Mx' σ' → RY My' σ' → Rl p l e s m below meth c b D cA adX adY cells slots 1609 (nI j) [] Mx' My') : Rl p l e s m below meth c b D cA adX adY cells slots 1082 (nI j) [] Mx My := by
  refine Rl_x (pc := 1082) C dL_law_1082 ?_
  refine Rl_arg (pc := 1083) 1 C dL_law_1083 dL_law_1084 dL_law_1085 dL_law_1086 dL_law_1087 rfl (by omega) ?_
  refine Rl_callX (rest := []) (As := [.int (xs (j + 1))]) (pc := 1088) C dL_law_1088 mv_L_125 rfl (hhX 25) rfl rfl rfl (Nat.le_of_ble_eq_true rfl) hc ?_
  refine hX 25 (by decide) (fun q => xs (j + q)) Mx σ _ rx (fun Mx2 rx2 => ⟨rfl, _, rfl, ?_, ?_⟩)
  · obtain ⟨z, hz⟩ := hF 25 (fun q => xs (j + q)) σ; intro ad; rw [hz]; rfl
  refine Rl_m (pc := 1091) C dL_law_1091 ?_
  refine Rl_arg (pc := 1092) 1 C dL_law_1092 dL_law_1093 dL_law_1094 dL_law_1095 dL_law_1096 rfl (by omega) ?_
  refine Rl_callY (rest := [(F 25 (fun q => xs (j + q)) σ).1]) (As := [.int (xs (j + 1))]) (pc := 1097) C dL_law_1097 mv_L_128 rfl (hhY 25) rfl rfl rfl ?_ hc ?_
  · obtain ⟨z, hz⟩ := hF 25 (fun q => xs (j + q)) σ; rw [hz]; exact Nat.le_of_ble_eq_true rfl
  refine hY 25 (by decide) (fun q => xs (j + q)) My σ _ ry (fun My2 ry2 => ⟨rfl, _, rfl, ?_, ?_⟩)
  · obtain ⟨z, hz⟩ := hF 25 (fun q => xs (j + q)) σ; intro ad; rw [hz]; rfl
  obtain ⟨z, hz⟩ := hF 25 (fun q => xs (j + q)) σ
  rw [hz]
  exact Rl_same (pc := 1100) 1609 C dL_law_1100 (by decide) (kk _ _ _ rx2 ry2)
theorem lw_c_26 (C : lw_Ctx p s m meth c b L xs D cA adX adY) (hc : cells ≤ 600000 ∧ slots ≤ 7302250) (hX : ∀ k, k < 44 → ∀ a, r_api RX GX (hx k) (lw_mX k) (lw_av k a) (F k a)) (hY : ∀ k, k < 44 → ∀ a, r_api RY GY (hy k) (lw_mY k) (lw_av k a) (F k a)) (hhX : ∀ k, hx k ≤ 1000) (hhY : ∀ k, hy k ≤ 1000) (hF : ∀ k a σ, lw_isV k (F k a σ).1) {j : Nat} (hj : j + 6 ≤ L) {σ : Sg} {Mx My : Mem} (rx : RX Mx σ) (ry : RY My σ) (kk : ∀ (σ' : Sg) (Mx' My' : Mem), RX Mx' σ' → RY My' σ' → Rl p l e s m below meth c b D cA adX adY cells slots 1609 (nI j) [] Mx' My') : Rl p l e s m below meth c b D cA adX adY cells slots 1105 (nI j) [] Mx My := by
  refine Rl_x (pc := 1105) C dL_law_1105 ?_
  refine Rl_arg (pc := 1106) 1 C dL_law_1106 dL_law_1107 dL_law_1108 dL_law_1109 dL_law_1110 rfl (by omega) ?_
  refine Rl_callX (rest := []) (As := [.int (xs (j + 1))]) (pc := 1111) C dL_law_1111 mv_L_129 rfl (hhX 26) rfl rfl rfl (Nat.le_of_ble_eq_true rfl) hc ?_
  refine hX 26 (by decide) (fun q => xs (j + q)) Mx σ _ rx (fun Mx2 rx2 => ⟨rfl, _, rfl, ?_, ?_⟩)
  · obtain ⟨z, hz⟩ := hF 26 (fun q => xs (j + q)) σ; intro ad; rw [hz]; rfl
  refine Rl_m (pc := 1114) C dL_law_1114 ?_
  refine Rl_arg (pc := 1115) 1 C dL_law_1115 dL_law_1116 dL_law_1117 dL_law_1118 dL_law_1119 rfl (by omega) ?_
  refine Rl_callY (rest := [(F 26 (fun q => xs (j + q)) σ).1]) (As := [.int (xs (j + 1))]) (pc := 1120) C dL_law_1120 mv_L_132 rfl (hhY 26) rfl rfl rfl ?_ hc ?_
  · obtain ⟨z, hz⟩ := hF 26 (fun q => xs (j + q)) σ; rw [hz]; exact Nat.le_of_ble_eq_true rfl
  refine hY 26 (by decide) (fun q => xs (j + q)) My σ _ ry (fun My2 ry2 => ⟨rfl, _, rfl, ?_, ?_⟩)
  · obtain ⟨z, hz⟩ := hF 26 (fun q => xs (j + q)) σ; intro ad; rw [hz]; rfl
  obtain ⟨z, hz⟩ := hF 26 (fun q => xs (j + q)) σ
  rw [hz]
  exact Rl_same (pc := 1123) 1609 C dL_law_1123 (by decide) (kk _ _ _ rx2 ry2)
theorem lw_c_27 (C : lw_Ctx p s m meth c b L xs D cA adX adY) (hc : cells ≤ 600000 ∧ slots ≤ 7302250) (hX : ∀ k, k < 44 → ∀ a, r_api RX GX (hx k) (lw_mX k) (lw_av k a) (F k a)) (hY : ∀ k, k < 44 → ∀ a, r_api RY GY (hy k) (lw_mY k) (lw_av k a) (F k a)) (hhX : ∀ k, hx k ≤ 1000) (hhY : ∀ k, hy k ≤ 1000) (hF : ∀ k a σ, lw_isV k (F k a σ).1) {j : Nat} (hj : j + 6 ≤ L) {σ : Sg} {Mx My : Mem} (rx : RX Mx σ) (ry : RY My σ) (kk : ∀ (σ' : Sg) (Mx' My' : Mem), RX Mx' σ' → RY My' σ' → Rl p l e s m below meth c b D cA adX adY cells slots 1609 (nI j) [] Mx' My') : Rl p l e s m below meth c b D cA adX adY cells slots 1128 (nI j) [] Mx My := by
  refine Rl_x (pc := 1128) C dL_law_1128 ?_
  refine Rl_arg (pc := 1129) 1 C dL_law_1129 dL_law_1130 dL_law_1131 dL_law_1132 dL_law_1133 rfl (by omega) ?_
  refine Rl_arg (pc := 1134) 2 C dL_law_1134 dL_law_1135 dL_law_1136 dL_law_1137 dL_law_1138 rfl (by omega) ?_
  refine Rl_arg (pc := 1139) 3 C dL_law_1139 dL_law_1140 dL_law_1141 dL_law_1142 dL_law_1143 rfl (by omega) ?_
  refine Rl_callX (rest := []) (As := [.int (xs (j + 1)), .int (xs (j + 2)), .int (xs (j + 3))]) (pc := 1144) C dL_law_1144 mv_L_133 rfl (hhX 27) rfl rfl rfl (Nat.le_of_ble_eq_true rfl) hc ?_
  refine hX 27 (by decide) (fun q => xs (j + q)) Mx σ _ rx (fun Mx2 rx2 => ⟨rfl, _, rfl, ?_, ?_⟩)
  · obtain ⟨z, hz⟩ := hF 27 (fun q => xs (j + q)) σ; intro ad; rw [hz]; rfl
  refine Rl_m (pc := 1147) C dL_law_1147 ?_
  refine Rl_arg (pc := 1148) 1 C dL_law_1148 dL_law_1149 dL_law_1150 dL_law_1151 dL_law_1152 rfl (by omega) ?_
  refine Rl_arg (pc := 1153) 2 C dL_law_1153 dL_law_1154 dL_law_1155 dL_law_1156 dL_law_1157 rfl (by omega) ?_
  refine Rl_arg (pc := 1158) 3 C dL_law_1158 dL_law_1159 dL_law_1160 dL_law_1161 dL_law_1162 rfl (by omega) ?_
  refine Rl_callY (rest := [(F 27 (fun q => xs (j + q)) σ).1]) (As := [.int (xs (j + 1)), .int (xs (j + 2)), .int (xs (j + 3))]) (pc := 1163) C dL_law_1163 mv_L_136 rfl (hhY 27) rfl rfl rfl ?_ hc ?_
  · obtain ⟨z, hz⟩ := hF 27 (fun q => xs (j + q)) σ; rw [hz]; exact Nat.le_of_ble_eq_true rfl
  refine hY 27 (by decide) (fun q => xs (j + q)) My σ _ ry (fun My2 ry2 => ⟨rfl, _, rfl, ?_, ?_⟩)
  · obtain ⟨z, hz⟩ := hF 27 (fun q => xs (j + q)) σ; intro ad; rw [hz]; rfl
  obtain ⟨z, hz⟩ := hF 27 (fun q => xs (j + q)) σ
  rw [hz]
  exact Rl_same (pc := 1166) 1609 C dL_law_1166 (by decide) (kk _ _ _ rx2 ry2)
theorem lw_c_28 (C : lw_Ctx p s m meth c b L xs D cA adX adY) (hc : cells ≤ 600000 ∧ slots ≤ 7302250) (hX : ∀ k, k < 44 → ∀ a, r_api RX GX (hx k) (lw_mX k) (lw_av k a) (F k a)) (hY : ∀ k, k < 44 → ∀ a, r_api RY GY (hy k) (lw_mY k) (lw_av k a) (F k a)) (hhX : ∀ k, hx k ≤ 1000) (hhY : ∀ k, hy k ≤ 1000) (hF : ∀ k a σ, lw_isV k (F k a σ).1) {j : Nat} (hj : j + 6 ≤ L) {σ : Sg} {Mx My : Mem} (rx : RX Mx σ) (ry : RY My σ) (kk : ∀ (σ' : Sg) (Mx' My' : Mem), RX Mx' σ' → RY My' σ' → Rl p l e s m below meth c b D cA adX adY cells slots 1609 (nI j) [] Mx' My') : Rl p l e s m below meth c b D cA adX adY cells slots 1171 (nI j) [] Mx My := by
  refine Rl_x (pc := 1171) C dL_law_1171 ?_
  refine Rl_arg (pc := 1172) 1 C dL_law_1172 dL_law_1173 dL_law_1174 dL_law_1175 dL_law_1176 rfl (by omega) ?_
  refine Rl_arg (pc := 1177) 2 C dL_law_1177 dL_law_1178 dL_law_1179 dL_law_1180 dL_law_1181 rfl (by omega) ?_
  refine Rl_callX (rest := []) (As := [.int (xs (j + 1)), .int (xs (j + 2))]) (pc := 1182) C dL_law_1182 mv_L_137 rfl (hhX 28) rfl rfl rfl (Nat.le_of_ble_eq_true rfl) hc ?_
  refine hX 28 (by decide) (fun q => xs (j + q)) Mx σ _ rx (fun Mx2 rx2 => ⟨rfl, _, rfl, ?_, ?_⟩)
  · obtain ⟨z, hz⟩ := hF 28 (fun q => xs (j + q)) σ; intro ad; rw [hz]; rfl
  refine Rl_m (pc := 1185) C dL_law_1185 ?_
  refine Rl_arg (pc := 1186) 1 C dL_law_1186 dL_law_1187 dL_law_1188 dL_law_1189 dL_law_1190 rfl (by omega) ?_
  refine Rl_arg (pc := 1191) 2 C dL_law_1191 dL_law_1192 dL_law_1193 dL_law_1194 dL_law_1195 rfl (by omega) ?_
  refine Rl_callY (rest := [(F 28 (fun q => xs (j + q)) σ).1]) (As := [.int (xs (j + 1)), .int (xs (j + 2))]) (pc := 1196) C dL_law_1196 mv_L_140 rfl (hhY 28) rfl rfl rfl ?_ hc ?_
  · obtain ⟨z, hz⟩ := hF 28 (fun q => xs (j + q)) σ; rw [hz]; exact Nat.le_of_ble_eq_true rfl
  refine hY 28 (by decide) (fun q => xs (j + q)) My σ _ ry (fun My2 ry2 => ⟨rfl, _, rfl, ?_, ?_⟩)
  · obtain ⟨z, hz⟩ := hF 28 (fun q => xs (j + q)) σ; intro ad; rw [hz]; rfl
  obtain ⟨z, hz⟩ := hF 28 (fun q => xs (j + q)) σ
  rw [hz]
  exact Rl_same (pc := 1199) 1609 C dL_law_1199 (by decide) (kk _ _ _ rx2 ry2)
theorem lw_c_29 (C : lw_Ctx p s m meth c b L xs D cA adX adY) (hc : cells ≤ 600000 ∧ slots ≤ 7302250) (hX : ∀ k, k < 44 → ∀ a, r_api RX GX (hx k) (lw_mX k) (lw_av k a) (F k a)) (hY : ∀ k, k < 44 → ∀ a, r_api RY GY (hy k) (lw_mY k) (lw_av k a) (F k a)) (hhX : ∀ k, hx k ≤ 1000) (hhY : ∀ k, hy k ≤ 1000) (hF : ∀ k a σ, lw_isV k (F k a σ).1) {j : Nat} (hj : j + 6 ≤ L) {σ : Sg} {Mx My : Mem} (rx : RX Mx σ) (ry : RY My σ) (kk : ∀ (σ' : Sg) (Mx' My' : Mem), RX Mx' σ' → RY My' σ' → Rl p l e s m below meth c b D cA adX adY cells slots 1609 (nI j) [] Mx' My') : Rl p l e s m below meth c b D cA adX adY cells slots 1204 (nI j) [] Mx My := by
  refine Rl_x (pc := 1204) C dL_law_1204 ?_
  refine Rl_arg (pc := 1205) 1 C dL_law_1205 dL_law_1206 dL_law_1207 dL_law_1208 dL_law_1209 rfl (by omega) ?_
  refine Rl_callX (rest := []) (As := [.int (xs (j + 1))]) (pc := 1210) C dL_law_1210 mv_L_141 rfl (hhX 29) rfl rfl rfl (Nat.le_of_ble_eq_true rfl) hc ?_
  refine hX 29 (by decide) (fun q => xs (j + q)) Mx σ _ rx (fun Mx2 rx2 => ⟨rfl, _, rfl, ?_, ?_⟩)
  · obtain ⟨z, hz⟩ := hF 29 (fun q => xs (j + q)) σ; intro ad; rw [hz]; rfl
  refine Rl_m (pc := 1213) C dL_law_1213 ?_
  refine Rl_arg (pc := 1214) 1 C dL_law_1214 dL_law_1215 dL_law_1216 dL_law_1217 dL_law_1218 rfl (by omega) ?_
  refine Rl_callY (rest := [(F 29 (fun q => xs (j + q)) σ).1]) (As := [.int (xs (j + 1))]) (pc := 1219) C dL_law_1219 mv_L_144 rfl (hhY 29) rfl rfl rfl ?_ hc ?_
  · obtain ⟨z, hz⟩ := hF 29 (fun q => xs (j + q)) σ; rw [hz]; exact Nat.le_of_ble_eq_true rfl
  refine hY 29 (by decide) (fun q => xs (j + q)) My σ _ ry (fun My2 ry2 => ⟨rfl, _, rfl, ?_, ?_⟩)
  · obtain ⟨z, hz⟩ := hF 29 (fun q => xs (j + q)) σ; intro ad; rw [hz]; rfl
  obtain ⟨z, hz⟩ := hF 29 (fun q => xs (j + q)) σ
  rw [hz]
  exact Rl_same (pc := 1222) 1609 C dL_law_1222 (by decide) (kk _ _ _ rx2 ry2)
theorem lw_c_30 (C : lw_Ctx p s m meth c b L xs D cA adX adY) (hc : cells ≤ 600000 ∧ slots ≤ 7302250) (hX : ∀ k, k < 44 → ∀ a, r_api RX GX (hx k) (lw_mX k) (lw_av k a) (F k a)) (hY : ∀ k, k < 44 → ∀ a, r_api RY GY (hy k) (lw_mY k) (lw_av k a) (F k a)) (hhX : ∀ k, hx k ≤ 1000) (hhY : ∀ k, hy k ≤ 1000) (hF : ∀ k a σ, lw_isV k (F k a σ).1) {j : Nat} (hj : j + 6 ≤ L) {σ : Sg} {Mx My : Mem} (rx : RX Mx σ) (ry : RY My σ) (kk : ∀ (σ' : Sg) (Mx' My' : Mem), RX Mx' σ' → RY My' σ' → Rl p l e s m below meth c b D cA adX adY cells slots 1609 (nI j) [] Mx' My') : Rl p l e s m below meth c b D cA adX adY cells slots 1227 (nI j) [] Mx My := by
  refine Rl_x (pc := 1227) C dL_law_1227 ?_
  refine Rl_arg (pc := 1228) 1 C dL_law_1228 dL_law_1229 dL_law_1230 dL_law_1231 dL_law_1232 rfl (by omega) ?_
  refine Rl_arg (pc := 1233) 2 C dL_law_1233 dL_law_1234 dL_law_1235 dL_law_1236 dL_law_1237 rfl (by omega) ?_
  refine Rl_callX (rest := []) (As := [.int (xs (j + 1)), .int (xs (j + 2))]) (pc := 1238) C dL_law_1238 mv_L_145 rfl (hhX 30) rfl rfl rfl (Nat.le_of_ble_eq_true rfl) hc ?_
  refine hX 30 (by decide) (fun q => xs (j + q)) Mx σ _ rx (fun Mx2 rx2 => ⟨rfl, _, rfl, ?_, ?_⟩)
  · obtain ⟨z, hz⟩ := hF 30 (fun q => xs (j + q)) σ; intro ad; rw [hz]; rfl
  refine Rl_m (pc := 1241) C dL_law_1241 ?_
  refine Rl_arg (pc := 1242) 1 C dL_law_1242 dL_law_1243 dL_law_1244 dL_law_1245 dL_law_1246 rfl (by omega) ?_
  refine Rl_arg (pc := 1247) 2 C dL_law_1247 dL_law_1248 dL_law_1249 dL_law_1250 dL_law_1251 rfl (by omega) ?_
  refine Rl_callY (rest := [(F 30 (fun q => xs (j + q)) σ).1]) (As := [.int (xs (j + 1)), .int (xs (j + 2))]) (pc := 1252) C dL_law_1252 mv_L_148 rfl (hhY 30) rfl rfl rfl ?_ hc ?_
  · obtain ⟨z, hz⟩ := hF 30 (fun q => xs (j + q)) σ; rw [hz]; exact Nat.le_of_ble_eq_true rfl
  refine hY 30 (by decide) (fun q => xs (j + q)) My σ _ ry (fun My2 ry2 => ⟨rfl, _, rfl, ?_, ?_⟩)
  · obtain ⟨z, hz⟩ := hF 30 (fun q => xs (j + q)) σ; intro ad; rw [hz]; rfl
  obtain ⟨z, hz⟩ := hF 30 (fun q => xs (j + q)) σ
  rw [hz]
  exact Rl_same (pc := 1255) 1609 C dL_law_1255 (by decide) (kk _ _ _ rx2 ry2)
theorem lw_c_31 (C : lw_Ctx p s m meth c b L xs D cA adX adY) (hc : cells ≤ 600000 ∧ slots ≤ 7302250) (hX : ∀ k, k < 44 → ∀ a, r_api RX GX (hx k) (lw_mX k) (lw_av k a) (F k a)) (hY : ∀ k, k < 44 → ∀ a, r_api RY GY (hy k) (lw_mY k) (lw_av k a) (F k a)) (hhX : ∀ k, hx k ≤ 1000) (hhY : ∀ k, hy k ≤ 1000) (hF : ∀ k a σ, lw_isV k (F k a σ).1) {j : Nat} (hj : j + 6 ≤ L) {σ : Sg} {Mx My : Mem} (rx : RX Mx σ) (ry : RY My σ) (kk : ∀ (σ' : Sg) (Mx' My' : Mem), RX Mx' σ' → RY My' σ' → Rl p l e s m below meth c b D cA adX adY cells slots 1609 (nI j) [] Mx' My') : Rl p l e s m below meth c b D cA adX adY cells slots 1260 (nI j) [] Mx My := by
  refine Rl_x (pc := 1260) C dL_law_1260 ?_
  refine Rl_arg (pc := 1261) 1 C dL_law_1261 dL_law_1262 dL_law_1263 dL_law_1264 dL_law_1265 rfl (by omega) ?_
  refine Rl_callX (rest := []) (As := [.int (xs (j + 1))]) (pc := 1266) C dL_law_1266 mv_L_149 rfl (hhX 31) rfl rfl rfl (Nat.le_of_ble_eq_true rfl) hc ?_
  refine hX 31 (by decide) (fun q => xs (j + q)) Mx σ _ rx (fun Mx2 rx2 => ⟨rfl, _, rfl, ?_, ?_⟩)
  · obtain ⟨z, hz⟩ := hF 31 (fun q => xs (j + q)) σ; intro ad; rw [hz]; rfl
  refine Rl_m (pc := 1269) C dL_law_1269 ?_
  refine Rl_arg (pc := 1270) 1 C dL_law_1270 dL_law_1271 dL_law_1272 dL_law_1273 dL_law_1274 rfl (by omega) ?_
  refine Rl_callY (rest := [(F 31 (fun q => xs (j + q)) σ).1]) (As := [.int (xs (j + 1))]) (pc := 1275) C dL_law_1275 mv_L_152 rfl (hhY 31) rfl rfl rfl ?_ hc ?_
  · obtain ⟨z, hz⟩ := hF 31 (fun q => xs (j + q)) σ; rw [hz]; exact Nat.le_of_ble_eq_true rfl
  refine hY 31 (by decide) (fun q => xs (j + q)) My σ _ ry (fun My2 ry2 => ⟨rfl, _, rfl, ?_, ?_⟩)
  · obtain ⟨z, hz⟩ := hF 31 (fun q => xs (j + q)) σ; intro ad; rw [hz]; rfl
  obtain ⟨z, hz⟩ := hF 31 (fun q => xs (j + q)) σ
  rw [hz]
  exact Rl_same (pc := 1278) 1609 C dL_law_1278 (by decide) (kk _ _ _ rx2 ry2)
theorem lw_c_32 (C : lw_Ctx p s m meth c b L xs D cA adX adY) (hc : cells ≤ 600000 ∧ slots ≤ 7302250) (hX : ∀ k, k < 44 → ∀ a, r_api RX GX (hx k) (lw_mX k) (lw_av k a) (F k a)) (hY : ∀ k, k < 44 → ∀ a, r_api RY GY (hy k) (lw_mY k) (lw_av k a) (F k a)) (hhX : ∀ k, hx k ≤ 1000) (hhY : ∀ k, hy k ≤ 1000) (hF : ∀ k a σ, lw_isV k (F k a σ).1) {j : Nat} (hj : j + 6 ≤ L) {σ : Sg} {Mx My : Mem} (rx : RX Mx σ) (ry : RY My σ) (kk : ∀ (σ' : Sg) (Mx' My' : Mem), RX Mx' σ' → RY My' σ' → Rl p l e s m below meth c b D cA adX adY cells slots 1609 (nI j) [] Mx' My') : Rl p l e s m below meth c b D cA adX adY cells slots 1283 (nI j) [] Mx My := by
  refine Rl_x (pc := 1283) C dL_law_1283 ?_
  refine Rl_arg (pc := 1284) 1 C dL_law_1284 dL_law_1285 dL_law_1286 dL_law_1287 dL_law_1288 rfl (by omega) ?_
  refine Rl_callX (rest := []) (As := [.int (xs (j + 1))]) (pc := 1289) C dL_law_1289 mv_L_153 rfl (hhX 32) rfl rfl rfl (Nat.le_of_ble_eq_true rfl) hc ?_
  refine hX 32 (by decide) (fun q => xs (j + q)) Mx σ _ rx (fun Mx2 rx2 => ⟨rfl, _, rfl, ?_, ?_⟩)
  · obtain ⟨z, hz⟩ := hF 32 (fun q => xs (j + q)) σ; intro ad; rw [hz]; rfl
  refine Rl_m (pc := 1292) C dL_law_1292 ?_
  refine Rl_arg (pc := 1293) 1 C dL_law_1293 dL_law_1294 dL_law_1295 dL_law_1296 dL_law_1297 rfl (by omega) ?_
  refine Rl_callY (rest := [(F 32 (fun q => xs (j + q)) σ).1]) (As := [.int (xs (j + 1))]) (pc := 1298) C dL_law_1298 mv_L_156 rfl (hhY 32) rfl rfl rfl ?_ hc ?_
  · obtain ⟨z, hz⟩ := hF 32 (fun q => xs (j + q)) σ; rw [hz]; exact Nat.le_of_ble_eq_true rfl
  refine hY 32 (by decide) (fun q => xs (j + q)) My σ _ ry (fun My2 ry2 => ⟨rfl, _, rfl, ?_, ?_⟩)
  · obtain ⟨z, hz⟩ := hF 32 (fun q => xs (j + q)) σ; intro ad; rw [hz]; rfl
  obtain ⟨z, hz⟩ := hF 32 (fun q => xs (j + q)) σ
  rw [hz]
  exact Rl_same (pc := 1301) 1609 C dL_law_1301 (by decide) (kk _ _ _ rx2 ry2)
theorem lw_c_33 (C : lw_Ctx p s m meth c b L xs D cA adX adY) (hc : cells ≤ 600000 ∧ slots ≤ 7302250) (hX : ∀ k, k < 44 → ∀ a, r_api RX GX (hx k) (lw_mX k) (lw_av k a) (F k a)) (hY : ∀ k, k < 44 → ∀ a, r_api RY GY (hy k) (lw_mY k) (lw_av k a) (F k a)) (hhX : ∀ k, hx k ≤ 1000) (hhY : ∀ k, hy k ≤ 1000) (hF : ∀ k a σ, lw_isV k (F k a σ).1) {j : Nat} (hj : j + 6 ≤ L) {σ : Sg} {Mx My : Mem} (rx : RX Mx σ) (ry : RY My σ) (kk : ∀ (σ' : Sg) (Mx' My' : Mem), RX Mx' σ' → RY My' σ' → Rl p l e s m below meth c b D cA adX adY cells slots 1609 (nI j) [] Mx' My') : Rl p l e s m below meth c b D cA adX adY cells slots 1306 (nI j) [] Mx My := by
  refine Rl_x (pc := 1306) C dL_law_1306 ?_
  refine Rl_arg (pc := 1307) 1 C dL_law_1307 dL_law_1308 dL_law_1309 dL_law_1310 dL_law_1311 rfl (by omega) ?_
  refine Rl_arg (pc := 1312) 2 C dL_law_1312 dL_law_1313 dL_law_1314 dL_law_1315 dL_law_1316 rfl (by omega) ?_
  refine Rl_arg (pc := 1317) 3 C dL_law_1317 dL_law_1318 dL_law_1319 dL_law_1320 dL_law_1321 rfl (by omega) ?_
  refine Rl_callX (rest := []) (As := [.int (xs (j + 1)), .int (xs (j + 2)), .int (xs (j + 3))]) (pc := 1322) C dL_law_1322 mv_L_157 rfl (hhX 33) rfl rfl rfl (Nat.le_of_ble_eq_true rfl) hc ?_
  refine hX 33 (by decide) (fun q => xs (j + q)) Mx σ _ rx (fun Mx2 rx2 => ⟨rfl, _, rfl, ?_, ?_⟩)
  · obtain ⟨z, hz⟩ := hF 33 (fun q => xs (j + q)) σ; intro ad; rw [hz]; rfl
  refine Rl_m (pc := 1325) C dL_law_1325 ?_
  refine Rl_arg (pc := 1326) 1 C dL_law_1326 dL_law_1327 dL_law_1328 dL_law_1329 dL_law_1330 rfl (by omega) ?_
  refine Rl_arg (pc := 1331) 2 C dL_law_1331 dL_law_1332 dL_law_1333 dL_law_1334 dL_law_1335 rfl (by omega) ?_
  refine Rl_arg (pc := 1336) 3 C dL_law_1336 dL_law_1337 dL_law_1338 dL_law_1339 dL_law_1340 rfl (by omega) ?_
  refine Rl_callY (rest := [(F 33 (fun q => xs (j + q)) σ).1]) (As := [.int (xs (j + 1)), .int (xs (j + 2)), .int (xs (j + 3))]) (pc := 1341) C dL_law_1341 mv_L_160 rfl (hhY 33) rfl rfl rfl ?_ hc ?_
  · obtain ⟨z, hz⟩ := hF 33 (fun q => xs (j + q)) σ; rw [hz]; exact Nat.le_of_ble_eq_true rfl
  refine hY 33 (by decide) (fun q => xs (j + q)) My σ _ ry (fun My2 ry2 => ⟨rfl, _, rfl, ?_, ?_⟩)
  · obtain ⟨z, hz⟩ := hF 33 (fun q => xs (j + q)) σ; intro ad; rw [hz]; rfl
  obtain ⟨z, hz⟩ := hF 33 (fun q => xs (j + q)) σ
  rw [hz]
  exact Rl_same (pc := 1344) 1609 C dL_law_1344 (by decide) (kk _ _ _ rx2 ry2)
theorem lw_c_34 (C : lw_Ctx p s m meth c b L xs D cA adX adY) (hc : cells ≤ 600000 ∧ slots ≤ 7302250) (hX : ∀ k, k < 44 → ∀ a, r_api RX GX (hx k) (lw_mX k) (lw_av k a) (F k a)) (hY : ∀ k, k < 44 → ∀ a, r_api RY GY (hy k) (lw_mY k) (lw_av k a) (F k a)) (hhX : ∀ k, hx k ≤ 1000) (hhY : ∀ k, hy k ≤ 1000) (hF : ∀ k a σ, lw_isV k (F k a σ).1) {j : Nat} (hj : j + 6 ≤ L) {σ : Sg} {Mx My : Mem} (rx : RX Mx σ) (ry : RY My σ) (kk : ∀ (σ' : Sg) (Mx' My' : Mem), RX Mx' σ' → RY My' σ' → Rl p l e s m below meth c b D cA adX adY cells slots 1609 (nI j) [] Mx' My') : Rl p l e s m below meth c b D cA adX adY cells slots 1349 (nI j) [] Mx My := by
  refine Rl_x (pc := 1349) C dL_law_1349 ?_
  refine Rl_arg (pc := 1350) 1 C dL_law_1350 dL_law_1351 dL_law_1352 dL_law_1353 dL_law_1354 rfl (by omega) ?_
  refine Rl_arg (pc := 1355) 2 C dL_law_1355 dL_law_1356 dL_law_1357 dL_law_1358 dL_law_1359 rfl (by omega) ?_
  refine Rl_callX (rest := []) (As := [.int (xs (j + 1)), .int (xs (j + 2))]) (pc := 1360) C dL_law_1360 mv_L_161 rfl (hhX 34) rfl rfl rfl (Nat.le_of_ble_eq_true rfl) hc ?_
  refine hX 34 (by decide) (fun q => xs (j + q)) Mx σ _ rx (fun Mx2 rx2 => ⟨rfl, _, rfl, ?_, ?_⟩)
  · obtain ⟨z, hz⟩ := hF 34 (fun q => xs (j + q)) σ; intro ad; rw [hz]; rfl
  refine Rl_m (pc := 1363) C dL_law_1363 ?_
  refine Rl_arg (pc := 1364) 1 C dL_law_1364 dL_law_1365 dL_law_1366 dL_law_1367 dL_law_1368 rfl (by omega) ?_
  refine Rl_arg (pc := 1369) 2 C dL_law_1369 dL_law_1370 dL_law_1371 dL_law_1372 dL_law_1373 rfl (by omega) ?_
  refine Rl_callY (rest := [(F 34 (fun q => xs (j + q)) σ).1]) (As := [.int (xs (j + 1)), .int (xs (j + 2))]) (pc := 1374) C dL_law_1374 mv_L_165 rfl (hhY 34) rfl rfl rfl ?_ hc ?_
  · obtain ⟨z, hz⟩ := hF 34 (fun q => xs (j + q)) σ; rw [hz]; exact Nat.le_of_ble_eq_true rfl
  refine hY 34 (by decide) (fun q => xs (j + q)) My σ _ ry (fun My2 ry2 => ⟨rfl, _, rfl, ?_, ?_⟩)
  · obtain ⟨z, hz⟩ := hF 34 (fun q => xs (j + q)) σ; intro ad; rw [hz]; rfl
  obtain ⟨z, hz⟩ := hF 34 (fun q => xs (j + q)) σ
  rw [hz]
  exact Rl_same (pc := 1377) 1609 C dL_law_1377 (by decide) (kk _ _ _ rx2 ry2)
theorem lw_c_35 (C : lw_Ctx p s m meth c b L xs D cA adX adY) (hc : cells ≤ 600000 ∧ slots ≤ 7302250) (hX : ∀ k, k < 44 → ∀ a, r_api RX GX (hx k) (lw_mX k) (lw_av k a) (F k a)) (hY : ∀ k, k < 44 → ∀ a, r_api RY GY (hy k) (lw_mY k) (lw_av k a) (F k a)) (hhX : ∀ k, hx k ≤ 1000) (hhY : ∀ k, hy k ≤ 1000) (hF : ∀ k a σ, lw_isV k (F k a σ).1) {j : Nat} (hj : j + 6 ≤ L) {σ : Sg} {Mx My : Mem} (rx : RX Mx σ) (ry : RY My σ) (kk : ∀ (σ' : Sg) (Mx' My' : Mem), RX Mx' σ' → RY My' σ' → Rl p l e s m below meth c b D cA adX adY cells slots 1609 (nI j) [] Mx' My') : Rl p l e s m below meth c b D cA adX adY cells slots 1382 (nI j) [] Mx My := by
  refine Rl_x (pc := 1382) C dL_law_1382 ?_
  refine Rl_arg (pc := 1383) 1 C dL_law_1383 dL_law_1384 dL_law_1385 dL_law_1386 dL_law_1387 rfl (by omega) ?_
  refine Rl_arg (pc := 1388) 2 C dL_law_1388 dL_law_1389 dL_law_1390 dL_law_1391 dL_law_1392 rfl (by omega) ?_
  refine Rl_arg (pc := 1393) 3 C dL_law_1393 dL_law_1394 dL_law_1395 dL_law_1396 dL_law_1397 rfl (by omega) ?_
  refine Rl_callX (rest := []) (As := [.int (xs (j + 1)), .int (xs (j + 2)), .int (xs (j + 3))]) (pc := 1398) C dL_law_1398 mv_L_166 rfl (hhX 35) rfl rfl rfl (Nat.le_of_ble_eq_true rfl) hc ?_
  refine hX 35 (by decide) (fun q => xs (j + q)) Mx σ _ rx (fun Mx2 rx2 => ⟨rfl, _, rfl, ?_, ?_⟩)
  · obtain ⟨z, hz⟩ := hF 35 (fun q => xs (j + q)) σ; intro ad; rw [hz]; rfl
  refine Rl_m (pc := 1401) C dL_law_1401 ?_
  refine Rl_arg (pc := 1402) 1 C dL_law_1402 dL_law_1403 dL_law_1404 dL_law_1405 dL_law_1406 rfl (by omega) ?_
  refine Rl_arg (pc := 1407) 2 C dL_law_1407 dL_law_1408 dL_law_1409 dL_law_1410 dL_law_1411 rfl (by omega) ?_
  refine Rl_arg (pc := 1412) 3 C dL_law_1412 dL_law_1413 dL_law_1414 dL_law_1415 dL_law_1416 rfl (by omega) ?_
  refine Rl_callY (rest := [(F 35 (fun q => xs (j + q)) σ).1]) (As := [.int (xs (j + 1)), .int (xs (j + 2)), .int (xs (j + 3))]) (pc := 1417) C dL_law_1417 mv_L_169 rfl (hhY 35) rfl rfl rfl ?_ hc ?_
  · obtain ⟨z, hz⟩ := hF 35 (fun q => xs (j + q)) σ; rw [hz]; exact Nat.le_of_ble_eq_true rfl
  refine hY 35 (by decide) (fun q => xs (j + q)) My σ _ ry (fun My2 ry2 => ⟨rfl, _, rfl, ?_, ?_⟩)
  · obtain ⟨z, hz⟩ := hF 35 (fun q => xs (j + q)) σ; intro ad; rw [hz]; rfl
  obtain ⟨z, hz⟩ := hF 35 (fun q => xs (j + q)) σ
  rw [hz]
  exact Rl_same (pc := 1420) 1609 C dL_law_1420 (by decide) (kk _ _ _ rx2 ry2)
theorem lw_c_36 (C : lw_Ctx p s m meth c b L xs D cA adX adY) (hc : cells ≤ 600000 ∧ slots ≤ 7302250) (hX : ∀ k, k < 44 → ∀ a, r_api RX GX (hx k) (lw_mX k) (lw_av k a) (F k a)) (hY : ∀ k, k < 44 → ∀ a, r_api RY GY (hy k) (lw_mY k) (lw_av k a) (F k a)) (hhX : ∀ k, hx k ≤ 1000) (hhY : ∀ k, hy k ≤ 1000) (hF : ∀ k a σ, lw_isV k (F k a σ).1) {j : Nat} (hj : j + 6 ≤ L) {σ : Sg} {Mx My : Mem} (rx : RX Mx σ) (ry : RY My σ) (kk : ∀ (σ' : Sg) (Mx' My' : Mem), RX Mx' σ' → RY My' σ' → Rl p l e s m below meth c b D cA adX adY cells slots 1609 (nI j) [] Mx' My') : Rl p l e s m below meth c b D cA adX adY cells slots 1425 (nI j) [] Mx My := by
  refine Rl_x (pc := 1425) C dL_law_1425 ?_
  refine Rl_arg (pc := 1426) 1 C dL_law_1426 dL_law_1427 dL_law_1428 dL_law_1429 dL_law_1430 rfl (by omega) ?_
  refine Rl_callX (rest := []) (As := [.int (xs (j + 1))]) (pc := 1431) C dL_law_1431 mv_L_170 rfl (hhX 36) rfl rfl rfl (Nat.le_of_ble_eq_true rfl) hc ?_
  refine hX 36 (by decide) (fun q => xs (j + q)) Mx σ _ rx (fun Mx2 rx2 => ⟨rfl, _, rfl, ?_, ?_⟩)
  · obtain ⟨z, hz⟩ := hF 36 (fun q => xs (j + q)) σ; intro ad; rw [hz]; rfl
  refine Rl_m (pc := 1434) C dL_law_1434 ?_
  refine Rl_arg (pc := 1435) 1 C dL_law_1435 dL_law_1436 dL_law_1437 dL_law_1438 dL_law_1439 rfl (by omega) ?_
  refine Rl_callY (rest := [(F 36 (fun q => xs (j + q)) σ).1]) (As := [.int (xs (j + 1))]) (pc := 1440) C dL_law_1440 mv_L_173 rfl (hhY 36) rfl rfl rfl ?_ hc ?_
  · obtain ⟨z, hz⟩ := hF 36 (fun q => xs (j + q)) σ; rw [hz]; exact Nat.le_of_ble_eq_true rfl
  refine hY 36 (by decide) (fun q => xs (j + q)) My σ _ ry (fun My2 ry2 => ⟨rfl, _, rfl, ?_, ?_⟩)
  · obtain ⟨z, hz⟩ := hF 36 (fun q => xs (j + q)) σ; intro ad; rw [hz]; rfl
  obtain ⟨z, hz⟩ := hF 36 (fun q => xs (j + q)) σ
  rw [hz]
  exact Rl_same (pc := 1443) 1609 C dL_law_1443 (by decide) (kk _ _ _ rx2 ry2)
theorem lw_c_37 (C : lw_Ctx p s m meth c b L xs D cA adX adY) (hc : cells ≤ 600000 ∧ slots ≤ 7302250) (hX : ∀ k, k < 44 → ∀ a, r_api RX GX (hx k) (lw_mX k) (lw_av k a) (F k a)) (hY : ∀ k, k < 44 → ∀ a, r_api RY GY (hy k) (lw_mY k) (lw_av k a) (F k a)) (hhX : ∀ k, hx k ≤ 1000) (hhY : ∀ k, hy k ≤ 1000) (hF : ∀ k a σ, lw_isV k (F k a σ).1) {j : Nat} (hj : j + 6 ≤ L) {σ : Sg} {Mx My : Mem} (rx : RX Mx σ) (ry : RY My σ) (kk : ∀ (σ' : Sg) (Mx' My' : Mem), RX Mx' σ' → RY My' σ' → Rl p l e s m below meth c b D cA adX adY cells slots 1609 (nI j) [] Mx' My') : Rl p l e s m below meth c b D cA adX adY cells slots 1448 (nI j) [] Mx My := by
  refine Rl_x (pc := 1448) C dL_law_1448 ?_
  refine Rl_arg (pc := 1449) 1 C dL_law_1449 dL_law_1450 dL_law_1451 dL_law_1452 dL_law_1453 rfl (by omega) ?_
  refine Rl_arg (pc := 1454) 2 C dL_law_1454 dL_law_1455 dL_law_1456 dL_law_1457 dL_law_1458 rfl (by omega) ?_
  refine Rl_callX (rest := []) (As := [.int (xs (j + 1)), .int (xs (j + 2))]) (pc := 1459) C dL_law_1459 mv_L_174 rfl (hhX 37) rfl rfl rfl (Nat.le_of_ble_eq_true rfl) hc ?_
  refine hX 37 (by decide) (fun q => xs (j + q)) Mx σ _ rx (fun Mx2 rx2 => ⟨rfl, _, rfl, ?_, ?_⟩)
  · obtain ⟨z, hz⟩ := hF 37 (fun q => xs (j + q)) σ; intro ad; rw [hz]; rfl
  refine Rl_m (pc := 1462) C dL_law_1462 ?_
  refine Rl_arg (pc := 1463) 1 C dL_law_1463 dL_law_1464 dL_law_1465 dL_law_1466 dL_law_1467 rfl (by omega) ?_
  refine Rl_arg (pc := 1468) 2 C dL_law_1468 dL_law_1469 dL_law_1470 dL_law_1471 dL_law_1472 rfl (by omega) ?_
  refine Rl_callY (rest := [(F 37 (fun q => xs (j + q)) σ).1]) (As := [.int (xs (j + 1)), .int (xs (j + 2))]) (pc := 1473) C dL_law_1473 mv_L_177 rfl (hhY 37) rfl rfl rfl ?_ hc ?_
  · obtain ⟨z, hz⟩ := hF 37 (fun q => xs (j + q)) σ; rw [hz]; exact Nat.le_of_ble_eq_true rfl
  refine hY 37 (by decide) (fun q => xs (j + q)) My σ _ ry (fun My2 ry2 => ⟨rfl, _, rfl, ?_, ?_⟩)
  · obtain ⟨z, hz⟩ := hF 37 (fun q => xs (j + q)) σ; intro ad; rw [hz]; rfl
  obtain ⟨z, hz⟩ := hF 37 (fun q => xs (j + q)) σ
  rw [hz]
  exact Rl_same (pc := 1476) 1609 C dL_law_1476 (by decide) (kk _ _ _ rx2 ry2)
theorem lw_c_38 (C : lw_Ctx p s m meth c b L xs D cA adX adY) (hc : cells ≤ 600000 ∧ slots ≤ 7302250) (hX : ∀ k, k < 44 → ∀ a, r_api RX GX (hx k) (lw_mX k) (lw_av k a) (F k a)) (hY : ∀ k, k < 44 → ∀ a, r_api RY GY (hy k) (lw_mY k) (lw_av k a) (F k a)) (hhX : ∀ k, hx k ≤ 1000) (hhY : ∀ k, hy k ≤ 1000) (hF : ∀ k a σ, lw_isV k (F k a σ).1) {j : Nat} (hj : j + 6 ≤ L) {σ : Sg} {Mx My : Mem} (rx : RX Mx σ) (ry : RY My σ) (kk : ∀ (σ' : Sg) (Mx' My' : Mem), RX Mx' σ' → RY My' σ' → Rl p l e s m below meth c b D cA adX adY cells slots 1609 (nI j) [] Mx' My') : Rl p l e s m below meth c b D cA adX adY cells slots 1481 (nI j) [] Mx My := by
  refine Rl_x (pc := 1481) C dL_law_1481 ?_
  refine Rl_arg (pc := 1482) 1 C dL_law_1482 dL_law_1483 dL_law_1484 dL_law_1485 dL_law_1486 rfl (by omega) ?_
  refine Rl_callX (rest := []) (As := [.int (xs (j + 1))]) (pc := 1487) C dL_law_1487 mv_L_178 rfl (hhX 38) rfl rfl rfl (Nat.le_of_ble_eq_true rfl) hc ?_
  refine hX 38 (by decide) (fun q => xs (j + q)) Mx σ _ rx (fun Mx2 rx2 => ⟨rfl, _, rfl, ?_, ?_⟩)
  · obtain ⟨z, hz⟩ := hF 38 (fun q => xs (j + q)) σ; intro ad; rw [hz]; rfl
  refine Rl_m (pc := 1490) C dL_law_1490 ?_
  refine Rl_arg (pc := 1491) 1 C dL_law_1491 dL_law_1492 dL_law_1493 dL_law_1494 dL_law_1495 rfl (by omega) ?_
  refine Rl_callY (rest := [(F 38 (fun q => xs (j + q)) σ).1]) (As := [.int (xs (j + 1))]) (pc := 1496) C dL_law_1496 mv_L_181 rfl (hhY 38) rfl rfl rfl ?_ hc ?_
  · obtain ⟨z, hz⟩ := hF 38 (fun q => xs (j + q)) σ; rw [hz]; exact Nat.le_of_ble_eq_true rfl
  refine hY 38 (by decide) (fun q => xs (j + q)) My σ _ ry (fun My2 ry2 => ⟨rfl, _, rfl, ?_, ?_⟩)
  · obtain ⟨z, hz⟩ := hF 38 (fun q => xs (j + q)) σ; intro ad; rw [hz]; rfl
  obtain ⟨z, hz⟩ := hF 38 (fun q => xs (j + q)) σ
  rw [hz]
  exact Rl_same (pc := 1499) 1609 C dL_law_1499 (by decide) (kk _ _ _ rx2 ry2)
theorem lw_c_39 (C : lw_Ctx p s m meth c b L xs D cA adX adY) (hc : cells ≤ 600000 ∧ slots ≤ 7302250) (hX : ∀ k, k < 44 → ∀ a, r_api RX GX (hx k) (lw_mX k) (lw_av k a) (F k a)) (hY : ∀ k, k < 44 → ∀ a, r_api RY GY (hy k) (lw_mY k) (lw_av k a) (F k a)) (hhX : ∀ k, hx k ≤ 1000) (hhY : ∀ k, hy k ≤ 1000) (hF : ∀ k a σ, lw_isV k (F k a σ).1) {j : Nat} (hj : j + 6 ≤ L) {σ : Sg} {Mx My : Mem} (rx : RX Mx σ) (ry : RY My σ) (kk : ∀ (σ' : Sg) (Mx' My' : Mem), RX Mx' σ' → RY My' σ' → Rl p l e s m below meth c b D cA adX adY cells slots 1609 (nI j) [] Mx' My') : Rl p l e s m below meth c b D cA adX adY cells slots 1504 (nI j) [] Mx My := by
  refine Rl_x (pc := 1504) C dL_law_1504 ?_
  refine Rl_arg (pc := 1505) 1 C dL_law_1505 dL_law_1506 dL_law_1507 dL_law_1508 dL_law_1509 rfl (by omega) ?_
  refine Rl_callX (rest := []) (As := [.int (xs (j + 1))]) (pc := 1510) C dL_law_1510 mv_L_182 rfl (hhX 39) rfl rfl rfl (Nat.le_of_ble_eq_true rfl) hc ?_
  refine hX 39 (by decide) (fun q => xs (j + q)) Mx σ _ rx (fun Mx2 rx2 => ⟨rfl, _, rfl, ?_, ?_⟩)
  · obtain ⟨z, hz⟩ := hF 39 (fun q => xs (j + q)) σ; intro ad; rw [hz]; rfl
  refine Rl_m (pc := 1513) C dL_law_1513 ?_
  refine Rl_arg (pc := 1514) 1 C dL_law_1514 dL_law_1515 dL_law_1516 dL_law_1517 dL_law_1518 rfl (by omega) ?_
  refine Rl_callY (rest := [(F 39 (fun q => xs (j + q)) σ).1]) (As := [.int (xs (j + 1))]) (pc := 1519) C dL_law_1519 mv_L_185 rfl (hhY 39) rfl rfl rfl ?_ hc ?_
  · obtain ⟨z, hz⟩ := hF 39 (fun q => xs (j + q)) σ; rw [hz]; exact Nat.le_of_ble_eq_true rfl
  refine hY 39 (by decide) (fun q => xs (j + q)) My σ _ ry (fun My2 ry2 => ⟨rfl, _, rfl, ?_, ?_⟩)
  · obtain ⟨z, hz⟩ := hF 39 (fun q => xs (j + q)) σ; intro ad; rw [hz]; rfl
  obtain ⟨z, hz⟩ := hF 39 (fun q => xs (j + q)) σ
  rw [hz]
  exact Rl_same (pc := 1522) 1609 C dL_law_1522 (by decide) (kk _ _ _ rx2 ry2)
theorem lw_c_40 (C : lw_Ctx p s m meth c b L xs D cA adX adY) (hc : cells ≤ 600000 ∧ slots ≤ 7302250) (hX : ∀ k, k < 44 → ∀ a, r_api RX GX (hx k) (lw_mX k) (lw_av k a) (F k a)) (hY : ∀ k, k < 44 → ∀ a, r_api RY GY (hy k) (lw_mY k) (lw_av k a) (F k a)) (hhX : ∀ k, hx k ≤ 1000) (hhY : ∀ k, hy k ≤ 1000) (hF : ∀ k a σ, lw_isV k (F k a σ).1) {j : Nat} (hj : j + 6 ≤ L) {σ : Sg} {Mx My : Mem} (rx : RX Mx σ) (ry : RY My σ) (kk : ∀ (σ' : Sg) (Mx' My' : Mem), RX Mx' σ' → RY My' σ' → Rl p l e s m below meth c b D cA adX adY cells slots 1609 (nI j) [] Mx' My') : Rl p l e s m below meth c b D cA adX adY cells slots 1527 (nI j) [] Mx My := by
  refine Rl_x (pc := 1527) C dL_law_1527 ?_
  refine Rl_arg (pc := 1528) 1 C dL_law_1528 dL_law_1529 dL_law_1530 dL_law_1531 dL_law_1532 rfl (by omega) ?_
  refine Rl_arg (pc := 1533) 2 C dL_law_1533 dL_law_1534 dL_law_1535 dL_law_1536 dL_law_1537 rfl (by omega) ?_
  refine Rl_callX (rest := []) (As := [.int (xs (j + 1)), .int (xs (j + 2))]) (pc := 1538) C dL_law_1538 mv_L_186 rfl (hhX 40) rfl rfl rfl (Nat.le_of_ble_eq_true rfl) hc ?_
  refine hX 40 (by decide) (fun q => xs (j + q)) Mx σ _ rx (fun Mx2 rx2 => ⟨rfl, _, rfl, ?_, ?_⟩)
  · obtain ⟨z, hz⟩ := hF 40 (fun q => xs (j + q)) σ; intro ad; rw [hz]; rfl
  refine Rl_m (pc := 1541) C dL_law_1541 ?_
  refine Rl_arg (pc := 1542) 1 C dL_law_1542 dL_law_1543 dL_law_1544 dL_law_1545 dL_law_1546 rfl (by omega) ?_
  refine Rl_arg (pc := 1547) 2 C dL_law_1547 dL_law_1548 dL_law_1549 dL_law_1550 dL_law_1551 rfl (by omega) ?_
  refine Rl_callY (rest := [(F 40 (fun q => xs (j + q)) σ).1]) (As := [.int (xs (j + 1)), .int (xs (j + 2))]) (pc := 1552) C dL_law_1552 mv_L_189 rfl (hhY 40) rfl rfl rfl ?_ hc ?_
  · obtain ⟨z, hz⟩ := hF 40 (fun q => xs (j + q)) σ; rw [hz]; exact Nat.le_of_ble_eq_true rfl
  refine hY 40 (by decide) (fun q => xs (j + q)) My σ _ ry (fun My2 ry2 => ⟨rfl, _, rfl, ?_, ?_⟩)
  · obtain ⟨z, hz⟩ := hF 40 (fun q => xs (j + q)) σ; intro ad; rw [hz]; rfl
  obtain ⟨z, hz⟩ := hF 40 (fun q => xs (j + q)) σ
  rw [hz]
  exact Rl_same (pc := 1555) 1609 C dL_law_1555 (by decide) (kk _ _ _ rx2 ry2)
theorem lw_c_41 (C : lw_Ctx p s m meth c b L xs D cA adX adY) (hc : cells ≤ 600000 ∧ slots ≤ 7302250) (hX : ∀ k, k < 44 → ∀ a, r_api RX GX (hx k) (lw_mX k) (lw_av k a) (F k a)) (hY : ∀ k, k < 44 → ∀ a, r_api RY GY (hy k) (lw_mY k) (lw_av k a) (F k a)) (hhX : ∀ k, hx k ≤ 1000) (hhY : ∀ k, hy k ≤ 1000) (hF : ∀ k a σ, lw_isV k (F k a σ).1) {j : Nat} (hj : j + 6 ≤ L) {σ : Sg} {Mx My : Mem} (rx : RX Mx σ) (ry : RY My σ) (kk : ∀ (σ' : Sg) (Mx' My' : Mem), RX Mx' σ' → RY My' σ' → Rl p l e s m below meth c b D cA adX adY cells slots 1609 (nI j) [] Mx' My') : Rl p l e s m below meth c b D cA adX adY cells slots 1560 (nI j) [] Mx My := by
  refine Rl_x (pc := 1560) C dL_law_1560 ?_
  refine Rl_arg (pc := 1561) 1 C dL_law_1561 dL_law_1562 dL_law_1563 dL_law_1564 dL_law_1565 rfl (by omega) ?_
  refine Rl_callX (rest := []) (As := [.int (xs (j + 1))]) (pc := 1566) C dL_law_1566 mv_L_190 rfl (hhX 41) rfl rfl rfl (Nat.le_of_ble_eq_true rfl) hc ?_
  refine hX 41 (by decide) (fun q => xs (j + q)) Mx σ _ rx (fun Mx2 rx2 => ⟨rfl, _, rfl, ?_, ?_⟩)
  · obtain ⟨z, hz⟩ := hF 41 (fun q => xs (j + q)) σ; intro ad; rw [hz]; rfl
  refine Rl_m (pc := 1569) C dL_law_1569 ?_
  refine Rl_arg (pc := 1570) 1 C dL_law_1570 dL_law_1571 dL_law_1572 dL_law_1573 dL_law_1574 rfl (by omega) ?_
  refine Rl_callY (rest := [(F 41 (fun q => xs (j + q)) σ).1]) (As := [.int (xs (j + 1))]) (pc := 1575) C dL_law_1575 mv_L_193 rfl (hhY 41) rfl rfl rfl ?_ hc ?_
  · obtain ⟨z, hz⟩ := hF 41 (fun q => xs (j + q)) σ; rw [hz]; exact Nat.le_of_ble_eq_true rfl
  refine hY 41 (by decide) (fun q => xs (j + q)) My σ _ ry (fun My2 ry2 => ⟨rfl, _, rfl, ?_, ?_⟩)
  · obtain ⟨z, hz⟩ := hF 41 (fun q => xs (j + q)) σ; intro ad; rw [hz]; rfl
  obtain ⟨z, hz⟩ := hF 41 (fun q => xs (j + q)) σ
  rw [hz]
  exact Rl_same (pc := 1578) 1609 C dL_law_1578 (by decide) (kk _ _ _ rx2 ry2)
theorem lw_c_42 (C : lw_Ctx p s m meth c b L xs D cA adX adY) (hc : cells ≤ 600000 ∧ slots ≤ 7302250) (hX : ∀ k, k < 44 → ∀ a, r_api RX GX (hx k) (lw_mX k) (lw_av k a) (F k a)) (hY : ∀ k, k < 44 → ∀ a, r_api RY GY (hy k) (lw_mY k) (lw_av k a) (F k a)) (hhX : ∀ k, hx k ≤ 1000) (hhY : ∀ k, hy k ≤ 1000) (hF : ∀ k a σ, lw_isV k (F k a σ).1) {j : Nat} (hj : j + 6 ≤ L) {σ : Sg} {Mx My : Mem} (rx : RX Mx σ) (ry : RY My σ) (kk : ∀ (σ' : Sg) (Mx' My' : Mem), RX Mx' σ' → RY My' σ' → Rl p l e s m below meth c b D cA adX adY cells slots 1609 (nI j) [] Mx' My') : Rl p l e s m below meth c b D cA adX adY cells slots 1583 (nI j) [] Mx My := by
  refine Rl_x (pc := 1583) C dL_law_1583 ?_
  refine Rl_callX (rest := []) (As := []) (pc := 1584) C dL_law_1584 mv_L_194 rfl (hhX 42) rfl rfl rfl (Nat.le_of_ble_eq_true rfl) hc ?_
  refine hX 42 (by decide) (fun q => xs (j + q)) Mx σ _ rx (fun Mx2 rx2 => ⟨rfl, _, rfl, ?_, ?_⟩)
  · obtain ⟨z, hz⟩ := hF 42 (fun q => xs (j + q)) σ; intro ad; rw [hz]; rfl
  refine Rl_m (pc := 1587) C dL_law_1587 ?_
  refine Rl_callY (rest := [(F 42 (fun q => xs (j + q)) σ).1]) (As := []) (pc := 1588) C dL_law_1588 mv_L_197 rfl (hhY 42) rfl rfl rfl ?_ hc ?_
  · obtain ⟨z, hz⟩ := hF 42 (fun q => xs (j + q)) σ; rw [hz]; exact Nat.le_of_ble_eq_true rfl
  refine hY 42 (by decide) (fun q => xs (j + q)) My σ _ ry (fun My2 ry2 => ⟨rfl, _, rfl, ?_, ?_⟩)
  · obtain ⟨z, hz⟩ := hF 42 (fun q => xs (j + q)) σ; intro ad; rw [hz]; rfl
  obtain ⟨z, hz⟩ := hF 42 (fun q => xs (j + q)) σ
  rw [hz]
  exact Rl_same (pc := 1591) 1609 C dL_law_1591 (by decide) (kk _ _ _ rx2 ry2)
theorem lw_c_43 (C : lw_Ctx p s m meth c b L xs D cA adX adY) (hc : cells ≤ 600000 ∧ slots ≤ 7302250) (hX : ∀ k, k < 44 → ∀ a, r_api RX GX (hx k) (lw_mX k) (lw_av k a) (F k a)) (hY : ∀ k, k < 44 → ∀ a, r_api RY GY (hy k) (lw_mY k) (lw_av k a) (F k a)) (hhX : ∀ k, hx k ≤ 1000) (hhY : ∀ k, hy k ≤ 1000) (hF : ∀ k a σ, lw_isV k (F k a σ).1) {j : Nat} (hj : j + 6 ≤ L) {σ : Sg} {Mx My : Mem} (rx : RX Mx σ) (ry : RY My σ) (kk : ∀ (σ' : Sg) (Mx' My' : Mem), RX Mx' σ' → RY My' σ' → Rl p l e s m below meth c b D cA adX adY cells slots 1609 (nI j) [] Mx' My') : Rl p l e s m below meth c b D cA adX adY cells slots 1596 (nI j) [] Mx My := by
  refine Rl_x (pc := 1596) C dL_law_1596 ?_
  refine Rl_callX (rest := []) (As := []) (pc := 1597) C dL_law_1597 mv_L_198 rfl (hhX 43) rfl rfl rfl (Nat.le_of_ble_eq_true rfl) hc ?_
  refine hX 43 (by decide) (fun q => xs (j + q)) Mx σ _ rx (fun Mx2 rx2 => ⟨rfl, _, rfl, ?_, ?_⟩)
  · obtain ⟨z, hz⟩ := hF 43 (fun q => xs (j + q)) σ; intro ad; rw [hz]; rfl
  refine Rl_m (pc := 1600) C dL_law_1600 ?_
  refine Rl_callY (rest := [(F 43 (fun q => xs (j + q)) σ).1]) (As := []) (pc := 1601) C dL_law_1601 mv_L_201 rfl (hhY 43) rfl rfl rfl ?_ hc ?_
  · obtain ⟨z, hz⟩ := hF 43 (fun q => xs (j + q)) σ; rw [hz]; exact Nat.le_of_ble_eq_true rfl
  refine hY 43 (by decide) (fun q => xs (j + q)) My σ _ ry (fun My2 ry2 => ⟨rfl, _, rfl, ?_, ?_⟩)
  · obtain ⟨z, hz⟩ := hF 43 (fun q => xs (j + q)) σ; intro ad; rw [hz]; rfl
  obtain ⟨z, hz⟩ := hF 43 (fun q => xs (j + q)) σ
  rw [hz]
  exact Rl_same (pc := 1604) 1609 C dL_law_1604 (by decide) (kk _ _ _ rx2 ry2)
theorem Rl_switch {pc : Nat} {x : Int32} {st : List Value} {Mx My : Mem} {i : Int32} {dflt lo hi : Int} {offs : Array Int} {len : Nat} {off : Int} (tgt : Nat) (C : lw_Ctx p s m meth c b L xs D cA adX adY) (hd : decode cL_law pc = .ok (.tableswitch dflt lo hi offs, len)) (h1 : ¬ x.toInt < lo) (h2 : ¬ hi < x.toInt) (ho : offs[(x.toInt - lo).toNat]? = some off) (ht : (pc : Int) + off = (tgt : Int)) (kk : Rl p l e s m below meth c b D cA adX adY cells slots tgt i st Mx My) : Rl p l e s m below meth c b D cA adX adY cells slots pc i (.int x :: st) Mx My :=
  Rl_pure C kk fun H locs ls hx hb ho2 hl hS k => lv_tableIn hx hb hd h1 h2 ho ht k
theorem Rl_switchOut {pc : Nat} {x : Int32} {st : List Value} {Mx My : Mem} {i : Int32} {dflt lo hi : Int} {offs : Array Int} {len : Nat} (tgt : Nat) (C : lw_Ctx p s m meth c b L xs D cA adX adY) (hd : decode cL_law pc = .ok (.tableswitch dflt lo hi offs, len)) (h1 : x.toInt < lo ∨ hi < x.toInt) (ht : (pc : Int) + dflt = (tgt : Int)) (kk : Rl p l e s m below meth c b D cA adX adY cells slots tgt i st Mx My) : Rl p l e s m below meth c b D cA adX adY cells slots pc i (.int x :: st) Mx My :=
  Rl_pure C kk fun H locs ls hx hb ho2 hl hS k => lv_tableOut hx hb hd h1 ht k
set_option maxRecDepth 8000 in
theorem lw_loop (C : lw_Ctx p s m meth c b L xs D cA adX adY) (hc : cells ≤ 600000 ∧ slots ≤ 7302250) (hX : ∀ k, k < 44 → ∀ a, r_api RX GX (hx k) (lw_mX k) (lw_av k a) (F k a)) (hY : ∀ k, k < 44 → ∀ a, r_api RY GY (hy k) (lw_mY k) (lw_av k a) (F k a)) (hhX : ∀ k, hx k ≤ 1000) (hhY : ∀ k, hy k ≤ 1000) (hF : ∀ k a σ, lw_isV k (F k a σ).1) : ∀ (n j : Nat) (σ : Sg) (Mx My : Mem), L + 6 ≤ n + j → RX Mx σ → RY My σ → j ≤ L + 6 → Rl p l e s m below meth c b D cA adX adY cells slots 18 (nI j) [] Mx My := by
  have hL := C.2.1
  intro n
  induction n with
  | zero =>
    intro j σ Mx My h1 rx ry h2 H locs ls q1 q2 q3 q4
    refine lv_iload_n C.1.1 C.1.2.1 dL_law_18 rfl (lv_at q4 0 rfl) ?_
    refine lv_aload_n C.1.1 C.1.2.1 dL_law_19 rfl (lv_at q4 1 rfl) ?_
    refine va_slen C.1.1 C.1.2.1 C.1.2.2.2.2.2.2.1 C.1.2.2.2.2.2.2.2.1 (Nat.not_le.mpr C.1.2.2.2.2.2.2.2.1) q3 dL_law_20 ?_
    refine lv_bipush (v := nI 6) C.1.1 C.1.2.1 dL_law_21 rfl ?_
    refine lv_isub C.1.1 C.1.2.1 dL_law_23 ?_
    refine lv_icmp_gt (tgt := 1615) C.1.1 C.1.2.1 dL_law_24 (by decide) (fun _ => ?_) (fun h => ?_)
    · exact Rl_iconst (nI 1) C dL_law_1615 rfl (Rl_ret C dL_law_1616 hc) H locs ls q1 q2 q3 q4
    · exfalso
      have h3 : (Int32.ofNat L - nI 6).toInt = (L : Int) - 6 := pk_sub_toInt (a := L) (b := 6) (by omega) (by decide)
      have h4 : (nI j).toInt = (j : Int) := nI_toInt (show j < 2 ^ 31 by omega)
      apply h
      rw [Int32.lt_iff_toInt_lt, h3, h4]
      omega
  | succ n ih =>
    intro j σ Mx My h1 rx ry h2 H locs ls q1 q2 q3 q4
    refine lv_iload_n C.1.1 C.1.2.1 dL_law_18 rfl (lv_at q4 0 rfl) ?_
    refine lv_aload_n C.1.1 C.1.2.1 dL_law_19 rfl (lv_at q4 1 rfl) ?_
    refine va_slen C.1.1 C.1.2.1 C.1.2.2.2.2.2.2.1 C.1.2.2.2.2.2.2.2.1 (Nat.not_le.mpr C.1.2.2.2.2.2.2.2.1) q3 dL_law_20 ?_
    refine lv_bipush (v := nI 6) C.1.1 C.1.2.1 dL_law_21 rfl ?_
    refine lv_isub C.1.1 C.1.2.1 dL_law_23 ?_
    refine lv_icmp_gt (tgt := 1615) C.1.1 C.1.2.1 dL_law_24 (by decide) (fun _ => ?_) (fun h => ?_)
    · exact Rl_iconst (nI 1) C dL_law_1615 rfl (Rl_ret C dL_law_1616 hc) H locs ls q1 q2 q3 q4
    · have hj : j + 6 ≤ L := by
        have h3 : (Int32.ofNat L - nI 6).toInt = (L : Int) - 6 := pk_sub_toInt (a := L) (b := 6) (by omega) (by decide)
        have h4 : (nI j).toInt = (j : Int) := nI_toInt (show j < 2 ^ 31 by omega)
        rw [Int32.lt_iff_toInt_lt, h3, h4] at h
        omega
      have kk : ∀ (σ' : Sg) (Mx' My' : Mem), RX Mx' σ' → RY My' σ' → Rl p l e s m below meth c b D cA adX adY cells slots 1609 (nI j) [] Mx' My' := fun σ' Mx' My' r1 r2 =>
        Rl_iinc (v := nI (j + 6)) C dL_law_1609 (nI_add j 6) (Rl_goto 18 C dL_law_1612 (by decide) (ih (j + 6) σ' Mx' My' (by omega) r1 r2 (by omega)))
      refine (?_ : Rl p l e s m below meth c b D cA adX adY cells slots 27 (nI j) [] Mx My) H locs ls q1 q2 q3 q4
      refine Rl_arg0 C dL_law_27 dL_law_28 dL_law_29 (by omega) ?_
      refine Rl_bipush (nI 63) C dL_law_30 rfl ?_
      refine Rl_iand C dL_law_32 ?_
      obtain ⟨k, hk, hxk⟩ := pk_andE (xs j) (m := nI 63) 6 (by decide)
      rw [hxk]
      have hkt : (nI k).toInt = (k : Int) := nI_toInt (show k < 2 ^ 31 by omega)
      by_cases h0 : k = 0
      · subst h0
        exact Rl_switch 224 C dL_law_33 (by rw [hkt]; decide) (by rw [hkt]; decide) (by rw [hkt]; rfl) (by decide) (lw_c_0 C hc hX hY hhX hhY hF hj rx ry kk)
      by_cases h1 : k = 1
      · subst h1
        exact Rl_switch 237 C dL_law_33 (by rw [hkt]; decide) (by rw [hkt]; decide) (by rw [hkt]; rfl) (by decide) (lw_c_1 C hc hX hY hhX hhY hF hj rx ry kk)
      by_cases h2 : k = 2
      · subst h2
        exact Rl_switch 251 C dL_law_33 (by rw [hkt]; decide) (by rw [hkt]; decide) (by rw [hkt]; rfl) (by decide) (lw_c_2 C hc hX hY hhX hhY hF hj rx ry kk)
      by_cases h3 : k = 3
      · subst h3
        exact Rl_switch 265 C dL_law_33 (by rw [hkt]; decide) (by rw [hkt]; decide) (by rw [hkt]; rfl) (by decide) (lw_c_3 C hc hX hY hhX hhY hF hj rx ry kk)
      by_cases h4 : k = 4
      · subst h4
        exact Rl_switch 308 C dL_law_33 (by rw [hkt]; decide) (by rw [hkt]; decide) (by rw [hkt]; rfl) (by decide) (lw_c_4 C hc hX hY hhX hhY hF hj rx ry kk)
      by_cases h5 : k = 5
      · subst h5
        exact Rl_switch 381 C dL_law_33 (by rw [hkt]; decide) (by rw [hkt]; decide) (by rw [hkt]; rfl) (by decide) (lw_c_5 C hc hX hY hhX hhY hF hj rx ry kk)
      by_cases h6 : k = 6
      · subst h6
        exact Rl_switch 415 C dL_law_33 (by rw [hkt]; decide) (by rw [hkt]; decide) (by rw [hkt]; rfl) (by decide) (lw_c_6 C hc hX hY hhX hhY hF hj rx ry kk)
      by_cases h7 : k = 7
      · subst h7
        exact Rl_switch 478 C dL_law_33 (by rw [hkt]; decide) (by rw [hkt]; decide) (by rw [hkt]; rfl) (by decide) (lw_c_7 C hc hX hY hhX hhY hF hj rx ry kk)
      by_cases h8 : k = 8
      · subst h8
        exact Rl_switch 541 C dL_law_33 (by rw [hkt]; decide) (by rw [hkt]; decide) (by rw [hkt]; rfl) (by decide) (lw_c_8 C hc hX hY hhX hhY hF hj rx ry kk)
      by_cases h9 : k = 9
      · subst h9
        exact Rl_switch 564 C dL_law_33 (by rw [hkt]; decide) (by rw [hkt]; decide) (by rw [hkt]; rfl) (by decide) (lw_c_9 C hc hX hY hhX hhY hF hj rx ry kk)
      by_cases h10 : k = 10
      · subst h10
        exact Rl_switch 587 C dL_law_33 (by rw [hkt]; decide) (by rw [hkt]; decide) (by rw [hkt]; rfl) (by decide) (lw_c_10 C hc hX hY hhX hhY hF hj rx ry kk)
      by_cases h11 : k = 11
      · subst h11
        exact Rl_switch 610 C dL_law_33 (by rw [hkt]; decide) (by rw [hkt]; decide) (by rw [hkt]; rfl) (by decide) (lw_c_11 C hc hX hY hhX hhY hF hj rx ry kk)
      by_cases h12 : k = 12
      · subst h12
        exact Rl_switch 633 C dL_law_33 (by rw [hkt]; decide) (by rw [hkt]; decide) (by rw [hkt]; rfl) (by decide) (lw_c_12 C hc hX hY hhX hhY hF hj rx ry kk)
      by_cases h13 : k = 13
      · subst h13
        exact Rl_switch 656 C dL_law_33 (by rw [hkt]; decide) (by rw [hkt]; decide) (by rw [hkt]; rfl) (by decide) (lw_c_13 C hc hX hY hhX hhY hF hj rx ry kk)
      by_cases h14 : k = 14
      · subst h14
        exact Rl_switch 689 C dL_law_33 (by rw [hkt]; decide) (by rw [hkt]; decide) (by rw [hkt]; rfl) (by decide) (lw_c_14 C hc hX hY hhX hhY hF hj rx ry kk)
      by_cases h15 : k = 15
      · subst h15
        exact Rl_switch 722 C dL_law_33 (by rw [hkt]; decide) (by rw [hkt]; decide) (by rw [hkt]; rfl) (by decide) (lw_c_15 C hc hX hY hhX hhY hF hj rx ry kk)
      by_cases h16 : k = 16
      · subst h16
        exact Rl_switch 755 C dL_law_33 (by rw [hkt]; decide) (by rw [hkt]; decide) (by rw [hkt]; rfl) (by decide) (lw_c_16 C hc hX hY hhX hhY hF hj rx ry kk)
      by_cases h17 : k = 17
      · subst h17
        exact Rl_switch 788 C dL_law_33 (by rw [hkt]; decide) (by rw [hkt]; decide) (by rw [hkt]; rfl) (by decide) (lw_c_17 C hc hX hY hhX hhY hF hj rx ry kk)
      by_cases h18 : k = 18
      · subst h18
        exact Rl_switch 851 C dL_law_33 (by rw [hkt]; decide) (by rw [hkt]; decide) (by rw [hkt]; rfl) (by decide) (lw_c_18 C hc hX hY hhX hhY hF hj rx ry kk)
      by_cases h19 : k = 19
      · subst h19
        exact Rl_switch 884 C dL_law_33 (by rw [hkt]; decide) (by rw [hkt]; decide) (by rw [hkt]; rfl) (by decide) (lw_c_19 C hc hX hY hhX hhY hF hj rx ry kk)
      by_cases h20 : k = 20
      · subst h20
        exact Rl_switch 927 C dL_law_33 (by rw [hkt]; decide) (by rw [hkt]; decide) (by rw [hkt]; rfl) (by decide) (lw_c_20 C hc hX hY hhX hhY hF hj rx ry kk)
      by_cases h21 : k = 21
      · subst h21
        exact Rl_switch 960 C dL_law_33 (by rw [hkt]; decide) (by rw [hkt]; decide) (by rw [hkt]; rfl) (by decide) (lw_c_21 C hc hX hY hhX hhY hF hj rx ry kk)
      by_cases h22 : k = 22
      · subst h22
        exact Rl_switch 983 C dL_law_33 (by rw [hkt]; decide) (by rw [hkt]; decide) (by rw [hkt]; rfl) (by decide) (lw_c_22 C hc hX hY hhX hhY hF hj rx ry kk)
      by_cases h23 : k = 23
      · subst h23
        exact Rl_switch 1016 C dL_law_33 (by rw [hkt]; decide) (by rw [hkt]; decide) (by rw [hkt]; rfl) (by decide) (lw_c_23 C hc hX hY hhX hhY hF hj rx ry kk)
      by_cases h24 : k = 24
      · subst h24
        exact Rl_switch 1059 C dL_law_33 (by rw [hkt]; decide) (by rw [hkt]; decide) (by rw [hkt]; rfl) (by decide) (lw_c_24 C hc hX hY hhX hhY hF hj rx ry kk)
      by_cases h25 : k = 25
      · subst h25
        exact Rl_switch 1082 C dL_law_33 (by rw [hkt]; decide) (by rw [hkt]; decide) (by rw [hkt]; rfl) (by decide) (lw_c_25 C hc hX hY hhX hhY hF hj rx ry kk)
      by_cases h26 : k = 26
      · subst h26
        exact Rl_switch 1105 C dL_law_33 (by rw [hkt]; decide) (by rw [hkt]; decide) (by rw [hkt]; rfl) (by decide) (lw_c_26 C hc hX hY hhX hhY hF hj rx ry kk)
      by_cases h27 : k = 27
      · subst h27
        exact Rl_switch 1128 C dL_law_33 (by rw [hkt]; decide) (by rw [hkt]; decide) (by rw [hkt]; rfl) (by decide) (lw_c_27 C hc hX hY hhX hhY hF hj rx ry kk)
      by_cases h28 : k = 28
      · subst h28
        exact Rl_switch 1171 C dL_law_33 (by rw [hkt]; decide) (by rw [hkt]; decide) (by rw [hkt]; rfl) (by decide) (lw_c_28 C hc hX hY hhX hhY hF hj rx ry kk)
      by_cases h29 : k = 29
      · subst h29
        exact Rl_switch 1204 C dL_law_33 (by rw [hkt]; decide) (by rw [hkt]; decide) (by rw [hkt]; rfl) (by decide) (lw_c_29 C hc hX hY hhX hhY hF hj rx ry kk)
      by_cases h30 : k = 30
      · subst h30
        exact Rl_switch 1227 C dL_law_33 (by rw [hkt]; decide) (by rw [hkt]; decide) (by rw [hkt]; rfl) (by decide) (lw_c_30 C hc hX hY hhX hhY hF hj rx ry kk)
      by_cases h31 : k = 31
      · subst h31
        exact Rl_switch 1260 C dL_law_33 (by rw [hkt]; decide) (by rw [hkt]; decide) (by rw [hkt]; rfl) (by decide) (lw_c_31 C hc hX hY hhX hhY hF hj rx ry kk)
      by_cases h32 : k = 32
      · subst h32
        exact Rl_switch 1283 C dL_law_33 (by rw [hkt]; decide) (by rw [hkt]; decide) (by rw [hkt]; rfl) (by decide) (lw_c_32 C hc hX hY hhX hhY hF hj rx ry kk)
      by_cases h33 : k = 33
      · subst h33
        exact Rl_switch 1306 C dL_law_33 (by rw [hkt]; decide) (by rw [hkt]; decide) (by rw [hkt]; rfl) (by decide) (lw_c_33 C hc hX hY hhX hhY hF hj rx ry kk)
      by_cases h34 : k = 34
      · subst h34
        exact Rl_switch 1349 C dL_law_33 (by rw [hkt]; decide) (by rw [hkt]; decide) (by rw [hkt]; rfl) (by decide) (lw_c_34 C hc hX hY hhX hhY hF hj rx ry kk)
      by_cases h35 : k = 35
      · subst h35
        exact Rl_switch 1382 C dL_law_33 (by rw [hkt]; decide) (by rw [hkt]; decide) (by rw [hkt]; rfl) (by decide) (lw_c_35 C hc hX hY hhX hhY hF hj rx ry kk)
      by_cases h36 : k = 36
      · subst h36
        exact Rl_switch 1425 C dL_law_33 (by rw [hkt]; decide) (by rw [hkt]; decide) (by rw [hkt]; rfl) (by decide) (lw_c_36 C hc hX hY hhX hhY hF hj rx ry kk)
      by_cases h37 : k = 37
      · subst h37
        exact Rl_switch 1448 C dL_law_33 (by rw [hkt]; decide) (by rw [hkt]; decide) (by rw [hkt]; rfl) (by decide) (lw_c_37 C hc hX hY hhX hhY hF hj rx ry kk)
      by_cases h38 : k = 38
      · subst h38
        exact Rl_switch 1481 C dL_law_33 (by rw [hkt]; decide) (by rw [hkt]; decide) (by rw [hkt]; rfl) (by decide) (lw_c_38 C hc hX hY hhX hhY hF hj rx ry kk)
      by_cases h39 : k = 39
      · subst h39
        exact Rl_switch 1504 C dL_law_33 (by rw [hkt]; decide) (by rw [hkt]; decide) (by rw [hkt]; rfl) (by decide) (lw_c_39 C hc hX hY hhX hhY hF hj rx ry kk)
      by_cases h40 : k = 40
      · subst h40
        exact Rl_switch 1527 C dL_law_33 (by rw [hkt]; decide) (by rw [hkt]; decide) (by rw [hkt]; rfl) (by decide) (lw_c_40 C hc hX hY hhX hhY hF hj rx ry kk)
      by_cases h41 : k = 41
      · subst h41
        exact Rl_switch 1560 C dL_law_33 (by rw [hkt]; decide) (by rw [hkt]; decide) (by rw [hkt]; rfl) (by decide) (lw_c_41 C hc hX hY hhX hhY hF hj rx ry kk)
      by_cases h42 : k = 42
      · subst h42
        exact Rl_switch 1583 C dL_law_33 (by rw [hkt]; decide) (by rw [hkt]; decide) (by rw [hkt]; rfl) (by decide) (lw_c_42 C hc hX hY hhX hhY hF hj rx ry kk)
      by_cases h43 : k = 43
      · subst h43
        exact Rl_switch 1596 C dL_law_33 (by rw [hkt]; decide) (by rw [hkt]; decide) (by rw [hkt]; rfl) (by decide) (lw_c_43 C hc hX hY hhX hhY hF hj rx ry kk)
      exact Rl_switchOut 1609 C dL_law_33 (Or.inr (by rw [hkt]; omega)) (by decide) (kk σ Mx My rx ry)
end RL3
