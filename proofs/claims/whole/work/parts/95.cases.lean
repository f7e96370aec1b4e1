abbrev mL_law : Mt := (yL_law, cL_law, 4, some .boolean)
theorem lg_self (x : Int64) : lg_cmp x x = 0 := by
  unfold lg_cmp
  rw [if_neg (show ¬ x > x from Int64.lt_irrefl), if_pos rfl]
set_option maxRecDepth 20000 in
theorem w_store {G : Gt} (hG : gS G = SHAPE) {M : Mm} {g : Sg} (hC : CompIs M g) (hD : ModIs M g) (hg : SgOk g) {i : Nat} (hi : i + 6 ≤ gn G) (hn : gn G ≤ 3072) {post : Option Value → Mm → Prop} (hk : ∀ M' g', CompIs M' g' → ModIs M' g' → SgOk g' → Go G 11 mL_law 1503 [some (.ref 1002), some (.ref 0), some (.ref 49), some (.int (nI i))] [] M' post) : Go G 11 mL_law 224 [some (.ref 1002), some (.ref 0), some (.ref 49), some (.int (nI i))] [] M post := by
  refine Go.aload_n dL_law_224 rfl ?_
  refine Go.aload_n dL_law_225 rfl ?_
  refine Go.iload_n dL_law_226 rfl ?_
  refine Go.iconst (v := 1) dL_law_227 (by decide) ?_
  refine Go.iadd dL_law_228 ?_
  refine Go.eqI (y := nI (i + 1)) (nI_add _ _) ?_
  refine Go.script dL_law_229 (vin (by omega) (by omega)) ?_
  refine Go.eqI (y := gx G (i + 1)) (by rw [ncl (by omega)]) ?_
  refine Go.aload_n dL_law_230 rfl ?_
  refine Go.iload_n dL_law_231 rfl ?_
  refine Go.iconst (v := 2) dL_law_232 (by decide) ?_
  refine Go.iadd dL_law_233 ?_
  refine Go.eqI (y := nI (i + 2)) (nI_add _ _) ?_
  refine Go.script dL_law_234 (vin (by omega) (by omega)) ?_
  refine Go.eqI (y := gx G (i + 2)) (by rw [ncl (by omega)]) ?_
  refine Go.callVI [] dL_law_235 lkL_13 imX6_store seX6_store cbX6_store (c_store hG hC (gx G (i + 1)) (gx G (i + 2))) (shp hG rfl) rfl rfl rfl (Nat.le_of_ble_eq_true rfl) (fun r1 M2 hr1 => ?_)
  refine Go.aload_n dL_law_238 rfl ?_
  refine Go.aload_n dL_law_239 rfl ?_
  refine Go.iload_n dL_law_240 rfl ?_
  refine Go.iconst (v := 1) dL_law_241 (by decide) ?_
  refine Go.iadd dL_law_242 ?_
  refine Go.eqI (y := nI (i + 1)) (nI_add _ _) ?_
  refine Go.script dL_law_243 (vin (by omega) (by omega)) ?_
  refine Go.eqI (y := gx G (i + 1)) (by rw [ncl (by omega)]) ?_
  refine Go.aload_n dL_law_244 rfl ?_
  refine Go.iload_n dL_law_245 rfl ?_
  refine Go.iconst (v := 2) dL_law_246 (by decide) ?_
  refine Go.iadd dL_law_247 ?_
  refine Go.eqI (y := nI (i + 2)) (nI_add _ _) ?_
  refine Go.script dL_law_248 (vin (by omega) (by omega)) ?_
  refine Go.eqI (y := gx G (i + 2)) (by rw [ncl (by omega)]) ?_
  refine Go.callVI [.int r1] dL_law_249 lkL_17 imX7_store seX7_store cbX7_store (m_store hG (hD.same hr1.2.2) (gx G (i + 1)) (gx G (i + 2))) (shp hG rfl) rfl rfl rfl (Nat.le_of_ble_eq_true rfl) (fun r3 M4 hr3 => ?_)
  refine Go.icmp_eq 1503 dL_law_252 rfl (fun _ => ?_) (fun h252 => absurd (hr1.1.trans hr3.1.symm) h252)
  exact hk _ _ (hr1.2.1.same hr3.2.2) hr3.2.1 (ok_store hg (gx G (i + 1)) (gx G (i + 2)))
set_option maxRecDepth 20000 in
theorem w_storeOf {G : Gt} (hG : gS G = SHAPE) {M : Mm} {g : Sg} (hC : CompIs M g) (hD : ModIs M g) (hg : SgOk g) {i : Nat} (hi : i + 6 ≤ gn G) (hn : gn G ≤ 3072) {post : Option Value → Mm → Prop} (hk : ∀ M' g', CompIs M' g' → ModIs M' g' → SgOk g' → Go G 11 mL_law 1503 [some (.ref 1002), some (.ref 0), some (.ref 49), some (.int (nI i))] [] M' post) : Go G 11 mL_law 257 [some (.ref 1002), some (.ref 0), some (.ref 49), some (.int (nI i))] [] M post := by
  refine Go.aload_n dL_law_257 rfl ?_
  refine Go.aload_n dL_law_258 rfl ?_
  refine Go.iload_n dL_law_259 rfl ?_
  refine Go.iconst (v := 1) dL_law_260 (by decide) ?_
  refine Go.iadd dL_law_261 ?_
  refine Go.eqI (y := nI (i + 1)) (nI_add _ _) ?_
  refine Go.script dL_law_262 (vin (by omega) (by omega)) ?_
  refine Go.eqI (y := gx G (i + 1)) (by rw [ncl (by omega)]) ?_
  refine Go.callVI [] dL_law_263 lkL_18 imX6_storeOf seX6_storeOf cbX6_storeOf (c_storeOf hG hC hg (gx G (i + 1))) (shp hG rfl) rfl rfl rfl (Nat.le_of_ble_eq_true rfl) (fun r1 M2 hr1 => ?_)
  refine Go.aload_n dL_law_266 rfl ?_
  refine Go.aload_n dL_law_267 rfl ?_
  refine Go.iload_n dL_law_268 rfl ?_
  refine Go.iconst (v := 1) dL_law_269 (by decide) ?_
  refine Go.iadd dL_law_270 ?_
  refine Go.eqI (y := nI (i + 1)) (nI_add _ _) ?_
  refine Go.script dL_law_271 (vin (by omega) (by omega)) ?_
  refine Go.eqI (y := gx G (i + 1)) (by rw [ncl (by omega)]) ?_
  refine Go.callVI [.int r1] dL_law_272 lkL_22 imX7_storeOf seX7_storeOf cbX7_storeOf (m_storeOf hG (hD.same hr1.2.2) hg (gx G (i + 1))) (shp hG rfl) rfl rfl rfl (Nat.le_of_ble_eq_true rfl) (fun r3 M4 hr3 => ?_)
  refine Go.icmp_eq 1503 dL_law_275 rfl (fun _ => ?_) (fun h275 => absurd (hr1.1.trans hr3.1.symm) h275)
  exact hk _ _ (hr1.2.1.same hr3.2.2) hr3.2.1 (ok_storeOf hg (gx G (i + 1)))
set_option maxRecDepth 20000 in
theorem w_like {G : Gt} (hG : gS G = SHAPE) {M : Mm} {g : Sg} (hC : CompIs M g) (hD : ModIs M g) (hg : SgOk g) {i : Nat} (hi : i + 6 ≤ gn G) (hn : gn G ≤ 3072) {post : Option Value → Mm → Prop} (hk : ∀ M' g', CompIs M' g' → ModIs M' g' → SgOk g' → Go G 11 mL_law 1503 [some (.ref 1002), some (.ref 0), some (.ref 49), some (.int (nI i))] [] M' post) : Go G 11 mL_law 280 [some (.ref 1002), some (.ref 0), some (.ref 49), some (.int (nI i))] [] M post := by
  refine Go.aload_n dL_law_280 rfl ?_
  refine Go.aload_n dL_law_281 rfl ?_
  refine Go.iload_n dL_law_282 rfl ?_
  refine Go.iconst (v := 1) dL_law_283 (by decide) ?_
  refine Go.iadd dL_law_284 ?_
  refine Go.eqI (y := nI (i + 1)) (nI_add _ _) ?_
  refine Go.script dL_law_285 (vin (by omega) (by omega)) ?_
  refine Go.eqI (y := gx G (i + 1)) (by rw [ncl (by omega)]) ?_
  refine Go.aload_n dL_law_286 rfl ?_
  refine Go.iload_n dL_law_287 rfl ?_
  refine Go.iconst (v := 2) dL_law_288 (by decide) ?_
  refine Go.iadd dL_law_289 ?_
  refine Go.eqI (y := nI (i + 2)) (nI_add _ _) ?_
  refine Go.script dL_law_290 (vin (by omega) (by omega)) ?_
  refine Go.eqI (y := gx G (i + 2)) (by rw [ncl (by omega)]) ?_
  refine Go.aload_n dL_law_291 rfl ?_
  refine Go.iload_n dL_law_292 rfl ?_
  refine Go.iconst (v := 3) dL_law_293 (by decide) ?_
  refine Go.iadd dL_law_294 ?_
  refine Go.eqI (y := nI (i + 3)) (nI_add _ _) ?_
  refine Go.script dL_law_295 (vin (by omega) (by omega)) ?_
  refine Go.eqI (y := gx G (i + 3)) (by rw [ncl (by omega)]) ?_
  refine Go.callVI [] dL_law_296 lkL_23 imX6_like seX6_like cbX6_like (c_like hG hC hg (gx G (i + 1)) (gx G (i + 2)) (gx G (i + 3))) (shp hG rfl) rfl rfl rfl (Nat.le_of_ble_eq_true rfl) (fun r1 M2 hr1 => ?_)
  refine Go.aload_n dL_law_299 rfl ?_
  refine Go.aload_n dL_law_300 rfl ?_
  refine Go.iload_n dL_law_301 rfl ?_
  refine Go.iconst (v := 1) dL_law_302 (by decide) ?_
  refine Go.iadd dL_law_303 ?_
  refine Go.eqI (y := nI (i + 1)) (nI_add _ _) ?_
  refine Go.script dL_law_304 (vin (by omega) (by omega)) ?_
  refine Go.eqI (y := gx G (i + 1)) (by rw [ncl (by omega)]) ?_
  refine Go.aload_n dL_law_305 rfl ?_
  refine Go.iload_n dL_law_306 rfl ?_
  refine Go.iconst (v := 2) dL_law_307 (by decide) ?_
  refine Go.iadd dL_law_308 ?_
  refine Go.eqI (y := nI (i + 2)) (nI_add _ _) ?_
  refine Go.script dL_law_309 (vin (by omega) (by omega)) ?_
  refine Go.eqI (y := gx G (i + 2)) (by rw [ncl (by omega)]) ?_
  refine Go.aload_n dL_law_310 rfl ?_
  refine Go.iload_n dL_law_311 rfl ?_
  refine Go.iconst (v := 3) dL_law_312 (by decide) ?_
  refine Go.iadd dL_law_313 ?_
  refine Go.eqI (y := nI (i + 3)) (nI_add _ _) ?_
  refine Go.script dL_law_314 (vin (by omega) (by omega)) ?_
  refine Go.eqI (y := gx G (i + 3)) (by rw [ncl (by omega)]) ?_
  refine Go.callVI [.int r1] dL_law_315 lkL_27 imX7_like seX7_like cbX7_like (m_like hG (hD.same hr1.2.2) hg (gx G (i + 1)) (gx G (i + 2)) (gx G (i + 3))) (shp hG rfl) rfl rfl rfl (Nat.le_of_ble_eq_true rfl) (fun r3 M4 hr3 => ?_)
  refine Go.icmp_eq 1503 dL_law_318 rfl (fun _ => ?_) (fun h318 => absurd (hr1.1.trans hr3.1.symm) h318)
  exact hk _ _ (hr1.2.1.same hr3.2.2) hr3.2.1 (ok_like hg (gx G (i + 1)) (gx G (i + 2)) (gx G (i + 3)))
set_option maxRecDepth 20000 in
theorem w_edict {G : Gt} (hG : gS G = SHAPE) {M : Mm} {g : Sg} (hC : CompIs M g) (hD : ModIs M g) (hg : SgOk g) {i : Nat} (hi : i + 6 ≤ gn G) (hn : gn G ≤ 3072) {post : Option Value → Mm → Prop} (hk : ∀ M' g', CompIs M' g' → ModIs M' g' → SgOk g' → Go G 11 mL_law 1503 [some (.ref 1002), some (.ref 0), some (.ref 49), some (.int (nI i))] [] M' post) : Go G 11 mL_law 323 [some (.ref 1002), some (.ref 0), some (.ref 49), some (.int (nI i))] [] M post := by
  refine Go.aload_n dL_law_323 rfl ?_
  refine Go.aload_n dL_law_324 rfl ?_
  refine Go.iload_n dL_law_325 rfl ?_
  refine Go.iconst (v := 1) dL_law_326 (by decide) ?_
  refine Go.iadd dL_law_327 ?_
  refine Go.eqI (y := nI (i + 1)) (nI_add _ _) ?_
  refine Go.script dL_law_328 (vin (by omega) (by omega)) ?_
  refine Go.eqI (y := gx G (i + 1)) (by rw [ncl (by omega)]) ?_
  refine Go.aload_n dL_law_329 rfl ?_
  refine Go.iload_n dL_law_330 rfl ?_
  refine Go.iconst (v := 2) dL_law_331 (by decide) ?_
  refine Go.iadd dL_law_332 ?_
  refine Go.eqI (y := nI (i + 2)) (nI_add _ _) ?_
  refine Go.script dL_law_333 (vin (by omega) (by omega)) ?_
  refine Go.eqI (y := gx G (i + 2)) (by rw [ncl (by omega)]) ?_
  refine Go.if_eq 341 dL_law_334 rfl (fun h334 => ?_) (fun h334 => ?_)
  · refine Go.iconst (v := 0) dL_law_341 (by decide) ?_
    refine Go.callVI [] dL_law_342 lkL_28 imX6_edict seX6_edict cbX6_edict (c_edict hG hC hg (gx G (i + 1)) false) (shp hG rfl) rfl rfl rfl (Nat.le_of_ble_eq_true rfl) (fun r1 M2 hr1 => ?_)
    refine Go.aload_n dL_law_345 rfl ?_
    refine Go.aload_n dL_law_346 rfl ?_
    refine Go.iload_n dL_law_347 rfl ?_
    refine Go.iconst (v := 1) dL_law_348 (by decide) ?_
    refine Go.iadd dL_law_349 ?_
    refine Go.eqI (y := nI (i + 1)) (nI_add _ _) ?_
    refine Go.script dL_law_350 (vin (by omega) (by omega)) ?_
    refine Go.eqI (y := gx G (i + 1)) (by rw [ncl (by omega)]) ?_
    refine Go.aload_n dL_law_351 rfl ?_
    refine Go.iload_n dL_law_352 rfl ?_
    refine Go.iconst (v := 2) dL_law_353 (by decide) ?_
    refine Go.iadd dL_law_354 ?_
    refine Go.eqI (y := nI (i + 2)) (nI_add _ _) ?_
    refine Go.script dL_law_355 (vin (by omega) (by omega)) ?_
    refine Go.eqI (y := gx G (i + 2)) (by rw [ncl (by omega)]) ?_
    refine Go.if_eq 363 dL_law_356 rfl (fun _ => ?_) (fun h356 => absurd (h334) h356)
    refine Go.iconst (v := 0) dL_law_363 (by decide) ?_
    refine Go.callVI [.int r1] dL_law_364 lkL_32 imX7_edict seX7_edict cbX7_edict (m_edict hG (hD.same hr1.2.2) hg (gx G (i + 1)) false) (shp hG rfl) rfl rfl rfl (Nat.le_of_ble_eq_true rfl) (fun r3 M4 hr3 => ?_)
    refine Go.icmp_eq 1503 dL_law_367 rfl (fun _ => ?_) (fun h367 => absurd (hr1.1.trans hr3.1.symm) h367)
    exact hk _ _ (hr1.2.1.same hr3.2.2) hr3.2.1 (ok_edict hg (gx G (i + 1)) false)
  · refine Go.iconst (v := 1) dL_law_337 (by decide) ?_
    refine Go.goto 342 dL_law_338 rfl ?_
    refine Go.callVI [] dL_law_342 lkL_28 imX6_edict seX6_edict cbX6_edict (c_edict hG hC hg (gx G (i + 1)) true) (shp hG rfl) rfl rfl rfl (Nat.le_of_ble_eq_true rfl) (fun r5 M6 hr5 => ?_)
    refine Go.aload_n dL_law_345 rfl ?_
    refine Go.aload_n dL_law_346 rfl ?_
    refine Go.iload_n dL_law_347 rfl ?_
    refine Go.iconst (v := 1) dL_law_348 (by decide) ?_
    refine Go.iadd dL_law_349 ?_
    refine Go.eqI (y := nI (i + 1)) (nI_add _ _) ?_
    refine Go.script dL_law_350 (vin (by omega) (by omega)) ?_
    refine Go.eqI (y := gx G (i + 1)) (by rw [ncl (by omega)]) ?_
    refine Go.aload_n dL_law_351 rfl ?_
    refine Go.iload_n dL_law_352 rfl ?_
    refine Go.iconst (v := 2) dL_law_353 (by decide) ?_
    refine Go.iadd dL_law_354 ?_
    refine Go.eqI (y := nI (i + 2)) (nI_add _ _) ?_
    refine Go.script dL_law_355 (vin (by omega) (by omega)) ?_
    refine Go.eqI (y := gx G (i + 2)) (by rw [ncl (by omega)]) ?_
    refine Go.if_eq 363 dL_law_356 rfl (fun h356 => absurd h356 (h334)) (fun _ => ?_)
    refine Go.iconst (v := 1) dL_law_359 (by decide) ?_
    refine Go.goto 364 dL_law_360 rfl ?_
    refine Go.callVI [.int r5] dL_law_364 lkL_32 imX7_edict seX7_edict cbX7_edict (m_edict hG (hD.same hr5.2.2) hg (gx G (i + 1)) true) (shp hG rfl) rfl rfl rfl (Nat.le_of_ble_eq_true rfl) (fun r7 M8 hr7 => ?_)
    refine Go.icmp_eq 1503 dL_law_367 rfl (fun _ => ?_) (fun h367 => absurd (hr5.1.trans hr7.1.symm) h367)
    exact hk _ _ (hr5.2.1.same hr7.2.2) hr7.2.1 (ok_edict hg (gx G (i + 1)) true)
set_option maxRecDepth 20000 in
theorem w_dish {G : Gt} (hG : gS G = SHAPE) {M : Mm} {g : Sg} (hC : CompIs M g) (hD : ModIs M g) (hg : SgOk g) {i : Nat} (hi : i + 6 ≤ gn G) (hn : gn G ≤ 3072) {post : Option Value → Mm → Prop} (hk : ∀ M' g', CompIs M' g' → ModIs M' g' → SgOk g' → Go G 11 mL_law 1503 [some (.ref 1002), some (.ref 0), some (.ref 49), some (.int (nI i))] [] M' post) : Go G 11 mL_law 372 [some (.ref 1002), some (.ref 0), some (.ref 49), some (.int (nI i))] [] M post := by
  refine Go.aload_n dL_law_372 rfl ?_
  refine Go.aload_n dL_law_373 rfl ?_
  refine Go.iload_n dL_law_374 rfl ?_
  refine Go.iconst (v := 1) dL_law_375 (by decide) ?_
  refine Go.iadd dL_law_376 ?_
  refine Go.eqI (y := nI (i + 1)) (nI_add _ _) ?_
  refine Go.script dL_law_377 (vin (by omega) (by omega)) ?_
  refine Go.eqI (y := gx G (i + 1)) (by rw [ncl (by omega)]) ?_
  refine Go.aload_n dL_law_378 rfl ?_
  refine Go.iload_n dL_law_379 rfl ?_
  refine Go.iconst (v := 2) dL_law_380 (by decide) ?_
  refine Go.iadd dL_law_381 ?_
  refine Go.eqI (y := nI (i + 2)) (nI_add _ _) ?_
  refine Go.script dL_law_382 (vin (by omega) (by omega)) ?_
  refine Go.eqI (y := gx G (i + 2)) (by rw [ncl (by omega)]) ?_
  refine Go.aload_n dL_law_383 rfl ?_
  refine Go.iload_n dL_law_384 rfl ?_
  refine Go.iconst (v := 3) dL_law_385 (by decide) ?_
  refine Go.iadd dL_law_386 ?_
  refine Go.eqI (y := nI (i + 3)) (nI_add _ _) ?_
  refine Go.script dL_law_387 (vin (by omega) (by omega)) ?_
  refine Go.eqI (y := gx G (i + 3)) (by rw [ncl (by omega)]) ?_
  refine Go.callVI [] dL_law_388 lkL_33 imX6_dish seX6_dish cbX6_dish (c_dish hG hC hg (gx G (i + 1)) (gx G (i + 2)) (gx G (i + 3))) (shp hG rfl) rfl rfl rfl (Nat.le_of_ble_eq_true rfl) (fun r1 M2 hr1 => ?_)
  refine Go.aload_n dL_law_391 rfl ?_
  refine Go.aload_n dL_law_392 rfl ?_
  refine Go.iload_n dL_law_393 rfl ?_
  refine Go.iconst (v := 1) dL_law_394 (by decide) ?_
  refine Go.iadd dL_law_395 ?_
  refine Go.eqI (y := nI (i + 1)) (nI_add _ _) ?_
  refine Go.script dL_law_396 (vin (by omega) (by omega)) ?_
  refine Go.eqI (y := gx G (i + 1)) (by rw [ncl (by omega)]) ?_
  refine Go.aload_n dL_law_397 rfl ?_
  refine Go.iload_n dL_law_398 rfl ?_
  refine Go.iconst (v := 2) dL_law_399 (by decide) ?_
  refine Go.iadd dL_law_400 ?_
  refine Go.eqI (y := nI (i + 2)) (nI_add _ _) ?_
  refine Go.script dL_law_401 (vin (by omega) (by omega)) ?_
  refine Go.eqI (y := gx G (i + 2)) (by rw [ncl (by omega)]) ?_
  refine Go.aload_n dL_law_402 rfl ?_
  refine Go.iload_n dL_law_403 rfl ?_
  refine Go.iconst (v := 3) dL_law_404 (by decide) ?_
  refine Go.iadd dL_law_405 ?_
  refine Go.eqI (y := nI (i + 3)) (nI_add _ _) ?_
  refine Go.script dL_law_406 (vin (by omega) (by omega)) ?_
  refine Go.eqI (y := gx G (i + 3)) (by rw [ncl (by omega)]) ?_
  refine Go.callVI [.int r1] dL_law_407 lkL_36 imX7_dish seX7_dish cbX7_dish (m_dish hG (hD.same hr1.2.2) hg (gx G (i + 1)) (gx G (i + 2)) (gx G (i + 3))) (shp hG rfl) rfl rfl rfl (Nat.le_of_ble_eq_true rfl) (fun r3 M4 hr3 => ?_)
  refine Go.icmp_eq 1503 dL_law_410 rfl (fun _ => ?_) (fun h410 => absurd (hr1.1.trans hr3.1.symm) h410)
  exact hk _ _ (hr1.2.1.same hr3.2.2) hr3.2.1 (ok_dish hg (gx G (i + 1)) (gx G (i + 2)) (gx G (i + 3)))
set_option maxRecDepth 20000 in
theorem w_of {G : Gt} (hG : gS G = SHAPE) {M : Mm} {g : Sg} (hC : CompIs M g) (hD : ModIs M g) (hg : SgOk g) {i : Nat} (hi : i + 6 ≤ gn G) (hn : gn G ≤ 3072) {post : Option Value → Mm → Prop} (hk : ∀ M' g', CompIs M' g' → ModIs M' g' → SgOk g' → Go G 11 mL_law 1503 [some (.ref 1002), some (.ref 0), some (.ref 49), some (.int (nI i))] [] M' post) : Go G 11 mL_law 415 [some (.ref 1002), some (.ref 0), some (.ref 49), some (.int (nI i))] [] M post := by
  refine Go.aload_n dL_law_415 rfl ?_
  refine Go.aload_n dL_law_416 rfl ?_
  refine Go.iload_n dL_law_417 rfl ?_
  refine Go.iconst (v := 1) dL_law_418 (by decide) ?_
  refine Go.iadd dL_law_419 ?_
  refine Go.eqI (y := nI (i + 1)) (nI_add _ _) ?_
  refine Go.script dL_law_420 (vin (by omega) (by omega)) ?_
  refine Go.eqI (y := gx G (i + 1)) (by rw [ncl (by omega)]) ?_
  refine Go.aload_n dL_law_421 rfl ?_
  refine Go.iload_n dL_law_422 rfl ?_
  refine Go.iconst (v := 2) dL_law_423 (by decide) ?_
  refine Go.iadd dL_law_424 ?_
  refine Go.eqI (y := nI (i + 2)) (nI_add _ _) ?_
  refine Go.script dL_law_425 (vin (by omega) (by omega)) ?_
  refine Go.eqI (y := gx G (i + 2)) (by rw [ncl (by omega)]) ?_
  refine Go.callVI [] dL_law_426 lkL_37 imX6_of seX6_of cbX6_of (c_of hG hC hg (gx G (i + 1)) (gx G (i + 2))) (shp hG rfl) rfl rfl rfl (Nat.le_of_ble_eq_true rfl) (fun r1 M2 hr1 => ?_)
  refine Go.aload_n dL_law_429 rfl ?_
  refine Go.aload_n dL_law_430 rfl ?_
  refine Go.iload_n dL_law_431 rfl ?_
  refine Go.iconst (v := 1) dL_law_432 (by decide) ?_
  refine Go.iadd dL_law_433 ?_
  refine Go.eqI (y := nI (i + 1)) (nI_add _ _) ?_
  refine Go.script dL_law_434 (vin (by omega) (by omega)) ?_
  refine Go.eqI (y := gx G (i + 1)) (by rw [ncl (by omega)]) ?_
  refine Go.aload_n dL_law_435 rfl ?_
  refine Go.iload_n dL_law_436 rfl ?_
  refine Go.iconst (v := 2) dL_law_437 (by decide) ?_
  refine Go.iadd dL_law_438 ?_
  refine Go.eqI (y := nI (i + 2)) (nI_add _ _) ?_
  refine Go.script dL_law_439 (vin (by omega) (by omega)) ?_
  refine Go.eqI (y := gx G (i + 2)) (by rw [ncl (by omega)]) ?_
  refine Go.callVI [.int r1] dL_law_440 lkL_40 imX7_of seX7_of cbX7_of (m_of hG (hD.same hr1.2.2) hg (gx G (i + 1)) (gx G (i + 2))) (shp hG rfl) rfl rfl rfl (Nat.le_of_ble_eq_true rfl) (fun r3 M4 hr3 => ?_)
  refine Go.icmp_eq 1503 dL_law_443 rfl (fun _ => ?_) (fun h443 => absurd (hr1.1.trans hr3.1.symm) h443)
  exact hk _ _ (hr1.2.1.same hr3.2.2) hr3.2.1 (ok_of hg (gx G (i + 1)) (gx G (i + 2)))
set_option maxRecDepth 20000 in
theorem w_near {G : Gt} (hG : gS G = SHAPE) {M : Mm} {g : Sg} (hC : CompIs M g) (hD : ModIs M g) (hg : SgOk g) {i : Nat} (hi : i + 6 ≤ gn G) (hn : gn G ≤ 3072) {post : Option Value → Mm → Prop} (hk : ∀ M' g', CompIs M' g' → ModIs M' g' → SgOk g' → Go G 11 mL_law 1503 [some (.ref 1002), some (.ref 0), some (.ref 49), some (.int (nI i))] [] M' post) : Go G 11 mL_law 448 [some (.ref 1002), some (.ref 0), some (.ref 49), some (.int (nI i))] [] M post := by
  refine Go.aload_n dL_law_448 rfl ?_
  refine Go.aload_n dL_law_449 rfl ?_
  refine Go.iload_n dL_law_450 rfl ?_
  refine Go.iconst (v := 1) dL_law_451 (by decide) ?_
  refine Go.iadd dL_law_452 ?_
  refine Go.eqI (y := nI (i + 1)) (nI_add _ _) ?_
  refine Go.script dL_law_453 (vin (by omega) (by omega)) ?_
  refine Go.eqI (y := gx G (i + 1)) (by rw [ncl (by omega)]) ?_
  refine Go.aload_n dL_law_454 rfl ?_
  refine Go.iload_n dL_law_455 rfl ?_
  refine Go.iconst (v := 2) dL_law_456 (by decide) ?_
  refine Go.iadd dL_law_457 ?_
  refine Go.eqI (y := nI (i + 2)) (nI_add _ _) ?_
  refine Go.script dL_law_458 (vin (by omega) (by omega)) ?_
  refine Go.eqI (y := gx G (i + 2)) (by rw [ncl (by omega)]) ?_
  refine Go.callVI [] dL_law_459 lkL_41 imX6_near seX6_near cbX6_near (c_near hG hC hg (gx G (i + 1)) (gx G (i + 2))) (shp hG rfl) rfl rfl rfl (Nat.le_of_ble_eq_true rfl) (fun r1 M2 hr1 => ?_)
  refine Go.aload_n dL_law_462 rfl ?_
  refine Go.aload_n dL_law_463 rfl ?_
  refine Go.iload_n dL_law_464 rfl ?_
  refine Go.iconst (v := 1) dL_law_465 (by decide) ?_
  refine Go.iadd dL_law_466 ?_
  refine Go.eqI (y := nI (i + 1)) (nI_add _ _) ?_
  refine Go.script dL_law_467 (vin (by omega) (by omega)) ?_
  refine Go.eqI (y := gx G (i + 1)) (by rw [ncl (by omega)]) ?_
  refine Go.aload_n dL_law_468 rfl ?_
  refine Go.iload_n dL_law_469 rfl ?_
  refine Go.iconst (v := 2) dL_law_470 (by decide) ?_
  refine Go.iadd dL_law_471 ?_
  refine Go.eqI (y := nI (i + 2)) (nI_add _ _) ?_
  refine Go.script dL_law_472 (vin (by omega) (by omega)) ?_
  refine Go.eqI (y := gx G (i + 2)) (by rw [ncl (by omega)]) ?_
  refine Go.callVI [.int r1] dL_law_473 lkL_44 imX7_near seX7_near cbX7_near (m_near hG (hD.same hr1.2.2) hg (gx G (i + 1)) (gx G (i + 2))) (shp hG rfl) rfl rfl rfl (Nat.le_of_ble_eq_true rfl) (fun r3 M4 hr3 => ?_)
  refine Go.icmp_eq 1503 dL_law_476 rfl (fun _ => ?_) (fun h476 => absurd (hr1.1.trans hr3.1.symm) h476)
  exact hk _ _ (hr1.2.1.same hr3.2.2) hr3.2.1 (ok_near hg (gx G (i + 1)) (gx G (i + 2)))
set_option maxRecDepth 20000 in
theorem w_nearHad {G : Gt} (hG : gS G = SHAPE) {M : Mm} {g : Sg} (hC : CompIs M g) (hD : ModIs M g) (hg : SgOk g) {i : Nat} (hi : i + 6 ≤ gn G) (hn : gn G ≤ 3072) {post : Option Value → Mm → Prop} (hk : ∀ M' g', CompIs M' g' → ModIs M' g' → SgOk g' → Go G 11 mL_law 1503 [some (.ref 1002), some (.ref 0), some (.ref 49), some (.int (nI i))] [] M' post) : Go G 11 mL_law 481 [some (.ref 1002), some (.ref 0), some (.ref 49), some (.int (nI i))] [] M post := by
  refine Go.aload_n dL_law_481 rfl ?_
  refine Go.aload_n dL_law_482 rfl ?_
  refine Go.iload_n dL_law_483 rfl ?_
  refine Go.iconst (v := 1) dL_law_484 (by decide) ?_
  refine Go.iadd dL_law_485 ?_
  refine Go.eqI (y := nI (i + 1)) (nI_add _ _) ?_
  refine Go.script dL_law_486 (vin (by omega) (by omega)) ?_
  refine Go.eqI (y := gx G (i + 1)) (by rw [ncl (by omega)]) ?_
  refine Go.aload_n dL_law_487 rfl ?_
  refine Go.iload_n dL_law_488 rfl ?_
  refine Go.iconst (v := 2) dL_law_489 (by decide) ?_
  refine Go.iadd dL_law_490 ?_
  refine Go.eqI (y := nI (i + 2)) (nI_add _ _) ?_
  refine Go.script dL_law_491 (vin (by omega) (by omega)) ?_
  refine Go.eqI (y := gx G (i + 2)) (by rw [ncl (by omega)]) ?_
  refine Go.callVI [] dL_law_492 lkL_45 imX6_nearHad seX6_nearHad cbX6_nearHad (c_nearHad hG hC hg (gx G (i + 1)) (gx G (i + 2))) (shp hG rfl) rfl rfl rfl (Nat.le_of_ble_eq_true rfl) (fun r1 M2 hr1 => ?_)
  refine Go.aload_n dL_law_495 rfl ?_
  refine Go.aload_n dL_law_496 rfl ?_
  refine Go.iload_n dL_law_497 rfl ?_
  refine Go.iconst (v := 1) dL_law_498 (by decide) ?_
  refine Go.iadd dL_law_499 ?_
  refine Go.eqI (y := nI (i + 1)) (nI_add _ _) ?_
  refine Go.script dL_law_500 (vin (by omega) (by omega)) ?_
  refine Go.eqI (y := gx G (i + 1)) (by rw [ncl (by omega)]) ?_
  refine Go.aload_n dL_law_501 rfl ?_
  refine Go.iload_n dL_law_502 rfl ?_
  refine Go.iconst (v := 2) dL_law_503 (by decide) ?_
  refine Go.iadd dL_law_504 ?_
  refine Go.eqI (y := nI (i + 2)) (nI_add _ _) ?_
  refine Go.script dL_law_505 (vin (by omega) (by omega)) ?_
  refine Go.eqI (y := gx G (i + 2)) (by rw [ncl (by omega)]) ?_
  refine Go.callVI [.int r1] dL_law_506 lkL_48 imX7_nearHad seX7_nearHad cbX7_nearHad (m_nearHad hG (hD.same hr1.2.2) hg (gx G (i + 1)) (gx G (i + 2))) (shp hG rfl) rfl rfl rfl (Nat.le_of_ble_eq_true rfl) (fun r3 M4 hr3 => ?_)
  refine Go.icmp_eq 1503 dL_law_509 rfl (fun _ => ?_) (fun h509 => absurd (hr1.1.trans hr3.1.symm) h509)
  exact hk _ _ (hr1.2.1.same hr3.2.2) hr3.2.1 (ok_nearHad hg (gx G (i + 1)) (gx G (i + 2)))
set_option maxRecDepth 20000 in
theorem w_many {G : Gt} (hG : gS G = SHAPE) {M : Mm} {g : Sg} (hC : CompIs M g) (hD : ModIs M g) (hg : SgOk g) {i : Nat} (hi : i + 6 ≤ gn G) (hn : gn G ≤ 3072) {post : Option Value → Mm → Prop} (hk : ∀ M' g', CompIs M' g' → ModIs M' g' → SgOk g' → Go G 11 mL_law 1503 [some (.ref 1002), some (.ref 0), some (.ref 49), some (.int (nI i))] [] M' post) : Go G 11 mL_law 514 [some (.ref 1002), some (.ref 0), some (.ref 49), some (.int (nI i))] [] M post := by
  refine Go.aload_n dL_law_514 rfl ?_
  refine Go.aload_n dL_law_515 rfl ?_
  refine Go.iload_n dL_law_516 rfl ?_
  refine Go.iconst (v := 1) dL_law_517 (by decide) ?_
  refine Go.iadd dL_law_518 ?_
  refine Go.eqI (y := nI (i + 1)) (nI_add _ _) ?_
  refine Go.script dL_law_519 (vin (by omega) (by omega)) ?_
  refine Go.eqI (y := gx G (i + 1)) (by rw [ncl (by omega)]) ?_
  refine Go.callVI [] dL_law_520 lkL_49 imX6_many seX6_many cbX6_many (c_many hG hC hg (gx G (i + 1))) (shp hG rfl) rfl rfl rfl (Nat.le_of_ble_eq_true rfl) (fun r1 M2 hr1 => ?_)
  refine Go.aload_n dL_law_523 rfl ?_
  refine Go.aload_n dL_law_524 rfl ?_
  refine Go.iload_n dL_law_525 rfl ?_
  refine Go.iconst (v := 1) dL_law_526 (by decide) ?_
  refine Go.iadd dL_law_527 ?_
  refine Go.eqI (y := nI (i + 1)) (nI_add _ _) ?_
  refine Go.script dL_law_528 (vin (by omega) (by omega)) ?_
  refine Go.eqI (y := gx G (i + 1)) (by rw [ncl (by omega)]) ?_
  refine Go.callVI [.int r1] dL_law_529 lkL_52 imX7_many seX7_many cbX7_many (m_many hG (hD.same hr1.2.2) hg (gx G (i + 1))) (shp hG rfl) rfl rfl rfl (Nat.le_of_ble_eq_true rfl) (fun r3 M4 hr3 => ?_)
  refine Go.icmp_eq 1503 dL_law_532 rfl (fun _ => ?_) (fun h532 => absurd (hr1.1.trans hr3.1.symm) h532)
  exact hk _ _ (hr1.2.1.same hr3.2.2) hr3.2.1 (ok_many hg (gx G (i + 1)))
set_option maxRecDepth 20000 in
theorem w_next {G : Gt} (hG : gS G = SHAPE) {M : Mm} {g : Sg} (hC : CompIs M g) (hD : ModIs M g) (hg : SgOk g) {i : Nat} (hi : i + 6 ≤ gn G) (hn : gn G ≤ 3072) {post : Option Value → Mm → Prop} (hk : ∀ M' g', CompIs M' g' → ModIs M' g' → SgOk g' → Go G 11 mL_law 1503 [some (.ref 1002), some (.ref 0), some (.ref 49), some (.int (nI i))] [] M' post) : Go G 11 mL_law 537 [some (.ref 1002), some (.ref 0), some (.ref 49), some (.int (nI i))] [] M post := by
  refine Go.aload_n dL_law_537 rfl ?_
  refine Go.aload_n dL_law_538 rfl ?_
  refine Go.iload_n dL_law_539 rfl ?_
  refine Go.iconst (v := 1) dL_law_540 (by decide) ?_
  refine Go.iadd dL_law_541 ?_
  refine Go.eqI (y := nI (i + 1)) (nI_add _ _) ?_
  refine Go.script dL_law_542 (vin (by omega) (by omega)) ?_
  refine Go.eqI (y := gx G (i + 1)) (by rw [ncl (by omega)]) ?_
  refine Go.callVI [] dL_law_543 lkL_53 imX6_next seX6_next cbX6_next (c_next hG hC hg (gx G (i + 1))) (shp hG rfl) rfl rfl rfl (Nat.le_of_ble_eq_true rfl) (fun r1 M2 hr1 => ?_)
  refine Go.aload_n dL_law_546 rfl ?_
  refine Go.aload_n dL_law_547 rfl ?_
  refine Go.iload_n dL_law_548 rfl ?_
  refine Go.iconst (v := 1) dL_law_549 (by decide) ?_
  refine Go.iadd dL_law_550 ?_
  refine Go.eqI (y := nI (i + 1)) (nI_add _ _) ?_
  refine Go.script dL_law_551 (vin (by omega) (by omega)) ?_
  refine Go.eqI (y := gx G (i + 1)) (by rw [ncl (by omega)]) ?_
  refine Go.callVI [.int r1] dL_law_552 lkL_56 imX7_next seX7_next cbX7_next (m_next hG (hD.same hr1.2.2) hg (gx G (i + 1))) (shp hG rfl) rfl rfl rfl (Nat.le_of_ble_eq_true rfl) (fun r3 M4 hr3 => ?_)
  refine Go.icmp_eq 1503 dL_law_555 rfl (fun _ => ?_) (fun h555 => absurd (hr1.1.trans hr3.1.symm) h555)
  exact hk _ _ (hr1.2.1.same hr3.2.2) hr3.2.1 (ok_next hg (gx G (i + 1)))
set_option maxRecDepth 20000 in
theorem w_enter {G : Gt} (hG : gS G = SHAPE) {M : Mm} {g : Sg} (hC : CompIs M g) (hD : ModIs M g) (hg : SgOk g) {i : Nat} (hi : i + 6 ≤ gn G) (hn : gn G ≤ 3072) {post : Option Value → Mm → Prop} (hk : ∀ M' g', CompIs M' g' → ModIs M' g' → SgOk g' → Go G 11 mL_law 1503 [some (.ref 1002), some (.ref 0), some (.ref 49), some (.int (nI i))] [] M' post) : Go G 11 mL_law 560 [some (.ref 1002), some (.ref 0), some (.ref 49), some (.int (nI i))] [] M post := by
  refine Go.aload_n dL_law_560 rfl ?_
  refine Go.aload_n dL_law_561 rfl ?_
  refine Go.iload_n dL_law_562 rfl ?_
  refine Go.iconst (v := 1) dL_law_563 (by decide) ?_
  refine Go.iadd dL_law_564 ?_
  refine Go.eqI (y := nI (i + 1)) (nI_add _ _) ?_
  refine Go.script dL_law_565 (vin (by omega) (by omega)) ?_
  refine Go.eqI (y := gx G (i + 1)) (by rw [ncl (by omega)]) ?_
  refine Go.aload_n dL_law_566 rfl ?_
  refine Go.iload_n dL_law_567 rfl ?_
  refine Go.iconst (v := 2) dL_law_568 (by decide) ?_
  refine Go.iadd dL_law_569 ?_
  refine Go.eqI (y := nI (i + 2)) (nI_add _ _) ?_
  refine Go.script dL_law_570 (vin (by omega) (by omega)) ?_
  refine Go.eqI (y := gx G (i + 2)) (by rw [ncl (by omega)]) ?_
  refine Go.callVI [] dL_law_571 lkL_57 imX6_enter seX6_enter cbX6_enter (c_enter hG hC hg (gx G (i + 1)) (gx G (i + 2))) (shp hG rfl) rfl rfl rfl (Nat.le_of_ble_eq_true rfl) (fun r1 M2 hr1 => ?_)
  refine Go.aload_n dL_law_574 rfl ?_
  refine Go.aload_n dL_law_575 rfl ?_
  refine Go.iload_n dL_law_576 rfl ?_
  refine Go.iconst (v := 1) dL_law_577 (by decide) ?_
  refine Go.iadd dL_law_578 ?_
  refine Go.eqI (y := nI (i + 1)) (nI_add _ _) ?_
  refine Go.script dL_law_579 (vin (by omega) (by omega)) ?_
  refine Go.eqI (y := gx G (i + 1)) (by rw [ncl (by omega)]) ?_
  refine Go.aload_n dL_law_580 rfl ?_
  refine Go.iload_n dL_law_581 rfl ?_
  refine Go.iconst (v := 2) dL_law_582 (by decide) ?_
  refine Go.iadd dL_law_583 ?_
  refine Go.eqI (y := nI (i + 2)) (nI_add _ _) ?_
  refine Go.script dL_law_584 (vin (by omega) (by omega)) ?_
  refine Go.eqI (y := gx G (i + 2)) (by rw [ncl (by omega)]) ?_
  refine Go.callVI [.int r1] dL_law_585 lkL_60 imX7_enter seX7_enter cbX7_enter (m_enter hG (hD.same hr1.2.2) hg (gx G (i + 1)) (gx G (i + 2))) (shp hG rfl) rfl rfl rfl (Nat.le_of_ble_eq_true rfl) (fun r3 M4 hr3 => ?_)
  refine Go.icmp_eq 1503 dL_law_588 rfl (fun _ => ?_) (fun h588 => absurd (hr1.1.trans hr3.1.symm) h588)
  exact hk _ _ (hr1.2.1.same hr3.2.2) hr3.2.1 (ok_enter hg (gx G (i + 1)) (gx G (i + 2)))
set_option maxRecDepth 20000 in
theorem w_entryOf {G : Gt} (hG : gS G = SHAPE) {M : Mm} {g : Sg} (hC : CompIs M g) (hD : ModIs M g) (hg : SgOk g) {i : Nat} (hi : i + 6 ≤ gn G) (hn : gn G ≤ 3072) {post : Option Value → Mm → Prop} (hk : ∀ M' g', CompIs M' g' → ModIs M' g' → SgOk g' → Go G 11 mL_law 1503 [some (.ref 1002), some (.ref 0), some (.ref 49), some (.int (nI i))] [] M' post) : Go G 11 mL_law 593 [some (.ref 1002), some (.ref 0), some (.ref 49), some (.int (nI i))] [] M post := by
  refine Go.aload_n dL_law_593 rfl ?_
  refine Go.aload_n dL_law_594 rfl ?_
  refine Go.iload_n dL_law_595 rfl ?_
  refine Go.iconst (v := 1) dL_law_596 (by decide) ?_
  refine Go.iadd dL_law_597 ?_
  refine Go.eqI (y := nI (i + 1)) (nI_add _ _) ?_
  refine Go.script dL_law_598 (vin (by omega) (by omega)) ?_
  refine Go.eqI (y := gx G (i + 1)) (by rw [ncl (by omega)]) ?_
  refine Go.aload_n dL_law_599 rfl ?_
  refine Go.iload_n dL_law_600 rfl ?_
  refine Go.iconst (v := 2) dL_law_601 (by decide) ?_
  refine Go.iadd dL_law_602 ?_
  refine Go.eqI (y := nI (i + 2)) (nI_add _ _) ?_
  refine Go.script dL_law_603 (vin (by omega) (by omega)) ?_
  refine Go.eqI (y := gx G (i + 2)) (by rw [ncl (by omega)]) ?_
  refine Go.callVI [] dL_law_604 lkL_61 imX6_entryOf seX6_entryOf cbX6_entryOf (c_entryOf hG hC hg (gx G (i + 1)) (gx G (i + 2))) (shp hG rfl) rfl rfl rfl (Nat.le_of_ble_eq_true rfl) (fun r1 M2 hr1 => ?_)
  refine Go.aload_n dL_law_607 rfl ?_
  refine Go.aload_n dL_law_608 rfl ?_
  refine Go.iload_n dL_law_609 rfl ?_
  refine Go.iconst (v := 1) dL_law_610 (by decide) ?_
  refine Go.iadd dL_law_611 ?_
  refine Go.eqI (y := nI (i + 1)) (nI_add _ _) ?_
  refine Go.script dL_law_612 (vin (by omega) (by omega)) ?_
  refine Go.eqI (y := gx G (i + 1)) (by rw [ncl (by omega)]) ?_
  refine Go.aload_n dL_law_613 rfl ?_
  refine Go.iload_n dL_law_614 rfl ?_
  refine Go.iconst (v := 2) dL_law_615 (by decide) ?_
  refine Go.iadd dL_law_616 ?_
  refine Go.eqI (y := nI (i + 2)) (nI_add _ _) ?_
  refine Go.script dL_law_617 (vin (by omega) (by omega)) ?_
  refine Go.eqI (y := gx G (i + 2)) (by rw [ncl (by omega)]) ?_
  refine Go.callVI [.int r1] dL_law_618 lkL_64 imX7_entryOf seX7_entryOf cbX7_entryOf (m_entryOf hG (hD.same hr1.2.2) hg (gx G (i + 1)) (gx G (i + 2))) (shp hG rfl) rfl rfl rfl (Nat.le_of_ble_eq_true rfl) (fun r3 M4 hr3 => ?_)
  refine Go.icmp_eq 1503 dL_law_621 rfl (fun _ => ?_) (fun h621 => absurd (hr1.1.trans hr3.1.symm) h621)
  exact hk _ _ (hr1.2.1.same hr3.2.2) hr3.2.1 (ok_entryOf hg (gx G (i + 1)) (gx G (i + 2)))
set_option maxRecDepth 20000 in
theorem w_turn {G : Gt} (hG : gS G = SHAPE) {M : Mm} {g : Sg} (hC : CompIs M g) (hD : ModIs M g) (hg : SgOk g) {i : Nat} (hi : i + 6 ≤ gn G) (hn : gn G ≤ 3072) {post : Option Value → Mm → Prop} (hk : ∀ M' g', CompIs M' g' → ModIs M' g' → SgOk g' → Go G 11 mL_law 1503 [some (.ref 1002), some (.ref 0), some (.ref 49), some (.int (nI i))] [] M' post) : Go G 11 mL_law 626 [some (.ref 1002), some (.ref 0), some (.ref 49), some (.int (nI i))] [] M post := by
  refine Go.aload_n dL_law_626 rfl ?_
  refine Go.aload_n dL_law_627 rfl ?_
  refine Go.iload_n dL_law_628 rfl ?_
  refine Go.iconst (v := 1) dL_law_629 (by decide) ?_
  refine Go.iadd dL_law_630 ?_
  refine Go.eqI (y := nI (i + 1)) (nI_add _ _) ?_
  refine Go.script dL_law_631 (vin (by omega) (by omega)) ?_
  refine Go.eqI (y := gx G (i + 1)) (by rw [ncl (by omega)]) ?_
  refine Go.aload_n dL_law_632 rfl ?_
  refine Go.iload_n dL_law_633 rfl ?_
  refine Go.iconst (v := 2) dL_law_634 (by decide) ?_
  refine Go.iadd dL_law_635 ?_
  refine Go.eqI (y := nI (i + 2)) (nI_add _ _) ?_
  refine Go.script dL_law_636 (vin (by omega) (by omega)) ?_
  refine Go.eqI (y := gx G (i + 2)) (by rw [ncl (by omega)]) ?_
  refine Go.callVI [] dL_law_637 lkL_65 imX6_turn seX6_turn cbX6_turn (c_turn hG hC hg (gx G (i + 1)) (gx G (i + 2))) (shp hG rfl) rfl rfl rfl (Nat.le_of_ble_eq_true rfl) (fun r1 M2 hr1 => ?_)
  refine Go.aload_n dL_law_640 rfl ?_
  refine Go.aload_n dL_law_641 rfl ?_
  refine Go.iload_n dL_law_642 rfl ?_
  refine Go.iconst (v := 1) dL_law_643 (by decide) ?_
  refine Go.iadd dL_law_644 ?_
  refine Go.eqI (y := nI (i + 1)) (nI_add _ _) ?_
  refine Go.script dL_law_645 (vin (by omega) (by omega)) ?_
  refine Go.eqI (y := gx G (i + 1)) (by rw [ncl (by omega)]) ?_
  refine Go.aload_n dL_law_646 rfl ?_
  refine Go.iload_n dL_law_647 rfl ?_
  refine Go.iconst (v := 2) dL_law_648 (by decide) ?_
  refine Go.iadd dL_law_649 ?_
  refine Go.eqI (y := nI (i + 2)) (nI_add _ _) ?_
  refine Go.script dL_law_650 (vin (by omega) (by omega)) ?_
  refine Go.eqI (y := gx G (i + 2)) (by rw [ncl (by omega)]) ?_
  refine Go.callVI [.int r1] dL_law_651 lkL_68 imX7_turn seX7_turn cbX7_turn (m_turn hG (hD.same hr1.2.2) hg (gx G (i + 1)) (gx G (i + 2))) (shp hG rfl) rfl rfl rfl (Nat.le_of_ble_eq_true rfl) (fun r3 M4 hr3 => ?_)
  refine Go.icmp_eq 1503 dL_law_654 rfl (fun _ => ?_) (fun h654 => absurd (hr1.1.trans hr3.1.symm) h654)
  exact hk _ _ (hr1.2.1.same hr3.2.2) hr3.2.1 (ok_turn hg (gx G (i + 1)) (gx G (i + 2)))
set_option maxRecDepth 20000 in
theorem w_as {G : Gt} (hG : gS G = SHAPE) {M : Mm} {g : Sg} (hC : CompIs M g) (hD : ModIs M g) (hg : SgOk g) {i : Nat} (hi : i + 6 ≤ gn G) (hn : gn G ≤ 3072) {post : Option Value → Mm → Prop} (hk : ∀ M' g', CompIs M' g' → ModIs M' g' → SgOk g' → Go G 11 mL_law 1503 [some (.ref 1002), some (.ref 0), some (.ref 49), some (.int (nI i))] [] M' post) : Go G 11 mL_law 659 [some (.ref 1002), some (.ref 0), some (.ref 49), some (.int (nI i))] [] M post := by
  refine Go.aload_n dL_law_659 rfl ?_
  refine Go.aload_n dL_law_660 rfl ?_
  refine Go.iload_n dL_law_661 rfl ?_
  refine Go.iconst (v := 1) dL_law_662 (by decide) ?_
  refine Go.iadd dL_law_663 ?_
  refine Go.eqI (y := nI (i + 1)) (nI_add _ _) ?_
  refine Go.script dL_law_664 (vin (by omega) (by omega)) ?_
  refine Go.eqI (y := gx G (i + 1)) (by rw [ncl (by omega)]) ?_
  refine Go.aload_n dL_law_665 rfl ?_
  refine Go.iload_n dL_law_666 rfl ?_
  refine Go.iconst (v := 2) dL_law_667 (by decide) ?_
  refine Go.iadd dL_law_668 ?_
  refine Go.eqI (y := nI (i + 2)) (nI_add _ _) ?_
  refine Go.script dL_law_669 (vin (by omega) (by omega)) ?_
  refine Go.eqI (y := gx G (i + 2)) (by rw [ncl (by omega)]) ?_
  refine Go.callVI [] dL_law_670 lkL_69 imX6_as seX6_as cbX6_as (c_as hG hC hg (gx G (i + 1)) (gx G (i + 2))) (shp hG rfl) rfl rfl rfl (Nat.le_of_ble_eq_true rfl) (fun r1 M2 hr1 => ?_)
  refine Go.aload_n dL_law_673 rfl ?_
  refine Go.aload_n dL_law_674 rfl ?_
  refine Go.iload_n dL_law_675 rfl ?_
  refine Go.iconst (v := 1) dL_law_676 (by decide) ?_
  refine Go.iadd dL_law_677 ?_
  refine Go.eqI (y := nI (i + 1)) (nI_add _ _) ?_
  refine Go.script dL_law_678 (vin (by omega) (by omega)) ?_
  refine Go.eqI (y := gx G (i + 1)) (by rw [ncl (by omega)]) ?_
  refine Go.aload_n dL_law_679 rfl ?_
  refine Go.iload_n dL_law_680 rfl ?_
  refine Go.iconst (v := 2) dL_law_681 (by decide) ?_
  refine Go.iadd dL_law_682 ?_
  refine Go.eqI (y := nI (i + 2)) (nI_add _ _) ?_
  refine Go.script dL_law_683 (vin (by omega) (by omega)) ?_
  refine Go.eqI (y := gx G (i + 2)) (by rw [ncl (by omega)]) ?_
  refine Go.callVI [.int r1] dL_law_684 lkL_72 imX7_as seX7_as cbX7_as (m_as hG (hD.same hr1.2.2) hg (gx G (i + 1)) (gx G (i + 2))) (shp hG rfl) rfl rfl rfl (Nat.le_of_ble_eq_true rfl) (fun r3 M4 hr3 => ?_)
  refine Go.icmp_eq 1503 dL_law_687 rfl (fun _ => ?_) (fun h687 => absurd (hr1.1.trans hr3.1.symm) h687)
  exact hk _ _ (hr1.2.1.same hr3.2.2) hr3.2.1 (ok_as hg (gx G (i + 1)) (gx G (i + 2)))
set_option maxRecDepth 20000 in
theorem w_strike {G : Gt} (hG : gS G = SHAPE) {M : Mm} {g : Sg} (hC : CompIs M g) (hD : ModIs M g) (hg : SgOk g) {i : Nat} (hi : i + 6 ≤ gn G) (hn : gn G ≤ 3072) {post : Option Value → Mm → Prop} (hk : ∀ M' g', CompIs M' g' → ModIs M' g' → SgOk g' → Go G 11 mL_law 1503 [some (.ref 1002), some (.ref 0), some (.ref 49), some (.int (nI i))] [] M' post) : Go G 11 mL_law 692 [some (.ref 1002), some (.ref 0), some (.ref 49), some (.int (nI i))] [] M post := by
  refine Go.aload_n dL_law_692 rfl ?_
  refine Go.callVI [] dL_law_693 lkL_73 imX6_strike seX6_strike cbX6_strike (c_strike hG hC hg) (shp hG rfl) rfl rfl rfl (Nat.le_of_ble_eq_true rfl) (fun r1 M2 hr1 => ?_)
  refine Go.aload_n dL_law_696 rfl ?_
  refine Go.callVI [.int r1] dL_law_697 lkL_77 imX7_strike seX7_strike cbX7_strike (m_strike hG (hD.same hr1.2.2) hg) (shp hG rfl) rfl rfl rfl (Nat.le_of_ble_eq_true rfl) (fun r3 M4 hr3 => ?_)
  refine Go.icmp_eq 1503 dL_law_700 rfl (fun _ => ?_) (fun h700 => absurd (hr1.1.trans hr3.1.symm) h700)
  exact hk _ _ (hr1.2.1.same hr3.2.2) hr3.2.1 (ok_strike hg)
set_option maxRecDepth 20000 in
theorem w_bars {G : Gt} (hG : gS G = SHAPE) {M : Mm} {g : Sg} (hC : CompIs M g) (hD : ModIs M g) (hg : SgOk g) {i : Nat} (hi : i + 6 ≤ gn G) (hn : gn G ≤ 3072) {post : Option Value → Mm → Prop} (hk : ∀ M' g', CompIs M' g' → ModIs M' g' → SgOk g' → Go G 11 mL_law 1503 [some (.ref 1002), some (.ref 0), some (.ref 49), some (.int (nI i))] [] M' post) : Go G 11 mL_law 705 [some (.ref 1002), some (.ref 0), some (.ref 49), some (.int (nI i))] [] M post := by
  refine Go.aload_n dL_law_705 rfl ?_
  refine Go.aload_n dL_law_706 rfl ?_
  refine Go.iload_n dL_law_707 rfl ?_
  refine Go.iconst (v := 1) dL_law_708 (by decide) ?_
  refine Go.iadd dL_law_709 ?_
  refine Go.eqI (y := nI (i + 1)) (nI_add _ _) ?_
  refine Go.script dL_law_710 (vin (by omega) (by omega)) ?_
  refine Go.eqI (y := gx G (i + 1)) (by rw [ncl (by omega)]) ?_
  refine Go.aload_n dL_law_711 rfl ?_
  refine Go.iload_n dL_law_712 rfl ?_
  refine Go.iconst (v := 2) dL_law_713 (by decide) ?_
  refine Go.iadd dL_law_714 ?_
  refine Go.eqI (y := nI (i + 2)) (nI_add _ _) ?_
  refine Go.script dL_law_715 (vin (by omega) (by omega)) ?_
  refine Go.eqI (y := gx G (i + 2)) (by rw [ncl (by omega)]) ?_
  refine Go.callVI [] dL_law_716 lkL_78 imX6_bars seX6_bars cbX6_bars (c_bars hG hC hg (gx G (i + 1)) (gx G (i + 2))) (shp hG rfl) rfl rfl rfl (Nat.le_of_ble_eq_true rfl) (fun r1 M2 hr1 => ?_)
  refine Go.aload_n dL_law_719 rfl ?_
  refine Go.aload_n dL_law_720 rfl ?_
  refine Go.iload_n dL_law_721 rfl ?_
  refine Go.iconst (v := 1) dL_law_722 (by decide) ?_
  refine Go.iadd dL_law_723 ?_
  refine Go.eqI (y := nI (i + 1)) (nI_add _ _) ?_
  refine Go.script dL_law_724 (vin (by omega) (by omega)) ?_
  refine Go.eqI (y := gx G (i + 1)) (by rw [ncl (by omega)]) ?_
  refine Go.aload_n dL_law_725 rfl ?_
  refine Go.iload_n dL_law_726 rfl ?_
  refine Go.iconst (v := 2) dL_law_727 (by decide) ?_
  refine Go.iadd dL_law_728 ?_
  refine Go.eqI (y := nI (i + 2)) (nI_add _ _) ?_
  refine Go.script dL_law_729 (vin (by omega) (by omega)) ?_
  refine Go.eqI (y := gx G (i + 2)) (by rw [ncl (by omega)]) ?_
  refine Go.callVI [.int r1] dL_law_730 lkL_81 imX7_bars seX7_bars cbX7_bars (m_bars hG (hD.same hr1.2.2) hg (gx G (i + 1)) (gx G (i + 2))) (shp hG rfl) rfl rfl rfl (Nat.le_of_ble_eq_true rfl) (fun r3 M4 hr3 => ?_)
  refine Go.icmp_eq 1503 dL_law_733 rfl (fun _ => ?_) (fun h733 => absurd (hr1.1.trans hr3.1.symm) h733)
  exact hk _ _ (hr1.2.1.same hr3.2.2) hr3.2.1 (ok_bars hg (gx G (i + 1)) (gx G (i + 2)))
set_option maxRecDepth 20000 in
theorem w_by {G : Gt} (hG : gS G = SHAPE) {M : Mm} {g : Sg} (hC : CompIs M g) (hD : ModIs M g) (hg : SgOk g) {i : Nat} (hi : i + 6 ≤ gn G) (hn : gn G ≤ 3072) {post : Option Value → Mm → Prop} (hk : ∀ M' g', CompIs M' g' → ModIs M' g' → SgOk g' → Go G 11 mL_law 1503 [some (.ref 1002), some (.ref 0), some (.ref 49), some (.int (nI i))] [] M' post) : Go G 11 mL_law 738 [some (.ref 1002), some (.ref 0), some (.ref 49), some (.int (nI i))] [] M post := by
  refine Go.aload_n dL_law_738 rfl ?_
  refine Go.aload_n dL_law_739 rfl ?_
  refine Go.iload_n dL_law_740 rfl ?_
  refine Go.iconst (v := 1) dL_law_741 (by decide) ?_
  refine Go.iadd dL_law_742 ?_
  refine Go.eqI (y := nI (i + 1)) (nI_add _ _) ?_
  refine Go.script dL_law_743 (vin (by omega) (by omega)) ?_
  refine Go.eqI (y := gx G (i + 1)) (by rw [ncl (by omega)]) ?_
  refine Go.callVI [] dL_law_744 lkL_82 imX6_by seX6_by cbX6_by (c_by hG hC hg (gx G (i + 1))) (shp hG rfl) rfl rfl rfl (Nat.le_of_ble_eq_true rfl) (fun r1 M2 hr1 => ?_)
  refine Go.aload_n dL_law_747 rfl ?_
  refine Go.aload_n dL_law_748 rfl ?_
  refine Go.iload_n dL_law_749 rfl ?_
  refine Go.iconst (v := 1) dL_law_750 (by decide) ?_
  refine Go.iadd dL_law_751 ?_
  refine Go.eqI (y := nI (i + 1)) (nI_add _ _) ?_
  refine Go.script dL_law_752 (vin (by omega) (by omega)) ?_
  refine Go.eqI (y := gx G (i + 1)) (by rw [ncl (by omega)]) ?_
  refine Go.callVI [.int r1] dL_law_753 lkL_85 imX7_by seX7_by cbX7_by (m_by hG (hD.same hr1.2.2) hg (gx G (i + 1))) (shp hG rfl) rfl rfl rfl (Nat.le_of_ble_eq_true rfl) (fun r3 M4 hr3 => ?_)
  refine Go.icmp_eq 1503 dL_law_756 rfl (fun _ => ?_) (fun h756 => absurd (hr1.1.trans hr3.1.symm) h756)
  exact hk _ _ (hr1.2.1.same hr3.2.2) hr3.2.1 (ok_by hg (gx G (i + 1)))
set_option maxRecDepth 20000 in
theorem w_breach {G : Gt} (hG : gS G = SHAPE) {M : Mm} {g : Sg} (hC : CompIs M g) (hD : ModIs M g) (hg : SgOk g) {i : Nat} (hi : i + 6 ≤ gn G) (hn : gn G ≤ 3072) {post : Option Value → Mm → Prop} (hk : ∀ M' g', CompIs M' g' → ModIs M' g' → SgOk g' → Go G 11 mL_law 1503 [some (.ref 1002), some (.ref 0), some (.ref 49), some (.int (nI i))] [] M' post) : Go G 11 mL_law 761 [some (.ref 1002), some (.ref 0), some (.ref 49), some (.int (nI i))] [] M post := by
  refine Go.aload_n dL_law_761 rfl ?_
  refine Go.callVI [] dL_law_762 lkL_86 imX6_breach seX6_breach cbX6_breach (c_breach hG hC hg) (shp hG rfl) rfl rfl rfl (Nat.le_of_ble_eq_true rfl) (fun r1 M2 hr1 => ?_)
  refine Go.aload_n dL_law_765 rfl ?_
  refine Go.callVI [.int r1] dL_law_766 lkL_89 imX7_breach seX7_breach cbX7_breach (m_breach hG (hD.same hr1.2.2) hg) (shp hG rfl) rfl rfl rfl (Nat.le_of_ble_eq_true rfl) (fun r3 M4 hr3 => ?_)
  refine Go.icmp_eq 1503 dL_law_769 rfl (fun _ => ?_) (fun h769 => absurd (hr1.1.trans hr3.1.symm) h769)
  exact hk _ _ (hr1.2.1.same hr3.2.2) hr3.2.1 (ok_breach hg)
set_option maxRecDepth 20000 in
theorem w_keenest {G : Gt} (hG : gS G = SHAPE) {M : Mm} {g : Sg} (hC : CompIs M g) (hD : ModIs M g) (hg : SgOk g) {i : Nat} (hi : i + 6 ≤ gn G) (hn : gn G ≤ 3072) {post : Option Value → Mm → Prop} (hk : ∀ M' g', CompIs M' g' → ModIs M' g' → SgOk g' → Go G 11 mL_law 1503 [some (.ref 1002), some (.ref 0), some (.ref 49), some (.int (nI i))] [] M' post) : Go G 11 mL_law 774 [some (.ref 1002), some (.ref 0), some (.ref 49), some (.int (nI i))] [] M post := by
  refine Go.aload_n dL_law_774 rfl ?_
  refine Go.callVI [] dL_law_775 lkL_90 imX6_keenest seX6_keenest cbX6_keenest (c_keenest hG hC hg) (shp hG rfl) rfl rfl rfl (Nat.le_of_ble_eq_true rfl) (fun r1 M2 hr1 => ?_)
  refine Go.aload_n dL_law_778 rfl ?_
  refine Go.callVI [.int r1] dL_law_779 lkL_93 imX7_keenest seX7_keenest cbX7_keenest (m_keenest hG (hD.same hr1.2.2) hg) (shp hG rfl) rfl rfl rfl (Nat.le_of_ble_eq_true rfl) (fun r3 M4 hr3 => ?_)
  refine Go.icmp_eq 1503 dL_law_782 rfl (fun _ => ?_) (fun h782 => absurd (hr1.1.trans hr3.1.symm) h782)
  exact hk _ _ (hr1.2.1.same hr3.2.2) hr3.2.1 (ok_keenest hg)
set_option maxRecDepth 20000 in
theorem w_wouldBe {G : Gt} (hG : gS G = SHAPE) {M : Mm} {g : Sg} (hC : CompIs M g) (hD : ModIs M g) (hg : SgOk g) {i : Nat} (hi : i + 6 ≤ gn G) (hn : gn G ≤ 3072) {post : Option Value → Mm → Prop} (hk : ∀ M' g', CompIs M' g' → ModIs M' g' → SgOk g' → Go G 11 mL_law 1503 [some (.ref 1002), some (.ref 0), some (.ref 49), some (.int (nI i))] [] M' post) : Go G 11 mL_law 787 [some (.ref 1002), some (.ref 0), some (.ref 49), some (.int (nI i))] [] M post := by
  refine Go.aload_n dL_law_787 rfl ?_
  refine Go.aload_n dL_law_788 rfl ?_
  refine Go.iload_n dL_law_789 rfl ?_
  refine Go.iconst (v := 1) dL_law_790 (by decide) ?_
  refine Go.iadd dL_law_791 ?_
  refine Go.eqI (y := nI (i + 1)) (nI_add _ _) ?_
  refine Go.script dL_law_792 (vin (by omega) (by omega)) ?_
  refine Go.eqI (y := gx G (i + 1)) (by rw [ncl (by omega)]) ?_
  refine Go.callVI [] dL_law_793 lkL_94 imX6_wouldBe seX6_wouldBe cbX6_wouldBe (c_wouldBe hG hC hg (gx G (i + 1))) (shp hG rfl) rfl rfl rfl (Nat.le_of_ble_eq_true rfl) (fun r1 M2 hr1 => ?_)
  refine Go.aload_n dL_law_796 rfl ?_
  refine Go.aload_n dL_law_797 rfl ?_
  refine Go.iload_n dL_law_798 rfl ?_
  refine Go.iconst (v := 1) dL_law_799 (by decide) ?_
  refine Go.iadd dL_law_800 ?_
  refine Go.eqI (y := nI (i + 1)) (nI_add _ _) ?_
  refine Go.script dL_law_801 (vin (by omega) (by omega)) ?_
  refine Go.eqI (y := gx G (i + 1)) (by rw [ncl (by omega)]) ?_
  refine Go.callVI [.int r1] dL_law_802 lkL_97 imX7_wouldBe seX7_wouldBe cbX7_wouldBe (m_wouldBe hG (hD.same hr1.2.2) hg (gx G (i + 1))) (shp hG rfl) rfl rfl rfl (Nat.le_of_ble_eq_true rfl) (fun r3 M4 hr3 => ?_)
  refine Go.icmp_eq 1503 dL_law_805 rfl (fun _ => ?_) (fun h805 => absurd (hr1.1.trans hr3.1.symm) h805)
  exact hk _ _ (hr1.2.1.same hr3.2.2) hr3.2.1 (ok_wouldBe hg (gx G (i + 1)))
set_option maxRecDepth 20000 in
theorem w_best {G : Gt} (hG : gS G = SHAPE) {M : Mm} {g : Sg} (hC : CompIs M g) (hD : ModIs M g) (hg : SgOk g) {i : Nat} (hi : i + 6 ≤ gn G) (hn : gn G ≤ 3072) {post : Option Value → Mm → Prop} (hk : ∀ M' g', CompIs M' g' → ModIs M' g' → SgOk g' → Go G 11 mL_law 1503 [some (.ref 1002), some (.ref 0), some (.ref 49), some (.int (nI i))] [] M' post) : Go G 11 mL_law 810 [some (.ref 1002), some (.ref 0), some (.ref 49), some (.int (nI i))] [] M post := by
  refine Go.aload_n dL_law_810 rfl ?_
  refine Go.callVI [] dL_law_811 lkL_98 imX6_best seX6_best cbX6_best (c_best hG hC hg) (shp hG rfl) rfl rfl rfl (Nat.le_of_ble_eq_true rfl) (fun r1 M2 hr1 => ?_)
  refine Go.aload_n dL_law_814 rfl ?_
  refine Go.callVI [.int r1] dL_law_815 lkL_101 imX7_best seX7_best cbX7_best (m_best hG (hD.same hr1.2.2) hg) (shp hG rfl) rfl rfl rfl (Nat.le_of_ble_eq_true rfl) (fun r3 M4 hr3 => ?_)
  refine Go.icmp_eq 1503 dL_law_818 rfl (fun _ => ?_) (fun h818 => absurd (hr1.1.trans hr3.1.symm) h818)
  exact hk _ _ (hr1.2.1.same hr3.2.2) hr3.2.1 (ok_best hg)
set_option maxRecDepth 20000 in
theorem w_serve {G : Gt} (hG : gS G = SHAPE) {M : Mm} {g : Sg} (hC : CompIs M g) (hD : ModIs M g) (hg : SgOk g) {i : Nat} (hi : i + 6 ≤ gn G) (hn : gn G ≤ 3072) {post : Option Value → Mm → Prop} (hk : ∀ M' g', CompIs M' g' → ModIs M' g' → SgOk g' → Go G 11 mL_law 1503 [some (.ref 1002), some (.ref 0), some (.ref 49), some (.int (nI i))] [] M' post) : Go G 11 mL_law 823 [some (.ref 1002), some (.ref 0), some (.ref 49), some (.int (nI i))] [] M post := by
  refine Go.aload_n dL_law_823 rfl ?_
  refine Go.aload_n dL_law_824 rfl ?_
  refine Go.iload_n dL_law_825 rfl ?_
  refine Go.iconst (v := 1) dL_law_826 (by decide) ?_
  refine Go.iadd dL_law_827 ?_
  refine Go.eqI (y := nI (i + 1)) (nI_add _ _) ?_
  refine Go.script dL_law_828 (vin (by omega) (by omega)) ?_
  refine Go.eqI (y := gx G (i + 1)) (by rw [ncl (by omega)]) ?_
  refine Go.aload_n dL_law_829 rfl ?_
  refine Go.iload_n dL_law_830 rfl ?_
  refine Go.iconst (v := 2) dL_law_831 (by decide) ?_
  refine Go.iadd dL_law_832 ?_
  refine Go.eqI (y := nI (i + 2)) (nI_add _ _) ?_
  refine Go.script dL_law_833 (vin (by omega) (by omega)) ?_
  refine Go.eqI (y := gx G (i + 2)) (by rw [ncl (by omega)]) ?_
  refine Go.callVI [] dL_law_834 lkL_102 imX6_serve seX6_serve cbX6_serve (c_serve hG hC hg (gx G (i + 1)) (gx G (i + 2))) (shp hG rfl) rfl rfl rfl (Nat.le_of_ble_eq_true rfl) (fun r1 M2 hr1 => ?_)
  refine Go.aload_n dL_law_837 rfl ?_
  refine Go.aload_n dL_law_838 rfl ?_
  refine Go.iload_n dL_law_839 rfl ?_
  refine Go.iconst (v := 1) dL_law_840 (by decide) ?_
  refine Go.iadd dL_law_841 ?_
  refine Go.eqI (y := nI (i + 1)) (nI_add _ _) ?_
  refine Go.script dL_law_842 (vin (by omega) (by omega)) ?_
  refine Go.eqI (y := gx G (i + 1)) (by rw [ncl (by omega)]) ?_
  refine Go.aload_n dL_law_843 rfl ?_
  refine Go.iload_n dL_law_844 rfl ?_
  refine Go.iconst (v := 2) dL_law_845 (by decide) ?_
  refine Go.iadd dL_law_846 ?_
  refine Go.eqI (y := nI (i + 2)) (nI_add _ _) ?_
  refine Go.script dL_law_847 (vin (by omega) (by omega)) ?_
  refine Go.eqI (y := gx G (i + 2)) (by rw [ncl (by omega)]) ?_
  refine Go.callVI [.int r1] dL_law_848 lkL_105 imX7_serve seX7_serve cbX7_serve (m_serve hG (hD.same hr1.2.2) hg (gx G (i + 1)) (gx G (i + 2))) (shp hG rfl) rfl rfl rfl (Nat.le_of_ble_eq_true rfl) (fun r3 M4 hr3 => ?_)
  refine Go.icmp_eq 1503 dL_law_851 rfl (fun _ => ?_) (fun h851 => absurd (hr1.1.trans hr3.1.symm) h851)
  exact hk _ _ (hr1.2.1.same hr3.2.2) hr3.2.1 (ok_serve hg (gx G (i + 1)) (gx G (i + 2)))
set_option maxRecDepth 20000 in
theorem w_meals {G : Gt} (hG : gS G = SHAPE) {M : Mm} {g : Sg} (hC : CompIs M g) (hD : ModIs M g) (hg : SgOk g) {i : Nat} (hi : i + 6 ≤ gn G) (hn : gn G ≤ 3072) {post : Option Value → Mm → Prop} (hk : ∀ M' g', CompIs M' g' → ModIs M' g' → SgOk g' → Go G 11 mL_law 1503 [some (.ref 1002), some (.ref 0), some (.ref 49), some (.int (nI i))] [] M' post) : Go G 11 mL_law 856 [some (.ref 1002), some (.ref 0), some (.ref 49), some (.int (nI i))] [] M post := by
  refine Go.aload_n dL_law_856 rfl ?_
  refine Go.aload_n dL_law_857 rfl ?_
  refine Go.iload_n dL_law_858 rfl ?_
  refine Go.iconst (v := 1) dL_law_859 (by decide) ?_
  refine Go.iadd dL_law_860 ?_
  refine Go.eqI (y := nI (i + 1)) (nI_add _ _) ?_
  refine Go.script dL_law_861 (vin (by omega) (by omega)) ?_
  refine Go.eqI (y := gx G (i + 1)) (by rw [ncl (by omega)]) ?_
  refine Go.aload_n dL_law_862 rfl ?_
  refine Go.iload_n dL_law_863 rfl ?_
  refine Go.iconst (v := 2) dL_law_864 (by decide) ?_
  refine Go.iadd dL_law_865 ?_
  refine Go.eqI (y := nI (i + 2)) (nI_add _ _) ?_
  refine Go.script dL_law_866 (vin (by omega) (by omega)) ?_
  refine Go.eqI (y := gx G (i + 2)) (by rw [ncl (by omega)]) ?_
  refine Go.callVI [] dL_law_867 lkL_106 imX6_meals seX6_meals cbX6_meals (c_meals hG hC hg (gx G (i + 1)) (gx G (i + 2))) (shp hG rfl) rfl rfl rfl (Nat.le_of_ble_eq_true rfl) (fun r1 M2 hr1 => ?_)
  refine Go.aload_n dL_law_870 rfl ?_
  refine Go.aload_n dL_law_871 rfl ?_
  refine Go.iload_n dL_law_872 rfl ?_
  refine Go.iconst (v := 1) dL_law_873 (by decide) ?_
  refine Go.iadd dL_law_874 ?_
  refine Go.eqI (y := nI (i + 1)) (nI_add _ _) ?_
  refine Go.script dL_law_875 (vin (by omega) (by omega)) ?_
  refine Go.eqI (y := gx G (i + 1)) (by rw [ncl (by omega)]) ?_
  refine Go.aload_n dL_law_876 rfl ?_
  refine Go.iload_n dL_law_877 rfl ?_
  refine Go.iconst (v := 2) dL_law_878 (by decide) ?_
  refine Go.iadd dL_law_879 ?_
  refine Go.eqI (y := nI (i + 2)) (nI_add _ _) ?_
  refine Go.script dL_law_880 (vin (by omega) (by omega)) ?_
  refine Go.eqI (y := gx G (i + 2)) (by rw [ncl (by omega)]) ?_
  refine Go.callVI [.int r1] dL_law_881 lkL_109 imX7_meals seX7_meals cbX7_meals (m_meals hG (hD.same hr1.2.2) hg (gx G (i + 1)) (gx G (i + 2))) (shp hG rfl) rfl rfl rfl (Nat.le_of_ble_eq_true rfl) (fun r3 M4 hr3 => ?_)
  refine Go.icmp_eq 1503 dL_law_884 rfl (fun _ => ?_) (fun h884 => absurd (hr1.1.trans hr3.1.symm) h884)
  exact hk _ _ (hr1.2.1.same hr3.2.2) hr3.2.1 (ok_meals hg (gx G (i + 1)) (gx G (i + 2)))
set_option maxRecDepth 20000 in
theorem w_on {G : Gt} (hG : gS G = SHAPE) {M : Mm} {g : Sg} (hC : CompIs M g) (hD : ModIs M g) (hg : SgOk g) {i : Nat} (hi : i + 6 ≤ gn G) (hn : gn G ≤ 3072) {post : Option Value → Mm → Prop} (hk : ∀ M' g', CompIs M' g' → ModIs M' g' → SgOk g' → Go G 11 mL_law 1503 [some (.ref 1002), some (.ref 0), some (.ref 49), some (.int (nI i))] [] M' post) : Go G 11 mL_law 889 [some (.ref 1002), some (.ref 0), some (.ref 49), some (.int (nI i))] [] M post := by
  refine Go.aload_n dL_law_889 rfl ?_
  refine Go.aload_n dL_law_890 rfl ?_
  refine Go.iload_n dL_law_891 rfl ?_
  refine Go.iconst (v := 1) dL_law_892 (by decide) ?_
  refine Go.iadd dL_law_893 ?_
  refine Go.eqI (y := nI (i + 1)) (nI_add _ _) ?_
  refine Go.script dL_law_894 (vin (by omega) (by omega)) ?_
  refine Go.eqI (y := gx G (i + 1)) (by rw [ncl (by omega)]) ?_
  refine Go.aload_n dL_law_895 rfl ?_
  refine Go.iload_n dL_law_896 rfl ?_
  refine Go.iconst (v := 2) dL_law_897 (by decide) ?_
  refine Go.iadd dL_law_898 ?_
  refine Go.eqI (y := nI (i + 2)) (nI_add _ _) ?_
  refine Go.script dL_law_899 (vin (by omega) (by omega)) ?_
  refine Go.eqI (y := gx G (i + 2)) (by rw [ncl (by omega)]) ?_
  refine Go.callVI [] dL_law_900 lkL_110 imX6_on seX6_on cbX6_on (c_on hG hC hg (gx G (i + 1)) (gx G (i + 2))) (shp hG rfl) rfl rfl rfl (Nat.le_of_ble_eq_true rfl) (fun r1 M2 hr1 => ?_)
  refine Go.aload_n dL_law_903 rfl ?_
  refine Go.aload_n dL_law_904 rfl ?_
  refine Go.iload_n dL_law_905 rfl ?_
  refine Go.iconst (v := 1) dL_law_906 (by decide) ?_
  refine Go.iadd dL_law_907 ?_
  refine Go.eqI (y := nI (i + 1)) (nI_add _ _) ?_
  refine Go.script dL_law_908 (vin (by omega) (by omega)) ?_
  refine Go.eqI (y := gx G (i + 1)) (by rw [ncl (by omega)]) ?_
  refine Go.aload_n dL_law_909 rfl ?_
  refine Go.iload_n dL_law_910 rfl ?_
  refine Go.iconst (v := 2) dL_law_911 (by decide) ?_
  refine Go.iadd dL_law_912 ?_
  refine Go.eqI (y := nI (i + 2)) (nI_add _ _) ?_
  refine Go.script dL_law_913 (vin (by omega) (by omega)) ?_
  refine Go.eqI (y := gx G (i + 2)) (by rw [ncl (by omega)]) ?_
  refine Go.callVI [.int r1] dL_law_914 lkL_113 imX7_on seX7_on cbX7_on (m_on hG (hD.same hr1.2.2) hg (gx G (i + 1)) (gx G (i + 2))) (shp hG rfl) rfl rfl rfl (Nat.le_of_ble_eq_true rfl) (fun r3 M4 hr3 => ?_)
  refine Go.icmp_eq 1503 dL_law_917 rfl (fun _ => ?_) (fun h917 => absurd (hr1.1.trans hr3.1.symm) h917)
  exact hk _ _ (hr1.2.1.same hr3.2.2) hr3.2.1 (ok_on hg (gx G (i + 1)) (gx G (i + 2)))
set_option maxRecDepth 20000 in
theorem w_lasts {G : Gt} (hG : gS G = SHAPE) {M : Mm} {g : Sg} (hC : CompIs M g) (hD : ModIs M g) (hg : SgOk g) {i : Nat} (hi : i + 6 ≤ gn G) (hn : gn G ≤ 3072) {post : Option Value → Mm → Prop} (hk : ∀ M' g', CompIs M' g' → ModIs M' g' → SgOk g' → Go G 11 mL_law 1503 [some (.ref 1002), some (.ref 0), some (.ref 49), some (.int (nI i))] [] M' post) : Go G 11 mL_law 922 [some (.ref 1002), some (.ref 0), some (.ref 49), some (.int (nI i))] [] M post := by
  refine Go.aload_n dL_law_922 rfl ?_
  refine Go.aload_n dL_law_923 rfl ?_
  refine Go.iload_n dL_law_924 rfl ?_
  refine Go.iconst (v := 1) dL_law_925 (by decide) ?_
  refine Go.iadd dL_law_926 ?_
  refine Go.eqI (y := nI (i + 1)) (nI_add _ _) ?_
  refine Go.script dL_law_927 (vin (by omega) (by omega)) ?_
  refine Go.eqI (y := gx G (i + 1)) (by rw [ncl (by omega)]) ?_
  refine Go.callVI [] dL_law_928 lkL_114 imX6_lasts seX6_lasts cbX6_lasts (c_lasts hG hC hg (gx G (i + 1))) (shp hG rfl) rfl rfl rfl (Nat.le_of_ble_eq_true rfl) (fun r1 M2 hr1 => ?_)
  refine Go.aload_n dL_law_931 rfl ?_
  refine Go.aload_n dL_law_932 rfl ?_
  refine Go.iload_n dL_law_933 rfl ?_
  refine Go.iconst (v := 1) dL_law_934 (by decide) ?_
  refine Go.iadd dL_law_935 ?_
  refine Go.eqI (y := nI (i + 1)) (nI_add _ _) ?_
  refine Go.script dL_law_936 (vin (by omega) (by omega)) ?_
  refine Go.eqI (y := gx G (i + 1)) (by rw [ncl (by omega)]) ?_
  refine Go.callVI [.int r1] dL_law_937 lkL_117 imX7_lasts seX7_lasts cbX7_lasts (m_lasts hG (hD.same hr1.2.2) hg (gx G (i + 1))) (shp hG rfl) rfl rfl rfl (Nat.le_of_ble_eq_true rfl) (fun r3 M4 hr3 => ?_)
  refine Go.icmp_eq 1503 dL_law_940 rfl (fun _ => ?_) (fun h940 => absurd (hr1.1.trans hr3.1.symm) h940)
  exact hk _ _ (hr1.2.1.same hr3.2.2) hr3.2.1 (ok_lasts hg (gx G (i + 1)))
set_option maxRecDepth 20000 in
theorem w_buy {G : Gt} (hG : gS G = SHAPE) {M : Mm} {g : Sg} (hC : CompIs M g) (hD : ModIs M g) (hg : SgOk g) {i : Nat} (hi : i + 6 ≤ gn G) (hn : gn G ≤ 3072) {post : Option Value → Mm → Prop} (hk : ∀ M' g', CompIs M' g' → ModIs M' g' → SgOk g' → Go G 11 mL_law 1503 [some (.ref 1002), some (.ref 0), some (.ref 49), some (.int (nI i))] [] M' post) : Go G 11 mL_law 945 [some (.ref 1002), some (.ref 0), some (.ref 49), some (.int (nI i))] [] M post := by
  refine Go.aload_n dL_law_945 rfl ?_
  refine Go.aload_n dL_law_946 rfl ?_
  refine Go.iload_n dL_law_947 rfl ?_
  refine Go.iconst (v := 1) dL_law_948 (by decide) ?_
  refine Go.iadd dL_law_949 ?_
  refine Go.eqI (y := nI (i + 1)) (nI_add _ _) ?_
  refine Go.script dL_law_950 (vin (by omega) (by omega)) ?_
  refine Go.eqI (y := gx G (i + 1)) (by rw [ncl (by omega)]) ?_
  refine Go.callVI [] dL_law_951 lkL_118 imX6_buy seX6_buy cbX6_buy (c_buy hG hC hg (gx G (i + 1))) (shp hG rfl) rfl rfl rfl (Nat.le_of_ble_eq_true rfl) (fun r1 M2 hr1 => ?_)
  refine Go.aload_n dL_law_954 rfl ?_
  refine Go.aload_n dL_law_955 rfl ?_
  refine Go.iload_n dL_law_956 rfl ?_
  refine Go.iconst (v := 1) dL_law_957 (by decide) ?_
  refine Go.iadd dL_law_958 ?_
  refine Go.eqI (y := nI (i + 1)) (nI_add _ _) ?_
  refine Go.script dL_law_959 (vin (by omega) (by omega)) ?_
  refine Go.eqI (y := gx G (i + 1)) (by rw [ncl (by omega)]) ?_
  refine Go.callVI [.int r1] dL_law_960 lkL_121 imX7_buy seX7_buy cbX7_buy (m_buy hG (hD.same hr1.2.2) hg (gx G (i + 1))) (shp hG rfl) rfl rfl rfl (Nat.le_of_ble_eq_true rfl) (fun r3 M4 hr3 => ?_)
  refine Go.icmp_eq 1503 dL_law_963 rfl (fun _ => ?_) (fun h963 => absurd (hr1.1.trans hr3.1.symm) h963)
  exact hk _ _ (hr1.2.1.same hr3.2.2) hr3.2.1 (ok_buy hg (gx G (i + 1)))
set_option maxRecDepth 20000 in
theorem w_steps {G : Gt} (hG : gS G = SHAPE) {M : Mm} {g : Sg} (hC : CompIs M g) (hD : ModIs M g) (hg : SgOk g) {i : Nat} (hi : i + 6 ≤ gn G) (hn : gn G ≤ 3072) {post : Option Value → Mm → Prop} (hk : ∀ M' g', CompIs M' g' → ModIs M' g' → SgOk g' → Go G 11 mL_law 1503 [some (.ref 1002), some (.ref 0), some (.ref 49), some (.int (nI i))] [] M' post) : Go G 11 mL_law 968 [some (.ref 1002), some (.ref 0), some (.ref 49), some (.int (nI i))] [] M post := by
  refine Go.aload_n dL_law_968 rfl ?_
  refine Go.aload_n dL_law_969 rfl ?_
  refine Go.iload_n dL_law_970 rfl ?_
  refine Go.iconst (v := 1) dL_law_971 (by decide) ?_
  refine Go.iadd dL_law_972 ?_
  refine Go.eqI (y := nI (i + 1)) (nI_add _ _) ?_
  refine Go.script dL_law_973 (vin (by omega) (by omega)) ?_
  refine Go.eqI (y := gx G (i + 1)) (by rw [ncl (by omega)]) ?_
  refine Go.aload_n dL_law_974 rfl ?_
  refine Go.iload_n dL_law_975 rfl ?_
  refine Go.iconst (v := 2) dL_law_976 (by decide) ?_
  refine Go.iadd dL_law_977 ?_
  refine Go.eqI (y := nI (i + 2)) (nI_add _ _) ?_
  refine Go.script dL_law_978 (vin (by omega) (by omega)) ?_
  refine Go.eqI (y := gx G (i + 2)) (by rw [ncl (by omega)]) ?_
  refine Go.callVI [] dL_law_979 lkL_122 imX6_steps seX6_steps cbX6_steps (c_steps hG hC hg (gx G (i + 1)) (gx G (i + 2))) (shp hG rfl) rfl rfl rfl (Nat.le_of_ble_eq_true rfl) (fun r1 M2 hr1 => ?_)
  refine Go.aload_n dL_law_982 rfl ?_
  refine Go.aload_n dL_law_983 rfl ?_
  refine Go.iload_n dL_law_984 rfl ?_
  refine Go.iconst (v := 1) dL_law_985 (by decide) ?_
  refine Go.iadd dL_law_986 ?_
  refine Go.eqI (y := nI (i + 1)) (nI_add _ _) ?_
  refine Go.script dL_law_987 (vin (by omega) (by omega)) ?_
  refine Go.eqI (y := gx G (i + 1)) (by rw [ncl (by omega)]) ?_
  refine Go.aload_n dL_law_988 rfl ?_
  refine Go.iload_n dL_law_989 rfl ?_
  refine Go.iconst (v := 2) dL_law_990 (by decide) ?_
  refine Go.iadd dL_law_991 ?_
  refine Go.eqI (y := nI (i + 2)) (nI_add _ _) ?_
  refine Go.script dL_law_992 (vin (by omega) (by omega)) ?_
  refine Go.eqI (y := gx G (i + 2)) (by rw [ncl (by omega)]) ?_
  refine Go.callVI [.int r1] dL_law_993 lkL_125 imX7_steps seX7_steps cbX7_steps (m_steps hG (hD.same hr1.2.2) hg (gx G (i + 1)) (gx G (i + 2))) (shp hG rfl) rfl rfl rfl (Nat.le_of_ble_eq_true rfl) (fun r3 M4 hr3 => ?_)
  refine Go.icmp_eq 1503 dL_law_996 rfl (fun _ => ?_) (fun h996 => absurd (hr1.1.trans hr3.1.symm) h996)
  exact hk _ _ (hr1.2.1.same hr3.2.2) hr3.2.1 (ok_steps hg (gx G (i + 1)) (gx G (i + 2)))
set_option maxRecDepth 20000 in
theorem w_within {G : Gt} (hG : gS G = SHAPE) {M : Mm} {g : Sg} (hC : CompIs M g) (hD : ModIs M g) (hg : SgOk g) {i : Nat} (hi : i + 6 ≤ gn G) (hn : gn G ≤ 3072) {post : Option Value → Mm → Prop} (hk : ∀ M' g', CompIs M' g' → ModIs M' g' → SgOk g' → Go G 11 mL_law 1503 [some (.ref 1002), some (.ref 0), some (.ref 49), some (.int (nI i))] [] M' post) : Go G 11 mL_law 1001 [some (.ref 1002), some (.ref 0), some (.ref 49), some (.int (nI i))] [] M post := by
  refine Go.aload_n dL_law_1001 rfl ?_
  refine Go.aload_n dL_law_1002 rfl ?_
  refine Go.iload_n dL_law_1003 rfl ?_
  refine Go.iconst (v := 1) dL_law_1004 (by decide) ?_
  refine Go.iadd dL_law_1005 ?_
  refine Go.eqI (y := nI (i + 1)) (nI_add _ _) ?_
  refine Go.script dL_law_1006 (vin (by omega) (by omega)) ?_
  refine Go.eqI (y := gx G (i + 1)) (by rw [ncl (by omega)]) ?_
  refine Go.aload_n dL_law_1007 rfl ?_
  refine Go.iload_n dL_law_1008 rfl ?_
  refine Go.iconst (v := 2) dL_law_1009 (by decide) ?_
  refine Go.iadd dL_law_1010 ?_
  refine Go.eqI (y := nI (i + 2)) (nI_add _ _) ?_
  refine Go.script dL_law_1011 (vin (by omega) (by omega)) ?_
  refine Go.eqI (y := gx G (i + 2)) (by rw [ncl (by omega)]) ?_
  refine Go.callVI [] dL_law_1012 lkL_126 imX6_within seX6_within cbX6_within (c_within hG hC hg (gx G (i + 1)) (gx G (i + 2))) (shp hG rfl) rfl rfl rfl (Nat.le_of_ble_eq_true rfl) (fun r1 M2 hr1 => ?_)
  refine Go.aload_n dL_law_1015 rfl ?_
  refine Go.aload_n dL_law_1016 rfl ?_
  refine Go.iload_n dL_law_1017 rfl ?_
  refine Go.iconst (v := 1) dL_law_1018 (by decide) ?_
  refine Go.iadd dL_law_1019 ?_
  refine Go.eqI (y := nI (i + 1)) (nI_add _ _) ?_
  refine Go.script dL_law_1020 (vin (by omega) (by omega)) ?_
  refine Go.eqI (y := gx G (i + 1)) (by rw [ncl (by omega)]) ?_
  refine Go.aload_n dL_law_1021 rfl ?_
  refine Go.iload_n dL_law_1022 rfl ?_
  refine Go.iconst (v := 2) dL_law_1023 (by decide) ?_
  refine Go.iadd dL_law_1024 ?_
  refine Go.eqI (y := nI (i + 2)) (nI_add _ _) ?_
  refine Go.script dL_law_1025 (vin (by omega) (by omega)) ?_
  refine Go.eqI (y := gx G (i + 2)) (by rw [ncl (by omega)]) ?_
  refine Go.callVI [.int r1] dL_law_1026 lkL_129 imX7_within seX7_within cbX7_within (m_within hG (hD.same hr1.2.2) hg (gx G (i + 1)) (gx G (i + 2))) (shp hG rfl) rfl rfl rfl (Nat.le_of_ble_eq_true rfl) (fun r3 M4 hr3 => ?_)
  refine Go.icmp_eq 1503 dL_law_1029 rfl (fun _ => ?_) (fun h1029 => absurd (hr1.1.trans hr3.1.symm) h1029)
  exact hk _ _ (hr1.2.1.same hr3.2.2) hr3.2.1 (ok_within hg (gx G (i + 1)) (gx G (i + 2)))
set_option maxRecDepth 20000 in
theorem w_walk {G : Gt} (hG : gS G = SHAPE) {M : Mm} {g : Sg} (hC : CompIs M g) (hD : ModIs M g) (hg : SgOk g) {i : Nat} (hi : i + 6 ≤ gn G) (hn : gn G ≤ 3072) {post : Option Value → Mm → Prop} (hk : ∀ M' g', CompIs M' g' → ModIs M' g' → SgOk g' → Go G 11 mL_law 1503 [some (.ref 1002), some (.ref 0), some (.ref 49), some (.int (nI i))] [] M' post) : Go G 11 mL_law 1034 [some (.ref 1002), some (.ref 0), some (.ref 49), some (.int (nI i))] [] M post := by
  refine Go.aload_n dL_law_1034 rfl ?_
  refine Go.aload_n dL_law_1035 rfl ?_
  refine Go.iload_n dL_law_1036 rfl ?_
  refine Go.iconst (v := 1) dL_law_1037 (by decide) ?_
  refine Go.iadd dL_law_1038 ?_
  refine Go.eqI (y := nI (i + 1)) (nI_add _ _) ?_
  refine Go.script dL_law_1039 (vin (by omega) (by omega)) ?_
  refine Go.eqI (y := gx G (i + 1)) (by rw [ncl (by omega)]) ?_
  refine Go.aload_n dL_law_1040 rfl ?_
  refine Go.iload_n dL_law_1041 rfl ?_
  refine Go.iconst (v := 2) dL_law_1042 (by decide) ?_
  refine Go.iadd dL_law_1043 ?_
  refine Go.eqI (y := nI (i + 2)) (nI_add _ _) ?_
  refine Go.script dL_law_1044 (vin (by omega) (by omega)) ?_
  refine Go.eqI (y := gx G (i + 2)) (by rw [ncl (by omega)]) ?_
  refine Go.callVI [] dL_law_1045 lkL_130 imX6_walk seX6_walk cbX6_walk (c_walk hG hC hg (gx G (i + 1)) (gx G (i + 2))) (shp hG rfl) rfl rfl rfl (Nat.le_of_ble_eq_true rfl) (fun r1 M2 hr1 => ?_)
  refine Go.aload_n dL_law_1048 rfl ?_
  refine Go.aload_n dL_law_1049 rfl ?_
  refine Go.iload_n dL_law_1050 rfl ?_
  refine Go.iconst (v := 1) dL_law_1051 (by decide) ?_
  refine Go.iadd dL_law_1052 ?_
  refine Go.eqI (y := nI (i + 1)) (nI_add _ _) ?_
  refine Go.script dL_law_1053 (vin (by omega) (by omega)) ?_
  refine Go.eqI (y := gx G (i + 1)) (by rw [ncl (by omega)]) ?_
  refine Go.aload_n dL_law_1054 rfl ?_
  refine Go.iload_n dL_law_1055 rfl ?_
  refine Go.iconst (v := 2) dL_law_1056 (by decide) ?_
  refine Go.iadd dL_law_1057 ?_
  refine Go.eqI (y := nI (i + 2)) (nI_add _ _) ?_
  refine Go.script dL_law_1058 (vin (by omega) (by omega)) ?_
  refine Go.eqI (y := gx G (i + 2)) (by rw [ncl (by omega)]) ?_
  refine Go.callVI [.int r1] dL_law_1059 lkL_133 imX7_walk seX7_walk cbX7_walk (m_walk hG (hD.same hr1.2.2) hg (gx G (i + 1)) (gx G (i + 2))) (shp hG rfl) rfl rfl rfl (Nat.le_of_ble_eq_true rfl) (fun r3 M4 hr3 => ?_)
  refine Go.icmp_eq 1503 dL_law_1062 rfl (fun _ => ?_) (fun h1062 => absurd (hr1.1.trans hr3.1.symm) h1062)
  exact hk _ _ (hr1.2.1.same hr3.2.2) hr3.2.1 (ok_walk hg (gx G (i + 1)) (gx G (i + 2)))
set_option maxRecDepth 20000 in
theorem w_now {G : Gt} (hG : gS G = SHAPE) {M : Mm} {g : Sg} (hC : CompIs M g) (hD : ModIs M g) (hg : SgOk g) {i : Nat} (hi : i + 6 ≤ gn G) (hn : gn G ≤ 3072) {post : Option Value → Mm → Prop} (hk : ∀ M' g', CompIs M' g' → ModIs M' g' → SgOk g' → Go G 11 mL_law 1503 [some (.ref 1002), some (.ref 0), some (.ref 49), some (.int (nI i))] [] M' post) : Go G 11 mL_law 1067 [some (.ref 1002), some (.ref 0), some (.ref 49), some (.int (nI i))] [] M post := by
  refine Go.aload_n dL_law_1067 rfl ?_
  refine Go.aload_n dL_law_1068 rfl ?_
  refine Go.iload_n dL_law_1069 rfl ?_
  refine Go.iconst (v := 1) dL_law_1070 (by decide) ?_
  refine Go.iadd dL_law_1071 ?_
  refine Go.eqI (y := nI (i + 1)) (nI_add _ _) ?_
  refine Go.script dL_law_1072 (vin (by omega) (by omega)) ?_
  refine Go.eqI (y := gx G (i + 1)) (by rw [ncl (by omega)]) ?_
  refine Go.callVI [] dL_law_1073 lkL_134 imX6_now seX6_now cbX6_now (c_now hG hC hg (gx G (i + 1))) (shp hG rfl) rfl rfl rfl (Nat.le_of_ble_eq_true rfl) (fun r1 M2 hr1 => ?_)
  refine Go.aload_n dL_law_1076 rfl ?_
  refine Go.aload_n dL_law_1077 rfl ?_
  refine Go.iload_n dL_law_1078 rfl ?_
  refine Go.iconst (v := 1) dL_law_1079 (by decide) ?_
  refine Go.iadd dL_law_1080 ?_
  refine Go.eqI (y := nI (i + 1)) (nI_add _ _) ?_
  refine Go.script dL_law_1081 (vin (by omega) (by omega)) ?_
  refine Go.eqI (y := gx G (i + 1)) (by rw [ncl (by omega)]) ?_
  refine Go.callVI [.int r1] dL_law_1082 lkL_137 imX7_now seX7_now cbX7_now (m_now hG (hD.same hr1.2.2) hg (gx G (i + 1))) (shp hG rfl) rfl rfl rfl (Nat.le_of_ble_eq_true rfl) (fun r3 M4 hr3 => ?_)
  refine Go.icmp_eq 1503 dL_law_1085 rfl (fun _ => ?_) (fun h1085 => absurd (hr1.1.trans hr3.1.symm) h1085)
  exact hk _ _ (hr1.2.1.same hr3.2.2) hr3.2.1 (ok_now hg (gx G (i + 1)))
set_option maxRecDepth 20000 in
theorem w_feed {G : Gt} (hG : gS G = SHAPE) {M : Mm} {g : Sg} (hC : CompIs M g) (hD : ModIs M g) (hg : SgOk g) {i : Nat} (hi : i + 6 ≤ gn G) (hn : gn G ≤ 3072) {post : Option Value → Mm → Prop} (hk : ∀ M' g', CompIs M' g' → ModIs M' g' → SgOk g' → Go G 11 mL_law 1503 [some (.ref 1002), some (.ref 0), some (.ref 49), some (.int (nI i))] [] M' post) : Go G 11 mL_law 1090 [some (.ref 1002), some (.ref 0), some (.ref 49), some (.int (nI i))] [] M post := by
  refine Go.aload_n dL_law_1090 rfl ?_
  refine Go.aload_n dL_law_1091 rfl ?_
  refine Go.iload_n dL_law_1092 rfl ?_
  refine Go.iconst (v := 1) dL_law_1093 (by decide) ?_
  refine Go.iadd dL_law_1094 ?_
  refine Go.eqI (y := nI (i + 1)) (nI_add _ _) ?_
  refine Go.script dL_law_1095 (vin (by omega) (by omega)) ?_
  refine Go.eqI (y := gx G (i + 1)) (by rw [ncl (by omega)]) ?_
  refine Go.aload_n dL_law_1096 rfl ?_
  refine Go.iload_n dL_law_1097 rfl ?_
  refine Go.iconst (v := 2) dL_law_1098 (by decide) ?_
  refine Go.iadd dL_law_1099 ?_
  refine Go.eqI (y := nI (i + 2)) (nI_add _ _) ?_
  refine Go.script dL_law_1100 (vin (by omega) (by omega)) ?_
  refine Go.eqI (y := gx G (i + 2)) (by rw [ncl (by omega)]) ?_
  refine Go.callVI [] dL_law_1101 lkL_138 imX6_feed seX6_feed cbX6_feed (c_feed hG hC hg (gx G (i + 1)) (gx G (i + 2))) (shp hG rfl) rfl rfl rfl (Nat.le_of_ble_eq_true rfl) (fun r1 M2 hr1 => ?_)
  refine Go.aload_n dL_law_1104 rfl ?_
  refine Go.aload_n dL_law_1105 rfl ?_
  refine Go.iload_n dL_law_1106 rfl ?_
  refine Go.iconst (v := 1) dL_law_1107 (by decide) ?_
  refine Go.iadd dL_law_1108 ?_
  refine Go.eqI (y := nI (i + 1)) (nI_add _ _) ?_
  refine Go.script dL_law_1109 (vin (by omega) (by omega)) ?_
  refine Go.eqI (y := gx G (i + 1)) (by rw [ncl (by omega)]) ?_
  refine Go.aload_n dL_law_1110 rfl ?_
  refine Go.iload_n dL_law_1111 rfl ?_
  refine Go.iconst (v := 2) dL_law_1112 (by decide) ?_
  refine Go.iadd dL_law_1113 ?_
  refine Go.eqI (y := nI (i + 2)) (nI_add _ _) ?_
  refine Go.script dL_law_1114 (vin (by omega) (by omega)) ?_
  refine Go.eqI (y := gx G (i + 2)) (by rw [ncl (by omega)]) ?_
  refine Go.callVI [.int r1] dL_law_1115 lkL_141 imX7_feed seX7_feed cbX7_feed (m_feed hG (hD.same hr1.2.2) hg (gx G (i + 1)) (gx G (i + 2))) (shp hG rfl) rfl rfl rfl (Nat.le_of_ble_eq_true rfl) (fun r3 M4 hr3 => ?_)
  refine Go.icmp_eq 1503 dL_law_1118 rfl (fun _ => ?_) (fun h1118 => absurd (hr1.1.trans hr3.1.symm) h1118)
  exact hk _ _ (hr1.2.1.same hr3.2.2) hr3.2.1 (ok_feed hg (gx G (i + 1)) (gx G (i + 2)))
set_option maxRecDepth 20000 in
theorem w_wipe {G : Gt} (hG : gS G = SHAPE) {M : Mm} {g : Sg} (hC : CompIs M g) (hD : ModIs M g) (hg : SgOk g) {i : Nat} (hi : i + 6 ≤ gn G) (hn : gn G ≤ 3072) {post : Option Value → Mm → Prop} (hk : ∀ M' g', CompIs M' g' → ModIs M' g' → SgOk g' → Go G 11 mL_law 1503 [some (.ref 1002), some (.ref 0), some (.ref 49), some (.int (nI i))] [] M' post) : Go G 11 mL_law 1123 [some (.ref 1002), some (.ref 0), some (.ref 49), some (.int (nI i))] [] M post := by
  refine Go.aload_n dL_law_1123 rfl ?_
  refine Go.callVI [] dL_law_1124 lkL_142 imX6_wipe seX6_wipe cbX6_wipe (c_wipe hG hC hg) (shp hG rfl) rfl rfl rfl (Nat.le_of_ble_eq_true rfl) (fun r1 M2 hr1 => ?_)
  refine Go.aload_n dL_law_1127 rfl ?_
  refine Go.callVI [.int r1] dL_law_1128 lkL_145 imX7_wipe seX7_wipe cbX7_wipe (m_wipe hG (hD.same hr1.2.2) hg) (shp hG rfl) rfl rfl rfl (Nat.le_of_ble_eq_true rfl) (fun r3 M4 hr3 => ?_)
  refine Go.icmp_eq 1503 dL_law_1131 rfl (fun _ => ?_) (fun h1131 => absurd (hr1.1.trans hr3.1.symm) h1131)
  exact hk _ _ (hr1.2.1.same hr3.2.2) hr3.2.1 (ok_wipe hg)
set_option maxRecDepth 20000 in
theorem w_book {G : Gt} (hG : gS G = SHAPE) {M : Mm} {g : Sg} (hC : CompIs M g) (hD : ModIs M g) (hg : SgOk g) {i : Nat} (hi : i + 6 ≤ gn G) (hn : gn G ≤ 3072) {post : Option Value → Mm → Prop} (hk : ∀ M' g', CompIs M' g' → ModIs M' g' → SgOk g' → Go G 11 mL_law 1503 [some (.ref 1002), some (.ref 0), some (.ref 49), some (.int (nI i))] [] M' post) : Go G 11 mL_law 1136 [some (.ref 1002), some (.ref 0), some (.ref 49), some (.int (nI i))] [] M post := by
  refine Go.aload_n dL_law_1136 rfl ?_
  refine Go.callVI [] dL_law_1137 lkL_146 imX6_book seX6_book cbX6_book (c_book hG hC hg) (shp hG rfl) rfl rfl rfl (Nat.le_of_ble_eq_true rfl) (fun r1 M2 hr1 => ?_)
  refine Go.aload_n dL_law_1140 rfl ?_
  refine Go.callVI [.int r1] dL_law_1141 lkL_149 imX7_book seX7_book cbX7_book (m_book hG (hD.same hr1.2.2) hg) (shp hG rfl) rfl rfl rfl (Nat.le_of_ble_eq_true rfl) (fun r3 M4 hr3 => ?_)
  refine Go.icmp_eq 1503 dL_law_1144 rfl (fun _ => ?_) (fun h1144 => absurd (hr1.1.trans hr3.1.symm) h1144)
  exact hk _ _ (hr1.2.1.same hr3.2.2) hr3.2.1 (ok_book hg)
set_option maxRecDepth 20000 in
theorem w_sheet {G : Gt} (hG : gS G = SHAPE) {M : Mm} {g : Sg} (hC : CompIs M g) (hD : ModIs M g) (hg : SgOk g) {i : Nat} (hi : i + 6 ≤ gn G) (hn : gn G ≤ 3072) {post : Option Value → Mm → Prop} (hk : ∀ M' g', CompIs M' g' → ModIs M' g' → SgOk g' → Go G 11 mL_law 1503 [some (.ref 1002), some (.ref 0), some (.ref 49), some (.int (nI i))] [] M' post) : Go G 11 mL_law 1149 [some (.ref 1002), some (.ref 0), some (.ref 49), some (.int (nI i))] [] M post := by
  refine Go.aload_n dL_law_1149 rfl ?_
  refine Go.aload_n dL_law_1150 rfl ?_
  refine Go.iload_n dL_law_1151 rfl ?_
  refine Go.iconst (v := 1) dL_law_1152 (by decide) ?_
  refine Go.iadd dL_law_1153 ?_
  refine Go.eqI (y := nI (i + 1)) (nI_add _ _) ?_
  refine Go.script dL_law_1154 (vin (by omega) (by omega)) ?_
  refine Go.eqI (y := gx G (i + 1)) (by rw [ncl (by omega)]) ?_
  refine Go.aload_n dL_law_1155 rfl ?_
  refine Go.iload_n dL_law_1156 rfl ?_
  refine Go.iconst (v := 2) dL_law_1157 (by decide) ?_
  refine Go.iadd dL_law_1158 ?_
  refine Go.eqI (y := nI (i + 2)) (nI_add _ _) ?_
  refine Go.script dL_law_1159 (vin (by omega) (by omega)) ?_
  refine Go.eqI (y := gx G (i + 2)) (by rw [ncl (by omega)]) ?_
  refine Go.aload_n dL_law_1160 rfl ?_
  refine Go.iload_n dL_law_1161 rfl ?_
  refine Go.iconst (v := 3) dL_law_1162 (by decide) ?_
  refine Go.iadd dL_law_1163 ?_
  refine Go.eqI (y := nI (i + 3)) (nI_add _ _) ?_
  refine Go.script dL_law_1164 (vin (by omega) (by omega)) ?_
  refine Go.eqI (y := gx G (i + 3)) (by rw [ncl (by omega)]) ?_
  refine Go.callVI [] dL_law_1165 lkL_150 imX6_sheet seX6_sheet cbX6_sheet (c_sheet hG hC hg (gx G (i + 1)) (gx G (i + 2)) (gx G (i + 3))) (shp hG rfl) rfl rfl rfl (Nat.le_of_ble_eq_true rfl) (fun r1 M2 hr1 => ?_)
  refine Go.aload_n dL_law_1168 rfl ?_
  refine Go.aload_n dL_law_1169 rfl ?_
  refine Go.iload_n dL_law_1170 rfl ?_
  refine Go.iconst (v := 1) dL_law_1171 (by decide) ?_
  refine Go.iadd dL_law_1172 ?_
  refine Go.eqI (y := nI (i + 1)) (nI_add _ _) ?_
  refine Go.script dL_law_1173 (vin (by omega) (by omega)) ?_
  refine Go.eqI (y := gx G (i + 1)) (by rw [ncl (by omega)]) ?_
  refine Go.aload_n dL_law_1174 rfl ?_
  refine Go.iload_n dL_law_1175 rfl ?_
  refine Go.iconst (v := 2) dL_law_1176 (by decide) ?_
  refine Go.iadd dL_law_1177 ?_
  refine Go.eqI (y := nI (i + 2)) (nI_add _ _) ?_
  refine Go.script dL_law_1178 (vin (by omega) (by omega)) ?_
  refine Go.eqI (y := gx G (i + 2)) (by rw [ncl (by omega)]) ?_
  refine Go.aload_n dL_law_1179 rfl ?_
  refine Go.iload_n dL_law_1180 rfl ?_
  refine Go.iconst (v := 3) dL_law_1181 (by decide) ?_
  refine Go.iadd dL_law_1182 ?_
  refine Go.eqI (y := nI (i + 3)) (nI_add _ _) ?_
  refine Go.script dL_law_1183 (vin (by omega) (by omega)) ?_
  refine Go.eqI (y := gx G (i + 3)) (by rw [ncl (by omega)]) ?_
  refine Go.callVI [.int r1] dL_law_1184 lkL_153 imX7_sheet seX7_sheet cbX7_sheet (m_sheet hG (hD.same hr1.2.2) hg (gx G (i + 1)) (gx G (i + 2)) (gx G (i + 3))) (shp hG rfl) rfl rfl rfl (Nat.le_of_ble_eq_true rfl) (fun r3 M4 hr3 => ?_)
  refine Go.icmp_eq 1503 dL_law_1187 rfl (fun _ => ?_) (fun h1187 => absurd (hr1.1.trans hr3.1.symm) h1187)
  exact hk _ _ (hr1.2.1.same hr3.2.2) hr3.2.1 (ok_sheet hg (gx G (i + 1)) (gx G (i + 2)) (gx G (i + 3)))
set_option maxRecDepth 20000 in
theorem w_write {G : Gt} (hG : gS G = SHAPE) {M : Mm} {g : Sg} (hC : CompIs M g) (hD : ModIs M g) (hg : SgOk g) {i : Nat} (hi : i + 6 ≤ gn G) (hn : gn G ≤ 3072) {post : Option Value → Mm → Prop} (hk : ∀ M' g', CompIs M' g' → ModIs M' g' → SgOk g' → Go G 11 mL_law 1503 [some (.ref 1002), some (.ref 0), some (.ref 49), some (.int (nI i))] [] M' post) : Go G 11 mL_law 1192 [some (.ref 1002), some (.ref 0), some (.ref 49), some (.int (nI i))] [] M post := by
  refine Go.aload_n dL_law_1192 rfl ?_
  refine Go.aload_n dL_law_1193 rfl ?_
  refine Go.iload_n dL_law_1194 rfl ?_
  refine Go.iconst (v := 1) dL_law_1195 (by decide) ?_
  refine Go.iadd dL_law_1196 ?_
  refine Go.eqI (y := nI (i + 1)) (nI_add _ _) ?_
  refine Go.script dL_law_1197 (vin (by omega) (by omega)) ?_
  refine Go.eqI (y := gx G (i + 1)) (by rw [ncl (by omega)]) ?_
  refine Go.aload_n dL_law_1198 rfl ?_
  refine Go.iload_n dL_law_1199 rfl ?_
  refine Go.iconst (v := 2) dL_law_1200 (by decide) ?_
  refine Go.iadd dL_law_1201 ?_
  refine Go.eqI (y := nI (i + 2)) (nI_add _ _) ?_
  refine Go.script dL_law_1202 (vin (by omega) (by omega)) ?_
  refine Go.eqI (y := gx G (i + 2)) (by rw [ncl (by omega)]) ?_
  refine Go.aload_n dL_law_1203 rfl ?_
  refine Go.iload_n dL_law_1204 rfl ?_
  refine Go.iconst (v := 3) dL_law_1205 (by decide) ?_
  refine Go.iadd dL_law_1206 ?_
  refine Go.eqI (y := nI (i + 3)) (nI_add _ _) ?_
  refine Go.script dL_law_1207 (vin (by omega) (by omega)) ?_
  refine Go.eqI (y := gx G (i + 3)) (by rw [ncl (by omega)]) ?_
  refine Go.i2l dL_law_1208 ?_
  refine Go.bipush (v := 32) dL_law_1209 (by decide) ?_
  refine Go.lshl dL_law_1211 ?_
  refine Go.aload_n dL_law_1212 rfl ?_
  refine Go.iload_n dL_law_1213 rfl ?_
  refine Go.iconst (v := 4) dL_law_1214 (by decide) ?_
  refine Go.iadd dL_law_1215 ?_
  refine Go.eqI (y := nI (i + 4)) (nI_add _ _) ?_
  refine Go.script dL_law_1216 (vin (by omega) (by omega)) ?_
  refine Go.eqI (y := gx G (i + 4)) (by rw [ncl (by omega)]) ?_
  refine Go.i2l dL_law_1217 ?_
  refine Go.ldc2 dL_law_1218 klL_154 ?_
  refine Go.land dL_law_1221 ?_
  refine Go.lor dL_law_1222 ?_
  refine Go.callVL [] dL_law_1223 lkL_156 imX6_write seX6_write cbX6_write (c_write hG hC hg (gx G (i + 1)) (gx G (i + 2)) (((Int32.toInt64 (gx G (i + 3))) <<< ((32 : Int32).toInt64 &&& 63)) ||| ((Int32.toInt64 (gx G (i + 4))) &&& 4294967295))) (shp hG rfl) rfl rfl rfl (Nat.le_of_ble_eq_true rfl) (fun r1 M2 hr1 => ?_)
  refine Go.aload_n dL_law_1226 rfl ?_
  refine Go.aload_n dL_law_1227 rfl ?_
  refine Go.iload_n dL_law_1228 rfl ?_
  refine Go.iconst (v := 1) dL_law_1229 (by decide) ?_
  refine Go.iadd dL_law_1230 ?_
  refine Go.eqI (y := nI (i + 1)) (nI_add _ _) ?_
  refine Go.script dL_law_1231 (vin (by omega) (by omega)) ?_
  refine Go.eqI (y := gx G (i + 1)) (by rw [ncl (by omega)]) ?_
  refine Go.aload_n dL_law_1232 rfl ?_
  refine Go.iload_n dL_law_1233 rfl ?_
  refine Go.iconst (v := 2) dL_law_1234 (by decide) ?_
  refine Go.iadd dL_law_1235 ?_
  refine Go.eqI (y := nI (i + 2)) (nI_add _ _) ?_
  refine Go.script dL_law_1236 (vin (by omega) (by omega)) ?_
  refine Go.eqI (y := gx G (i + 2)) (by rw [ncl (by omega)]) ?_
  refine Go.aload_n dL_law_1237 rfl ?_
  refine Go.iload_n dL_law_1238 rfl ?_
  refine Go.iconst (v := 3) dL_law_1239 (by decide) ?_
  refine Go.iadd dL_law_1240 ?_
  refine Go.eqI (y := nI (i + 3)) (nI_add _ _) ?_
  refine Go.script dL_law_1241 (vin (by omega) (by omega)) ?_
  refine Go.eqI (y := gx G (i + 3)) (by rw [ncl (by omega)]) ?_
  refine Go.i2l dL_law_1242 ?_
  refine Go.bipush (v := 32) dL_law_1243 (by decide) ?_
  refine Go.lshl dL_law_1245 ?_
  refine Go.aload_n dL_law_1246 rfl ?_
  refine Go.iload_n dL_law_1247 rfl ?_
  refine Go.iconst (v := 4) dL_law_1248 (by decide) ?_
  refine Go.iadd dL_law_1249 ?_
  refine Go.eqI (y := nI (i + 4)) (nI_add _ _) ?_
  refine Go.script dL_law_1250 (vin (by omega) (by omega)) ?_
  refine Go.eqI (y := gx G (i + 4)) (by rw [ncl (by omega)]) ?_
  refine Go.i2l dL_law_1251 ?_
  refine Go.ldc2 dL_law_1252 klL_154 ?_
  refine Go.land dL_law_1255 ?_
  refine Go.lor dL_law_1256 ?_
  refine Go.callVL [.long r1] dL_law_1257 lkL_160 imX7_write seX7_write cbX7_write (m_write hG (hD.same hr1.2.2) hg (gx G (i + 1)) (gx G (i + 2)) (((Int32.toInt64 (gx G (i + 3))) <<< ((32 : Int32).toInt64 &&& 63)) ||| ((Int32.toInt64 (gx G (i + 4))) &&& 4294967295))) (shp hG rfl) rfl rfl rfl (Nat.le_of_ble_eq_true rfl) (fun r3 M4 hr3 => ?_)
  refine Go.lcmp dL_law_1260 ?_
  refine Go.if_eq 1503 dL_law_1261 rfl (fun _ => ?_) (fun h1261 => absurd (by rw [hr1.1, hr3.1]; exact lg_self _) h1261)
  exact hk _ _ (hr1.2.1.same hr3.2.2) hr3.2.1 (ok_write hg (gx G (i + 1)) (gx G (i + 2)) (((Int32.toInt64 (gx G (i + 3))) <<< ((32 : Int32).toInt64 &&& 63)) ||| ((Int32.toInt64 (gx G (i + 4))) &&& 4294967295)))
set_option maxRecDepth 20000 in
theorem w_copy {G : Gt} (hG : gS G = SHAPE) {M : Mm} {g : Sg} (hC : CompIs M g) (hD : ModIs M g) (hg : SgOk g) {i : Nat} (hi : i + 6 ≤ gn G) (hn : gn G ≤ 3072) {post : Option Value → Mm → Prop} (hk : ∀ M' g', CompIs M' g' → ModIs M' g' → SgOk g' → Go G 11 mL_law 1503 [some (.ref 1002), some (.ref 0), some (.ref 49), some (.int (nI i))] [] M' post) : Go G 11 mL_law 1266 [some (.ref 1002), some (.ref 0), some (.ref 49), some (.int (nI i))] [] M post := by
  refine Go.aload_n dL_law_1266 rfl ?_
  refine Go.aload_n dL_law_1267 rfl ?_
  refine Go.iload_n dL_law_1268 rfl ?_
  refine Go.iconst (v := 1) dL_law_1269 (by decide) ?_
  refine Go.iadd dL_law_1270 ?_
  refine Go.eqI (y := nI (i + 1)) (nI_add _ _) ?_
  refine Go.script dL_law_1271 (vin (by omega) (by omega)) ?_
  refine Go.eqI (y := gx G (i + 1)) (by rw [ncl (by omega)]) ?_
  refine Go.aload_n dL_law_1272 rfl ?_
  refine Go.iload_n dL_law_1273 rfl ?_
  refine Go.iconst (v := 2) dL_law_1274 (by decide) ?_
  refine Go.iadd dL_law_1275 ?_
  refine Go.eqI (y := nI (i + 2)) (nI_add _ _) ?_
  refine Go.script dL_law_1276 (vin (by omega) (by omega)) ?_
  refine Go.eqI (y := gx G (i + 2)) (by rw [ncl (by omega)]) ?_
  refine Go.aload_n dL_law_1277 rfl ?_
  refine Go.iload_n dL_law_1278 rfl ?_
  refine Go.iconst (v := 3) dL_law_1279 (by decide) ?_
  refine Go.iadd dL_law_1280 ?_
  refine Go.eqI (y := nI (i + 3)) (nI_add _ _) ?_
  refine Go.script dL_law_1281 (vin (by omega) (by omega)) ?_
  refine Go.eqI (y := gx G (i + 3)) (by rw [ncl (by omega)]) ?_
  refine Go.aload_n dL_law_1282 rfl ?_
  refine Go.iload_n dL_law_1283 rfl ?_
  refine Go.iconst (v := 4) dL_law_1284 (by decide) ?_
  refine Go.iadd dL_law_1285 ?_
  refine Go.eqI (y := nI (i + 4)) (nI_add _ _) ?_
  refine Go.script dL_law_1286 (vin (by omega) (by omega)) ?_
  refine Go.eqI (y := gx G (i + 4)) (by rw [ncl (by omega)]) ?_
  refine Go.aload_n dL_law_1287 rfl ?_
  refine Go.iload_n dL_law_1288 rfl ?_
  refine Go.iconst (v := 5) dL_law_1289 (by decide) ?_
  refine Go.iadd dL_law_1290 ?_
  refine Go.eqI (y := nI (i + 5)) (nI_add _ _) ?_
  refine Go.script dL_law_1291 (vin (by omega) (by omega)) ?_
  refine Go.eqI (y := gx G (i + 5)) (by rw [ncl (by omega)]) ?_
  refine Go.callVI [] dL_law_1292 lkL_161 imX6_copy seX6_copy cbX6_copy (c_copy hG hC hg (gx G (i + 1)) (gx G (i + 2)) (gx G (i + 3)) (gx G (i + 4)) (gx G (i + 5))) (shp hG rfl) rfl rfl rfl (Nat.le_of_ble_eq_true rfl) (fun r1 M2 hr1 => ?_)
  refine Go.aload_n dL_law_1295 rfl ?_
  refine Go.aload_n dL_law_1296 rfl ?_
  refine Go.iload_n dL_law_1297 rfl ?_
  refine Go.iconst (v := 1) dL_law_1298 (by decide) ?_
  refine Go.iadd dL_law_1299 ?_
  refine Go.eqI (y := nI (i + 1)) (nI_add _ _) ?_
  refine Go.script dL_law_1300 (vin (by omega) (by omega)) ?_
  refine Go.eqI (y := gx G (i + 1)) (by rw [ncl (by omega)]) ?_
  refine Go.aload_n dL_law_1301 rfl ?_
  refine Go.iload_n dL_law_1302 rfl ?_
  refine Go.iconst (v := 2) dL_law_1303 (by decide) ?_
  refine Go.iadd dL_law_1304 ?_
  refine Go.eqI (y := nI (i + 2)) (nI_add _ _) ?_
  refine Go.script dL_law_1305 (vin (by omega) (by omega)) ?_
  refine Go.eqI (y := gx G (i + 2)) (by rw [ncl (by omega)]) ?_
  refine Go.aload_n dL_law_1306 rfl ?_
  refine Go.iload_n dL_law_1307 rfl ?_
  refine Go.iconst (v := 3) dL_law_1308 (by decide) ?_
  refine Go.iadd dL_law_1309 ?_
  refine Go.eqI (y := nI (i + 3)) (nI_add _ _) ?_
  refine Go.script dL_law_1310 (vin (by omega) (by omega)) ?_
  refine Go.eqI (y := gx G (i + 3)) (by rw [ncl (by omega)]) ?_
  refine Go.aload_n dL_law_1311 rfl ?_
  refine Go.iload_n dL_law_1312 rfl ?_
  refine Go.iconst (v := 4) dL_law_1313 (by decide) ?_
  refine Go.iadd dL_law_1314 ?_
  refine Go.eqI (y := nI (i + 4)) (nI_add _ _) ?_
  refine Go.script dL_law_1315 (vin (by omega) (by omega)) ?_
  refine Go.eqI (y := gx G (i + 4)) (by rw [ncl (by omega)]) ?_
  refine Go.aload_n dL_law_1316 rfl ?_
  refine Go.iload_n dL_law_1317 rfl ?_
  refine Go.iconst (v := 5) dL_law_1318 (by decide) ?_
  refine Go.iadd dL_law_1319 ?_
  refine Go.eqI (y := nI (i + 5)) (nI_add _ _) ?_
  refine Go.script dL_law_1320 (vin (by omega) (by omega)) ?_
  refine Go.eqI (y := gx G (i + 5)) (by rw [ncl (by omega)]) ?_
  refine Go.callVI [.int r1] dL_law_1321 lkL_165 imX7_copy seX7_copy cbX7_copy (m_copy hG (hD.same hr1.2.2) hg (gx G (i + 1)) (gx G (i + 2)) (gx G (i + 3)) (gx G (i + 4)) (gx G (i + 5))) (shp hG rfl) rfl rfl rfl (Nat.le_of_ble_eq_true rfl) (fun r3 M4 hr3 => ?_)
  refine Go.icmp_eq 1503 dL_law_1324 rfl (fun _ => ?_) (fun h1324 => absurd (hr1.1.trans hr3.1.symm) h1324)
  exact hk _ _ (hr1.2.1.same hr3.2.2) hr3.2.1 (ok_copy hg (gx G (i + 1)) (gx G (i + 2)) (gx G (i + 3)) (gx G (i + 4)) (gx G (i + 5)))
set_option maxRecDepth 20000 in
theorem w_lays {G : Gt} (hG : gS G = SHAPE) {M : Mm} {g : Sg} (hC : CompIs M g) (hD : ModIs M g) (hg : SgOk g) {i : Nat} (hi : i + 6 ≤ gn G) (hn : gn G ≤ 3072) {post : Option Value → Mm → Prop} (hk : ∀ M' g', CompIs M' g' → ModIs M' g' → SgOk g' → Go G 11 mL_law 1503 [some (.ref 1002), some (.ref 0), some (.ref 49), some (.int (nI i))] [] M' post) : Go G 11 mL_law 1329 [some (.ref 1002), some (.ref 0), some (.ref 49), some (.int (nI i))] [] M post := by
  refine Go.aload_n dL_law_1329 rfl ?_
  refine Go.aload_n dL_law_1330 rfl ?_
  refine Go.iload_n dL_law_1331 rfl ?_
  refine Go.iconst (v := 1) dL_law_1332 (by decide) ?_
  refine Go.iadd dL_law_1333 ?_
  refine Go.eqI (y := nI (i + 1)) (nI_add _ _) ?_
  refine Go.script dL_law_1334 (vin (by omega) (by omega)) ?_
  refine Go.eqI (y := gx G (i + 1)) (by rw [ncl (by omega)]) ?_
  refine Go.callVI [] dL_law_1335 lkL_166 imX6_lays seX6_lays cbX6_lays (c_lays hG hC hg (gx G (i + 1))) (shp hG rfl) rfl rfl rfl (Nat.le_of_ble_eq_true rfl) (fun r1 M2 hr1 => ?_)
  refine Go.aload_n dL_law_1338 rfl ?_
  refine Go.aload_n dL_law_1339 rfl ?_
  refine Go.iload_n dL_law_1340 rfl ?_
  refine Go.iconst (v := 1) dL_law_1341 (by decide) ?_
  refine Go.iadd dL_law_1342 ?_
  refine Go.eqI (y := nI (i + 1)) (nI_add _ _) ?_
  refine Go.script dL_law_1343 (vin (by omega) (by omega)) ?_
  refine Go.eqI (y := gx G (i + 1)) (by rw [ncl (by omega)]) ?_
  refine Go.callVI [.int r1] dL_law_1344 lkL_169 imX7_lays seX7_lays cbX7_lays (m_lays hG (hD.same hr1.2.2) hg (gx G (i + 1))) (shp hG rfl) rfl rfl rfl (Nat.le_of_ble_eq_true rfl) (fun r3 M4 hr3 => ?_)
  refine Go.icmp_eq 1503 dL_law_1347 rfl (fun _ => ?_) (fun h1347 => absurd (hr1.1.trans hr3.1.symm) h1347)
  exact hk _ _ (hr1.2.1.same hr3.2.2) hr3.2.1 (ok_lays hg (gx G (i + 1)))
set_option maxRecDepth 20000 in
theorem w_menu {G : Gt} (hG : gS G = SHAPE) {M : Mm} {g : Sg} (hC : CompIs M g) (hD : ModIs M g) (hg : SgOk g) {i : Nat} (hi : i + 6 ≤ gn G) (hn : gn G ≤ 3072) {post : Option Value → Mm → Prop} (hk : ∀ M' g', CompIs M' g' → ModIs M' g' → SgOk g' → Go G 11 mL_law 1503 [some (.ref 1002), some (.ref 0), some (.ref 49), some (.int (nI i))] [] M' post) : Go G 11 mL_law 1352 [some (.ref 1002), some (.ref 0), some (.ref 49), some (.int (nI i))] [] M post := by
  refine Go.aload_n dL_law_1352 rfl ?_
  refine Go.aload_n dL_law_1353 rfl ?_
  refine Go.iload_n dL_law_1354 rfl ?_
  refine Go.iconst (v := 1) dL_law_1355 (by decide) ?_
  refine Go.iadd dL_law_1356 ?_
  refine Go.eqI (y := nI (i + 1)) (nI_add _ _) ?_
  refine Go.script dL_law_1357 (vin (by omega) (by omega)) ?_
  refine Go.eqI (y := gx G (i + 1)) (by rw [ncl (by omega)]) ?_
  refine Go.aload_n dL_law_1358 rfl ?_
  refine Go.iload_n dL_law_1359 rfl ?_
  refine Go.iconst (v := 2) dL_law_1360 (by decide) ?_
  refine Go.iadd dL_law_1361 ?_
  refine Go.eqI (y := nI (i + 2)) (nI_add _ _) ?_
  refine Go.script dL_law_1362 (vin (by omega) (by omega)) ?_
  refine Go.eqI (y := gx G (i + 2)) (by rw [ncl (by omega)]) ?_
  refine Go.callVI [] dL_law_1363 lkL_170 imX6_menu seX6_menu cbX6_menu (c_menu hG hC hg (gx G (i + 1)) (gx G (i + 2))) (shp hG rfl) rfl rfl rfl (Nat.le_of_ble_eq_true rfl) (fun r1 M2 hr1 => ?_)
  refine Go.aload_n dL_law_1366 rfl ?_
  refine Go.aload_n dL_law_1367 rfl ?_
  refine Go.iload_n dL_law_1368 rfl ?_
  refine Go.iconst (v := 1) dL_law_1369 (by decide) ?_
  refine Go.iadd dL_law_1370 ?_
  refine Go.eqI (y := nI (i + 1)) (nI_add _ _) ?_
  refine Go.script dL_law_1371 (vin (by omega) (by omega)) ?_
  refine Go.eqI (y := gx G (i + 1)) (by rw [ncl (by omega)]) ?_
  refine Go.aload_n dL_law_1372 rfl ?_
  refine Go.iload_n dL_law_1373 rfl ?_
  refine Go.iconst (v := 2) dL_law_1374 (by decide) ?_
  refine Go.iadd dL_law_1375 ?_
  refine Go.eqI (y := nI (i + 2)) (nI_add _ _) ?_
  refine Go.script dL_law_1376 (vin (by omega) (by omega)) ?_
  refine Go.eqI (y := gx G (i + 2)) (by rw [ncl (by omega)]) ?_
  refine Go.callVI [.int r1] dL_law_1377 lkL_173 imX7_menu seX7_menu cbX7_menu (m_menu hG (hD.same hr1.2.2) hg (gx G (i + 1)) (gx G (i + 2))) (shp hG rfl) rfl rfl rfl (Nat.le_of_ble_eq_true rfl) (fun r3 M4 hr3 => ?_)
  refine Go.icmp_eq 1503 dL_law_1380 rfl (fun _ => ?_) (fun h1380 => absurd (hr1.1.trans hr3.1.symm) h1380)
  exact hk _ _ (hr1.2.1.same hr3.2.2) hr3.2.1 (ok_menu hg (gx G (i + 1)) (gx G (i + 2)))
set_option maxRecDepth 20000 in
theorem w_read {G : Gt} (hG : gS G = SHAPE) {M : Mm} {g : Sg} (hC : CompIs M g) (hD : ModIs M g) (hg : SgOk g) {i : Nat} (hi : i + 6 ≤ gn G) (hn : gn G ≤ 3072) {post : Option Value → Mm → Prop} (hk : ∀ M' g', CompIs M' g' → ModIs M' g' → SgOk g' → Go G 11 mL_law 1503 [some (.ref 1002), some (.ref 0), some (.ref 49), some (.int (nI i))] [] M' post) : Go G 11 mL_law 1385 [some (.ref 1002), some (.ref 0), some (.ref 49), some (.int (nI i))] [] M post := by
  refine Go.aload_n dL_law_1385 rfl ?_
  refine Go.aload_n dL_law_1386 rfl ?_
  refine Go.iload_n dL_law_1387 rfl ?_
  refine Go.iconst (v := 1) dL_law_1388 (by decide) ?_
  refine Go.iadd dL_law_1389 ?_
  refine Go.eqI (y := nI (i + 1)) (nI_add _ _) ?_
  refine Go.script dL_law_1390 (vin (by omega) (by omega)) ?_
  refine Go.eqI (y := gx G (i + 1)) (by rw [ncl (by omega)]) ?_
  refine Go.aload_n dL_law_1391 rfl ?_
  refine Go.iload_n dL_law_1392 rfl ?_
  refine Go.iconst (v := 2) dL_law_1393 (by decide) ?_
  refine Go.iadd dL_law_1394 ?_
  refine Go.eqI (y := nI (i + 2)) (nI_add _ _) ?_
  refine Go.script dL_law_1395 (vin (by omega) (by omega)) ?_
  refine Go.eqI (y := gx G (i + 2)) (by rw [ncl (by omega)]) ?_
  refine Go.callVI [] dL_law_1396 lkL_174 imX6_read seX6_read cbX6_read (c_read hG hC hg (gx G (i + 1)) (gx G (i + 2))) (shp hG rfl) rfl rfl rfl (Nat.le_of_ble_eq_true rfl) (fun r1 M2 hr1 => ?_)
  refine Go.aload_n dL_law_1399 rfl ?_
  refine Go.aload_n dL_law_1400 rfl ?_
  refine Go.iload_n dL_law_1401 rfl ?_
  refine Go.iconst (v := 1) dL_law_1402 (by decide) ?_
  refine Go.iadd dL_law_1403 ?_
  refine Go.eqI (y := nI (i + 1)) (nI_add _ _) ?_
  refine Go.script dL_law_1404 (vin (by omega) (by omega)) ?_
  refine Go.eqI (y := gx G (i + 1)) (by rw [ncl (by omega)]) ?_
  refine Go.aload_n dL_law_1405 rfl ?_
  refine Go.iload_n dL_law_1406 rfl ?_
  refine Go.iconst (v := 2) dL_law_1407 (by decide) ?_
  refine Go.iadd dL_law_1408 ?_
  refine Go.eqI (y := nI (i + 2)) (nI_add _ _) ?_
  refine Go.script dL_law_1409 (vin (by omega) (by omega)) ?_
  refine Go.eqI (y := gx G (i + 2)) (by rw [ncl (by omega)]) ?_
  refine Go.callVI [.int r1] dL_law_1410 lkL_177 imX7_read seX7_read cbX7_read (m_read hG (hD.same hr1.2.2) hg (gx G (i + 1)) (gx G (i + 2))) (shp hG rfl) rfl rfl rfl (Nat.le_of_ble_eq_true rfl) (fun r3 M4 hr3 => ?_)
  refine Go.icmp_eq 1503 dL_law_1413 rfl (fun _ => ?_) (fun h1413 => absurd (hr1.1.trans hr3.1.symm) h1413)
  exact hk _ _ (hr1.2.1.same hr3.2.2) hr3.2.1 (ok_read hg (gx G (i + 1)) (gx G (i + 2)))
set_option maxRecDepth 20000 in
theorem w_image {G : Gt} (hG : gS G = SHAPE) {M : Mm} {g : Sg} (hC : CompIs M g) (hD : ModIs M g) (hg : SgOk g) {i : Nat} (hi : i + 6 ≤ gn G) (hn : gn G ≤ 3072) {post : Option Value → Mm → Prop} (hk : ∀ M' g', CompIs M' g' → ModIs M' g' → SgOk g' → Go G 11 mL_law 1503 [some (.ref 1002), some (.ref 0), some (.ref 49), some (.int (nI i))] [] M' post) : Go G 11 mL_law 1418 [some (.ref 1002), some (.ref 0), some (.ref 49), some (.int (nI i))] [] M post := by
  refine Go.aload_n dL_law_1418 rfl ?_
  refine Go.callVI [] dL_law_1419 lkL_178 imX6_image seX6_image cbX6_image (c_image hG hC hg) (shp hG rfl) rfl rfl rfl (Nat.le_of_ble_eq_true rfl) (fun r1 M2 hr1 => ?_)
  refine Go.aload_n dL_law_1422 rfl ?_
  refine Go.callVI [.int r1] dL_law_1423 lkL_181 imX7_image seX7_image cbX7_image (m_image hG (hD.same hr1.2.2) hg) (shp hG rfl) rfl rfl rfl (Nat.le_of_ble_eq_true rfl) (fun r3 M4 hr3 => ?_)
  refine Go.icmp_eq 1503 dL_law_1426 rfl (fun _ => ?_) (fun h1426 => absurd (hr1.1.trans hr3.1.symm) h1426)
  exact hk _ _ (hr1.2.1.same hr3.2.2) hr3.2.1 (ok_image hg)
set_option maxRecDepth 20000 in
theorem w_undo {G : Gt} (hG : gS G = SHAPE) {M : Mm} {g : Sg} (hC : CompIs M g) (hD : ModIs M g) (hg : SgOk g) {i : Nat} (hi : i + 6 ≤ gn G) (hn : gn G ≤ 3072) {post : Option Value → Mm → Prop} (hk : ∀ M' g', CompIs M' g' → ModIs M' g' → SgOk g' → Go G 11 mL_law 1503 [some (.ref 1002), some (.ref 0), some (.ref 49), some (.int (nI i))] [] M' post) : Go G 11 mL_law 1431 [some (.ref 1002), some (.ref 0), some (.ref 49), some (.int (nI i))] [] M post := by
  refine Go.aload_n dL_law_1431 rfl ?_
  refine Go.callVI [] dL_law_1432 lkL_182 imX6_undo seX6_undo cbX6_undo (c_undo hG hC hg) (shp hG rfl) rfl rfl rfl (Nat.le_of_ble_eq_true rfl) (fun r1 M2 hr1 => ?_)
  refine Go.aload_n dL_law_1435 rfl ?_
  refine Go.callVI [.int r1] dL_law_1436 lkL_185 imX7_undo seX7_undo cbX7_undo (m_undo hG (hD.same hr1.2.2) hg) (shp hG rfl) rfl rfl rfl (Nat.le_of_ble_eq_true rfl) (fun r3 M4 hr3 => ?_)
  refine Go.icmp_eq 1503 dL_law_1439 rfl (fun _ => ?_) (fun h1439 => absurd (hr1.1.trans hr3.1.symm) h1439)
  exact hk _ _ (hr1.2.1.same hr3.2.2) hr3.2.1 (ok_undo hg)
set_option maxRecDepth 20000 in
theorem w_tear {G : Gt} (hG : gS G = SHAPE) {M : Mm} {g : Sg} (hC : CompIs M g) (hD : ModIs M g) (hg : SgOk g) {i : Nat} (hi : i + 6 ≤ gn G) (hn : gn G ≤ 3072) {post : Option Value → Mm → Prop} (hk : ∀ M' g', CompIs M' g' → ModIs M' g' → SgOk g' → Go G 11 mL_law 1503 [some (.ref 1002), some (.ref 0), some (.ref 49), some (.int (nI i))] [] M' post) : Go G 11 mL_law 1444 [some (.ref 1002), some (.ref 0), some (.ref 49), some (.int (nI i))] [] M post := by
  refine Go.aload_n dL_law_1444 rfl ?_
  refine Go.callVI [] dL_law_1445 lkL_186 imX6_tear seX6_tear cbX6_tear (c_tear hG hC hg) (shp hG rfl) rfl rfl rfl (Nat.le_of_ble_eq_true rfl) (fun r1 M2 hr1 => ?_)
  refine Go.aload_n dL_law_1448 rfl ?_
  refine Go.callVI [.int r1] dL_law_1449 lkL_189 imX7_tear seX7_tear cbX7_tear (m_tear hG (hD.same hr1.2.2) hg) (shp hG rfl) rfl rfl rfl (Nat.le_of_ble_eq_true rfl) (fun r3 M4 hr3 => ?_)
  refine Go.icmp_eq 1503 dL_law_1452 rfl (fun _ => ?_) (fun h1452 => absurd (hr1.1.trans hr3.1.symm) h1452)
  exact hk _ _ (hr1.2.1.same hr3.2.2) hr3.2.1 (ok_tear hg)
set_option maxRecDepth 20000 in
theorem w_count {G : Gt} (hG : gS G = SHAPE) {M : Mm} {g : Sg} (hC : CompIs M g) (hD : ModIs M g) (hg : SgOk g) {i : Nat} (hi : i + 6 ≤ gn G) (hn : gn G ≤ 3072) {post : Option Value → Mm → Prop} (hk : ∀ M' g', CompIs M' g' → ModIs M' g' → SgOk g' → Go G 11 mL_law 1503 [some (.ref 1002), some (.ref 0), some (.ref 49), some (.int (nI i))] [] M' post) : Go G 11 mL_law 1457 [some (.ref 1002), some (.ref 0), some (.ref 49), some (.int (nI i))] [] M post := by
  refine Go.aload_n dL_law_1457 rfl ?_
  refine Go.aload_n dL_law_1458 rfl ?_
  refine Go.iload_n dL_law_1459 rfl ?_
  refine Go.iconst (v := 1) dL_law_1460 (by decide) ?_
  refine Go.iadd dL_law_1461 ?_
  refine Go.eqI (y := nI (i + 1)) (nI_add _ _) ?_
  refine Go.script dL_law_1462 (vin (by omega) (by omega)) ?_
  refine Go.eqI (y := gx G (i + 1)) (by rw [ncl (by omega)]) ?_
  refine Go.callVI [] dL_law_1463 lkL_190 imX6_count seX6_count cbX6_count (c_count hG hC hg (gx G (i + 1))) (shp hG rfl) rfl rfl rfl (Nat.le_of_ble_eq_true rfl) (fun r1 M2 hr1 => ?_)
  refine Go.aload_n dL_law_1466 rfl ?_
  refine Go.aload_n dL_law_1467 rfl ?_
  refine Go.iload_n dL_law_1468 rfl ?_
  refine Go.iconst (v := 1) dL_law_1469 (by decide) ?_
  refine Go.iadd dL_law_1470 ?_
  refine Go.eqI (y := nI (i + 1)) (nI_add _ _) ?_
  refine Go.script dL_law_1471 (vin (by omega) (by omega)) ?_
  refine Go.eqI (y := gx G (i + 1)) (by rw [ncl (by omega)]) ?_
  refine Go.callVI [.int r1] dL_law_1472 lkL_193 imX7_count seX7_count cbX7_count (m_count hG (hD.same hr1.2.2) hg (gx G (i + 1))) (shp hG rfl) rfl rfl rfl (Nat.le_of_ble_eq_true rfl) (fun r3 M4 hr3 => ?_)
  refine Go.icmp_eq 1503 dL_law_1475 rfl (fun _ => ?_) (fun h1475 => absurd (hr1.1.trans hr3.1.symm) h1475)
  exact hk _ _ (hr1.2.1.same hr3.2.2) hr3.2.1 (ok_count hg (gx G (i + 1)))
set_option maxRecDepth 20000 in
theorem w_status {G : Gt} (hG : gS G = SHAPE) {M : Mm} {g : Sg} (hC : CompIs M g) (hD : ModIs M g) (hg : SgOk g) {i : Nat} (hi : i + 6 ≤ gn G) (hn : gn G ≤ 3072) {post : Option Value → Mm → Prop} (hk : ∀ M' g', CompIs M' g' → ModIs M' g' → SgOk g' → Go G 11 mL_law 1503 [some (.ref 1002), some (.ref 0), some (.ref 49), some (.int (nI i))] [] M' post) : Go G 11 mL_law 1480 [some (.ref 1002), some (.ref 0), some (.ref 49), some (.int (nI i))] [] M post := by
  refine Go.aload_n dL_law_1480 rfl ?_
  refine Go.aload_n dL_law_1481 rfl ?_
  refine Go.iload_n dL_law_1482 rfl ?_
  refine Go.iconst (v := 1) dL_law_1483 (by decide) ?_
  refine Go.iadd dL_law_1484 ?_
  refine Go.eqI (y := nI (i + 1)) (nI_add _ _) ?_
  refine Go.script dL_law_1485 (vin (by omega) (by omega)) ?_
  refine Go.eqI (y := gx G (i + 1)) (by rw [ncl (by omega)]) ?_
  refine Go.callVI [] dL_law_1486 lkL_194 imX6_status seX6_status cbX6_status (c_status hG hC hg (gx G (i + 1))) (shp hG rfl) rfl rfl rfl (Nat.le_of_ble_eq_true rfl) (fun r1 M2 hr1 => ?_)
  refine Go.aload_n dL_law_1489 rfl ?_
  refine Go.aload_n dL_law_1490 rfl ?_
  refine Go.iload_n dL_law_1491 rfl ?_
  refine Go.iconst (v := 1) dL_law_1492 (by decide) ?_
  refine Go.iadd dL_law_1493 ?_
  refine Go.eqI (y := nI (i + 1)) (nI_add _ _) ?_
  refine Go.script dL_law_1494 (vin (by omega) (by omega)) ?_
  refine Go.eqI (y := gx G (i + 1)) (by rw [ncl (by omega)]) ?_
  refine Go.callVI [.int r1] dL_law_1495 lkL_197 imX7_status seX7_status cbX7_status (m_status hG (hD.same hr1.2.2) hg (gx G (i + 1))) (shp hG rfl) rfl rfl rfl (Nat.le_of_ble_eq_true rfl) (fun r3 M4 hr3 => ?_)
  refine Go.icmp_eq 1503 dL_law_1498 rfl (fun _ => ?_) (fun h1498 => absurd (hr1.1.trans hr3.1.symm) h1498)
  exact hk _ _ (hr1.2.1.same hr3.2.2) hr3.2.1 (ok_status hg (gx G (i + 1)))
