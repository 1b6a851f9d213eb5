/-! the law: 44 cases, the loop -/
abbrev bTE (E : ET) (a : Nat → Nat) : BT := (E.1, E.2.1, E.2.2, a)
def wTwo (E : ET) (a1 a2 : Nat → Nat) (σ μ : ST) (δ : Nat → Int64) : va_W := wl (GC (bTE E a1)) (cC (bTE E a1) σ) ++ wl (GM (bTE E a2)) (cM (bTE E a2) μ δ)
def lLaw (b i : Nat) (a1 a2 : Nat → Nat) : List (Option Value) := [some (.ref b), some (.ref (a1 30)), some (.ref (a2 0)), some (.int (nI i))]
def rLaw : Room := { frames := 2048, cells := 600000, slots := 7302250, locals := 84000 }
/-- what holds throughout the loop -/
def okLaw (E : ET) (k : KT) (a1 a2 : Nat → Nat) (b N : Nat) (xs : Nat → Int32) : Prop := OkY E k cL_law RL rLaw ∧ Scr k b N xs ∧ Ev a1 (kA k) (ks k) (ks k).heap ∧ Ev a2 (kA k) (ks k) (ks k).heap ∧ N ≤ 3072 ∧ kL k = 4
section LC
variable {E : ET} {k : KT} {a1 a2 : Nat → Nat} {σ μ : ST} {δ : Nat → Int64} {pc : Nat} {L : List (Option Value)} {rest : List Value}
theorem z_C {index n nLc : Nat} {y : MethodName} {cy : ByteArray} {rc : Room} {P : Int32 → ST → Prop} {T : u_T} {N9 : Nat} (As : List Value) (h : OkY E k cL_law RL rLaw) (hEv : Ev a1 (kA k) (ks k) (ks k).heap) (cf : CFV RL index y cy nLc (some .int) n) (hM : CI (bTE E a1) y cy nLc (some .int) rc (.ref (aB (bTE E a1) 30) :: As) σ P) (hcl : vwCl[6]? = some (y.cls, T, N9)) (hn : As.length = n) (hrc : rc.cells = 0 ∧ rc.slots = 0) (hroom : rc.frames + 1 ≤ rLaw.frames ∧ 8 + (nLc + 11) + rc.locals ≤ rLaw.locals) (hW : (rest.map fun v => v.category).sum ≤ 8) (hdg : decode cL_law pc = .ok (.invokevirtual index, 3))
    (kk : ∀ r σ', P r σ' → Y E k (wTwo E a1 a2 σ' μ δ) 600000 7302250 (pc + 3) L (.int r :: rest)) : Y E k (wTwo E a1 a2 σ μ δ) 600000 7302250 pc L (As.reverse ++ .ref (a1 30) :: rest) := by
  refine y_swap (y_callV (N := 82) (ga9 := a1) (ce := cC (bTE E a1) σ) (wl (GM (bTE E a2)) (cM (bTE E a2) μ δ)) As 30 h hEv cf hM (by decide) rfl hcl hn hrc hroom ⟨Nat.le_refl _, Nat.le_refl _⟩ hW hdg (fun v ce' hp => ?_))
  obtain ⟨r, σ', rfl, rfl, hp⟩ := hp
  exact y_swap (kk r σ' hp)
theorem z_M {index n nLc : Nat} {y : MethodName} {cy : ByteArray} {rc : Room} {P : Int32 → ST → (Nat → Int64) → Prop} {T : u_T} {N9 : Nat} (As : List Value) (h : OkY E k cL_law RL rLaw) (hEv : Ev a2 (kA k) (ks k) (ks k).heap) (cf : CFV RL index y cy nLc (some .int) n) (hM : MI (bTE E a2) y cy nLc (some .int) rc (.ref (aB (bTE E a2) 0) :: As) μ δ P) (hcl : vwCl[7]? = some (y.cls, T, N9)) (hn : As.length = n) (hrc : rc.cells = 0 ∧ rc.slots = 0) (hroom : rc.frames + 1 ≤ rLaw.frames ∧ 8 + (nLc + 11) + rc.locals ≤ rLaw.locals) (hW : (rest.map fun v => v.category).sum ≤ 8) (hdg : decode cL_law pc = .ok (.invokevirtual index, 3))
    (kk : ∀ r μ' δ', P r μ' δ' → Y E k (wTwo E a1 a2 σ μ' δ') 600000 7302250 (pc + 3) L (.int r :: rest)) : Y E k (wTwo E a1 a2 σ μ δ) 600000 7302250 pc L (As.reverse ++ .ref (a2 0) :: rest) := by
  refine y_callV (N := 24) (ga9 := a2) (ce := cM (bTE E a2) μ δ) (wl (GC (bTE E a1)) (cC (bTE E a1) σ)) As 0 h hEv cf hM (by decide) rfl hcl hn hrc hroom ⟨Nat.le_refl _, Nat.le_refl _⟩ hW hdg (fun v ce' hp => ?_)
  obtain ⟨r, μ', δ', rfl, rfl, hp⟩ := hp
  exact kk r μ' δ' hp
end LC
set_option maxRecDepth 100000 in
set_option maxHeartbeats 4000000 in
theorem lc_0 {E : ET} {k : KT} {a1 a2 : Nat → Nat} {b N i : Nat} {xs : Nat → Int32} {σ μ : ST} {δ : Nat → Int64} (hL : okLaw E k a1 a2 b N xs) (hi : i + 6 ≤ N) (hR : Rel σ μ) (fin : ∀ σ' μ' δ', Rel σ' μ' → Y E k (wTwo E a1 a2 σ' μ' δ') 600000 7302250 1546 (lLaw b i a1 a2) []) : Y E k (wTwo E a1 a2 σ μ δ) 600000 7302250 224 (lLaw b i a1 a2) [] := by
  obtain ⟨h, hX, hE1, hE2, hN, hk⟩ := hL
  show Y E k (wTwo E a1 a2 σ μ δ) 600000 7302250 224 [some (.ref b), some (.ref (a1 30)), some (.ref (a2 0)), some (.int (nI i))] []
  refine y_ald1 h dL_law_224 ?_
  refine y_arg (j := 1) (v := 1) h hX rfl rfl (by omega) hN dL_law_225 dL_law_226 dL_law_227 dL_law_228 dL_law_229 ?_
  refine y_arg (j := 2) (v := 2) h hX rfl rfl (by omega) hN dL_law_230 dL_law_231 dL_law_232 dL_law_233 dL_law_234 ?_
  refine y_arg (j := 3) (v := 3) h hX rfl rfl (by omega) hN dL_law_235 dL_law_236 dL_law_237 dL_law_238 dL_law_239 ?_
  refine y_arg (j := 4) (v := 4) h hX rfl rfl (by omega) hN dL_law_240 dL_law_241 dL_law_242 dL_law_243 dL_law_244 ?_
  obtain ⟨P, Q, hC, hM, hPQ⟩ := st_dancer (bTE E a1) (bTE E a2) δ hR (xs (i + 1)) (xs (i + 2)) (xs (i + 3)) (xs (i + 4))
  refine z_C [.int (xs (i + 1)), .int (xs (i + 2)), .int (xs (i + 3)), .int (xs (i + 4))] h hE1 cs_L_13 hC rfl rfl ⟨rfl, rfl⟩ ⟨Nat.le_of_ble_eq_true rfl, Nat.le_of_ble_eq_true rfl⟩ (Nat.le_of_ble_eq_true rfl) dL_law_245 (fun r σ' hp => ?_)
  refine y_ald2 h dL_law_248 ?_
  refine y_arg (j := 1) (v := 1) h hX rfl rfl (by omega) hN dL_law_249 dL_law_250 dL_law_251 dL_law_252 dL_law_253 ?_
  refine y_arg (j := 2) (v := 2) h hX rfl rfl (by omega) hN dL_law_254 dL_law_255 dL_law_256 dL_law_257 dL_law_258 ?_
  refine y_arg (j := 3) (v := 3) h hX rfl rfl (by omega) hN dL_law_259 dL_law_260 dL_law_261 dL_law_262 dL_law_263 ?_
  refine y_arg (j := 4) (v := 4) h hX rfl rfl (by omega) hN dL_law_264 dL_law_265 dL_law_266 dL_law_267 dL_law_268 ?_
  refine z_M [.int (xs (i + 1)), .int (xs (i + 2)), .int (xs (i + 3)), .int (xs (i + 4))] h hE2 cs_L_17 hM rfl rfl ⟨rfl, rfl⟩ ⟨Nat.le_of_ble_eq_true rfl, Nat.le_of_ble_eq_true rfl⟩ (Nat.le_of_ble_eq_true rfl) dL_law_269 (fun r' μ' δ' hq => ?_)
  obtain ⟨e, hR'⟩ := hPQ _ _ _ _ _ hp hq
  subst e
  refine y_icmp_eq 1546 h dL_law_272 rfl (fun _ => ?_) (fun c => absurd rfl c)
  exact fin _ _ _ hR'
set_option maxRecDepth 100000 in
set_option maxHeartbeats 4000000 in
theorem lc_1 {E : ET} {k : KT} {a1 a2 : Nat → Nat} {b N i : Nat} {xs : Nat → Int32} {σ μ : ST} {δ : Nat → Int64} (hL : okLaw E k a1 a2 b N xs) (hi : i + 6 ≤ N) (hR : Rel σ μ) (fin : ∀ σ' μ' δ', Rel σ' μ' → Y E k (wTwo E a1 a2 σ' μ' δ') 600000 7302250 1546 (lLaw b i a1 a2) []) : Y E k (wTwo E a1 a2 σ μ δ) 600000 7302250 277 (lLaw b i a1 a2) [] := by
  obtain ⟨h, hX, hE1, hE2, hN, hk⟩ := hL
  show Y E k (wTwo E a1 a2 σ μ δ) 600000 7302250 277 [some (.ref b), some (.ref (a1 30)), some (.ref (a2 0)), some (.int (nI i))] []
  refine y_ald1 h dL_law_277 ?_
  refine y_arg (j := 1) (v := 1) h hX rfl rfl (by omega) hN dL_law_278 dL_law_279 dL_law_280 dL_law_281 dL_law_282 ?_
  refine y_arg (j := 2) (v := 2) h hX rfl rfl (by omega) hN dL_law_283 dL_law_284 dL_law_285 dL_law_286 dL_law_287 ?_
  obtain ⟨P, Q, hC, hM, hPQ⟩ := st_told (bTE E a1) (bTE E a2) δ hR (xs (i + 1)) (xs (i + 2))
  refine z_C [.int (xs (i + 1)), .int (xs (i + 2))] h hE1 cs_L_18 hC rfl rfl ⟨rfl, rfl⟩ ⟨Nat.le_of_ble_eq_true rfl, Nat.le_of_ble_eq_true rfl⟩ (Nat.le_of_ble_eq_true rfl) dL_law_288 (fun r σ' hp => ?_)
  refine y_ald2 h dL_law_291 ?_
  refine y_arg (j := 1) (v := 1) h hX rfl rfl (by omega) hN dL_law_292 dL_law_293 dL_law_294 dL_law_295 dL_law_296 ?_
  refine y_arg (j := 2) (v := 2) h hX rfl rfl (by omega) hN dL_law_297 dL_law_298 dL_law_299 dL_law_300 dL_law_301 ?_
  refine z_M [.int (xs (i + 1)), .int (xs (i + 2))] h hE2 cs_L_22 hM rfl rfl ⟨rfl, rfl⟩ ⟨Nat.le_of_ble_eq_true rfl, Nat.le_of_ble_eq_true rfl⟩ (Nat.le_of_ble_eq_true rfl) dL_law_302 (fun r' μ' δ' hq => ?_)
  obtain ⟨e, hR'⟩ := hPQ _ _ _ _ _ hp hq
  subst e
  refine y_icmp_eq 1546 h dL_law_305 rfl (fun _ => ?_) (fun c => absurd rfl c)
  exact fin _ _ _ hR'
set_option maxRecDepth 100000 in
set_option maxHeartbeats 4000000 in
theorem lc_2 {E : ET} {k : KT} {a1 a2 : Nat → Nat} {b N i : Nat} {xs : Nat → Int32} {σ μ : ST} {δ : Nat → Int64} (hL : okLaw E k a1 a2 b N xs) (hi : i + 6 ≤ N) (hR : Rel σ μ) (fin : ∀ σ' μ' δ', Rel σ' μ' → Y E k (wTwo E a1 a2 σ' μ' δ') 600000 7302250 1546 (lLaw b i a1 a2) []) : Y E k (wTwo E a1 a2 σ μ δ) 600000 7302250 310 (lLaw b i a1 a2) [] := by
  obtain ⟨h, hX, hE1, hE2, hN, hk⟩ := hL
  show Y E k (wTwo E a1 a2 σ μ δ) 600000 7302250 310 [some (.ref b), some (.ref (a1 30)), some (.ref (a2 0)), some (.int (nI i))] []
  refine y_ald1 h dL_law_310 ?_
  refine y_arg (j := 1) (v := 1) h hX rfl rfl (by omega) hN dL_law_311 dL_law_312 dL_law_313 dL_law_314 dL_law_315 ?_
  refine y_arg (j := 2) (v := 2) h hX rfl rfl (by omega) hN dL_law_316 dL_law_317 dL_law_318 dL_law_319 dL_law_320 ?_
  obtain ⟨P, Q, hC, hM, hPQ⟩ := st_as (bTE E a1) (bTE E a2) δ hR (xs (i + 1)) (xs (i + 2))
  refine z_C [.int (xs (i + 1)), .int (xs (i + 2))] h hE1 cs_L_23 hC rfl rfl ⟨rfl, rfl⟩ ⟨Nat.le_of_ble_eq_true rfl, Nat.le_of_ble_eq_true rfl⟩ (Nat.le_of_ble_eq_true rfl) dL_law_321 (fun r σ' hp => ?_)
  refine y_ald2 h dL_law_324 ?_
  refine y_arg (j := 1) (v := 1) h hX rfl rfl (by omega) hN dL_law_325 dL_law_326 dL_law_327 dL_law_328 dL_law_329 ?_
  refine y_arg (j := 2) (v := 2) h hX rfl rfl (by omega) hN dL_law_330 dL_law_331 dL_law_332 dL_law_333 dL_law_334 ?_
  refine z_M [.int (xs (i + 1)), .int (xs (i + 2))] h hE2 cs_L_26 hM rfl rfl ⟨rfl, rfl⟩ ⟨Nat.le_of_ble_eq_true rfl, Nat.le_of_ble_eq_true rfl⟩ (Nat.le_of_ble_eq_true rfl) dL_law_335 (fun r' μ' δ' hq => ?_)
  obtain ⟨e, hR'⟩ := hPQ _ _ _ _ _ hp hq
  subst e
  refine y_icmp_eq 1546 h dL_law_338 rfl (fun _ => ?_) (fun c => absurd rfl c)
  exact fin _ _ _ hR'
set_option maxRecDepth 100000 in
set_option maxHeartbeats 4000000 in
theorem lc_3 {E : ET} {k : KT} {a1 a2 : Nat → Nat} {b N i : Nat} {xs : Nat → Int32} {σ μ : ST} {δ : Nat → Int64} (hL : okLaw E k a1 a2 b N xs) (hi : i + 6 ≤ N) (hR : Rel σ μ) (fin : ∀ σ' μ' δ', Rel σ' μ' → Y E k (wTwo E a1 a2 σ' μ' δ') 600000 7302250 1546 (lLaw b i a1 a2) []) : Y E k (wTwo E a1 a2 σ μ δ) 600000 7302250 343 (lLaw b i a1 a2) [] := by
  obtain ⟨h, hX, hE1, hE2, hN, hk⟩ := hL
  show Y E k (wTwo E a1 a2 σ μ δ) 600000 7302250 343 [some (.ref b), some (.ref (a1 30)), some (.ref (a2 0)), some (.int (nI i))] []
  refine y_ald1 h dL_law_343 ?_
  refine y_arg (j := 1) (v := 1) h hX rfl rfl (by omega) hN dL_law_344 dL_law_345 dL_law_346 dL_law_347 dL_law_348 ?_
  refine y_arg (j := 2) (v := 2) h hX rfl rfl (by omega) hN dL_law_349 dL_law_350 dL_law_351 dL_law_352 dL_law_353 ?_
  obtain ⟨P, Q, hC, hM, hPQ⟩ := st_turns (bTE E a1) (bTE E a2) δ hR (xs (i + 1)) (xs (i + 2))
  refine z_C [.int (xs (i + 1)), .int (xs (i + 2))] h hE1 cs_L_27 hC rfl rfl ⟨rfl, rfl⟩ ⟨Nat.le_of_ble_eq_true rfl, Nat.le_of_ble_eq_true rfl⟩ (Nat.le_of_ble_eq_true rfl) dL_law_354 (fun r σ' hp => ?_)
  refine y_ald2 h dL_law_357 ?_
  refine y_arg (j := 1) (v := 1) h hX rfl rfl (by omega) hN dL_law_358 dL_law_359 dL_law_360 dL_law_361 dL_law_362 ?_
  refine y_arg (j := 2) (v := 2) h hX rfl rfl (by omega) hN dL_law_363 dL_law_364 dL_law_365 dL_law_366 dL_law_367 ?_
  refine z_M [.int (xs (i + 1)), .int (xs (i + 2))] h hE2 cs_L_30 hM rfl rfl ⟨rfl, rfl⟩ ⟨Nat.le_of_ble_eq_true rfl, Nat.le_of_ble_eq_true rfl⟩ (Nat.le_of_ble_eq_true rfl) dL_law_368 (fun r' μ' δ' hq => ?_)
  obtain ⟨e, hR'⟩ := hPQ _ _ _ _ _ hp hq
  subst e
  refine y_icmp_eq 1546 h dL_law_371 rfl (fun _ => ?_) (fun c => absurd rfl c)
  exact fin _ _ _ hR'
set_option maxRecDepth 100000 in
set_option maxHeartbeats 4000000 in
theorem lc_4 {E : ET} {k : KT} {a1 a2 : Nat → Nat} {b N i : Nat} {xs : Nat → Int32} {σ μ : ST} {δ : Nat → Int64} (hL : okLaw E k a1 a2 b N xs) (hi : i + 6 ≤ N) (hR : Rel σ μ) (fin : ∀ σ' μ' δ', Rel σ' μ' → Y E k (wTwo E a1 a2 σ' μ' δ') 600000 7302250 1546 (lLaw b i a1 a2) []) : Y E k (wTwo E a1 a2 σ μ δ) 600000 7302250 376 (lLaw b i a1 a2) [] := by
  obtain ⟨h, hX, hE1, hE2, hN, hk⟩ := hL
  show Y E k (wTwo E a1 a2 σ μ δ) 600000 7302250 376 [some (.ref b), some (.ref (a1 30)), some (.ref (a2 0)), some (.int (nI i))] []
  refine y_ald1 h dL_law_376 ?_
  refine y_arg (j := 1) (v := 1) h hX rfl rfl (by omega) hN dL_law_377 dL_law_378 dL_law_379 dL_law_380 dL_law_381 ?_
  refine y_arg (j := 2) (v := 2) h hX rfl rfl (by omega) hN dL_law_382 dL_law_383 dL_law_384 dL_law_385 dL_law_386 ?_
  refine y_arg (j := 3) (v := 3) h hX rfl rfl (by omega) hN dL_law_387 dL_law_388 dL_law_389 dL_law_390 dL_law_391 ?_
  obtain ⟨P, Q, hC, hM, hPQ⟩ := st_set (bTE E a1) (bTE E a2) δ hR (xs (i + 1)) (xs (i + 2)) (xs (i + 3))
  refine z_C [.int (xs (i + 1)), .int (xs (i + 2)), .int (xs (i + 3))] h hE1 cs_L_31 hC rfl rfl ⟨rfl, rfl⟩ ⟨Nat.le_of_ble_eq_true rfl, Nat.le_of_ble_eq_true rfl⟩ (Nat.le_of_ble_eq_true rfl) dL_law_392 (fun r σ' hp => ?_)
  refine y_ald2 h dL_law_395 ?_
  refine y_arg (j := 1) (v := 1) h hX rfl rfl (by omega) hN dL_law_396 dL_law_397 dL_law_398 dL_law_399 dL_law_400 ?_
  refine y_arg (j := 2) (v := 2) h hX rfl rfl (by omega) hN dL_law_401 dL_law_402 dL_law_403 dL_law_404 dL_law_405 ?_
  refine y_arg (j := 3) (v := 3) h hX rfl rfl (by omega) hN dL_law_406 dL_law_407 dL_law_408 dL_law_409 dL_law_410 ?_
  refine z_M [.int (xs (i + 1)), .int (xs (i + 2)), .int (xs (i + 3))] h hE2 cs_L_35 hM rfl rfl ⟨rfl, rfl⟩ ⟨Nat.le_of_ble_eq_true rfl, Nat.le_of_ble_eq_true rfl⟩ (Nat.le_of_ble_eq_true rfl) dL_law_411 (fun r' μ' δ' hq => ?_)
  obtain ⟨e, hR'⟩ := hPQ _ _ _ _ _ hp hq
  subst e
  refine y_icmp_eq 1546 h dL_law_414 rfl (fun _ => ?_) (fun c => absurd rfl c)
  exact fin _ _ _ hR'
set_option maxRecDepth 100000 in
set_option maxHeartbeats 4000000 in
theorem lc_5 {E : ET} {k : KT} {a1 a2 : Nat → Nat} {b N i : Nat} {xs : Nat → Int32} {σ μ : ST} {δ : Nat → Int64} (hL : okLaw E k a1 a2 b N xs) (hi : i + 6 ≤ N) (hR : Rel σ μ) (fin : ∀ σ' μ' δ', Rel σ' μ' → Y E k (wTwo E a1 a2 σ' μ' δ') 600000 7302250 1546 (lLaw b i a1 a2) []) : Y E k (wTwo E a1 a2 σ μ δ) 600000 7302250 419 (lLaw b i a1 a2) [] := by
  obtain ⟨h, hX, hE1, hE2, hN, hk⟩ := hL
  show Y E k (wTwo E a1 a2 σ μ δ) 600000 7302250 419 [some (.ref b), some (.ref (a1 30)), some (.ref (a2 0)), some (.int (nI i))] []
  refine y_ald1 h dL_law_419 ?_
  refine y_arg (j := 1) (v := 1) h hX rfl rfl (by omega) hN dL_law_420 dL_law_421 dL_law_422 dL_law_423 dL_law_424 ?_
  refine y_arg (j := 2) (v := 2) h hX rfl rfl (by omega) hN dL_law_425 dL_law_426 dL_law_427 dL_law_428 dL_law_429 ?_
  refine y_arg (j := 3) (v := 3) h hX rfl rfl (by omega) hN dL_law_430 dL_law_431 dL_law_432 dL_law_433 dL_law_434 ?_
  obtain ⟨P, Q, hC, hM, hPQ⟩ := st_room (bTE E a1) (bTE E a2) δ hR (xs (i + 1)) (xs (i + 2)) (xs (i + 3))
  refine z_C [.int (xs (i + 1)), .int (xs (i + 2)), .int (xs (i + 3))] h hE1 cs_L_36 hC rfl rfl ⟨rfl, rfl⟩ ⟨Nat.le_of_ble_eq_true rfl, Nat.le_of_ble_eq_true rfl⟩ (Nat.le_of_ble_eq_true rfl) dL_law_435 (fun r σ' hp => ?_)
  refine y_ald2 h dL_law_438 ?_
  refine y_arg (j := 1) (v := 1) h hX rfl rfl (by omega) hN dL_law_439 dL_law_440 dL_law_441 dL_law_442 dL_law_443 ?_
  refine y_arg (j := 2) (v := 2) h hX rfl rfl (by omega) hN dL_law_444 dL_law_445 dL_law_446 dL_law_447 dL_law_448 ?_
  refine y_arg (j := 3) (v := 3) h hX rfl rfl (by omega) hN dL_law_449 dL_law_450 dL_law_451 dL_law_452 dL_law_453 ?_
  refine z_M [.int (xs (i + 1)), .int (xs (i + 2)), .int (xs (i + 3))] h hE2 cs_L_39 hM rfl rfl ⟨rfl, rfl⟩ ⟨Nat.le_of_ble_eq_true rfl, Nat.le_of_ble_eq_true rfl⟩ (Nat.le_of_ble_eq_true rfl) dL_law_454 (fun r' μ' δ' hq => ?_)
  obtain ⟨e, hR'⟩ := hPQ _ _ _ _ _ hp hq
  subst e
  refine y_icmp_eq 1546 h dL_law_457 rfl (fun _ => ?_) (fun c => absurd rfl c)
  exact fin _ _ _ hR'
set_option maxRecDepth 100000 in
set_option maxHeartbeats 4000000 in
theorem lc_6 {E : ET} {k : KT} {a1 a2 : Nat → Nat} {b N i : Nat} {xs : Nat → Int32} {σ μ : ST} {δ : Nat → Int64} (hL : okLaw E k a1 a2 b N xs) (hi : i + 6 ≤ N) (hR : Rel σ μ) (fin : ∀ σ' μ' δ', Rel σ' μ' → Y E k (wTwo E a1 a2 σ' μ' δ') 600000 7302250 1546 (lLaw b i a1 a2) []) : Y E k (wTwo E a1 a2 σ μ δ) 600000 7302250 462 (lLaw b i a1 a2) [] := by
  obtain ⟨h, hX, hE1, hE2, hN, hk⟩ := hL
  show Y E k (wTwo E a1 a2 σ μ δ) 600000 7302250 462 [some (.ref b), some (.ref (a1 30)), some (.ref (a2 0)), some (.int (nI i))] []
  refine y_ald1 h dL_law_462 ?_
  refine y_arg (j := 1) (v := 1) h hX rfl rfl (by omega) hN dL_law_463 dL_law_464 dL_law_465 dL_law_466 dL_law_467 ?_
  obtain ⟨P, Q, hC, hM, hPQ⟩ := st_sweep (bTE E a1) (bTE E a2) δ hR (xs (i + 1))
  refine z_C [.int (xs (i + 1))] h hE1 cs_L_40 hC rfl rfl ⟨rfl, rfl⟩ ⟨Nat.le_of_ble_eq_true rfl, Nat.le_of_ble_eq_true rfl⟩ (Nat.le_of_ble_eq_true rfl) dL_law_468 (fun r σ' hp => ?_)
  refine y_ald2 h dL_law_471 ?_
  refine y_arg (j := 1) (v := 1) h hX rfl rfl (by omega) hN dL_law_472 dL_law_473 dL_law_474 dL_law_475 dL_law_476 ?_
  refine z_M [.int (xs (i + 1))] h hE2 cs_L_44 hM rfl rfl ⟨rfl, rfl⟩ ⟨Nat.le_of_ble_eq_true rfl, Nat.le_of_ble_eq_true rfl⟩ (Nat.le_of_ble_eq_true rfl) dL_law_477 (fun r' μ' δ' hq => ?_)
  obtain ⟨e, hR'⟩ := hPQ _ _ _ _ _ hp hq
  subst e
  refine y_icmp_eq 1546 h dL_law_480 rfl (fun _ => ?_) (fun c => absurd rfl c)
  exact fin _ _ _ hR'
set_option maxRecDepth 100000 in
set_option maxHeartbeats 4000000 in
theorem lc_7 {E : ET} {k : KT} {a1 a2 : Nat → Nat} {b N i : Nat} {xs : Nat → Int32} {σ μ : ST} {δ : Nat → Int64} (hL : okLaw E k a1 a2 b N xs) (hi : i + 6 ≤ N) (hR : Rel σ μ) (fin : ∀ σ' μ' δ', Rel σ' μ' → Y E k (wTwo E a1 a2 σ' μ' δ') 600000 7302250 1546 (lLaw b i a1 a2) []) : Y E k (wTwo E a1 a2 σ μ δ) 600000 7302250 485 (lLaw b i a1 a2) [] := by
  obtain ⟨h, hX, hE1, hE2, hN, hk⟩ := hL
  show Y E k (wTwo E a1 a2 σ μ δ) 600000 7302250 485 [some (.ref b), some (.ref (a1 30)), some (.ref (a2 0)), some (.int (nI i))] []
  refine y_ald1 h dL_law_485 ?_
  refine y_arg (j := 1) (v := 1) h hX rfl rfl (by omega) hN dL_law_486 dL_law_487 dL_law_488 dL_law_489 dL_law_490 ?_
  obtain ⟨P, Q, hC, hM, hPQ⟩ := st_watch (bTE E a1) (bTE E a2) δ hR (xs (i + 1))
  refine z_C [.int (xs (i + 1))] h hE1 cs_L_45 hC rfl rfl ⟨rfl, rfl⟩ ⟨Nat.le_of_ble_eq_true rfl, Nat.le_of_ble_eq_true rfl⟩ (Nat.le_of_ble_eq_true rfl) dL_law_491 (fun r σ' hp => ?_)
  refine y_ald2 h dL_law_494 ?_
  refine y_arg (j := 1) (v := 1) h hX rfl rfl (by omega) hN dL_law_495 dL_law_496 dL_law_497 dL_law_498 dL_law_499 ?_
  refine z_M [.int (xs (i + 1))] h hE2 cs_L_48 hM rfl rfl ⟨rfl, rfl⟩ ⟨Nat.le_of_ble_eq_true rfl, Nat.le_of_ble_eq_true rfl⟩ (Nat.le_of_ble_eq_true rfl) dL_law_500 (fun r' μ' δ' hq => ?_)
  obtain ⟨e, hR'⟩ := hPQ _ _ _ _ _ hp hq
  subst e
  refine y_icmp_eq 1546 h dL_law_503 rfl (fun _ => ?_) (fun c => absurd rfl c)
  exact fin _ _ _ hR'
set_option maxRecDepth 100000 in
set_option maxHeartbeats 4000000 in
theorem lc_8 {E : ET} {k : KT} {a1 a2 : Nat → Nat} {b N i : Nat} {xs : Nat → Int32} {σ μ : ST} {δ : Nat → Int64} (hL : okLaw E k a1 a2 b N xs) (hi : i + 6 ≤ N) (hR : Rel σ μ) (fin : ∀ σ' μ' δ', Rel σ' μ' → Y E k (wTwo E a1 a2 σ' μ' δ') 600000 7302250 1546 (lLaw b i a1 a2) []) : Y E k (wTwo E a1 a2 σ μ δ) 600000 7302250 508 (lLaw b i a1 a2) [] := by
  obtain ⟨h, hX, hE1, hE2, hN, hk⟩ := hL
  show Y E k (wTwo E a1 a2 σ μ δ) 600000 7302250 508 [some (.ref b), some (.ref (a1 30)), some (.ref (a2 0)), some (.int (nI i))] []
  refine y_ald1 h dL_law_508 ?_
  refine y_arg (j := 1) (v := 1) h hX rfl rfl (by omega) hN dL_law_509 dL_law_510 dL_law_511 dL_law_512 dL_law_513 ?_
  obtain ⟨P, Q, hC, hM, hPQ⟩ := st_at (bTE E a1) (bTE E a2) δ hR (xs (i + 1))
  refine z_C [.int (xs (i + 1))] h hE1 cs_L_49 hC rfl rfl ⟨rfl, rfl⟩ ⟨Nat.le_of_ble_eq_true rfl, Nat.le_of_ble_eq_true rfl⟩ (Nat.le_of_ble_eq_true rfl) dL_law_514 (fun r σ' hp => ?_)
  refine y_ald2 h dL_law_517 ?_
  refine y_arg (j := 1) (v := 1) h hX rfl rfl (by omega) hN dL_law_518 dL_law_519 dL_law_520 dL_law_521 dL_law_522 ?_
  refine z_M [.int (xs (i + 1))] h hE2 cs_L_52 hM rfl rfl ⟨rfl, rfl⟩ ⟨Nat.le_of_ble_eq_true rfl, Nat.le_of_ble_eq_true rfl⟩ (Nat.le_of_ble_eq_true rfl) dL_law_523 (fun r' μ' δ' hq => ?_)
  obtain ⟨e, hR'⟩ := hPQ _ _ _ _ _ hp hq
  subst e
  refine y_icmp_eq 1546 h dL_law_526 rfl (fun _ => ?_) (fun c => absurd rfl c)
  exact fin _ _ _ hR'
set_option maxRecDepth 100000 in
set_option maxHeartbeats 4000000 in
theorem lc_9 {E : ET} {k : KT} {a1 a2 : Nat → Nat} {b N i : Nat} {xs : Nat → Int32} {σ μ : ST} {δ : Nat → Int64} (hL : okLaw E k a1 a2 b N xs) (hi : i + 6 ≤ N) (hR : Rel σ μ) (fin : ∀ σ' μ' δ', Rel σ' μ' → Y E k (wTwo E a1 a2 σ' μ' δ') 600000 7302250 1546 (lLaw b i a1 a2) []) : Y E k (wTwo E a1 a2 σ μ δ) 600000 7302250 531 (lLaw b i a1 a2) [] := by
  obtain ⟨h, hX, hE1, hE2, hN, hk⟩ := hL
  show Y E k (wTwo E a1 a2 σ μ δ) 600000 7302250 531 [some (.ref b), some (.ref (a1 30)), some (.ref (a2 0)), some (.int (nI i))] []
  refine y_ald1 h dL_law_531 ?_
  refine y_arg (j := 1) (v := 1) h hX rfl rfl (by omega) hN dL_law_532 dL_law_533 dL_law_534 dL_law_535 dL_law_536 ?_
  obtain ⟨P, Q, hC, hM, hPQ⟩ := st_round (bTE E a1) (bTE E a2) δ hR (xs (i + 1))
  refine z_C [.int (xs (i + 1))] h hE1 cs_L_53 hC rfl rfl ⟨rfl, rfl⟩ ⟨Nat.le_of_ble_eq_true rfl, Nat.le_of_ble_eq_true rfl⟩ (Nat.le_of_ble_eq_true rfl) dL_law_537 (fun r σ' hp => ?_)
  refine y_ald2 h dL_law_540 ?_
  refine y_arg (j := 1) (v := 1) h hX rfl rfl (by omega) hN dL_law_541 dL_law_542 dL_law_543 dL_law_544 dL_law_545 ?_
  refine z_M [.int (xs (i + 1))] h hE2 cs_L_56 hM rfl rfl ⟨rfl, rfl⟩ ⟨Nat.le_of_ble_eq_true rfl, Nat.le_of_ble_eq_true rfl⟩ (Nat.le_of_ble_eq_true rfl) dL_law_546 (fun r' μ' δ' hq => ?_)
  obtain ⟨e, hR'⟩ := hPQ _ _ _ _ _ hp hq
  subst e
  refine y_icmp_eq 1546 h dL_law_549 rfl (fun _ => ?_) (fun c => absurd rfl c)
  exact fin _ _ _ hR'
set_option maxRecDepth 100000 in
set_option maxHeartbeats 4000000 in
theorem lc_10 {E : ET} {k : KT} {a1 a2 : Nat → Nat} {b N i : Nat} {xs : Nat → Int32} {σ μ : ST} {δ : Nat → Int64} (hL : okLaw E k a1 a2 b N xs) (hi : i + 6 ≤ N) (hR : Rel σ μ) (fin : ∀ σ' μ' δ', Rel σ' μ' → Y E k (wTwo E a1 a2 σ' μ' δ') 600000 7302250 1546 (lLaw b i a1 a2) []) : Y E k (wTwo E a1 a2 σ μ δ) 600000 7302250 554 (lLaw b i a1 a2) [] := by
  obtain ⟨h, hX, hE1, hE2, hN, hk⟩ := hL
  show Y E k (wTwo E a1 a2 σ μ δ) 600000 7302250 554 [some (.ref b), some (.ref (a1 30)), some (.ref (a2 0)), some (.int (nI i))] []
  refine y_ald1 h dL_law_554 ?_
  refine y_arg (j := 1) (v := 1) h hX rfl rfl (by omega) hN dL_law_555 dL_law_556 dL_law_557 dL_law_558 dL_law_559 ?_
  refine y_arg (j := 2) (v := 2) h hX rfl rfl (by omega) hN dL_law_560 dL_law_561 dL_law_562 dL_law_563 dL_law_564 ?_
  obtain ⟨P, Q, hC, hM, hPQ⟩ := st_to (bTE E a1) (bTE E a2) δ hR (xs (i + 1)) (xs (i + 2))
  refine z_C [.int (xs (i + 1)), .int (xs (i + 2))] h hE1 cs_L_57 hC rfl rfl ⟨rfl, rfl⟩ ⟨Nat.le_of_ble_eq_true rfl, Nat.le_of_ble_eq_true rfl⟩ (Nat.le_of_ble_eq_true rfl) dL_law_565 (fun r σ' hp => ?_)
  refine y_ald2 h dL_law_568 ?_
  refine y_arg (j := 1) (v := 1) h hX rfl rfl (by omega) hN dL_law_569 dL_law_570 dL_law_571 dL_law_572 dL_law_573 ?_
  refine y_arg (j := 2) (v := 2) h hX rfl rfl (by omega) hN dL_law_574 dL_law_575 dL_law_576 dL_law_577 dL_law_578 ?_
  refine z_M [.int (xs (i + 1)), .int (xs (i + 2))] h hE2 cs_L_60 hM rfl rfl ⟨rfl, rfl⟩ ⟨Nat.le_of_ble_eq_true rfl, Nat.le_of_ble_eq_true rfl⟩ (Nat.le_of_ble_eq_true rfl) dL_law_579 (fun r' μ' δ' hq => ?_)
  obtain ⟨e, hR'⟩ := hPQ _ _ _ _ _ hp hq
  subst e
  refine y_icmp_eq 1546 h dL_law_582 rfl (fun _ => ?_) (fun c => absurd rfl c)
  exact fin _ _ _ hR'
set_option maxRecDepth 100000 in
set_option maxHeartbeats 4000000 in
theorem lc_11 {E : ET} {k : KT} {a1 a2 : Nat → Nat} {b N i : Nat} {xs : Nat → Int32} {σ μ : ST} {δ : Nat → Int64} (hL : okLaw E k a1 a2 b N xs) (hi : i + 6 ≤ N) (hR : Rel σ μ) (fin : ∀ σ' μ' δ', Rel σ' μ' → Y E k (wTwo E a1 a2 σ' μ' δ') 600000 7302250 1546 (lLaw b i a1 a2) []) : Y E k (wTwo E a1 a2 σ μ δ) 600000 7302250 587 (lLaw b i a1 a2) [] := by
  obtain ⟨h, hX, hE1, hE2, hN, hk⟩ := hL
  show Y E k (wTwo E a1 a2 σ μ δ) 600000 7302250 587 [some (.ref b), some (.ref (a1 30)), some (.ref (a2 0)), some (.int (nI i))] []
  refine y_ald1 h dL_law_587 ?_
  refine y_arg (j := 1) (v := 1) h hX rfl rfl (by omega) hN dL_law_588 dL_law_589 dL_law_590 dL_law_591 dL_law_592 ?_
  obtain ⟨P, Q, hC, hM, hPQ⟩ := st_deal (bTE E a1) (bTE E a2) δ hR (xs (i + 1))
  refine z_C [.int (xs (i + 1))] h hE1 cs_L_61 hC rfl rfl ⟨rfl, rfl⟩ ⟨Nat.le_of_ble_eq_true rfl, Nat.le_of_ble_eq_true rfl⟩ (Nat.le_of_ble_eq_true rfl) dL_law_593 (fun r σ' hp => ?_)
  refine y_ald2 h dL_law_596 ?_
  refine y_arg (j := 1) (v := 1) h hX rfl rfl (by omega) hN dL_law_597 dL_law_598 dL_law_599 dL_law_600 dL_law_601 ?_
  refine z_M [.int (xs (i + 1))] h hE2 cs_L_64 hM rfl rfl ⟨rfl, rfl⟩ ⟨Nat.le_of_ble_eq_true rfl, Nat.le_of_ble_eq_true rfl⟩ (Nat.le_of_ble_eq_true rfl) dL_law_602 (fun r' μ' δ' hq => ?_)
  obtain ⟨e, hR'⟩ := hPQ _ _ _ _ _ hp hq
  subst e
  refine y_icmp_eq 1546 h dL_law_605 rfl (fun _ => ?_) (fun c => absurd rfl c)
  exact fin _ _ _ hR'
set_option maxRecDepth 100000 in
set_option maxHeartbeats 4000000 in
theorem lc_12 {E : ET} {k : KT} {a1 a2 : Nat → Nat} {b N i : Nat} {xs : Nat → Int32} {σ μ : ST} {δ : Nat → Int64} (hL : okLaw E k a1 a2 b N xs) (hi : i + 6 ≤ N) (hR : Rel σ μ) (fin : ∀ σ' μ' δ', Rel σ' μ' → Y E k (wTwo E a1 a2 σ' μ' δ') 600000 7302250 1546 (lLaw b i a1 a2) []) : Y E k (wTwo E a1 a2 σ μ δ) 600000 7302250 610 (lLaw b i a1 a2) [] := by
  obtain ⟨h, hX, hE1, hE2, hN, hk⟩ := hL
  show Y E k (wTwo E a1 a2 σ μ δ) 600000 7302250 610 [some (.ref b), some (.ref (a1 30)), some (.ref (a2 0)), some (.int (nI i))] []
  refine y_ald1 h dL_law_610 ?_
  refine y_arg (j := 1) (v := 1) h hX rfl rfl (by omega) hN dL_law_611 dL_law_612 dL_law_613 dL_law_614 dL_law_615 ?_
  obtain ⟨P, Q, hC, hM, hPQ⟩ := st_seed (bTE E a1) (bTE E a2) δ hR (xs (i + 1))
  refine z_C [.int (xs (i + 1))] h hE1 cs_L_65 hC rfl rfl ⟨rfl, rfl⟩ ⟨Nat.le_of_ble_eq_true rfl, Nat.le_of_ble_eq_true rfl⟩ (Nat.le_of_ble_eq_true rfl) dL_law_616 (fun r σ' hp => ?_)
  refine y_ald2 h dL_law_619 ?_
  refine y_arg (j := 1) (v := 1) h hX rfl rfl (by omega) hN dL_law_620 dL_law_621 dL_law_622 dL_law_623 dL_law_624 ?_
  refine z_M [.int (xs (i + 1))] h hE2 cs_L_68 hM rfl rfl ⟨rfl, rfl⟩ ⟨Nat.le_of_ble_eq_true rfl, Nat.le_of_ble_eq_true rfl⟩ (Nat.le_of_ble_eq_true rfl) dL_law_625 (fun r' μ' δ' hq => ?_)
  obtain ⟨e, hR'⟩ := hPQ _ _ _ _ _ hp hq
  subst e
  refine y_icmp_eq 1546 h dL_law_628 rfl (fun _ => ?_) (fun c => absurd rfl c)
  exact fin _ _ _ hR'
set_option maxRecDepth 100000 in
set_option maxHeartbeats 4000000 in
theorem lc_13 {E : ET} {k : KT} {a1 a2 : Nat → Nat} {b N i : Nat} {xs : Nat → Int32} {σ μ : ST} {δ : Nat → Int64} (hL : okLaw E k a1 a2 b N xs) (hi : i + 6 ≤ N) (hR : Rel σ μ) (fin : ∀ σ' μ' δ', Rel σ' μ' → Y E k (wTwo E a1 a2 σ' μ' δ') 600000 7302250 1546 (lLaw b i a1 a2) []) : Y E k (wTwo E a1 a2 σ μ δ) 600000 7302250 633 (lLaw b i a1 a2) [] := by
  obtain ⟨h, hX, hE1, hE2, hN, hk⟩ := hL
  show Y E k (wTwo E a1 a2 σ μ δ) 600000 7302250 633 [some (.ref b), some (.ref (a1 30)), some (.ref (a2 0)), some (.int (nI i))] []
  refine y_ald1 h dL_law_633 ?_
  refine y_arg (j := 1) (v := 1) h hX rfl rfl (by omega) hN dL_law_634 dL_law_635 dL_law_636 dL_law_637 dL_law_638 ?_
  obtain ⟨P, Q, hC, hM, hPQ⟩ := st_hours (bTE E a1) (bTE E a2) δ hR (xs (i + 1))
  refine z_C [.int (xs (i + 1))] h hE1 cs_L_69 hC rfl rfl ⟨rfl, rfl⟩ ⟨Nat.le_of_ble_eq_true rfl, Nat.le_of_ble_eq_true rfl⟩ (Nat.le_of_ble_eq_true rfl) dL_law_639 (fun r σ' hp => ?_)
  refine y_ald2 h dL_law_642 ?_
  refine y_arg (j := 1) (v := 1) h hX rfl rfl (by omega) hN dL_law_643 dL_law_644 dL_law_645 dL_law_646 dL_law_647 ?_
  refine z_M [.int (xs (i + 1))] h hE2 cs_L_72 hM rfl rfl ⟨rfl, rfl⟩ ⟨Nat.le_of_ble_eq_true rfl, Nat.le_of_ble_eq_true rfl⟩ (Nat.le_of_ble_eq_true rfl) dL_law_648 (fun r' μ' δ' hq => ?_)
  obtain ⟨e, hR'⟩ := hPQ _ _ _ _ _ hp hq
  subst e
  refine y_icmp_eq 1546 h dL_law_651 rfl (fun _ => ?_) (fun c => absurd rfl c)
  exact fin _ _ _ hR'
set_option maxRecDepth 100000 in
set_option maxHeartbeats 4000000 in
theorem lc_14 {E : ET} {k : KT} {a1 a2 : Nat → Nat} {b N i : Nat} {xs : Nat → Int32} {σ μ : ST} {δ : Nat → Int64} (hL : okLaw E k a1 a2 b N xs) (hi : i + 6 ≤ N) (hR : Rel σ μ) (fin : ∀ σ' μ' δ', Rel σ' μ' → Y E k (wTwo E a1 a2 σ' μ' δ') 600000 7302250 1546 (lLaw b i a1 a2) []) : Y E k (wTwo E a1 a2 σ μ δ) 600000 7302250 656 (lLaw b i a1 a2) [] := by
  obtain ⟨h, hX, hE1, hE2, hN, hk⟩ := hL
  show Y E k (wTwo E a1 a2 σ μ δ) 600000 7302250 656 [some (.ref b), some (.ref (a1 30)), some (.ref (a2 0)), some (.int (nI i))] []
  refine y_ald1 h dL_law_656 ?_
  refine y_arg (j := 1) (v := 1) h hX rfl rfl (by omega) hN dL_law_657 dL_law_658 dL_law_659 dL_law_660 dL_law_661 ?_
  obtain ⟨P, Q, hC, hM, hPQ⟩ := st_house (bTE E a1) (bTE E a2) δ hR (xs (i + 1))
  refine z_C [.int (xs (i + 1))] h hE1 cs_L_73 hC rfl rfl ⟨rfl, rfl⟩ ⟨Nat.le_of_ble_eq_true rfl, Nat.le_of_ble_eq_true rfl⟩ (Nat.le_of_ble_eq_true rfl) dL_law_662 (fun r σ' hp => ?_)
  refine y_ald2 h dL_law_665 ?_
  refine y_arg (j := 1) (v := 1) h hX rfl rfl (by omega) hN dL_law_666 dL_law_667 dL_law_668 dL_law_669 dL_law_670 ?_
  refine z_M [.int (xs (i + 1))] h hE2 cs_L_76 hM rfl rfl ⟨rfl, rfl⟩ ⟨Nat.le_of_ble_eq_true rfl, Nat.le_of_ble_eq_true rfl⟩ (Nat.le_of_ble_eq_true rfl) dL_law_671 (fun r' μ' δ' hq => ?_)
  obtain ⟨e, hR'⟩ := hPQ _ _ _ _ _ hp hq
  subst e
  refine y_icmp_eq 1546 h dL_law_674 rfl (fun _ => ?_) (fun c => absurd rfl c)
  exact fin _ _ _ hR'
set_option maxRecDepth 100000 in
set_option maxHeartbeats 4000000 in
theorem lc_15 {E : ET} {k : KT} {a1 a2 : Nat → Nat} {b N i : Nat} {xs : Nat → Int32} {σ μ : ST} {δ : Nat → Int64} (hL : okLaw E k a1 a2 b N xs) (hi : i + 6 ≤ N) (hR : Rel σ μ) (fin : ∀ σ' μ' δ', Rel σ' μ' → Y E k (wTwo E a1 a2 σ' μ' δ') 600000 7302250 1546 (lLaw b i a1 a2) []) : Y E k (wTwo E a1 a2 σ μ δ) 600000 7302250 679 (lLaw b i a1 a2) [] := by
  obtain ⟨h, hX, hE1, hE2, hN, hk⟩ := hL
  show Y E k (wTwo E a1 a2 σ μ δ) 600000 7302250 679 [some (.ref b), some (.ref (a1 30)), some (.ref (a2 0)), some (.int (nI i))] []
  refine y_ald1 h dL_law_679 ?_
  refine y_arg (j := 1) (v := 1) h hX rfl rfl (by omega) hN dL_law_680 dL_law_681 dL_law_682 dL_law_683 dL_law_684 ?_
  refine y_arg (j := 2) (v := 2) h hX rfl rfl (by omega) hN dL_law_685 dL_law_686 dL_law_687 dL_law_688 dL_law_689 ?_
  obtain ⟨P, Q, hC, hM, hPQ⟩ := st_behind (bTE E a1) (bTE E a2) δ hR (xs (i + 1)) (xs (i + 2))
  refine z_C [.int (xs (i + 1)), .int (xs (i + 2))] h hE1 cs_L_77 hC rfl rfl ⟨rfl, rfl⟩ ⟨Nat.le_of_ble_eq_true rfl, Nat.le_of_ble_eq_true rfl⟩ (Nat.le_of_ble_eq_true rfl) dL_law_690 (fun r σ' hp => ?_)
  refine y_ald2 h dL_law_693 ?_
  refine y_arg (j := 1) (v := 1) h hX rfl rfl (by omega) hN dL_law_694 dL_law_695 dL_law_696 dL_law_697 dL_law_698 ?_
  refine y_arg (j := 2) (v := 2) h hX rfl rfl (by omega) hN dL_law_699 dL_law_700 dL_law_701 dL_law_702 dL_law_703 ?_
  refine z_M [.int (xs (i + 1)), .int (xs (i + 2))] h hE2 cs_L_80 hM rfl rfl ⟨rfl, rfl⟩ ⟨Nat.le_of_ble_eq_true rfl, Nat.le_of_ble_eq_true rfl⟩ (Nat.le_of_ble_eq_true rfl) dL_law_704 (fun r' μ' δ' hq => ?_)
  obtain ⟨e, hR'⟩ := hPQ _ _ _ _ _ hp hq
  subst e
  refine y_icmp_eq 1546 h dL_law_707 rfl (fun _ => ?_) (fun c => absurd rfl c)
  exact fin _ _ _ hR'
set_option maxRecDepth 100000 in
set_option maxHeartbeats 4000000 in
theorem lc_16 {E : ET} {k : KT} {a1 a2 : Nat → Nat} {b N i : Nat} {xs : Nat → Int32} {σ μ : ST} {δ : Nat → Int64} (hL : okLaw E k a1 a2 b N xs) (hi : i + 6 ≤ N) (hR : Rel σ μ) (fin : ∀ σ' μ' δ', Rel σ' μ' → Y E k (wTwo E a1 a2 σ' μ' δ') 600000 7302250 1546 (lLaw b i a1 a2) []) : Y E k (wTwo E a1 a2 σ μ δ) 600000 7302250 712 (lLaw b i a1 a2) [] := by
  obtain ⟨h, hX, hE1, hE2, hN, hk⟩ := hL
  show Y E k (wTwo E a1 a2 σ μ δ) 600000 7302250 712 [some (.ref b), some (.ref (a1 30)), some (.ref (a2 0)), some (.int (nI i))] []
  refine y_ald1 h dL_law_712 ?_
  obtain ⟨P, Q, hC, hM, hPQ⟩ := st_through (bTE E a1) (bTE E a2) δ hR 
  refine z_C [] h hE1 cs_L_81 hC rfl rfl ⟨rfl, rfl⟩ ⟨Nat.le_of_ble_eq_true rfl, Nat.le_of_ble_eq_true rfl⟩ (Nat.le_of_ble_eq_true rfl) dL_law_713 (fun r σ' hp => ?_)
  refine y_ald2 h dL_law_716 ?_
  refine z_M [] h hE2 cs_L_85 hM rfl rfl ⟨rfl, rfl⟩ ⟨Nat.le_of_ble_eq_true rfl, Nat.le_of_ble_eq_true rfl⟩ (Nat.le_of_ble_eq_true rfl) dL_law_717 (fun r' μ' δ' hq => ?_)
  obtain ⟨e, hR'⟩ := hPQ _ _ _ _ _ hp hq
  subst e
  refine y_icmp_eq 1546 h dL_law_720 rfl (fun _ => ?_) (fun c => absurd rfl c)
  exact fin _ _ _ hR'
set_option maxRecDepth 100000 in
set_option maxHeartbeats 4000000 in
theorem lc_17 {E : ET} {k : KT} {a1 a2 : Nat → Nat} {b N i : Nat} {xs : Nat → Int32} {σ μ : ST} {δ : Nat → Int64} (hL : okLaw E k a1 a2 b N xs) (hi : i + 6 ≤ N) (hR : Rel σ μ) (fin : ∀ σ' μ' δ', Rel σ' μ' → Y E k (wTwo E a1 a2 σ' μ' δ') 600000 7302250 1546 (lLaw b i a1 a2) []) : Y E k (wTwo E a1 a2 σ μ δ) 600000 7302250 725 (lLaw b i a1 a2) [] := by
  obtain ⟨h, hX, hE1, hE2, hN, hk⟩ := hL
  show Y E k (wTwo E a1 a2 σ μ δ) 600000 7302250 725 [some (.ref b), some (.ref (a1 30)), some (.ref (a2 0)), some (.int (nI i))] []
  refine y_ald1 h dL_law_725 ?_
  refine y_arg (j := 1) (v := 1) h hX rfl rfl (by omega) hN dL_law_726 dL_law_727 dL_law_728 dL_law_729 dL_law_730 ?_
  refine y_arg (j := 2) (v := 2) h hX rfl rfl (by omega) hN dL_law_731 dL_law_732 dL_law_733 dL_law_734 dL_law_735 ?_
  obtain ⟨P, Q, hC, hM, hPQ⟩ := st_post (bTE E a1) (bTE E a2) δ hR (xs (i + 1)) (xs (i + 2))
  refine z_C [.int (xs (i + 1)), .int (xs (i + 2))] h hE1 cs_L_86 hC rfl rfl ⟨rfl, rfl⟩ ⟨Nat.le_of_ble_eq_true rfl, Nat.le_of_ble_eq_true rfl⟩ (Nat.le_of_ble_eq_true rfl) dL_law_736 (fun r σ' hp => ?_)
  refine y_ald2 h dL_law_739 ?_
  refine y_arg (j := 1) (v := 1) h hX rfl rfl (by omega) hN dL_law_740 dL_law_741 dL_law_742 dL_law_743 dL_law_744 ?_
  refine y_arg (j := 2) (v := 2) h hX rfl rfl (by omega) hN dL_law_745 dL_law_746 dL_law_747 dL_law_748 dL_law_749 ?_
  refine z_M [.int (xs (i + 1)), .int (xs (i + 2))] h hE2 cs_L_89 hM rfl rfl ⟨rfl, rfl⟩ ⟨Nat.le_of_ble_eq_true rfl, Nat.le_of_ble_eq_true rfl⟩ (Nat.le_of_ble_eq_true rfl) dL_law_750 (fun r' μ' δ' hq => ?_)
  obtain ⟨e, hR'⟩ := hPQ _ _ _ _ _ hp hq
  subst e
  refine y_icmp_eq 1546 h dL_law_753 rfl (fun _ => ?_) (fun c => absurd rfl c)
  exact fin _ _ _ hR'
set_option maxRecDepth 100000 in
set_option maxHeartbeats 4000000 in
theorem lc_18 {E : ET} {k : KT} {a1 a2 : Nat → Nat} {b N i : Nat} {xs : Nat → Int32} {σ μ : ST} {δ : Nat → Int64} (hL : okLaw E k a1 a2 b N xs) (hi : i + 6 ≤ N) (hR : Rel σ μ) (fin : ∀ σ' μ' δ', Rel σ' μ' → Y E k (wTwo E a1 a2 σ' μ' δ') 600000 7302250 1546 (lLaw b i a1 a2) []) : Y E k (wTwo E a1 a2 σ μ δ) 600000 7302250 758 (lLaw b i a1 a2) [] := by
  obtain ⟨h, hX, hE1, hE2, hN, hk⟩ := hL
  show Y E k (wTwo E a1 a2 σ μ δ) 600000 7302250 758 [some (.ref b), some (.ref (a1 30)), some (.ref (a2 0)), some (.int (nI i))] []
  refine y_ald1 h dL_law_758 ?_
  refine y_arg (j := 1) (v := 1) h hX rfl rfl (by omega) hN dL_law_759 dL_law_760 dL_law_761 dL_law_762 dL_law_763 ?_
  refine y_arg (j := 2) (v := 2) h hX rfl rfl (by omega) hN dL_law_764 dL_law_765 dL_law_766 dL_law_767 dL_law_768 ?_
  obtain ⟨P, Q, hC, hM, hPQ⟩ := st_began (bTE E a1) (bTE E a2) δ hR (xs (i + 1)) (xs (i + 2))
  refine z_C [.int (xs (i + 1)), .int (xs (i + 2))] h hE1 cs_L_90 hC rfl rfl ⟨rfl, rfl⟩ ⟨Nat.le_of_ble_eq_true rfl, Nat.le_of_ble_eq_true rfl⟩ (Nat.le_of_ble_eq_true rfl) dL_law_769 (fun r σ' hp => ?_)
  refine y_ald2 h dL_law_772 ?_
  refine y_arg (j := 1) (v := 1) h hX rfl rfl (by omega) hN dL_law_773 dL_law_774 dL_law_775 dL_law_776 dL_law_777 ?_
  refine y_arg (j := 2) (v := 2) h hX rfl rfl (by omega) hN dL_law_778 dL_law_779 dL_law_780 dL_law_781 dL_law_782 ?_
  refine z_M [.int (xs (i + 1)), .int (xs (i + 2))] h hE2 cs_L_93 hM rfl rfl ⟨rfl, rfl⟩ ⟨Nat.le_of_ble_eq_true rfl, Nat.le_of_ble_eq_true rfl⟩ (Nat.le_of_ble_eq_true rfl) dL_law_783 (fun r' μ' δ' hq => ?_)
  obtain ⟨e, hR'⟩ := hPQ _ _ _ _ _ hp hq
  subst e
  refine y_icmp_eq 1546 h dL_law_786 rfl (fun _ => ?_) (fun c => absurd rfl c)
  exact fin _ _ _ hR'
set_option maxRecDepth 100000 in
set_option maxHeartbeats 4000000 in
theorem lc_19 {E : ET} {k : KT} {a1 a2 : Nat → Nat} {b N i : Nat} {xs : Nat → Int32} {σ μ : ST} {δ : Nat → Int64} (hL : okLaw E k a1 a2 b N xs) (hi : i + 6 ≤ N) (hR : Rel σ μ) (fin : ∀ σ' μ' δ', Rel σ' μ' → Y E k (wTwo E a1 a2 σ' μ' δ') 600000 7302250 1546 (lLaw b i a1 a2) []) : Y E k (wTwo E a1 a2 σ μ δ) 600000 7302250 791 (lLaw b i a1 a2) [] := by
  obtain ⟨h, hX, hE1, hE2, hN, hk⟩ := hL
  show Y E k (wTwo E a1 a2 σ μ δ) 600000 7302250 791 [some (.ref b), some (.ref (a1 30)), some (.ref (a2 0)), some (.int (nI i))] []
  refine y_ald1 h dL_law_791 ?_
  refine y_arg (j := 1) (v := 1) h hX rfl rfl (by omega) hN dL_law_792 dL_law_793 dL_law_794 dL_law_795 dL_law_796 ?_
  refine y_arg (j := 2) (v := 2) h hX rfl rfl (by omega) hN dL_law_797 dL_law_798 dL_law_799 dL_law_800 dL_law_801 ?_
  obtain ⟨P, Q, hC, hM, hPQ⟩ := st_mended (bTE E a1) (bTE E a2) δ hR (xs (i + 1)) (xs (i + 2))
  refine z_C [.int (xs (i + 1)), .int (xs (i + 2))] h hE1 cs_L_94 hC rfl rfl ⟨rfl, rfl⟩ ⟨Nat.le_of_ble_eq_true rfl, Nat.le_of_ble_eq_true rfl⟩ (Nat.le_of_ble_eq_true rfl) dL_law_802 (fun r σ' hp => ?_)
  refine y_ald2 h dL_law_805 ?_
  refine y_arg (j := 1) (v := 1) h hX rfl rfl (by omega) hN dL_law_806 dL_law_807 dL_law_808 dL_law_809 dL_law_810 ?_
  refine y_arg (j := 2) (v := 2) h hX rfl rfl (by omega) hN dL_law_811 dL_law_812 dL_law_813 dL_law_814 dL_law_815 ?_
  refine z_M [.int (xs (i + 1)), .int (xs (i + 2))] h hE2 cs_L_97 hM rfl rfl ⟨rfl, rfl⟩ ⟨Nat.le_of_ble_eq_true rfl, Nat.le_of_ble_eq_true rfl⟩ (Nat.le_of_ble_eq_true rfl) dL_law_816 (fun r' μ' δ' hq => ?_)
  obtain ⟨e, hR'⟩ := hPQ _ _ _ _ _ hp hq
  subst e
  refine y_icmp_eq 1546 h dL_law_819 rfl (fun _ => ?_) (fun c => absurd rfl c)
  exact fin _ _ _ hR'
set_option maxRecDepth 100000 in
set_option maxHeartbeats 4000000 in
theorem lc_20 {E : ET} {k : KT} {a1 a2 : Nat → Nat} {b N i : Nat} {xs : Nat → Int32} {σ μ : ST} {δ : Nat → Int64} (hL : okLaw E k a1 a2 b N xs) (hi : i + 6 ≤ N) (hR : Rel σ μ) (fin : ∀ σ' μ' δ', Rel σ' μ' → Y E k (wTwo E a1 a2 σ' μ' δ') 600000 7302250 1546 (lLaw b i a1 a2) []) : Y E k (wTwo E a1 a2 σ μ δ) 600000 7302250 824 (lLaw b i a1 a2) [] := by
  obtain ⟨h, hX, hE1, hE2, hN, hk⟩ := hL
  show Y E k (wTwo E a1 a2 σ μ δ) 600000 7302250 824 [some (.ref b), some (.ref (a1 30)), some (.ref (a2 0)), some (.int (nI i))] []
  refine y_ald1 h dL_law_824 ?_
  refine y_arg (j := 1) (v := 1) h hX rfl rfl (by omega) hN dL_law_825 dL_law_826 dL_law_827 dL_law_828 dL_law_829 ?_
  refine y_arg (j := 2) (v := 2) h hX rfl rfl (by omega) hN dL_law_830 dL_law_831 dL_law_832 dL_law_833 dL_law_834 ?_
  refine y_arg (j := 3) (v := 3) h hX rfl rfl (by omega) hN dL_law_835 dL_law_836 dL_law_837 dL_law_838 dL_law_839 ?_
  obtain ⟨P, Q, hC, hM, hPQ⟩ := st_meets (bTE E a1) (bTE E a2) δ hR (xs (i + 1)) (xs (i + 2)) (xs (i + 3))
  refine z_C [.int (xs (i + 1)), .int (xs (i + 2)), .int (xs (i + 3))] h hE1 cs_L_98 hC rfl rfl ⟨rfl, rfl⟩ ⟨Nat.le_of_ble_eq_true rfl, Nat.le_of_ble_eq_true rfl⟩ (Nat.le_of_ble_eq_true rfl) dL_law_840 (fun r σ' hp => ?_)
  refine y_ald2 h dL_law_843 ?_
  refine y_arg (j := 1) (v := 1) h hX rfl rfl (by omega) hN dL_law_844 dL_law_845 dL_law_846 dL_law_847 dL_law_848 ?_
  refine y_arg (j := 2) (v := 2) h hX rfl rfl (by omega) hN dL_law_849 dL_law_850 dL_law_851 dL_law_852 dL_law_853 ?_
  refine y_arg (j := 3) (v := 3) h hX rfl rfl (by omega) hN dL_law_854 dL_law_855 dL_law_856 dL_law_857 dL_law_858 ?_
  refine z_M [.int (xs (i + 1)), .int (xs (i + 2)), .int (xs (i + 3))] h hE2 cs_L_101 hM rfl rfl ⟨rfl, rfl⟩ ⟨Nat.le_of_ble_eq_true rfl, Nat.le_of_ble_eq_true rfl⟩ (Nat.le_of_ble_eq_true rfl) dL_law_859 (fun r' μ' δ' hq => ?_)
  obtain ⟨e, hR'⟩ := hPQ _ _ _ _ _ hp hq
  subst e
  refine y_icmp_eq 1546 h dL_law_862 rfl (fun _ => ?_) (fun c => absurd rfl c)
  exact fin _ _ _ hR'
set_option maxRecDepth 100000 in
set_option maxHeartbeats 4000000 in
theorem lc_21 {E : ET} {k : KT} {a1 a2 : Nat → Nat} {b N i : Nat} {xs : Nat → Int32} {σ μ : ST} {δ : Nat → Int64} (hL : okLaw E k a1 a2 b N xs) (hi : i + 6 ≤ N) (hR : Rel σ μ) (fin : ∀ σ' μ' δ', Rel σ' μ' → Y E k (wTwo E a1 a2 σ' μ' δ') 600000 7302250 1546 (lLaw b i a1 a2) []) : Y E k (wTwo E a1 a2 σ μ δ) 600000 7302250 867 (lLaw b i a1 a2) [] := by
  obtain ⟨h, hX, hE1, hE2, hN, hk⟩ := hL
  show Y E k (wTwo E a1 a2 σ μ δ) 600000 7302250 867 [some (.ref b), some (.ref (a1 30)), some (.ref (a2 0)), some (.int (nI i))] []
  refine y_ald1 h dL_law_867 ?_
  refine y_arg (j := 1) (v := 1) h hX rfl rfl (by omega) hN dL_law_868 dL_law_869 dL_law_870 dL_law_871 dL_law_872 ?_
  refine y_arg (j := 2) (v := 2) h hX rfl rfl (by omega) hN dL_law_873 dL_law_874 dL_law_875 dL_law_876 dL_law_877 ?_
  refine y_arg (j := 3) (v := 3) h hX rfl rfl (by omega) hN dL_law_878 dL_law_879 dL_law_880 dL_law_881 dL_law_882 ?_
  obtain ⟨P, Q, hC, hM, hPQ⟩ := st_leads (bTE E a1) (bTE E a2) δ hR (xs (i + 1)) (xs (i + 2)) (xs (i + 3))
  refine z_C [.int (xs (i + 1)), .int (xs (i + 2)), .int (xs (i + 3))] h hE1 cs_L_102 hC rfl rfl ⟨rfl, rfl⟩ ⟨Nat.le_of_ble_eq_true rfl, Nat.le_of_ble_eq_true rfl⟩ (Nat.le_of_ble_eq_true rfl) dL_law_883 (fun r σ' hp => ?_)
  refine y_ald2 h dL_law_886 ?_
  refine y_arg (j := 1) (v := 1) h hX rfl rfl (by omega) hN dL_law_887 dL_law_888 dL_law_889 dL_law_890 dL_law_891 ?_
  refine y_arg (j := 2) (v := 2) h hX rfl rfl (by omega) hN dL_law_892 dL_law_893 dL_law_894 dL_law_895 dL_law_896 ?_
  refine y_arg (j := 3) (v := 3) h hX rfl rfl (by omega) hN dL_law_897 dL_law_898 dL_law_899 dL_law_900 dL_law_901 ?_
  refine z_M [.int (xs (i + 1)), .int (xs (i + 2)), .int (xs (i + 3))] h hE2 cs_L_105 hM rfl rfl ⟨rfl, rfl⟩ ⟨Nat.le_of_ble_eq_true rfl, Nat.le_of_ble_eq_true rfl⟩ (Nat.le_of_ble_eq_true rfl) dL_law_902 (fun r' μ' δ' hq => ?_)
  obtain ⟨e, hR'⟩ := hPQ _ _ _ _ _ hp hq
  subst e
  refine y_icmp_eq 1546 h dL_law_905 rfl (fun _ => ?_) (fun c => absurd rfl c)
  exact fin _ _ _ hR'
set_option maxRecDepth 100000 in
set_option maxHeartbeats 4000000 in
theorem lc_22 {E : ET} {k : KT} {a1 a2 : Nat → Nat} {b N i : Nat} {xs : Nat → Int32} {σ μ : ST} {δ : Nat → Int64} (hL : okLaw E k a1 a2 b N xs) (hi : i + 6 ≤ N) (hR : Rel σ μ) (fin : ∀ σ' μ' δ', Rel σ' μ' → Y E k (wTwo E a1 a2 σ' μ' δ') 600000 7302250 1546 (lLaw b i a1 a2) []) : Y E k (wTwo E a1 a2 σ μ δ) 600000 7302250 910 (lLaw b i a1 a2) [] := by
  obtain ⟨h, hX, hE1, hE2, hN, hk⟩ := hL
  show Y E k (wTwo E a1 a2 σ μ δ) 600000 7302250 910 [some (.ref b), some (.ref (a1 30)), some (.ref (a2 0)), some (.int (nI i))] []
  refine y_ald1 h dL_law_910 ?_
  refine y_arg (j := 1) (v := 1) h hX rfl rfl (by omega) hN dL_law_911 dL_law_912 dL_law_913 dL_law_914 dL_law_915 ?_
  refine y_arg (j := 2) (v := 2) h hX rfl rfl (by omega) hN dL_law_916 dL_law_917 dL_law_918 dL_law_919 dL_law_920 ?_
  obtain ⟨P, Q, hC, hM, hPQ⟩ := st_whose (bTE E a1) (bTE E a2) δ hR (xs (i + 1)) (xs (i + 2))
  refine z_C [.int (xs (i + 1)), .int (xs (i + 2))] h hE1 cs_L_106 hC rfl rfl ⟨rfl, rfl⟩ ⟨Nat.le_of_ble_eq_true rfl, Nat.le_of_ble_eq_true rfl⟩ (Nat.le_of_ble_eq_true rfl) dL_law_921 (fun r σ' hp => ?_)
  refine y_ald2 h dL_law_924 ?_
  refine y_arg (j := 1) (v := 1) h hX rfl rfl (by omega) hN dL_law_925 dL_law_926 dL_law_927 dL_law_928 dL_law_929 ?_
  refine y_arg (j := 2) (v := 2) h hX rfl rfl (by omega) hN dL_law_930 dL_law_931 dL_law_932 dL_law_933 dL_law_934 ?_
  refine z_M [.int (xs (i + 1)), .int (xs (i + 2))] h hE2 cs_L_109 hM rfl rfl ⟨rfl, rfl⟩ ⟨Nat.le_of_ble_eq_true rfl, Nat.le_of_ble_eq_true rfl⟩ (Nat.le_of_ble_eq_true rfl) dL_law_935 (fun r' μ' δ' hq => ?_)
  obtain ⟨e, hR'⟩ := hPQ _ _ _ _ _ hp hq
  subst e
  refine y_icmp_eq 1546 h dL_law_938 rfl (fun _ => ?_) (fun c => absurd rfl c)
  exact fin _ _ _ hR'
set_option maxRecDepth 100000 in
set_option maxHeartbeats 4000000 in
theorem lc_23 {E : ET} {k : KT} {a1 a2 : Nat → Nat} {b N i : Nat} {xs : Nat → Int32} {σ μ : ST} {δ : Nat → Int64} (hL : okLaw E k a1 a2 b N xs) (hi : i + 6 ≤ N) (hR : Rel σ μ) (fin : ∀ σ' μ' δ', Rel σ' μ' → Y E k (wTwo E a1 a2 σ' μ' δ') 600000 7302250 1546 (lLaw b i a1 a2) []) : Y E k (wTwo E a1 a2 σ μ δ) 600000 7302250 943 (lLaw b i a1 a2) [] := by
  obtain ⟨h, hX, hE1, hE2, hN, hk⟩ := hL
  show Y E k (wTwo E a1 a2 σ μ δ) 600000 7302250 943 [some (.ref b), some (.ref (a1 30)), some (.ref (a2 0)), some (.int (nI i))] []
  refine y_ald1 h dL_law_943 ?_
  obtain ⟨P, Q, hC, hM, hPQ⟩ := st_fee (bTE E a1) (bTE E a2) δ hR 
  refine z_C [] h hE1 cs_L_110 hC rfl rfl ⟨rfl, rfl⟩ ⟨Nat.le_of_ble_eq_true rfl, Nat.le_of_ble_eq_true rfl⟩ (Nat.le_of_ble_eq_true rfl) dL_law_944 (fun r σ' hp => ?_)
  refine y_ald2 h dL_law_947 ?_
  refine z_M [] h hE2 cs_L_113 hM rfl rfl ⟨rfl, rfl⟩ ⟨Nat.le_of_ble_eq_true rfl, Nat.le_of_ble_eq_true rfl⟩ (Nat.le_of_ble_eq_true rfl) dL_law_948 (fun r' μ' δ' hq => ?_)
  obtain ⟨e, hR'⟩ := hPQ _ _ _ _ _ hp hq
  subst e
  refine y_icmp_eq 1546 h dL_law_951 rfl (fun _ => ?_) (fun c => absurd rfl c)
  exact fin _ _ _ hR'
set_option maxRecDepth 100000 in
set_option maxHeartbeats 4000000 in
theorem lc_24 {E : ET} {k : KT} {a1 a2 : Nat → Nat} {b N i : Nat} {xs : Nat → Int32} {σ μ : ST} {δ : Nat → Int64} (hL : okLaw E k a1 a2 b N xs) (hi : i + 6 ≤ N) (hR : Rel σ μ) (fin : ∀ σ' μ' δ', Rel σ' μ' → Y E k (wTwo E a1 a2 σ' μ' δ') 600000 7302250 1546 (lLaw b i a1 a2) []) : Y E k (wTwo E a1 a2 σ μ δ) 600000 7302250 956 (lLaw b i a1 a2) [] := by
  obtain ⟨h, hX, hE1, hE2, hN, hk⟩ := hL
  show Y E k (wTwo E a1 a2 σ μ δ) 600000 7302250 956 [some (.ref b), some (.ref (a1 30)), some (.ref (a2 0)), some (.int (nI i))] []
  refine y_ald1 h dL_law_956 ?_
  refine y_arg (j := 1) (v := 1) h hX rfl rfl (by omega) hN dL_law_957 dL_law_958 dL_law_959 dL_law_960 dL_law_961 ?_
  obtain ⟨P, Q, hC, hM, hPQ⟩ := st_fine (bTE E a1) (bTE E a2) δ hR (xs (i + 1))
  refine z_C [.int (xs (i + 1))] h hE1 cs_L_114 hC rfl rfl ⟨rfl, rfl⟩ ⟨Nat.le_of_ble_eq_true rfl, Nat.le_of_ble_eq_true rfl⟩ (Nat.le_of_ble_eq_true rfl) dL_law_962 (fun r σ' hp => ?_)
  refine y_ald2 h dL_law_965 ?_
  refine y_arg (j := 1) (v := 1) h hX rfl rfl (by omega) hN dL_law_966 dL_law_967 dL_law_968 dL_law_969 dL_law_970 ?_
  refine z_M [.int (xs (i + 1))] h hE2 cs_L_117 hM rfl rfl ⟨rfl, rfl⟩ ⟨Nat.le_of_ble_eq_true rfl, Nat.le_of_ble_eq_true rfl⟩ (Nat.le_of_ble_eq_true rfl) dL_law_971 (fun r' μ' δ' hq => ?_)
  obtain ⟨e, hR'⟩ := hPQ _ _ _ _ _ hp hq
  subst e
  refine y_icmp_eq 1546 h dL_law_974 rfl (fun _ => ?_) (fun c => absurd rfl c)
  exact fin _ _ _ hR'
set_option maxRecDepth 100000 in
set_option maxHeartbeats 4000000 in
theorem lc_25 {E : ET} {k : KT} {a1 a2 : Nat → Nat} {b N i : Nat} {xs : Nat → Int32} {σ μ : ST} {δ : Nat → Int64} (hL : okLaw E k a1 a2 b N xs) (hi : i + 6 ≤ N) (hR : Rel σ μ) (fin : ∀ σ' μ' δ', Rel σ' μ' → Y E k (wTwo E a1 a2 σ' μ' δ') 600000 7302250 1546 (lLaw b i a1 a2) []) : Y E k (wTwo E a1 a2 σ μ δ) 600000 7302250 979 (lLaw b i a1 a2) [] := by
  obtain ⟨h, hX, hE1, hE2, hN, hk⟩ := hL
  show Y E k (wTwo E a1 a2 σ μ δ) 600000 7302250 979 [some (.ref b), some (.ref (a1 30)), some (.ref (a2 0)), some (.int (nI i))] []
  refine y_ald1 h dL_law_979 ?_
  refine y_arg (j := 1) (v := 1) h hX rfl rfl (by omega) hN dL_law_980 dL_law_981 dL_law_982 dL_law_983 dL_law_984 ?_
  refine y_arg (j := 2) (v := 2) h hX rfl rfl (by omega) hN dL_law_985 dL_law_986 dL_law_987 dL_law_988 dL_law_989 ?_
  refine y_arg (j := 3) (v := 3) h hX rfl rfl (by omega) hN dL_law_990 dL_law_991 dL_law_992 dL_law_993 dL_law_994 ?_
  obtain ⟨P, Q, hC, hM, hPQ⟩ := st_feed (bTE E a1) (bTE E a2) δ hR (xs (i + 1)) (xs (i + 2)) (xs (i + 3))
  refine z_C [.int (xs (i + 1)), .int (xs (i + 2)), .int (xs (i + 3))] h hE1 cs_L_118 hC rfl rfl ⟨rfl, rfl⟩ ⟨Nat.le_of_ble_eq_true rfl, Nat.le_of_ble_eq_true rfl⟩ (Nat.le_of_ble_eq_true rfl) dL_law_995 (fun r σ' hp => ?_)
  refine y_ald2 h dL_law_998 ?_
  refine y_arg (j := 1) (v := 1) h hX rfl rfl (by omega) hN dL_law_999 dL_law_1000 dL_law_1001 dL_law_1002 dL_law_1003 ?_
  refine y_arg (j := 2) (v := 2) h hX rfl rfl (by omega) hN dL_law_1004 dL_law_1005 dL_law_1006 dL_law_1007 dL_law_1008 ?_
  refine y_arg (j := 3) (v := 3) h hX rfl rfl (by omega) hN dL_law_1009 dL_law_1010 dL_law_1011 dL_law_1012 dL_law_1013 ?_
  refine z_M [.int (xs (i + 1)), .int (xs (i + 2)), .int (xs (i + 3))] h hE2 cs_L_121 hM rfl rfl ⟨rfl, rfl⟩ ⟨Nat.le_of_ble_eq_true rfl, Nat.le_of_ble_eq_true rfl⟩ (Nat.le_of_ble_eq_true rfl) dL_law_1014 (fun r' μ' δ' hq => ?_)
  obtain ⟨e, hR'⟩ := hPQ _ _ _ _ _ hp hq
  subst e
  refine y_icmp_eq 1546 h dL_law_1017 rfl (fun _ => ?_) (fun c => absurd rfl c)
  exact fin _ _ _ hR'
set_option maxRecDepth 100000 in
set_option maxHeartbeats 4000000 in
theorem lc_26 {E : ET} {k : KT} {a1 a2 : Nat → Nat} {b N i : Nat} {xs : Nat → Int32} {σ μ : ST} {δ : Nat → Int64} (hL : okLaw E k a1 a2 b N xs) (hi : i + 6 ≤ N) (hR : Rel σ μ) (fin : ∀ σ' μ' δ', Rel σ' μ' → Y E k (wTwo E a1 a2 σ' μ' δ') 600000 7302250 1546 (lLaw b i a1 a2) []) : Y E k (wTwo E a1 a2 σ μ δ) 600000 7302250 1022 (lLaw b i a1 a2) [] := by
  obtain ⟨h, hX, hE1, hE2, hN, hk⟩ := hL
  show Y E k (wTwo E a1 a2 σ μ δ) 600000 7302250 1022 [some (.ref b), some (.ref (a1 30)), some (.ref (a2 0)), some (.int (nI i))] []
  refine y_ald1 h dL_law_1022 ?_
  refine y_arg (j := 1) (v := 1) h hX rfl rfl (by omega) hN dL_law_1023 dL_law_1024 dL_law_1025 dL_law_1026 dL_law_1027 ?_
  obtain ⟨P, Q, hC, hM, hPQ⟩ := st_trim (bTE E a1) (bTE E a2) δ hR (xs (i + 1))
  refine z_C [.int (xs (i + 1))] h hE1 cs_L_122 hC rfl rfl ⟨rfl, rfl⟩ ⟨Nat.le_of_ble_eq_true rfl, Nat.le_of_ble_eq_true rfl⟩ (Nat.le_of_ble_eq_true rfl) dL_law_1028 (fun r σ' hp => ?_)
  refine y_ald2 h dL_law_1031 ?_
  refine y_arg (j := 1) (v := 1) h hX rfl rfl (by omega) hN dL_law_1032 dL_law_1033 dL_law_1034 dL_law_1035 dL_law_1036 ?_
  refine z_M [.int (xs (i + 1))] h hE2 cs_L_125 hM rfl rfl ⟨rfl, rfl⟩ ⟨Nat.le_of_ble_eq_true rfl, Nat.le_of_ble_eq_true rfl⟩ (Nat.le_of_ble_eq_true rfl) dL_law_1037 (fun r' μ' δ' hq => ?_)
  obtain ⟨e, hR'⟩ := hPQ _ _ _ _ _ hp hq
  subst e
  refine y_icmp_eq 1546 h dL_law_1040 rfl (fun _ => ?_) (fun c => absurd rfl c)
  exact fin _ _ _ hR'
set_option maxRecDepth 100000 in
set_option maxHeartbeats 4000000 in
theorem lc_27 {E : ET} {k : KT} {a1 a2 : Nat → Nat} {b N i : Nat} {xs : Nat → Int32} {σ μ : ST} {δ : Nat → Int64} (hL : okLaw E k a1 a2 b N xs) (hi : i + 6 ≤ N) (hR : Rel σ μ) (fin : ∀ σ' μ' δ', Rel σ' μ' → Y E k (wTwo E a1 a2 σ' μ' δ') 600000 7302250 1546 (lLaw b i a1 a2) []) : Y E k (wTwo E a1 a2 σ μ δ) 600000 7302250 1045 (lLaw b i a1 a2) [] := by
  obtain ⟨h, hX, hE1, hE2, hN, hk⟩ := hL
  show Y E k (wTwo E a1 a2 σ μ δ) 600000 7302250 1045 [some (.ref b), some (.ref (a1 30)), some (.ref (a2 0)), some (.int (nI i))] []
  refine y_ald1 h dL_law_1045 ?_
  obtain ⟨P, Q, hC, hM, hPQ⟩ := st_text (bTE E a1) (bTE E a2) δ hR 
  refine z_C [] h hE1 cs_L_126 hC rfl rfl ⟨rfl, rfl⟩ ⟨Nat.le_of_ble_eq_true rfl, Nat.le_of_ble_eq_true rfl⟩ (Nat.le_of_ble_eq_true rfl) dL_law_1046 (fun r σ' hp => ?_)
  refine y_ald2 h dL_law_1049 ?_
  refine z_M [] h hE2 cs_L_129 hM rfl rfl ⟨rfl, rfl⟩ ⟨Nat.le_of_ble_eq_true rfl, Nat.le_of_ble_eq_true rfl⟩ (Nat.le_of_ble_eq_true rfl) dL_law_1050 (fun r' μ' δ' hq => ?_)
  obtain ⟨e, hR'⟩ := hPQ _ _ _ _ _ hp hq
  subst e
  refine y_icmp_eq 1546 h dL_law_1053 rfl (fun _ => ?_) (fun c => absurd rfl c)
  exact fin _ _ _ hR'
set_option maxRecDepth 100000 in
set_option maxHeartbeats 4000000 in
theorem lc_28 {E : ET} {k : KT} {a1 a2 : Nat → Nat} {b N i : Nat} {xs : Nat → Int32} {σ μ : ST} {δ : Nat → Int64} (hL : okLaw E k a1 a2 b N xs) (hi : i + 6 ≤ N) (hR : Rel σ μ) (fin : ∀ σ' μ' δ', Rel σ' μ' → Y E k (wTwo E a1 a2 σ' μ' δ') 600000 7302250 1546 (lLaw b i a1 a2) []) : Y E k (wTwo E a1 a2 σ μ δ) 600000 7302250 1058 (lLaw b i a1 a2) [] := by
  obtain ⟨h, hX, hE1, hE2, hN, hk⟩ := hL
  show Y E k (wTwo E a1 a2 σ μ δ) 600000 7302250 1058 [some (.ref b), some (.ref (a1 30)), some (.ref (a2 0)), some (.int (nI i))] []
  refine y_ald1 h dL_law_1058 ?_
  refine y_arg (j := 1) (v := 1) h hX rfl rfl (by omega) hN dL_law_1059 dL_law_1060 dL_law_1061 dL_law_1062 dL_law_1063 ?_
  refine y_arg (j := 2) (v := 2) h hX rfl rfl (by omega) hN dL_law_1064 dL_law_1065 dL_law_1066 dL_law_1067 dL_law_1068 ?_
  obtain ⟨P, Q, hC, hM, hPQ⟩ := st_textTold (bTE E a1) (bTE E a2) δ hR (xs (i + 1)) (xs (i + 2))
  refine z_C [.int (xs (i + 1)), .int (xs (i + 2))] h hE1 cs_L_130 hC rfl rfl ⟨rfl, rfl⟩ ⟨Nat.le_of_ble_eq_true rfl, Nat.le_of_ble_eq_true rfl⟩ (Nat.le_of_ble_eq_true rfl) dL_law_1069 (fun r σ' hp => ?_)
  refine y_ald2 h dL_law_1072 ?_
  refine y_arg (j := 1) (v := 1) h hX rfl rfl (by omega) hN dL_law_1073 dL_law_1074 dL_law_1075 dL_law_1076 dL_law_1077 ?_
  refine y_arg (j := 2) (v := 2) h hX rfl rfl (by omega) hN dL_law_1078 dL_law_1079 dL_law_1080 dL_law_1081 dL_law_1082 ?_
  refine z_M [.int (xs (i + 1)), .int (xs (i + 2))] h hE2 cs_L_133 hM rfl rfl ⟨rfl, rfl⟩ ⟨Nat.le_of_ble_eq_true rfl, Nat.le_of_ble_eq_true rfl⟩ (Nat.le_of_ble_eq_true rfl) dL_law_1083 (fun r' μ' δ' hq => ?_)
  obtain ⟨e, hR'⟩ := hPQ _ _ _ _ _ hp hq
  subst e
  refine y_icmp_eq 1546 h dL_law_1086 rfl (fun _ => ?_) (fun c => absurd rfl c)
  exact fin _ _ _ hR'
set_option maxRecDepth 100000 in
set_option maxHeartbeats 4000000 in
theorem lc_29 {E : ET} {k : KT} {a1 a2 : Nat → Nat} {b N i : Nat} {xs : Nat → Int32} {σ μ : ST} {δ : Nat → Int64} (hL : okLaw E k a1 a2 b N xs) (hi : i + 6 ≤ N) (hR : Rel σ μ) (fin : ∀ σ' μ' δ', Rel σ' μ' → Y E k (wTwo E a1 a2 σ' μ' δ') 600000 7302250 1546 (lLaw b i a1 a2) []) : Y E k (wTwo E a1 a2 σ μ δ) 600000 7302250 1091 (lLaw b i a1 a2) [] := by
  obtain ⟨h, hX, hE1, hE2, hN, hk⟩ := hL
  show Y E k (wTwo E a1 a2 σ μ δ) 600000 7302250 1091 [some (.ref b), some (.ref (a1 30)), some (.ref (a2 0)), some (.int (nI i))] []
  refine y_ald1 h dL_law_1091 ?_
  refine y_arg (j := 1) (v := 1) h hX rfl rfl (by omega) hN dL_law_1092 dL_law_1093 dL_law_1094 dL_law_1095 dL_law_1096 ?_
  obtain ⟨P, Q, hC, hM, hPQ⟩ := st_why (bTE E a1) (bTE E a2) δ hR (xs (i + 1))
  refine z_C [.int (xs (i + 1))] h hE1 cs_L_134 hC rfl rfl ⟨rfl, rfl⟩ ⟨Nat.le_of_ble_eq_true rfl, Nat.le_of_ble_eq_true rfl⟩ (Nat.le_of_ble_eq_true rfl) dL_law_1097 (fun r σ' hp => ?_)
  refine y_ald2 h dL_law_1100 ?_
  refine y_arg (j := 1) (v := 1) h hX rfl rfl (by omega) hN dL_law_1101 dL_law_1102 dL_law_1103 dL_law_1104 dL_law_1105 ?_
  refine z_M [.int (xs (i + 1))] h hE2 cs_L_137 hM rfl rfl ⟨rfl, rfl⟩ ⟨Nat.le_of_ble_eq_true rfl, Nat.le_of_ble_eq_true rfl⟩ (Nat.le_of_ble_eq_true rfl) dL_law_1106 (fun r' μ' δ' hq => ?_)
  obtain ⟨e, hR'⟩ := hPQ _ _ _ _ _ hp hq
  subst e
  refine y_icmp_eq 1546 h dL_law_1109 rfl (fun _ => ?_) (fun c => absurd rfl c)
  exact fin _ _ _ hR'
set_option maxRecDepth 100000 in
set_option maxHeartbeats 4000000 in
theorem lc_30 {E : ET} {k : KT} {a1 a2 : Nat → Nat} {b N i : Nat} {xs : Nat → Int32} {σ μ : ST} {δ : Nat → Int64} (hL : okLaw E k a1 a2 b N xs) (hi : i + 6 ≤ N) (hR : Rel σ μ) (fin : ∀ σ' μ' δ', Rel σ' μ' → Y E k (wTwo E a1 a2 σ' μ' δ') 600000 7302250 1546 (lLaw b i a1 a2) []) : Y E k (wTwo E a1 a2 σ μ δ) 600000 7302250 1114 (lLaw b i a1 a2) [] := by
  obtain ⟨h, hX, hE1, hE2, hN, hk⟩ := hL
  show Y E k (wTwo E a1 a2 σ μ δ) 600000 7302250 1114 [some (.ref b), some (.ref (a1 30)), some (.ref (a2 0)), some (.int (nI i))] []
  refine y_ald1 h dL_law_1114 ?_
  refine y_arg (j := 1) (v := 1) h hX rfl rfl (by omega) hN dL_law_1115 dL_law_1116 dL_law_1117 dL_law_1118 dL_law_1119 ?_
  refine y_arg (j := 2) (v := 2) h hX rfl rfl (by omega) hN dL_law_1120 dL_law_1121 dL_law_1122 dL_law_1123 dL_law_1124 ?_
  refine y_arg (j := 3) (v := 3) h hX rfl rfl (by omega) hN dL_law_1125 dL_law_1126 dL_law_1127 dL_law_1128 dL_law_1129 ?_
  obtain ⟨P, Q, hC, hM, hPQ⟩ := st_sheet (bTE E a1) (bTE E a2) δ hR (xs (i + 1)) (xs (i + 2)) (xs (i + 3))
  refine z_C [.int (xs (i + 1)), .int (xs (i + 2)), .int (xs (i + 3))] h hE1 cs_L_138 hC rfl rfl ⟨rfl, rfl⟩ ⟨Nat.le_of_ble_eq_true rfl, Nat.le_of_ble_eq_true rfl⟩ (Nat.le_of_ble_eq_true rfl) dL_law_1130 (fun r σ' hp => ?_)
  refine y_ald2 h dL_law_1133 ?_
  refine y_arg (j := 1) (v := 1) h hX rfl rfl (by omega) hN dL_law_1134 dL_law_1135 dL_law_1136 dL_law_1137 dL_law_1138 ?_
  refine y_arg (j := 2) (v := 2) h hX rfl rfl (by omega) hN dL_law_1139 dL_law_1140 dL_law_1141 dL_law_1142 dL_law_1143 ?_
  refine y_arg (j := 3) (v := 3) h hX rfl rfl (by omega) hN dL_law_1144 dL_law_1145 dL_law_1146 dL_law_1147 dL_law_1148 ?_
  refine z_M [.int (xs (i + 1)), .int (xs (i + 2)), .int (xs (i + 3))] h hE2 cs_L_141 hM rfl rfl ⟨rfl, rfl⟩ ⟨Nat.le_of_ble_eq_true rfl, Nat.le_of_ble_eq_true rfl⟩ (Nat.le_of_ble_eq_true rfl) dL_law_1149 (fun r' μ' δ' hq => ?_)
  obtain ⟨e, hR'⟩ := hPQ _ _ _ _ _ hp hq
  subst e
  refine y_icmp_eq 1546 h dL_law_1152 rfl (fun _ => ?_) (fun c => absurd rfl c)
  exact fin _ _ _ hR'
set_option maxRecDepth 100000 in
set_option maxHeartbeats 4000000 in
theorem lc_31 {E : ET} {k : KT} {a1 a2 : Nat → Nat} {b N i : Nat} {xs : Nat → Int32} {σ μ : ST} {δ : Nat → Int64} (hL : okLaw E k a1 a2 b N xs) (hi : i + 6 ≤ N) (hR : Rel σ μ) (fin : ∀ σ' μ' δ', Rel σ' μ' → Y E k (wTwo E a1 a2 σ' μ' δ') 600000 7302250 1546 (lLaw b i a1 a2) []) : Y E k (wTwo E a1 a2 σ μ δ) 600000 7302250 1157 (lLaw b i a1 a2) [] := by
  obtain ⟨h, hX, hE1, hE2, hN, hk⟩ := hL
  show Y E k (wTwo E a1 a2 σ μ δ) 600000 7302250 1157 [some (.ref b), some (.ref (a1 30)), some (.ref (a2 0)), some (.int (nI i))] []
  refine y_ald1 h dL_law_1157 ?_
  refine y_arg (j := 1) (v := 1) h hX rfl rfl (by omega) hN dL_law_1158 dL_law_1159 dL_law_1160 dL_law_1161 dL_law_1162 ?_
  refine y_arg (j := 2) (v := 2) h hX rfl rfl (by omega) hN dL_law_1163 dL_law_1164 dL_law_1165 dL_law_1166 dL_law_1167 ?_
  refine y_arg (j := 3) (v := 3) h hX rfl rfl (by omega) hN dL_law_1168 dL_law_1169 dL_law_1170 dL_law_1171 dL_law_1172 ?_
  obtain ⟨P, Q, hC, hM, hPQ⟩ := st_mark (bTE E a1) (bTE E a2) δ hR (xs (i + 1)) (xs (i + 2)) (xs (i + 3))
  refine z_C [.int (xs (i + 1)), .int (xs (i + 2)), .int (xs (i + 3))] h hE1 cs_L_142 hC rfl rfl ⟨rfl, rfl⟩ ⟨Nat.le_of_ble_eq_true rfl, Nat.le_of_ble_eq_true rfl⟩ (Nat.le_of_ble_eq_true rfl) dL_law_1173 (fun r σ' hp => ?_)
  refine y_ald2 h dL_law_1176 ?_
  refine y_arg (j := 1) (v := 1) h hX rfl rfl (by omega) hN dL_law_1177 dL_law_1178 dL_law_1179 dL_law_1180 dL_law_1181 ?_
  refine y_arg (j := 2) (v := 2) h hX rfl rfl (by omega) hN dL_law_1182 dL_law_1183 dL_law_1184 dL_law_1185 dL_law_1186 ?_
  refine y_arg (j := 3) (v := 3) h hX rfl rfl (by omega) hN dL_law_1187 dL_law_1188 dL_law_1189 dL_law_1190 dL_law_1191 ?_
  refine z_M [.int (xs (i + 1)), .int (xs (i + 2)), .int (xs (i + 3))] h hE2 cs_L_145 hM rfl rfl ⟨rfl, rfl⟩ ⟨Nat.le_of_ble_eq_true rfl, Nat.le_of_ble_eq_true rfl⟩ (Nat.le_of_ble_eq_true rfl) dL_law_1192 (fun r' μ' δ' hq => ?_)
  obtain ⟨e, hR'⟩ := hPQ _ _ _ _ _ hp hq
  subst e
  refine y_icmp_eq 1546 h dL_law_1195 rfl (fun _ => ?_) (fun c => absurd rfl c)
  exact fin _ _ _ hR'
set_option maxRecDepth 100000 in
set_option maxHeartbeats 4000000 in
theorem lc_32 {E : ET} {k : KT} {a1 a2 : Nat → Nat} {b N i : Nat} {xs : Nat → Int32} {σ μ : ST} {δ : Nat → Int64} (hL : okLaw E k a1 a2 b N xs) (hi : i + 6 ≤ N) (hR : Rel σ μ) (fin : ∀ σ' μ' δ', Rel σ' μ' → Y E k (wTwo E a1 a2 σ' μ' δ') 600000 7302250 1546 (lLaw b i a1 a2) []) : Y E k (wTwo E a1 a2 σ μ δ) 600000 7302250 1200 (lLaw b i a1 a2) [] := by
  obtain ⟨h, hX, hE1, hE2, hN, hk⟩ := hL
  show Y E k (wTwo E a1 a2 σ μ δ) 600000 7302250 1200 [some (.ref b), some (.ref (a1 30)), some (.ref (a2 0)), some (.int (nI i))] []
  refine y_ald1 h dL_law_1200 ?_
  refine y_arg (j := 1) (v := 1) h hX rfl rfl (by omega) hN dL_law_1201 dL_law_1202 dL_law_1203 dL_law_1204 dL_law_1205 ?_
  obtain ⟨P, Q, hC, hM, hPQ⟩ := st_pour (bTE E a1) (bTE E a2) δ hR (xs (i + 1))
  refine z_C [.int (xs (i + 1))] h hE1 cs_L_146 hC rfl rfl ⟨rfl, rfl⟩ ⟨Nat.le_of_ble_eq_true rfl, Nat.le_of_ble_eq_true rfl⟩ (Nat.le_of_ble_eq_true rfl) dL_law_1206 (fun r σ' hp => ?_)
  refine y_ald2 h dL_law_1209 ?_
  refine y_arg (j := 1) (v := 1) h hX rfl rfl (by omega) hN dL_law_1210 dL_law_1211 dL_law_1212 dL_law_1213 dL_law_1214 ?_
  refine z_M [.int (xs (i + 1))] h hE2 cs_L_149 hM rfl rfl ⟨rfl, rfl⟩ ⟨Nat.le_of_ble_eq_true rfl, Nat.le_of_ble_eq_true rfl⟩ (Nat.le_of_ble_eq_true rfl) dL_law_1215 (fun r' μ' δ' hq => ?_)
  obtain ⟨e, hR'⟩ := hPQ _ _ _ _ _ hp hq
  subst e
  refine y_icmp_eq 1546 h dL_law_1218 rfl (fun _ => ?_) (fun c => absurd rfl c)
  exact fin _ _ _ hR'
set_option maxRecDepth 100000 in
set_option maxHeartbeats 4000000 in
theorem lc_33 {E : ET} {k : KT} {a1 a2 : Nat → Nat} {b N i : Nat} {xs : Nat → Int32} {σ μ : ST} {δ : Nat → Int64} (hL : okLaw E k a1 a2 b N xs) (hi : i + 6 ≤ N) (hR : Rel σ μ) (fin : ∀ σ' μ' δ', Rel σ' μ' → Y E k (wTwo E a1 a2 σ' μ' δ') 600000 7302250 1546 (lLaw b i a1 a2) []) : Y E k (wTwo E a1 a2 σ μ δ) 600000 7302250 1223 (lLaw b i a1 a2) [] := by
  obtain ⟨h, hX, hE1, hE2, hN, hk⟩ := hL
  show Y E k (wTwo E a1 a2 σ μ δ) 600000 7302250 1223 [some (.ref b), some (.ref (a1 30)), some (.ref (a2 0)), some (.int (nI i))] []
  refine y_ald1 h dL_law_1223 ?_
  refine y_arg (j := 1) (v := 1) h hX rfl rfl (by omega) hN dL_law_1224 dL_law_1225 dL_law_1226 dL_law_1227 dL_law_1228 ?_
  obtain ⟨P, Q, hC, hM, hPQ⟩ := st_reads (bTE E a1) (bTE E a2) δ hR (xs (i + 1))
  refine z_C [.int (xs (i + 1))] h hE1 cs_L_150 hC rfl rfl ⟨rfl, rfl⟩ ⟨Nat.le_of_ble_eq_true rfl, Nat.le_of_ble_eq_true rfl⟩ (Nat.le_of_ble_eq_true rfl) dL_law_1229 (fun r σ' hp => ?_)
  refine y_ald2 h dL_law_1232 ?_
  refine y_arg (j := 1) (v := 1) h hX rfl rfl (by omega) hN dL_law_1233 dL_law_1234 dL_law_1235 dL_law_1236 dL_law_1237 ?_
  refine z_M [.int (xs (i + 1))] h hE2 cs_L_153 hM rfl rfl ⟨rfl, rfl⟩ ⟨Nat.le_of_ble_eq_true rfl, Nat.le_of_ble_eq_true rfl⟩ (Nat.le_of_ble_eq_true rfl) dL_law_1238 (fun r' μ' δ' hq => ?_)
  obtain ⟨e, hR'⟩ := hPQ _ _ _ _ _ hp hq
  subst e
  refine y_icmp_eq 1546 h dL_law_1241 rfl (fun _ => ?_) (fun c => absurd rfl c)
  exact fin _ _ _ hR'
set_option maxRecDepth 100000 in
set_option maxHeartbeats 4000000 in
theorem lc_34 {E : ET} {k : KT} {a1 a2 : Nat → Nat} {b N i : Nat} {xs : Nat → Int32} {σ μ : ST} {δ : Nat → Int64} (hL : okLaw E k a1 a2 b N xs) (hi : i + 6 ≤ N) (hR : Rel σ μ) (fin : ∀ σ' μ' δ', Rel σ' μ' → Y E k (wTwo E a1 a2 σ' μ' δ') 600000 7302250 1546 (lLaw b i a1 a2) []) : Y E k (wTwo E a1 a2 σ μ δ) 600000 7302250 1246 (lLaw b i a1 a2) [] := by
  obtain ⟨h, hX, hE1, hE2, hN, hk⟩ := hL
  show Y E k (wTwo E a1 a2 σ μ δ) 600000 7302250 1246 [some (.ref b), some (.ref (a1 30)), some (.ref (a2 0)), some (.int (nI i))] []
  refine y_ald1 h dL_law_1246 ?_
  refine y_arg (j := 1) (v := 1) h hX rfl rfl (by omega) hN dL_law_1247 dL_law_1248 dL_law_1249 dL_law_1250 dL_law_1251 ?_
  refine y_arg (j := 2) (v := 2) h hX rfl rfl (by omega) hN dL_law_1252 dL_law_1253 dL_law_1254 dL_law_1255 dL_law_1256 ?_
  refine y_arg (j := 3) (v := 3) h hX rfl rfl (by omega) hN dL_law_1257 dL_law_1258 dL_law_1259 dL_law_1260 dL_law_1261 ?_
  refine y_arg (j := 4) (v := 4) h hX rfl rfl (by omega) hN dL_law_1262 dL_law_1263 dL_law_1264 dL_law_1265 dL_law_1266 ?_
  refine y_arg (j := 5) (v := 5) h hX rfl rfl (by omega) hN dL_law_1267 dL_law_1268 dL_law_1269 dL_law_1270 dL_law_1271 ?_
  obtain ⟨P, Q, hC, hM, hPQ⟩ := st_copy (bTE E a1) (bTE E a2) δ hR (xs (i + 1)) (xs (i + 2)) (xs (i + 3)) (xs (i + 4)) (xs (i + 5))
  refine z_C [.int (xs (i + 1)), .int (xs (i + 2)), .int (xs (i + 3)), .int (xs (i + 4)), .int (xs (i + 5))] h hE1 cs_L_154 hC rfl rfl ⟨rfl, rfl⟩ ⟨Nat.le_of_ble_eq_true rfl, Nat.le_of_ble_eq_true rfl⟩ (Nat.le_of_ble_eq_true rfl) dL_law_1272 (fun r σ' hp => ?_)
  refine y_ald2 h dL_law_1275 ?_
  refine y_arg (j := 1) (v := 1) h hX rfl rfl (by omega) hN dL_law_1276 dL_law_1277 dL_law_1278 dL_law_1279 dL_law_1280 ?_
  refine y_arg (j := 2) (v := 2) h hX rfl rfl (by omega) hN dL_law_1281 dL_law_1282 dL_law_1283 dL_law_1284 dL_law_1285 ?_
  refine y_arg (j := 3) (v := 3) h hX rfl rfl (by omega) hN dL_law_1286 dL_law_1287 dL_law_1288 dL_law_1289 dL_law_1290 ?_
  refine y_arg (j := 4) (v := 4) h hX rfl rfl (by omega) hN dL_law_1291 dL_law_1292 dL_law_1293 dL_law_1294 dL_law_1295 ?_
  refine y_arg (j := 5) (v := 5) h hX rfl rfl (by omega) hN dL_law_1296 dL_law_1297 dL_law_1298 dL_law_1299 dL_law_1300 ?_
  refine z_M [.int (xs (i + 1)), .int (xs (i + 2)), .int (xs (i + 3)), .int (xs (i + 4)), .int (xs (i + 5))] h hE2 cs_L_158 hM rfl rfl ⟨rfl, rfl⟩ ⟨Nat.le_of_ble_eq_true rfl, Nat.le_of_ble_eq_true rfl⟩ (Nat.le_of_ble_eq_true rfl) dL_law_1301 (fun r' μ' δ' hq => ?_)
  obtain ⟨e, hR'⟩ := hPQ _ _ _ _ _ hp hq
  subst e
  refine y_icmp_eq 1546 h dL_law_1304 rfl (fun _ => ?_) (fun c => absurd rfl c)
  exact fin _ _ _ hR'
set_option maxRecDepth 100000 in
set_option maxHeartbeats 4000000 in
theorem lc_35 {E : ET} {k : KT} {a1 a2 : Nat → Nat} {b N i : Nat} {xs : Nat → Int32} {σ μ : ST} {δ : Nat → Int64} (hL : okLaw E k a1 a2 b N xs) (hi : i + 6 ≤ N) (hR : Rel σ μ) (fin : ∀ σ' μ' δ', Rel σ' μ' → Y E k (wTwo E a1 a2 σ' μ' δ') 600000 7302250 1546 (lLaw b i a1 a2) []) : Y E k (wTwo E a1 a2 σ μ δ) 600000 7302250 1309 (lLaw b i a1 a2) [] := by
  obtain ⟨h, hX, hE1, hE2, hN, hk⟩ := hL
  show Y E k (wTwo E a1 a2 σ μ δ) 600000 7302250 1309 [some (.ref b), some (.ref (a1 30)), some (.ref (a2 0)), some (.int (nI i))] []
  refine y_ald1 h dL_law_1309 ?_
  refine y_arg (j := 1) (v := 1) h hX rfl rfl (by omega) hN dL_law_1310 dL_law_1311 dL_law_1312 dL_law_1313 dL_law_1314 ?_
  refine y_arg (j := 2) (v := 2) h hX rfl rfl (by omega) hN dL_law_1315 dL_law_1316 dL_law_1317 dL_law_1318 dL_law_1319 ?_
  refine y_arg (j := 3) (v := 3) h hX rfl rfl (by omega) hN dL_law_1320 dL_law_1321 dL_law_1322 dL_law_1323 dL_law_1324 ?_
  obtain ⟨P, Q, hC, hM, hPQ⟩ := st_lay (bTE E a1) (bTE E a2) δ hR (xs (i + 1)) (xs (i + 2)) (xs (i + 3))
  refine z_C [.int (xs (i + 1)), .int (xs (i + 2)), .int (xs (i + 3))] h hE1 cs_L_159 hC rfl rfl ⟨rfl, rfl⟩ ⟨Nat.le_of_ble_eq_true rfl, Nat.le_of_ble_eq_true rfl⟩ (Nat.le_of_ble_eq_true rfl) dL_law_1325 (fun r σ' hp => ?_)
  refine y_ald2 h dL_law_1328 ?_
  refine y_arg (j := 1) (v := 1) h hX rfl rfl (by omega) hN dL_law_1329 dL_law_1330 dL_law_1331 dL_law_1332 dL_law_1333 ?_
  refine y_arg (j := 2) (v := 2) h hX rfl rfl (by omega) hN dL_law_1334 dL_law_1335 dL_law_1336 dL_law_1337 dL_law_1338 ?_
  refine y_arg (j := 3) (v := 3) h hX rfl rfl (by omega) hN dL_law_1339 dL_law_1340 dL_law_1341 dL_law_1342 dL_law_1343 ?_
  refine z_M [.int (xs (i + 1)), .int (xs (i + 2)), .int (xs (i + 3))] h hE2 cs_L_162 hM rfl rfl ⟨rfl, rfl⟩ ⟨Nat.le_of_ble_eq_true rfl, Nat.le_of_ble_eq_true rfl⟩ (Nat.le_of_ble_eq_true rfl) dL_law_1344 (fun r' μ' δ' hq => ?_)
  obtain ⟨e, hR'⟩ := hPQ _ _ _ _ _ hp hq
  subst e
  refine y_icmp_eq 1546 h dL_law_1347 rfl (fun _ => ?_) (fun c => absurd rfl c)
  exact fin _ _ _ hR'
set_option maxRecDepth 100000 in
set_option maxHeartbeats 4000000 in
theorem lc_36 {E : ET} {k : KT} {a1 a2 : Nat → Nat} {b N i : Nat} {xs : Nat → Int32} {σ μ : ST} {δ : Nat → Int64} (hL : okLaw E k a1 a2 b N xs) (hi : i + 6 ≤ N) (hR : Rel σ μ) (fin : ∀ σ' μ' δ', Rel σ' μ' → Y E k (wTwo E a1 a2 σ' μ' δ') 600000 7302250 1546 (lLaw b i a1 a2) []) : Y E k (wTwo E a1 a2 σ μ δ) 600000 7302250 1352 (lLaw b i a1 a2) [] := by
  obtain ⟨h, hX, hE1, hE2, hN, hk⟩ := hL
  show Y E k (wTwo E a1 a2 σ μ δ) 600000 7302250 1352 [some (.ref b), some (.ref (a1 30)), some (.ref (a2 0)), some (.int (nI i))] []
  refine y_ald1 h dL_law_1352 ?_
  refine y_arg (j := 1) (v := 1) h hX rfl rfl (by omega) hN dL_law_1353 dL_law_1354 dL_law_1355 dL_law_1356 dL_law_1357 ?_
  refine y_arg (j := 2) (v := 2) h hX rfl rfl (by omega) hN dL_law_1358 dL_law_1359 dL_law_1360 dL_law_1361 dL_law_1362 ?_
  obtain ⟨P, Q, hC, hM, hPQ⟩ := st_ask (bTE E a1) (bTE E a2) δ hR (xs (i + 1)) (xs (i + 2))
  refine z_C [.int (xs (i + 1)), .int (xs (i + 2))] h hE1 cs_L_163 hC rfl rfl ⟨rfl, rfl⟩ ⟨Nat.le_of_ble_eq_true rfl, Nat.le_of_ble_eq_true rfl⟩ (Nat.le_of_ble_eq_true rfl) dL_law_1363 (fun r σ' hp => ?_)
  refine y_ald2 h dL_law_1366 ?_
  refine y_arg (j := 1) (v := 1) h hX rfl rfl (by omega) hN dL_law_1367 dL_law_1368 dL_law_1369 dL_law_1370 dL_law_1371 ?_
  refine y_arg (j := 2) (v := 2) h hX rfl rfl (by omega) hN dL_law_1372 dL_law_1373 dL_law_1374 dL_law_1375 dL_law_1376 ?_
  refine z_M [.int (xs (i + 1)), .int (xs (i + 2))] h hE2 cs_L_166 hM rfl rfl ⟨rfl, rfl⟩ ⟨Nat.le_of_ble_eq_true rfl, Nat.le_of_ble_eq_true rfl⟩ (Nat.le_of_ble_eq_true rfl) dL_law_1377 (fun r' μ' δ' hq => ?_)
  obtain ⟨e, hR'⟩ := hPQ _ _ _ _ _ hp hq
  subst e
  refine y_icmp_eq 1546 h dL_law_1380 rfl (fun _ => ?_) (fun c => absurd rfl c)
  exact fin _ _ _ hR'
set_option maxRecDepth 100000 in
set_option maxHeartbeats 4000000 in
theorem lc_37 {E : ET} {k : KT} {a1 a2 : Nat → Nat} {b N i : Nat} {xs : Nat → Int32} {σ μ : ST} {δ : Nat → Int64} (hL : okLaw E k a1 a2 b N xs) (hi : i + 6 ≤ N) (hR : Rel σ μ) (fin : ∀ σ' μ' δ', Rel σ' μ' → Y E k (wTwo E a1 a2 σ' μ' δ') 600000 7302250 1546 (lLaw b i a1 a2) []) : Y E k (wTwo E a1 a2 σ μ δ) 600000 7302250 1385 (lLaw b i a1 a2) [] := by
  obtain ⟨h, hX, hE1, hE2, hN, hk⟩ := hL
  show Y E k (wTwo E a1 a2 σ μ δ) 600000 7302250 1385 [some (.ref b), some (.ref (a1 30)), some (.ref (a2 0)), some (.int (nI i))] []
  refine y_ald1 h dL_law_1385 ?_
  refine y_arg (j := 1) (v := 1) h hX rfl rfl (by omega) hN dL_law_1386 dL_law_1387 dL_law_1388 dL_law_1389 dL_law_1390 ?_
  refine y_arg (j := 2) (v := 2) h hX rfl rfl (by omega) hN dL_law_1391 dL_law_1392 dL_law_1393 dL_law_1394 dL_law_1395 ?_
  obtain ⟨P, Q, hC, hM, hPQ⟩ := st_item (bTE E a1) (bTE E a2) δ hR (xs (i + 1)) (xs (i + 2))
  refine z_C [.int (xs (i + 1)), .int (xs (i + 2))] h hE1 cs_L_167 hC rfl rfl ⟨rfl, rfl⟩ ⟨Nat.le_of_ble_eq_true rfl, Nat.le_of_ble_eq_true rfl⟩ (Nat.le_of_ble_eq_true rfl) dL_law_1396 (fun r σ' hp => ?_)
  refine y_ald2 h dL_law_1399 ?_
  refine y_arg (j := 1) (v := 1) h hX rfl rfl (by omega) hN dL_law_1400 dL_law_1401 dL_law_1402 dL_law_1403 dL_law_1404 ?_
  refine y_arg (j := 2) (v := 2) h hX rfl rfl (by omega) hN dL_law_1405 dL_law_1406 dL_law_1407 dL_law_1408 dL_law_1409 ?_
  refine z_M [.int (xs (i + 1)), .int (xs (i + 2))] h hE2 cs_L_170 hM rfl rfl ⟨rfl, rfl⟩ ⟨Nat.le_of_ble_eq_true rfl, Nat.le_of_ble_eq_true rfl⟩ (Nat.le_of_ble_eq_true rfl) dL_law_1410 (fun r' μ' δ' hq => ?_)
  obtain ⟨e, hR'⟩ := hPQ _ _ _ _ _ hp hq
  subst e
  refine y_icmp_eq 1546 h dL_law_1413 rfl (fun _ => ?_) (fun c => absurd rfl c)
  exact fin _ _ _ hR'
set_option maxRecDepth 100000 in
set_option maxHeartbeats 4000000 in
theorem lc_38 {E : ET} {k : KT} {a1 a2 : Nat → Nat} {b N i : Nat} {xs : Nat → Int32} {σ μ : ST} {δ : Nat → Int64} (hL : okLaw E k a1 a2 b N xs) (hi : i + 6 ≤ N) (hR : Rel σ μ) (fin : ∀ σ' μ' δ', Rel σ' μ' → Y E k (wTwo E a1 a2 σ' μ' δ') 600000 7302250 1546 (lLaw b i a1 a2) []) : Y E k (wTwo E a1 a2 σ μ δ) 600000 7302250 1418 (lLaw b i a1 a2) [] := by
  obtain ⟨h, hX, hE1, hE2, hN, hk⟩ := hL
  show Y E k (wTwo E a1 a2 σ μ δ) 600000 7302250 1418 [some (.ref b), some (.ref (a1 30)), some (.ref (a2 0)), some (.int (nI i))] []
  refine y_ald1 h dL_law_1418 ?_
  refine y_arg (j := 1) (v := 1) h hX rfl rfl (by omega) hN dL_law_1419 dL_law_1420 dL_law_1421 dL_law_1422 dL_law_1423 ?_
  refine y_arg (j := 2) (v := 2) h hX rfl rfl (by omega) hN dL_law_1424 dL_law_1425 dL_law_1426 dL_law_1427 dL_law_1428 ?_
  obtain ⟨P, Q, hC, hM, hPQ⟩ := st_rest (bTE E a1) (bTE E a2) δ hR (xs (i + 1)) (xs (i + 2))
  refine z_C [.int (xs (i + 1)), .int (xs (i + 2))] h hE1 cs_L_171 hC rfl rfl ⟨rfl, rfl⟩ ⟨Nat.le_of_ble_eq_true rfl, Nat.le_of_ble_eq_true rfl⟩ (Nat.le_of_ble_eq_true rfl) dL_law_1429 (fun r σ' hp => ?_)
  refine y_ald2 h dL_law_1432 ?_
  refine y_arg (j := 1) (v := 1) h hX rfl rfl (by omega) hN dL_law_1433 dL_law_1434 dL_law_1435 dL_law_1436 dL_law_1437 ?_
  refine y_arg (j := 2) (v := 2) h hX rfl rfl (by omega) hN dL_law_1438 dL_law_1439 dL_law_1440 dL_law_1441 dL_law_1442 ?_
  refine z_M [.int (xs (i + 1)), .int (xs (i + 2))] h hE2 cs_L_174 hM rfl rfl ⟨rfl, rfl⟩ ⟨Nat.le_of_ble_eq_true rfl, Nat.le_of_ble_eq_true rfl⟩ (Nat.le_of_ble_eq_true rfl) dL_law_1443 (fun r' μ' δ' hq => ?_)
  obtain ⟨e, hR'⟩ := hPQ _ _ _ _ _ hp hq
  subst e
  refine y_icmp_eq 1546 h dL_law_1446 rfl (fun _ => ?_) (fun c => absurd rfl c)
  exact fin _ _ _ hR'
set_option maxRecDepth 100000 in
set_option maxHeartbeats 4000000 in
theorem lc_39 {E : ET} {k : KT} {a1 a2 : Nat → Nat} {b N i : Nat} {xs : Nat → Int32} {σ μ : ST} {δ : Nat → Int64} (hL : okLaw E k a1 a2 b N xs) (hi : i + 6 ≤ N) (hR : Rel σ μ) (fin : ∀ σ' μ' δ', Rel σ' μ' → Y E k (wTwo E a1 a2 σ' μ' δ') 600000 7302250 1546 (lLaw b i a1 a2) []) : Y E k (wTwo E a1 a2 σ μ δ) 600000 7302250 1451 (lLaw b i a1 a2) [] := by
  obtain ⟨h, hX, hE1, hE2, hN, hk⟩ := hL
  show Y E k (wTwo E a1 a2 σ μ δ) 600000 7302250 1451 [some (.ref b), some (.ref (a1 30)), some (.ref (a2 0)), some (.int (nI i))] []
  refine y_ald1 h dL_law_1451 ?_
  refine y_arg (j := 1) (v := 1) h hX rfl rfl (by omega) hN dL_law_1452 dL_law_1453 dL_law_1454 dL_law_1455 dL_law_1456 ?_
  obtain ⟨P, Q, hC, hM, hPQ⟩ := st_tell (bTE E a1) (bTE E a2) δ hR (xs (i + 1))
  refine z_C [.int (xs (i + 1))] h hE1 cs_L_175 hC rfl rfl ⟨rfl, rfl⟩ ⟨Nat.le_of_ble_eq_true rfl, Nat.le_of_ble_eq_true rfl⟩ (Nat.le_of_ble_eq_true rfl) dL_law_1457 (fun r σ' hp => ?_)
  refine y_ald2 h dL_law_1460 ?_
  refine y_arg (j := 1) (v := 1) h hX rfl rfl (by omega) hN dL_law_1461 dL_law_1462 dL_law_1463 dL_law_1464 dL_law_1465 ?_
  refine z_M [.int (xs (i + 1))] h hE2 cs_L_178 hM rfl rfl ⟨rfl, rfl⟩ ⟨Nat.le_of_ble_eq_true rfl, Nat.le_of_ble_eq_true rfl⟩ (Nat.le_of_ble_eq_true rfl) dL_law_1466 (fun r' μ' δ' hq => ?_)
  obtain ⟨e, hR'⟩ := hPQ _ _ _ _ _ hp hq
  subst e
  refine y_icmp_eq 1546 h dL_law_1469 rfl (fun _ => ?_) (fun c => absurd rfl c)
  exact fin _ _ _ hR'
set_option maxRecDepth 100000 in
set_option maxHeartbeats 4000000 in
theorem lc_40 {E : ET} {k : KT} {a1 a2 : Nat → Nat} {b N i : Nat} {xs : Nat → Int32} {σ μ : ST} {δ : Nat → Int64} (hL : okLaw E k a1 a2 b N xs) (hi : i + 6 ≤ N) (hR : Rel σ μ) (fin : ∀ σ' μ' δ', Rel σ' μ' → Y E k (wTwo E a1 a2 σ' μ' δ') 600000 7302250 1546 (lLaw b i a1 a2) []) : Y E k (wTwo E a1 a2 σ μ δ) 600000 7302250 1474 (lLaw b i a1 a2) [] := by
  obtain ⟨h, hX, hE1, hE2, hN, hk⟩ := hL
  show Y E k (wTwo E a1 a2 σ μ δ) 600000 7302250 1474 [some (.ref b), some (.ref (a1 30)), some (.ref (a2 0)), some (.int (nI i))] []
  refine y_ald1 h dL_law_1474 ?_
  refine y_arg (j := 1) (v := 1) h hX rfl rfl (by omega) hN dL_law_1475 dL_law_1476 dL_law_1477 dL_law_1478 dL_law_1479 ?_
  obtain ⟨P, Q, hC, hM, hPQ⟩ := st_check (bTE E a1) (bTE E a2) δ hR (xs (i + 1))
  refine z_C [.int (xs (i + 1))] h hE1 cs_L_179 hC rfl rfl ⟨rfl, rfl⟩ ⟨Nat.le_of_ble_eq_true rfl, Nat.le_of_ble_eq_true rfl⟩ (Nat.le_of_ble_eq_true rfl) dL_law_1480 (fun r σ' hp => ?_)
  refine y_ald2 h dL_law_1483 ?_
  refine y_arg (j := 1) (v := 1) h hX rfl rfl (by omega) hN dL_law_1484 dL_law_1485 dL_law_1486 dL_law_1487 dL_law_1488 ?_
  refine z_M [.int (xs (i + 1))] h hE2 cs_L_182 hM rfl rfl ⟨rfl, rfl⟩ ⟨Nat.le_of_ble_eq_true rfl, Nat.le_of_ble_eq_true rfl⟩ (Nat.le_of_ble_eq_true rfl) dL_law_1489 (fun r' μ' δ' hq => ?_)
  obtain ⟨e, hR'⟩ := hPQ _ _ _ _ _ hp hq
  subst e
  refine y_icmp_eq 1546 h dL_law_1492 rfl (fun _ => ?_) (fun c => absurd rfl c)
  exact fin _ _ _ hR'
set_option maxRecDepth 100000 in
set_option maxHeartbeats 4000000 in
theorem lc_41 {E : ET} {k : KT} {a1 a2 : Nat → Nat} {b N i : Nat} {xs : Nat → Int32} {σ μ : ST} {δ : Nat → Int64} (hL : okLaw E k a1 a2 b N xs) (hi : i + 6 ≤ N) (hR : Rel σ μ) (fin : ∀ σ' μ' δ', Rel σ' μ' → Y E k (wTwo E a1 a2 σ' μ' δ') 600000 7302250 1546 (lLaw b i a1 a2) []) : Y E k (wTwo E a1 a2 σ μ δ) 600000 7302250 1497 (lLaw b i a1 a2) [] := by
  obtain ⟨h, hX, hE1, hE2, hN, hk⟩ := hL
  show Y E k (wTwo E a1 a2 σ μ δ) 600000 7302250 1497 [some (.ref b), some (.ref (a1 30)), some (.ref (a2 0)), some (.int (nI i))] []
  refine y_ald1 h dL_law_1497 ?_
  obtain ⟨P, Q, hC, hM, hPQ⟩ := st_keep (bTE E a1) (bTE E a2) δ hR 
  refine z_C [] h hE1 cs_L_183 hC rfl rfl ⟨rfl, rfl⟩ ⟨Nat.le_of_ble_eq_true rfl, Nat.le_of_ble_eq_true rfl⟩ (Nat.le_of_ble_eq_true rfl) dL_law_1498 (fun r σ' hp => ?_)
  refine y_ald2 h dL_law_1501 ?_
  refine z_M [] h hE2 cs_L_186 hM rfl rfl ⟨rfl, rfl⟩ ⟨Nat.le_of_ble_eq_true rfl, Nat.le_of_ble_eq_true rfl⟩ (Nat.le_of_ble_eq_true rfl) dL_law_1502 (fun r' μ' δ' hq => ?_)
  obtain ⟨e, hR'⟩ := hPQ _ _ _ _ _ hp hq
  subst e
  refine y_icmp_eq 1546 h dL_law_1505 rfl (fun _ => ?_) (fun c => absurd rfl c)
  exact fin _ _ _ hR'
set_option maxRecDepth 100000 in
set_option maxHeartbeats 4000000 in
theorem lc_42 {E : ET} {k : KT} {a1 a2 : Nat → Nat} {b N i : Nat} {xs : Nat → Int32} {σ μ : ST} {δ : Nat → Int64} (hL : okLaw E k a1 a2 b N xs) (hi : i + 6 ≤ N) (hR : Rel σ μ) (fin : ∀ σ' μ' δ', Rel σ' μ' → Y E k (wTwo E a1 a2 σ' μ' δ') 600000 7302250 1546 (lLaw b i a1 a2) []) : Y E k (wTwo E a1 a2 σ μ δ) 600000 7302250 1510 (lLaw b i a1 a2) [] := by
  obtain ⟨h, hX, hE1, hE2, hN, hk⟩ := hL
  show Y E k (wTwo E a1 a2 σ μ δ) 600000 7302250 1510 [some (.ref b), some (.ref (a1 30)), some (.ref (a2 0)), some (.int (nI i))] []
  refine y_ald1 h dL_law_1510 ?_
  obtain ⟨P, Q, hC, hM, hPQ⟩ := st_back (bTE E a1) (bTE E a2) δ hR 
  refine z_C [] h hE1 cs_L_187 hC rfl rfl ⟨rfl, rfl⟩ ⟨Nat.le_of_ble_eq_true rfl, Nat.le_of_ble_eq_true rfl⟩ (Nat.le_of_ble_eq_true rfl) dL_law_1511 (fun r σ' hp => ?_)
  refine y_ald2 h dL_law_1514 ?_
  refine z_M [] h hE2 cs_L_190 hM rfl rfl ⟨rfl, rfl⟩ ⟨Nat.le_of_ble_eq_true rfl, Nat.le_of_ble_eq_true rfl⟩ (Nat.le_of_ble_eq_true rfl) dL_law_1515 (fun r' μ' δ' hq => ?_)
  obtain ⟨e, hR'⟩ := hPQ _ _ _ _ _ hp hq
  subst e
  refine y_icmp_eq 1546 h dL_law_1518 rfl (fun _ => ?_) (fun c => absurd rfl c)
  exact fin _ _ _ hR'
set_option maxRecDepth 100000 in
set_option maxHeartbeats 4000000 in
theorem lc_43 {E : ET} {k : KT} {a1 a2 : Nat → Nat} {b N i : Nat} {xs : Nat → Int32} {σ μ : ST} {δ : Nat → Int64} (hL : okLaw E k a1 a2 b N xs) (hi : i + 6 ≤ N) (hR : Rel σ μ) (fin : ∀ σ' μ' δ', Rel σ' μ' → Y E k (wTwo E a1 a2 σ' μ' δ') 600000 7302250 1546 (lLaw b i a1 a2) []) : Y E k (wTwo E a1 a2 σ μ δ) 600000 7302250 1523 (lLaw b i a1 a2) [] := by
  obtain ⟨h, hX, hE1, hE2, hN, hk⟩ := hL
  show Y E k (wTwo E a1 a2 σ μ δ) 600000 7302250 1523 [some (.ref b), some (.ref (a1 30)), some (.ref (a2 0)), some (.int (nI i))] []
  refine y_ald1 h dL_law_1523 ?_
  refine y_arg (j := 1) (v := 1) h hX rfl rfl (by omega) hN dL_law_1524 dL_law_1525 dL_law_1526 dL_law_1527 dL_law_1528 ?_
  obtain ⟨P, Q, hC, hM, hPQ⟩ := st_count (bTE E a1) (bTE E a2) δ hR (xs (i + 1))
  refine z_C [.int (xs (i + 1))] h hE1 cs_L_191 hC rfl rfl ⟨rfl, rfl⟩ ⟨Nat.le_of_ble_eq_true rfl, Nat.le_of_ble_eq_true rfl⟩ (Nat.le_of_ble_eq_true rfl) dL_law_1529 (fun r σ' hp => ?_)
  refine y_ald2 h dL_law_1532 ?_
  refine y_arg (j := 1) (v := 1) h hX rfl rfl (by omega) hN dL_law_1533 dL_law_1534 dL_law_1535 dL_law_1536 dL_law_1537 ?_
  refine z_M [.int (xs (i + 1))] h hE2 cs_L_194 hM rfl rfl ⟨rfl, rfl⟩ ⟨Nat.le_of_ble_eq_true rfl, Nat.le_of_ble_eq_true rfl⟩ (Nat.le_of_ble_eq_true rfl) dL_law_1538 (fun r' μ' δ' hq => ?_)
  obtain ⟨e, hR'⟩ := hPQ _ _ _ _ _ hp hq
  subst e
  refine y_icmp_eq 1546 h dL_law_1541 rfl (fun _ => ?_) (fun c => absurd rfl c)
  exact fin _ _ _ hR'
theorem law_end {N i : Nat} (hN : N ≤ 3072) (hi : i ≤ N + 6) : (nI N - 6 < nI i ↔ ¬ i + 6 ≤ N) := by
  by_cases q : 6 ≤ N
  · rw [show nI N - 6 = nI (N - 6) from pk_sub q]
    constructor
    · intro z
      have := n_lt (a := N - 6) (b := i) (by omega) (by omega) z
      omega
    · intro z
      exact nI_lt (by omega) (by omega)
  · have h5 : N = 0 ∨ N = 1 ∨ N = 2 ∨ N = 3 ∨ N = 4 ∨ N = 5 := by omega
    have hneg : (nI N - 6).toInt < 0 := by rcases h5 with rfl | rfl | rfl | rfl | rfl | rfl <;> decide
    refine ⟨fun _ => by omega, fun _ => ?_⟩
    rw [Int32.lt_iff_toInt_lt, nI_toInt (by omega)]
    omega
theorem sel_44 (w : Int32) (h : ¬ (w.toInt < 0 ∨ 43 < w.toInt)) : ∃ c, c < 44 ∧ w = nI c := by
  obtain ⟨c, hc, rfl⟩ := nI_of (x := w) (fun z => h (Or.inl (by rw [Int32.lt_iff_toInt_lt] at z; exact z)))
  rw [nI_toInt hc] at h
  exact ⟨c, by omega, rfl⟩
set_option maxRecDepth 100000 in
set_option maxHeartbeats 4000000 in
theorem law_loop {E : ET} {k : KT} {a1 a2 : Nat → Nat} {b N : Nat} {xs : Nat → Int32} (hL : okLaw E k a1 a2 b N xs) (fin : ∀ ws L, Y E k ws 600000 7302250 1553 L [.int 1]) : ∀ (d i : Nat) (σ μ : ST) (δ : Nat → Int64), N ≤ i + d → i ≤ N + 6 → Rel σ μ → Y E k (wTwo E a1 a2 σ μ δ) 600000 7302250 18 (lLaw b i a1 a2) [] := by
  intro d
  induction d with
  | zero =>
    intro i σ μ δ h1 h2 hR
    obtain ⟨h, hX, hE1, hE2, hN, hk⟩ := id hL
    show Y E k (wTwo E a1 a2 σ μ δ) 600000 7302250 18 [some (.ref b), some (.ref (a1 30)), some (.ref (a2 0)), some (.int (nI i))] []
    refine y_ild3 h dL_law_18 (y_ald0 h dL_law_19 (y_slen h hX dL_law_20 (y_bipush (v := 6) h dL_law_21 rfl (y_isub h dL_law_23 ?_))))
    refine y_icmp_gt 1552 h dL_law_24 rfl (fun _ => ?_) (fun c => absurd ((law_end hN h2).mpr (by omega)) c)
    exact y_iconst (v := 1) h dL_law_1552 rfl (fin _ _)
  | succ d ih =>
    intro i σ μ δ h1 h2 hR
    obtain ⟨h, hX, hE1, hE2, hN, hk⟩ := id hL
    show Y E k (wTwo E a1 a2 σ μ δ) 600000 7302250 18 [some (.ref b), some (.ref (a1 30)), some (.ref (a2 0)), some (.int (nI i))] []
    refine y_ild3 h dL_law_18 (y_ald0 h dL_law_19 (y_slen h hX dL_law_20 (y_bipush (v := 6) h dL_law_21 rfl (y_isub h dL_law_23 ?_))))
    refine y_icmp_gt 1552 h dL_law_24 rfl (fun _ => y_iconst (v := 1) h dL_law_1552 rfl (fin _ _)) (fun c => ?_)
    have hi : i + 6 ≤ N := Decidable.byContradiction (fun q => c ((law_end hN h2).mpr q))
    have nx : ∀ σ' μ' δ', Rel σ' μ' → Y E k (wTwo E a1 a2 σ' μ' δ') 600000 7302250 1546 (lLaw b i a1 a2) [] := by
      intro σ' μ' δ' hR'
      refine y_inc3 (y := 6) h dL_law_1546 (by rw [hk]; decide) rfl rfl ?_
      rw [show nI i + 6 = nI (i + 6) from nI_add i 6]
      exact y_goto 18 h dL_law_1549 rfl (ih (i + 6) σ' μ' δ' (by omega) (by omega) hR')
    refine y_ald0 h dL_law_27 (y_ild3 h dL_law_28 (y_sld h hX (vp_in_nI (by omega) (by omega)) dL_law_29 (y_bipush (v := 63) h dL_law_30 rfl (y_iand h dL_law_32 ?_))))
    by_cases hs : (xs (nI i).toNatClampNeg &&& 63).toInt < 0 ∨ 43 < (xs (nI i).toNatClampNeg &&& 63).toInt
    · exact y_tout 1546 h dL_law_33 hs rfl (nx _ _ _ hR)
    · obtain ⟨s, hs4, es⟩ := sel_44 _ hs
      rw [es]
      match s, hs4 with
      | 0, _ => exact y_tin 224 h dL_law_33 (by decide) (by decide) rfl rfl (lc_0 hL hi hR nx)
      | 1, _ => exact y_tin 277 h dL_law_33 (by decide) (by decide) rfl rfl (lc_1 hL hi hR nx)
      | 2, _ => exact y_tin 310 h dL_law_33 (by decide) (by decide) rfl rfl (lc_2 hL hi hR nx)
      | 3, _ => exact y_tin 343 h dL_law_33 (by decide) (by decide) rfl rfl (lc_3 hL hi hR nx)
      | 4, _ => exact y_tin 376 h dL_law_33 (by decide) (by decide) rfl rfl (lc_4 hL hi hR nx)
      | 5, _ => exact y_tin 419 h dL_law_33 (by decide) (by decide) rfl rfl (lc_5 hL hi hR nx)
      | 6, _ => exact y_tin 462 h dL_law_33 (by decide) (by decide) rfl rfl (lc_6 hL hi hR nx)
      | 7, _ => exact y_tin 485 h dL_law_33 (by decide) (by decide) rfl rfl (lc_7 hL hi hR nx)
      | 8, _ => exact y_tin 508 h dL_law_33 (by decide) (by decide) rfl rfl (lc_8 hL hi hR nx)
      | 9, _ => exact y_tin 531 h dL_law_33 (by decide) (by decide) rfl rfl (lc_9 hL hi hR nx)
      | 10, _ => exact y_tin 554 h dL_law_33 (by decide) (by decide) rfl rfl (lc_10 hL hi hR nx)
      | 11, _ => exact y_tin 587 h dL_law_33 (by decide) (by decide) rfl rfl (lc_11 hL hi hR nx)
      | 12, _ => exact y_tin 610 h dL_law_33 (by decide) (by decide) rfl rfl (lc_12 hL hi hR nx)
      | 13, _ => exact y_tin 633 h dL_law_33 (by decide) (by decide) rfl rfl (lc_13 hL hi hR nx)
      | 14, _ => exact y_tin 656 h dL_law_33 (by decide) (by decide) rfl rfl (lc_14 hL hi hR nx)
      | 15, _ => exact y_tin 679 h dL_law_33 (by decide) (by decide) rfl rfl (lc_15 hL hi hR nx)
      | 16, _ => exact y_tin 712 h dL_law_33 (by decide) (by decide) rfl rfl (lc_16 hL hi hR nx)
      | 17, _ => exact y_tin 725 h dL_law_33 (by decide) (by decide) rfl rfl (lc_17 hL hi hR nx)
      | 18, _ => exact y_tin 758 h dL_law_33 (by decide) (by decide) rfl rfl (lc_18 hL hi hR nx)
      | 19, _ => exact y_tin 791 h dL_law_33 (by decide) (by decide) rfl rfl (lc_19 hL hi hR nx)
      | 20, _ => exact y_tin 824 h dL_law_33 (by decide) (by decide) rfl rfl (lc_20 hL hi hR nx)
      | 21, _ => exact y_tin 867 h dL_law_33 (by decide) (by decide) rfl rfl (lc_21 hL hi hR nx)
      | 22, _ => exact y_tin 910 h dL_law_33 (by decide) (by decide) rfl rfl (lc_22 hL hi hR nx)
      | 23, _ => exact y_tin 943 h dL_law_33 (by decide) (by decide) rfl rfl (lc_23 hL hi hR nx)
      | 24, _ => exact y_tin 956 h dL_law_33 (by decide) (by decide) rfl rfl (lc_24 hL hi hR nx)
      | 25, _ => exact y_tin 979 h dL_law_33 (by decide) (by decide) rfl rfl (lc_25 hL hi hR nx)
      | 26, _ => exact y_tin 1022 h dL_law_33 (by decide) (by decide) rfl rfl (lc_26 hL hi hR nx)
      | 27, _ => exact y_tin 1045 h dL_law_33 (by decide) (by decide) rfl rfl (lc_27 hL hi hR nx)
      | 28, _ => exact y_tin 1058 h dL_law_33 (by decide) (by decide) rfl rfl (lc_28 hL hi hR nx)
      | 29, _ => exact y_tin 1091 h dL_law_33 (by decide) (by decide) rfl rfl (lc_29 hL hi hR nx)
      | 30, _ => exact y_tin 1114 h dL_law_33 (by decide) (by decide) rfl rfl (lc_30 hL hi hR nx)
      | 31, _ => exact y_tin 1157 h dL_law_33 (by decide) (by decide) rfl rfl (lc_31 hL hi hR nx)
      | 32, _ => exact y_tin 1200 h dL_law_33 (by decide) (by decide) rfl rfl (lc_32 hL hi hR nx)
      | 33, _ => exact y_tin 1223 h dL_law_33 (by decide) (by decide) rfl rfl (lc_33 hL hi hR nx)
      | 34, _ => exact y_tin 1246 h dL_law_33 (by decide) (by decide) rfl rfl (lc_34 hL hi hR nx)
      | 35, _ => exact y_tin 1309 h dL_law_33 (by decide) (by decide) rfl rfl (lc_35 hL hi hR nx)
      | 36, _ => exact y_tin 1352 h dL_law_33 (by decide) (by decide) rfl rfl (lc_36 hL hi hR nx)
      | 37, _ => exact y_tin 1385 h dL_law_33 (by decide) (by decide) rfl rfl (lc_37 hL hi hR nx)
      | 38, _ => exact y_tin 1418 h dL_law_33 (by decide) (by decide) rfl rfl (lc_38 hL hi hR nx)
      | 39, _ => exact y_tin 1451 h dL_law_33 (by decide) (by decide) rfl rfl (lc_39 hL hi hR nx)
      | 40, _ => exact y_tin 1474 h dL_law_33 (by decide) (by decide) rfl rfl (lc_40 hL hi hR nx)
      | 41, _ => exact y_tin 1497 h dL_law_33 (by decide) (by decide) rfl rfl (lc_41 hL hi hR nx)
      | 42, _ => exact y_tin 1510 h dL_law_33 (by decide) (by decide) rfl rfl (lc_42 hL hi hR nx)
      | 43, _ => exact y_tin 1523 h dL_law_33 (by decide) (by decide) rfl rfl (lc_43 hL hi hR nx)
      | n + 44, hn => exact absurd hn (by omega)
