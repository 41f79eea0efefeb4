/-! the law's cases: each call's walk -/
theorem c_ch (x : Int32) : fits .char (.int (x.toUInt32 % 65536).toInt32) = true := by
  obtain ⟨j, hj, e⟩ : ∃ j, j < 65536 ∧ (x.toUInt32 % 65536).toInt32 = nI j := ⟨(x.toUInt32 % 65536).toNat, by rw [UInt32.toNat_mod]; exact Nat.mod_lt _ (by decide), by
    apply Int32.toBitVec_inj.mp
    apply BitVec.eq_of_toNat_eq
    simp [nI]
    show x.toUInt32.toNat % 65536 = _
    omega⟩
  rw [e]
  have h1 : 0 ≤ nI j := Int32.not_lt.mp (nI_pos (by omega))
  have h2 : nI j ≤ 65535 := (nI_leI (by omega) (b := 65535) (by decide)).mpr (by omega)
  simp [fits, h1, h2]
section LC
variable {g : xG} {B : BT} {Q : State → Prop} {b L c : Nat} {xs : Nat → Int32}
def lsL (g : xG) (b c : Nat) : List (Option Value) := [some (.ref b), some (.ref (ad g 0)), some (.ref (ad g 363)), some (.ref (ad g 373)), some (.ref (ad g 374)), some (.int (nI (4 * c))), none, none, none]
def NX (g : xG) (B : BT) (Q : State → Prop) (b c : Nat) : Prop := ∀ (m2 : Mem) (sz : Nat), JA (5000 * (c + 1)) m2 → V g B (375 + 42 * (c + 1)) (6000 + 8300 * (c + 1)) Q (hp g m2) sz 2599 (lsL g b c) []
set_option maxRecDepth 100000 in
theorem NX.go (nx : NX g B Q b c) {k n K : Nat} {m2 : Mem} {sz : Nat} {x6 x7 x8 : Option Value} (hk : k ≤ 375 + 42 * c + 42) (hn : n ≤ 6000 + 8300 * c + 8300) (hJ : JA K m2) (hK : K ≤ 5000 * c + 5000) : V g B k n Q (hp g m2) sz 2599 [some (.ref b), some (.ref (ad g 0)), some (.ref (ad g 363)), some (.ref (ad g 373)), some (.ref (ad g 374)), some (.int (nI (4 * c))), x6, x7, x8] [] :=
  V.wid (k' := 375 + 42 * (c + 1)) (n' := 6000 + 8300 * (c + 1)) (by omega) (by omega) (V.sub (ls' := lsL g b c) (fun _ _ h => h) ls_in (nx m2 sz (hJ.mono (by omega))))
set_option maxRecDepth 100000 in
theorem law_tail (hB : Bd g B code 9 RL ret 51 603072 7207018) (hG : GK g) (nx : NX g B Q b c) {P off : Nat} {K k n sz : Nat} {m2 : Mem} {v y : Int32} {x8 : Option Value}
    (d0 : decode code P = .ok (.aload_n 2, 1)) (d1 : decode code (P + 1) = .ok (.invokevirtual 151, 3)) (d2 : decode code (P + 4) = .ok (.iload 6, 2)) (d3 : decode code (P + 6) = .ok (.if_icmp .eq 5, 3)) (d4 : decode code (P + 11) = .ok (.iload 6, 2)) (d5 : decode code (P + 13) = .ok (.ifCond .ne 15, 3)) (d6 : decode code (P + 16) = .ok (.aload_n 3, 1)) (d7 : decode code (P + 17) = .ok (.iconst 0, 1)) (d8 : decode code (P + 18) = .ok (.laload, 1)) (d9 : decode code (P + 19) = .ok (.iload 7, 2)) (d10 : decode code (P + 21) = .ok (.i2l, 1)) (d11 : decode code (P + 22) = .ok (.lcmp, 1)) (d12 : decode code (P + 23) = .ok (.ifCond .eq 5, 3)) (d13 : decode code (P + 28) = .ok (.goto (off : Int), 3)) (ho : P + 28 + off = 2599)
    (hk : k ≤ 375 + 42 * c + 42) (hn : n ≤ 6000 + 8300 * c + 8300) (hc : c ≤ 511) (h : LOut K v y m2) (hK : K ≤ 5000 * c + 5000) : V g B k n Q (hp g m2) sz P [some (.ref b), some (.ref (ad g 0)), some (.ref (ad g 363)), some (.ref (ad g 373)), some (.ref (ad g 374)), some (.int (nI (4 * c))), some (.int v), some (.int y), x8] [] := by
  have kend : ∀ sz, V g B k n Q (hp g m2) sz (P + 28) [some (.ref b), some (.ref (ad g 0)), some (.ref (ad g 363)), some (.ref (ad g 373)), some (.ref (ad g 374)), some (.int (nI (4 * c))), some (.int v), some (.int y), x8] [] := fun sz =>
    V.goto (tgt := 2599) hB d13 (by omega) (nx.go hk hn h.1 hK)
  refine V.aload_n hB d0 rfl ?_
  refine V.cv (pc := P + 1) hB cw_X10_thrown wm_L_151 wi_X10_thrown ws_X10_thrown d1 (c_X10_thrown hG) (hp_at (ca_Model _)) fk_Model rfl (by omega) (by decide) rfl (by exact Nat.le_of_ble_eq_true rfl) (by omega) (by omega) kN (kI (fun t m3 sz ht => ?_)) rfl
  obtain ⟨rfl, rfl⟩ := ht
  refine V.iload (pc := P + 4) hB d2 rfl ?_
  refine V.icmp_eq (pc := P + 6) (tgt := P + 11) hB d3 (by omega) (fun _ => ?_) (fun z => absurd h.2.1 z)
  refine V.iload (pc := P + 11) hB d4 rfl ?_
  refine V.if_ne (pc := P + 13) (tgt := P + 28) hB d5 (by omega) (fun _ => kend _) (fun z => ?_)
  have e := h.2.2 z
  refine V.aload_n (pc := P + 16) hB d6 rfl ?_
  refine V.iconst (pc := P + 17) (v := 0) hB d7 rfl ?_
  refine V.lald (pc := P + 18) hB d8 (hp_at (k := 373) rfl) vp_in0 ?_
  refine V.iload (pc := P + 19) hB d9 rfl ?_
  refine V.i2l (pc := P + 21) hB d10 ?_
  refine V.lcmp (pc := P + 22) hB d11 ?_
  exact V.if_eq (pc := P + 23) (tgt := P + 28) hB d12 (by omega) (fun _ => kend _) (fun z => absurd (by rw [← e]; exact lg_cmp_id _) z)

set_option maxRecDepth 100000 in
theorem lk_0 {z : xE} (hE : GE g z) (hB : Bd g B code 9 RL ret 51 603072 7207018) (hG : GK g) (hS : va_T .int b L (fun j => .int (xs j)) (xFree g) g.1 g.1.heap) (hc : 4 * c + 4 ≤ L) (hL : L ≤ 2048) {m : Mem} {sz : Nat} (hJ : JA (5000 * c) m) (nx : NX g B Q b c) : V g B (375 + 42 * c) (6000 + 8300 * c) Q (hp g m) sz 264 [some (.ref b), some (.ref (ad g 0)), some (.ref (ad g 363)), some (.ref (ad g 373)), some (.ref (ad g 374)), some (.int (nI (4 * c))), none, none, none] [] := by
  have hc5 : c ≤ 511 := by omega
  refine V.aload_n (pc := 264) hB dL_law_264 rfl ?_
  refine V.aload_n (pc := 265) hB dL_law_265 rfl ?_
  refine V.iload (pc := 266) hB dL_law_266 rfl ?_
  refine V.iconst (pc := 268) (v := 1) hB dL_law_268 rfl ?_
  refine V.iadd (pc := 269) hB dL_law_269 ?_
  refine V.sti (pc := 270) hB hS (sx (xs := xs) (q := 1) hc hL (by decide)).1 (sx (xs := xs) (q := 1) hc hL (by decide)).2 dL_law_270 ?_
  refine V.aload_n (pc := 271) hB dL_law_271 rfl ?_
  refine V.csW (pc := 272) hB cwx_L_addLake wm_L_145 wst_L_addLake dL_law_272 (w_addLake hG hJ) (by omega) (by decide) rfl (by exact Nat.le_of_ble_eq_true rfl) (by omega) (by omega) (kI (fun v m1 sz hw => ?_)) rfl
  refine V.istore (pc := 275) hB dL_law_275 (by decide) rfl ?_
  refine V.aload_n (pc := 277) hB dL_law_277 rfl ?_
  refine V.aload_n (pc := 278) hB dL_law_278 rfl ?_
  refine V.iload (pc := 279) hB dL_law_279 rfl ?_
  refine V.iconst (pc := 281) (v := 1) hB dL_law_281 rfl ?_
  refine V.iadd (pc := 282) hB dL_law_282 ?_
  refine V.sti (pc := 283) hB hS (sx (xs := xs) (q := 1) hc hL (by decide)).1 (sx (xs := xs) (q := 1) hc hL (by decide)).2 dL_law_283 ?_
  refine V.cv (pc := 284) hB cw_X10_addLake wm_L_150 wi_X10_addLake ws_X10_addLake dL_law_284 (n_addLake hG hJ hw) (hp_at (ca_Model _)) fk_Model rfl (by omega) (by decide) rfl (by exact Nat.le_of_ble_eq_true rfl) (by omega) (by omega) kN (kI (fun v2 m2 sz hq => ?_)) rfl
  refine V.istore (pc := 287) hB dL_law_287 (by decide) rfl ?_
  exact law_tail (P := 289) (off := 2282) hB hG nx dL_law_289 dL_law_290 dL_law_293 dL_law_295 dL_law_300 dL_law_302 dL_law_305 dL_law_306 dL_law_307 dL_law_308 dL_law_310 dL_law_311 dL_law_312 dL_law_317 rfl (by omega) (by omega) (by omega) hq (by omega)
set_option maxRecDepth 100000 in
theorem lk_1 {z : xE} (hE : GE g z) (hB : Bd g B code 9 RL ret 51 603072 7207018) (hG : GK g) (hS : va_T .int b L (fun j => .int (xs j)) (xFree g) g.1 g.1.heap) (hc : 4 * c + 4 ≤ L) (hL : L ≤ 2048) {m : Mem} {sz : Nat} (hJ : JA (5000 * c) m) (nx : NX g B Q b c) : V g B (375 + 42 * c) (6000 + 8300 * c) Q (hp g m) sz 320 [some (.ref b), some (.ref (ad g 0)), some (.ref (ad g 363)), some (.ref (ad g 373)), some (.ref (ad g 374)), some (.int (nI (4 * c))), none, none, none] [] := by
  have hc5 : c ≤ 511 := by omega
  refine V.aload_n (pc := 320) hB dL_law_320 rfl ?_
  refine V.aload_n (pc := 321) hB dL_law_321 rfl ?_
  refine V.iload (pc := 322) hB dL_law_322 rfl ?_
  refine V.iconst (pc := 324) (v := 1) hB dL_law_324 rfl ?_
  refine V.iadd (pc := 325) hB dL_law_325 ?_
  refine V.sti (pc := 326) hB hS (sx (xs := xs) (q := 1) hc hL (by decide)).1 (sx (xs := xs) (q := 1) hc hL (by decide)).2 dL_law_326 ?_
  refine V.aload_n (pc := 327) hB dL_law_327 rfl ?_
  refine V.iload (pc := 328) hB dL_law_328 rfl ?_
  refine V.iconst (pc := 330) (v := 2) hB dL_law_330 rfl ?_
  refine V.iadd (pc := 331) hB dL_law_331 ?_
  refine V.sti (pc := 332) hB hS (sx (xs := xs) (q := 2) hc hL (by decide)).1 (sx (xs := xs) (q := 2) hc hL (by decide)).2 dL_law_332 ?_
  refine V.aload_n (pc := 333) hB dL_law_333 rfl ?_
  refine V.iload (pc := 334) hB dL_law_334 rfl ?_
  refine V.iconst (pc := 336) (v := 3) hB dL_law_336 rfl ?_
  refine V.iadd (pc := 337) hB dL_law_337 ?_
  refine V.sti (pc := 338) hB hS (sx (xs := xs) (q := 3) hc hL (by decide)).1 (sx (xs := xs) (q := 3) hc hL (by decide)).2 dL_law_338 ?_
  refine V.aload_n (pc := 339) hB dL_law_339 rfl ?_
  refine V.csW (pc := 340) hB cwx_L_freeze wm_L_154 wst_L_freeze dL_law_340 (w_freeze hG hJ) (by omega) (by decide) rfl (by exact Nat.le_of_ble_eq_true rfl) (by omega) (by omega) (kI (fun v m1 sz hw => ?_)) rfl
  refine V.istore (pc := 343) hB dL_law_343 (by decide) rfl ?_
  refine V.aload_n (pc := 345) hB dL_law_345 rfl ?_
  refine V.aload_n (pc := 346) hB dL_law_346 rfl ?_
  refine V.iload (pc := 347) hB dL_law_347 rfl ?_
  refine V.iconst (pc := 349) (v := 1) hB dL_law_349 rfl ?_
  refine V.iadd (pc := 350) hB dL_law_350 ?_
  refine V.sti (pc := 351) hB hS (sx (xs := xs) (q := 1) hc hL (by decide)).1 (sx (xs := xs) (q := 1) hc hL (by decide)).2 dL_law_351 ?_
  refine V.aload_n (pc := 352) hB dL_law_352 rfl ?_
  refine V.iload (pc := 353) hB dL_law_353 rfl ?_
  refine V.iconst (pc := 355) (v := 2) hB dL_law_355 rfl ?_
  refine V.iadd (pc := 356) hB dL_law_356 ?_
  refine V.sti (pc := 357) hB hS (sx (xs := xs) (q := 2) hc hL (by decide)).1 (sx (xs := xs) (q := 2) hc hL (by decide)).2 dL_law_357 ?_
  refine V.aload_n (pc := 358) hB dL_law_358 rfl ?_
  refine V.iload (pc := 359) hB dL_law_359 rfl ?_
  refine V.iconst (pc := 361) (v := 3) hB dL_law_361 rfl ?_
  refine V.iadd (pc := 362) hB dL_law_362 ?_
  refine V.sti (pc := 363) hB hS (sx (xs := xs) (q := 3) hc hL (by decide)).1 (sx (xs := xs) (q := 3) hc hL (by decide)).2 dL_law_363 ?_
  refine V.cv (pc := 364) hB cw_X10_freeze wm_L_157 wi_X10_freeze ws_X10_freeze dL_law_364 (n_freeze hG hJ hw) (hp_at (ca_Model _)) fk_Model rfl (by omega) (by decide) rfl (by exact Nat.le_of_ble_eq_true rfl) (by omega) (by omega) kN (kI (fun v2 m2 sz hq => ?_)) rfl
  refine V.istore (pc := 367) hB dL_law_367 (by decide) rfl ?_
  exact law_tail (P := 369) (off := 2202) hB hG nx dL_law_369 dL_law_370 dL_law_373 dL_law_375 dL_law_380 dL_law_382 dL_law_385 dL_law_386 dL_law_387 dL_law_388 dL_law_390 dL_law_391 dL_law_392 dL_law_397 rfl (by omega) (by omega) (by omega) hq (by omega)
set_option maxRecDepth 100000 in
theorem lk_2 {z : xE} (hE : GE g z) (hB : Bd g B code 9 RL ret 51 603072 7207018) (hG : GK g) (hS : va_T .int b L (fun j => .int (xs j)) (xFree g) g.1 g.1.heap) (hc : 4 * c + 4 ≤ L) (hL : L ≤ 2048) {m : Mem} {sz : Nat} (hJ : JA (5000 * c) m) (nx : NX g B Q b c) : V g B (375 + 42 * c) (6000 + 8300 * c) Q (hp g m) sz 400 [some (.ref b), some (.ref (ad g 0)), some (.ref (ad g 363)), some (.ref (ad g 373)), some (.ref (ad g 374)), some (.int (nI (4 * c))), none, none, none] [] := by
  have hc5 : c ≤ 511 := by omega
  refine V.aload_n (pc := 400) hB dL_law_400 rfl ?_
  refine V.cv (pc := 401) hB cw_X9_lakeCount wm_L_158 wi_X9_lakeCount ws_X9_lakeCount dL_law_401 (w_lakeCount hG hJ) (hp_at (ca_Bells _)) fk_Bells rfl (by omega) (by decide) rfl (by exact Nat.le_of_ble_eq_true rfl) (by omega) (by omega) kN (kI (fun v m1 sz hw => ?_)) rfl
  obtain ⟨rfl, hw⟩ := hw
  refine V.aload_n (pc := 404) hB dL_law_404 rfl ?_
  refine V.cv (pc := 405) hB cw_X10_lakeCount wm_L_161 wi_X10_lakeCount ws_X10_lakeCount dL_law_405 (n_lakeCount hG hJ hw) (hp_at (ca_Model _)) fk_Model rfl (by omega) (by decide) rfl (by exact Nat.le_of_ble_eq_true rfl) (by omega) (by omega) kN (kI (fun v2 m2 sz hq => ?_)) rfl
  exact V.icmp_eq (pc := 408) (tgt := 2599) hB dL_law_408 (by decide) (fun _ => nx.go (by omega) (by omega) hq.2 (by omega)) (fun z => absurd hq.1.symm z)
set_option maxRecDepth 100000 in
theorem lk_3 {z : xE} (hE : GE g z) (hB : Bd g B code 9 RL ret 51 603072 7207018) (hG : GK g) (hS : va_T .int b L (fun j => .int (xs j)) (xFree g) g.1 g.1.heap) (hc : 4 * c + 4 ≤ L) (hL : L ≤ 2048) {m : Mem} {sz : Nat} (hJ : JA (5000 * c) m) (nx : NX g B Q b c) : V g B (375 + 42 * c) (6000 + 8300 * c) Q (hp g m) sz 413 [some (.ref b), some (.ref (ad g 0)), some (.ref (ad g 363)), some (.ref (ad g 373)), some (.ref (ad g 374)), some (.int (nI (4 * c))), none, none, none] [] := by
  have hc5 : c ≤ 511 := by omega
  refine V.aload_n (pc := 413) hB dL_law_413 rfl ?_
  refine V.aload_n (pc := 414) hB dL_law_414 rfl ?_
  refine V.iload (pc := 415) hB dL_law_415 rfl ?_
  refine V.iconst (pc := 417) (v := 1) hB dL_law_417 rfl ?_
  refine V.iadd (pc := 418) hB dL_law_418 ?_
  refine V.sti (pc := 419) hB hS (sx (xs := xs) (q := 1) hc hL (by decide)).1 (sx (xs := xs) (q := 1) hc hL (by decide)).2 dL_law_419 ?_
  refine V.aload_n (pc := 420) hB dL_law_420 rfl ?_
  refine V.csW (pc := 421) hB cwx_L_depth wm_L_162 wst_L_depth dL_law_421 (w_depth hG hJ) (by omega) (by decide) rfl (by exact Nat.le_of_ble_eq_true rfl) (by omega) (by omega) (kI (fun v m1 sz hw => ?_)) rfl
  refine V.istore (pc := 424) hB dL_law_424 (by decide) rfl ?_
  refine V.aload_n (pc := 426) hB dL_law_426 rfl ?_
  refine V.aload_n (pc := 427) hB dL_law_427 rfl ?_
  refine V.iload (pc := 428) hB dL_law_428 rfl ?_
  refine V.iconst (pc := 430) (v := 1) hB dL_law_430 rfl ?_
  refine V.iadd (pc := 431) hB dL_law_431 ?_
  refine V.sti (pc := 432) hB hS (sx (xs := xs) (q := 1) hc hL (by decide)).1 (sx (xs := xs) (q := 1) hc hL (by decide)).2 dL_law_432 ?_
  refine V.cv (pc := 433) hB cw_X10_depth wm_L_164 wi_X10_depth ws_X10_depth dL_law_433 (n_depth hG hJ hw) (hp_at (ca_Model _)) fk_Model rfl (by omega) (by decide) rfl (by exact Nat.le_of_ble_eq_true rfl) (by omega) (by omega) kN (kI (fun v2 m2 sz hq => ?_)) rfl
  refine V.istore (pc := 436) hB dL_law_436 (by decide) rfl ?_
  exact law_tail (P := 438) (off := 2133) hB hG nx dL_law_438 dL_law_439 dL_law_442 dL_law_444 dL_law_449 dL_law_451 dL_law_454 dL_law_455 dL_law_456 dL_law_457 dL_law_459 dL_law_460 dL_law_461 dL_law_466 rfl (by omega) (by omega) (by omega) hq (by omega)
set_option maxRecDepth 100000 in
theorem lk_4 {z : xE} (hE : GE g z) (hB : Bd g B code 9 RL ret 51 603072 7207018) (hG : GK g) (hS : va_T .int b L (fun j => .int (xs j)) (xFree g) g.1 g.1.heap) (hc : 4 * c + 4 ≤ L) (hL : L ≤ 2048) {m : Mem} {sz : Nat} (hJ : JA (5000 * c) m) (nx : NX g B Q b c) : V g B (375 + 42 * c) (6000 + 8300 * c) Q (hp g m) sz 469 [some (.ref b), some (.ref (ad g 0)), some (.ref (ad g 363)), some (.ref (ad g 373)), some (.ref (ad g 374)), some (.int (nI (4 * c))), none, none, none] [] := by
  have hc5 : c ≤ 511 := by omega
  refine V.aload_n (pc := 469) hB dL_law_469 rfl ?_
  refine V.aload_n (pc := 470) hB dL_law_470 rfl ?_
  refine V.iload (pc := 471) hB dL_law_471 rfl ?_
  refine V.iconst (pc := 473) (v := 1) hB dL_law_473 rfl ?_
  refine V.iadd (pc := 474) hB dL_law_474 ?_
  refine V.sti (pc := 475) hB hS (sx (xs := xs) (q := 1) hc hL (by decide)).1 (sx (xs := xs) (q := 1) hc hL (by decide)).2 dL_law_475 ?_
  refine V.aload_n (pc := 476) hB dL_law_476 rfl ?_
  refine V.csW (pc := 477) hB cwx_L_layerCount wm_L_165 wst_L_layerCount dL_law_477 (w_layerCount hG hJ) (by omega) (by decide) rfl (by exact Nat.le_of_ble_eq_true rfl) (by omega) (by omega) (kI (fun v m1 sz hw => ?_)) rfl
  refine V.istore (pc := 480) hB dL_law_480 (by decide) rfl ?_
  refine V.aload_n (pc := 482) hB dL_law_482 rfl ?_
  refine V.aload_n (pc := 483) hB dL_law_483 rfl ?_
  refine V.iload (pc := 484) hB dL_law_484 rfl ?_
  refine V.iconst (pc := 486) (v := 1) hB dL_law_486 rfl ?_
  refine V.iadd (pc := 487) hB dL_law_487 ?_
  refine V.sti (pc := 488) hB hS (sx (xs := xs) (q := 1) hc hL (by decide)).1 (sx (xs := xs) (q := 1) hc hL (by decide)).2 dL_law_488 ?_
  refine V.cv (pc := 489) hB cw_X10_layerCount wm_L_167 wi_X10_layerCount ws_X10_layerCount dL_law_489 (n_layerCount hG hJ hw) (hp_at (ca_Model _)) fk_Model rfl (by omega) (by decide) rfl (by exact Nat.le_of_ble_eq_true rfl) (by omega) (by omega) kN (kI (fun v2 m2 sz hq => ?_)) rfl
  refine V.istore (pc := 492) hB dL_law_492 (by decide) rfl ?_
  exact law_tail (P := 494) (off := 2077) hB hG nx dL_law_494 dL_law_495 dL_law_498 dL_law_500 dL_law_505 dL_law_507 dL_law_510 dL_law_511 dL_law_512 dL_law_513 dL_law_515 dL_law_516 dL_law_517 dL_law_522 rfl (by omega) (by omega) (by omega) hq (by omega)
set_option maxRecDepth 100000 in
theorem lk_5 {z : xE} (hE : GE g z) (hB : Bd g B code 9 RL ret 51 603072 7207018) (hG : GK g) (hS : va_T .int b L (fun j => .int (xs j)) (xFree g) g.1 g.1.heap) (hc : 4 * c + 4 ≤ L) (hL : L ≤ 2048) {m : Mem} {sz : Nat} (hJ : JA (5000 * c) m) (nx : NX g B Q b c) : V g B (375 + 42 * c) (6000 + 8300 * c) Q (hp g m) sz 525 [some (.ref b), some (.ref (ad g 0)), some (.ref (ad g 363)), some (.ref (ad g 373)), some (.ref (ad g 374)), some (.int (nI (4 * c))), none, none, none] [] := by
  have hc5 : c ≤ 511 := by omega
  refine V.aload_n (pc := 525) hB dL_law_525 rfl ?_
  refine V.aload_n (pc := 526) hB dL_law_526 rfl ?_
  refine V.iload (pc := 527) hB dL_law_527 rfl ?_
  refine V.iconst (pc := 529) (v := 1) hB dL_law_529 rfl ?_
  refine V.iadd (pc := 530) hB dL_law_530 ?_
  refine V.sti (pc := 531) hB hS (sx (xs := xs) (q := 1) hc hL (by decide)).1 (sx (xs := xs) (q := 1) hc hL (by decide)).2 dL_law_531 ?_
  refine V.aload_n (pc := 532) hB dL_law_532 rfl ?_
  refine V.iload (pc := 533) hB dL_law_533 rfl ?_
  refine V.iconst (pc := 535) (v := 2) hB dL_law_535 rfl ?_
  refine V.iadd (pc := 536) hB dL_law_536 ?_
  refine V.sti (pc := 537) hB hS (sx (xs := xs) (q := 2) hc hL (by decide)).1 (sx (xs := xs) (q := 2) hc hL (by decide)).2 dL_law_537 ?_
  refine V.aload_n (pc := 538) hB dL_law_538 rfl ?_
  refine V.csW (pc := 539) hB cwx_L_thickness wm_L_168 wst_L_thickness dL_law_539 (w_thickness hG hJ) (by omega) (by decide) rfl (by exact Nat.le_of_ble_eq_true rfl) (by omega) (by omega) (kI (fun v m1 sz hw => ?_)) rfl
  refine V.istore (pc := 542) hB dL_law_542 (by decide) rfl ?_
  refine V.aload_n (pc := 544) hB dL_law_544 rfl ?_
  refine V.aload_n (pc := 545) hB dL_law_545 rfl ?_
  refine V.iload (pc := 546) hB dL_law_546 rfl ?_
  refine V.iconst (pc := 548) (v := 1) hB dL_law_548 rfl ?_
  refine V.iadd (pc := 549) hB dL_law_549 ?_
  refine V.sti (pc := 550) hB hS (sx (xs := xs) (q := 1) hc hL (by decide)).1 (sx (xs := xs) (q := 1) hc hL (by decide)).2 dL_law_550 ?_
  refine V.aload_n (pc := 551) hB dL_law_551 rfl ?_
  refine V.iload (pc := 552) hB dL_law_552 rfl ?_
  refine V.iconst (pc := 554) (v := 2) hB dL_law_554 rfl ?_
  refine V.iadd (pc := 555) hB dL_law_555 ?_
  refine V.sti (pc := 556) hB hS (sx (xs := xs) (q := 2) hc hL (by decide)).1 (sx (xs := xs) (q := 2) hc hL (by decide)).2 dL_law_556 ?_
  refine V.cv (pc := 557) hB cw_X10_thickness wm_L_171 wi_X10_thickness ws_X10_thickness dL_law_557 (n_thickness hG hJ hw) (hp_at (ca_Model _)) fk_Model rfl (by omega) (by decide) rfl (by exact Nat.le_of_ble_eq_true rfl) (by omega) (by omega) kN (kI (fun v2 m2 sz hq => ?_)) rfl
  refine V.istore (pc := 560) hB dL_law_560 (by decide) rfl ?_
  exact law_tail (P := 562) (off := 2009) hB hG nx dL_law_562 dL_law_563 dL_law_566 dL_law_568 dL_law_573 dL_law_575 dL_law_578 dL_law_579 dL_law_580 dL_law_581 dL_law_583 dL_law_584 dL_law_585 dL_law_590 rfl (by omega) (by omega) (by omega) hq (by omega)
set_option maxRecDepth 100000 in
theorem lk_6 {z : xE} (hE : GE g z) (hB : Bd g B code 9 RL ret 51 603072 7207018) (hG : GK g) (hS : va_T .int b L (fun j => .int (xs j)) (xFree g) g.1 g.1.heap) (hc : 4 * c + 4 ≤ L) (hL : L ≤ 2048) {m : Mem} {sz : Nat} (hJ : JA (5000 * c) m) (nx : NX g B Q b c) : V g B (375 + 42 * c) (6000 + 8300 * c) Q (hp g m) sz 593 [some (.ref b), some (.ref (ad g 0)), some (.ref (ad g 363)), some (.ref (ad g 373)), some (.ref (ad g 374)), some (.int (nI (4 * c))), none, none, none] [] := by
  have hc5 : c ≤ 511 := by omega
  refine V.aload_n (pc := 593) hB dL_law_593 rfl ?_
  refine V.aload_n (pc := 594) hB dL_law_594 rfl ?_
  refine V.iload (pc := 595) hB dL_law_595 rfl ?_
  refine V.iconst (pc := 597) (v := 1) hB dL_law_597 rfl ?_
  refine V.iadd (pc := 598) hB dL_law_598 ?_
  refine V.sti (pc := 599) hB hS (sx (xs := xs) (q := 1) hc hL (by decide)).1 (sx (xs := xs) (q := 1) hc hL (by decide)).2 dL_law_599 ?_
  refine V.aload_n (pc := 600) hB dL_law_600 rfl ?_
  refine V.iload (pc := 601) hB dL_law_601 rfl ?_
  refine V.iconst (pc := 603) (v := 2) hB dL_law_603 rfl ?_
  refine V.iadd (pc := 604) hB dL_law_604 ?_
  refine V.sti (pc := 605) hB hS (sx (xs := xs) (q := 2) hc hL (by decide)).1 (sx (xs := xs) (q := 2) hc hL (by decide)).2 dL_law_605 ?_
  refine V.aload_n (pc := 606) hB dL_law_606 rfl ?_
  refine V.csW (pc := 607) hB cwx_L_temperature wm_L_172 wst_L_temperature dL_law_607 (w_temperature hG hJ) (by omega) (by decide) rfl (by exact Nat.le_of_ble_eq_true rfl) (by omega) (by omega) (kI (fun v m1 sz hw => ?_)) rfl
  refine V.istore (pc := 610) hB dL_law_610 (by decide) rfl ?_
  refine V.aload_n (pc := 612) hB dL_law_612 rfl ?_
  refine V.aload_n (pc := 613) hB dL_law_613 rfl ?_
  refine V.iload (pc := 614) hB dL_law_614 rfl ?_
  refine V.iconst (pc := 616) (v := 1) hB dL_law_616 rfl ?_
  refine V.iadd (pc := 617) hB dL_law_617 ?_
  refine V.sti (pc := 618) hB hS (sx (xs := xs) (q := 1) hc hL (by decide)).1 (sx (xs := xs) (q := 1) hc hL (by decide)).2 dL_law_618 ?_
  refine V.aload_n (pc := 619) hB dL_law_619 rfl ?_
  refine V.iload (pc := 620) hB dL_law_620 rfl ?_
  refine V.iconst (pc := 622) (v := 2) hB dL_law_622 rfl ?_
  refine V.iadd (pc := 623) hB dL_law_623 ?_
  refine V.sti (pc := 624) hB hS (sx (xs := xs) (q := 2) hc hL (by decide)).1 (sx (xs := xs) (q := 2) hc hL (by decide)).2 dL_law_624 ?_
  refine V.cv (pc := 625) hB cw_X10_temperature wm_L_174 wi_X10_temperature ws_X10_temperature dL_law_625 (n_temperature hG hJ hw) (hp_at (ca_Model _)) fk_Model rfl (by omega) (by decide) rfl (by exact Nat.le_of_ble_eq_true rfl) (by omega) (by omega) kN (kI (fun v2 m2 sz hq => ?_)) rfl
  refine V.istore (pc := 628) hB dL_law_628 (by decide) rfl ?_
  exact law_tail (P := 630) (off := 1941) hB hG nx dL_law_630 dL_law_631 dL_law_634 dL_law_636 dL_law_641 dL_law_643 dL_law_646 dL_law_647 dL_law_648 dL_law_649 dL_law_651 dL_law_652 dL_law_653 dL_law_658 rfl (by omega) (by omega) (by omega) hq (by omega)
set_option maxRecDepth 100000 in
theorem lk_7 {z : xE} (hE : GE g z) (hB : Bd g B code 9 RL ret 51 603072 7207018) (hG : GK g) (hS : va_T .int b L (fun j => .int (xs j)) (xFree g) g.1 g.1.heap) (hc : 4 * c + 4 ≤ L) (hL : L ≤ 2048) {m : Mem} {sz : Nat} (hJ : JA (5000 * c) m) (nx : NX g B Q b c) : V g B (375 + 42 * c) (6000 + 8300 * c) Q (hp g m) sz 661 [some (.ref b), some (.ref (ad g 0)), some (.ref (ad g 363)), some (.ref (ad g 373)), some (.ref (ad g 374)), some (.int (nI (4 * c))), none, none, none] [] := by
  have hc5 : c ≤ 511 := by omega
  refine V.aload_n (pc := 661) hB dL_law_661 rfl ?_
  refine V.aload_n (pc := 662) hB dL_law_662 rfl ?_
  refine V.iload (pc := 663) hB dL_law_663 rfl ?_
  refine V.iconst (pc := 665) (v := 1) hB dL_law_665 rfl ?_
  refine V.iadd (pc := 666) hB dL_law_666 ?_
  refine V.sti (pc := 667) hB hS (sx (xs := xs) (q := 1) hc hL (by decide)).1 (sx (xs := xs) (q := 1) hc hL (by decide)).2 dL_law_667 ?_
  refine V.aload_n (pc := 668) hB dL_law_668 rfl ?_
  refine V.iload (pc := 669) hB dL_law_669 rfl ?_
  refine V.iconst (pc := 671) (v := 2) hB dL_law_671 rfl ?_
  refine V.iadd (pc := 672) hB dL_law_672 ?_
  refine V.sti (pc := 673) hB hS (sx (xs := xs) (q := 2) hc hL (by decide)).1 (sx (xs := xs) (q := 2) hc hL (by decide)).2 dL_law_673 ?_
  refine V.aload_n (pc := 674) hB dL_law_674 rfl ?_
  refine V.csW (pc := 675) hB cwx_L_strain wm_L_175 wst_L_strain dL_law_675 (w_strain hG hJ) (by omega) (by decide) rfl (by exact Nat.le_of_ble_eq_true rfl) (by omega) (by omega) (kI (fun v m1 sz hw => ?_)) rfl
  refine V.istore (pc := 678) hB dL_law_678 (by decide) rfl ?_
  refine V.aload_n (pc := 680) hB dL_law_680 rfl ?_
  refine V.aload_n (pc := 681) hB dL_law_681 rfl ?_
  refine V.iload (pc := 682) hB dL_law_682 rfl ?_
  refine V.iconst (pc := 684) (v := 1) hB dL_law_684 rfl ?_
  refine V.iadd (pc := 685) hB dL_law_685 ?_
  refine V.sti (pc := 686) hB hS (sx (xs := xs) (q := 1) hc hL (by decide)).1 (sx (xs := xs) (q := 1) hc hL (by decide)).2 dL_law_686 ?_
  refine V.aload_n (pc := 687) hB dL_law_687 rfl ?_
  refine V.iload (pc := 688) hB dL_law_688 rfl ?_
  refine V.iconst (pc := 690) (v := 2) hB dL_law_690 rfl ?_
  refine V.iadd (pc := 691) hB dL_law_691 ?_
  refine V.sti (pc := 692) hB hS (sx (xs := xs) (q := 2) hc hL (by decide)).1 (sx (xs := xs) (q := 2) hc hL (by decide)).2 dL_law_692 ?_
  refine V.cv (pc := 693) hB cw_X10_strain wm_L_177 wi_X10_strain ws_X10_strain dL_law_693 (n_strain hG hJ hw) (hp_at (ca_Model _)) fk_Model rfl (by omega) (by decide) rfl (by exact Nat.le_of_ble_eq_true rfl) (by omega) (by omega) kN (kI (fun v2 m2 sz hq => ?_)) rfl
  refine V.istore (pc := 696) hB dL_law_696 (by decide) rfl ?_
  exact law_tail (P := 698) (off := 1873) hB hG nx dL_law_698 dL_law_699 dL_law_702 dL_law_704 dL_law_709 dL_law_711 dL_law_714 dL_law_715 dL_law_716 dL_law_717 dL_law_719 dL_law_720 dL_law_721 dL_law_726 rfl (by omega) (by omega) (by omega) hq (by omega)
set_option maxRecDepth 100000 in
theorem lk_8 {z : xE} (hE : GE g z) (hB : Bd g B code 9 RL ret 51 603072 7207018) (hG : GK g) (hS : va_T .int b L (fun j => .int (xs j)) (xFree g) g.1 g.1.heap) (hc : 4 * c + 4 ≤ L) (hL : L ≤ 2048) {m : Mem} {sz : Nat} (hJ : JA (5000 * c) m) (nx : NX g B Q b c) : V g B (375 + 42 * c) (6000 + 8300 * c) Q (hp g m) sz 729 [some (.ref b), some (.ref (ad g 0)), some (.ref (ad g 363)), some (.ref (ad g 373)), some (.ref (ad g 374)), some (.int (nI (4 * c))), none, none, none] [] := by
  have hc5 : c ≤ 511 := by omega
  refine V.aload_n (pc := 729) hB dL_law_729 rfl ?_
  refine V.aload_n (pc := 730) hB dL_law_730 rfl ?_
  refine V.iload (pc := 731) hB dL_law_731 rfl ?_
  refine V.iconst (pc := 733) (v := 1) hB dL_law_733 rfl ?_
  refine V.iadd (pc := 734) hB dL_law_734 ?_
  refine V.sti (pc := 735) hB hS (sx (xs := xs) (q := 1) hc hL (by decide)).1 (sx (xs := xs) (q := 1) hc hL (by decide)).2 dL_law_735 ?_
  refine V.aload_n (pc := 736) hB dL_law_736 rfl ?_
  refine V.csW (pc := 737) hB cwx_L_iceThickness wm_L_178 wst_L_iceThickness dL_law_737 (w_iceThickness hG hJ) (by omega) (by decide) rfl (by exact Nat.le_of_ble_eq_true rfl) (by omega) (by omega) (kI (fun v m1 sz hw => ?_)) rfl
  refine V.istore (pc := 740) hB dL_law_740 (by decide) rfl ?_
  refine V.aload_n (pc := 742) hB dL_law_742 rfl ?_
  refine V.aload_n (pc := 743) hB dL_law_743 rfl ?_
  refine V.iload (pc := 744) hB dL_law_744 rfl ?_
  refine V.iconst (pc := 746) (v := 1) hB dL_law_746 rfl ?_
  refine V.iadd (pc := 747) hB dL_law_747 ?_
  refine V.sti (pc := 748) hB hS (sx (xs := xs) (q := 1) hc hL (by decide)).1 (sx (xs := xs) (q := 1) hc hL (by decide)).2 dL_law_748 ?_
  refine V.cv (pc := 749) hB cw_X10_iceThickness wm_L_180 wi_X10_iceThickness ws_X10_iceThickness dL_law_749 (n_iceThickness hG hJ hw) (hp_at (ca_Model _)) fk_Model rfl (by omega) (by decide) rfl (by exact Nat.le_of_ble_eq_true rfl) (by omega) (by omega) kN (kI (fun v2 m2 sz hq => ?_)) rfl
  refine V.istore (pc := 752) hB dL_law_752 (by decide) rfl ?_
  exact law_tail (P := 754) (off := 1817) hB hG nx dL_law_754 dL_law_755 dL_law_758 dL_law_760 dL_law_765 dL_law_767 dL_law_770 dL_law_771 dL_law_772 dL_law_773 dL_law_775 dL_law_776 dL_law_777 dL_law_782 rfl (by omega) (by omega) (by omega) hq (by omega)
set_option maxRecDepth 100000 in
theorem lk_9 {z : xE} (hE : GE g z) (hB : Bd g B code 9 RL ret 51 603072 7207018) (hG : GK g) (hS : va_T .int b L (fun j => .int (xs j)) (xFree g) g.1 g.1.heap) (hc : 4 * c + 4 ≤ L) (hL : L ≤ 2048) {m : Mem} {sz : Nat} (hJ : JA (5000 * c) m) (nx : NX g B Q b c) : V g B (375 + 42 * c) (6000 + 8300 * c) Q (hp g m) sz 785 [some (.ref b), some (.ref (ad g 0)), some (.ref (ad g 363)), some (.ref (ad g 373)), some (.ref (ad g 374)), some (.int (nI (4 * c))), none, none, none] [] := by
  have hc5 : c ≤ 511 := by omega
  refine V.aload_n (pc := 785) hB dL_law_785 rfl ?_
  refine V.aload_n (pc := 786) hB dL_law_786 rfl ?_
  refine V.iload (pc := 787) hB dL_law_787 rfl ?_
  refine V.iconst (pc := 789) (v := 1) hB dL_law_789 rfl ?_
  refine V.iadd (pc := 790) hB dL_law_790 ?_
  refine V.sti (pc := 791) hB hS (sx (xs := xs) (q := 1) hc hL (by decide)).1 (sx (xs := xs) (q := 1) hc hL (by decide)).2 dL_law_791 ?_
  refine V.aload_n (pc := 792) hB dL_law_792 rfl ?_
  refine V.csW (pc := 793) hB cwx_L_iceThicknessByHalves wm_L_181 wst_L_iceThicknessByHalves dL_law_793 (w_iceThicknessByHalves hG hJ) (by omega) (by decide) rfl (by exact Nat.le_of_ble_eq_true rfl) (by omega) (by omega) (kI (fun v m1 sz hw => ?_)) rfl
  refine V.istore (pc := 796) hB dL_law_796 (by decide) rfl ?_
  refine V.aload_n (pc := 798) hB dL_law_798 rfl ?_
  refine V.aload_n (pc := 799) hB dL_law_799 rfl ?_
  refine V.iload (pc := 800) hB dL_law_800 rfl ?_
  refine V.iconst (pc := 802) (v := 1) hB dL_law_802 rfl ?_
  refine V.iadd (pc := 803) hB dL_law_803 ?_
  refine V.sti (pc := 804) hB hS (sx (xs := xs) (q := 1) hc hL (by decide)).1 (sx (xs := xs) (q := 1) hc hL (by decide)).2 dL_law_804 ?_
  refine V.cv (pc := 805) hB cw_X10_iceThicknessByHalves wm_L_183 wi_X10_iceThicknessByHalves ws_X10_iceThicknessByHalves dL_law_805 (n_iceThicknessByHalves hG hJ hw) (hp_at (ca_Model _)) fk_Model rfl (by omega) (by decide) rfl (by exact Nat.le_of_ble_eq_true rfl) (by omega) (by omega) kN (kI (fun v2 m2 sz hq => ?_)) rfl
  refine V.istore (pc := 808) hB dL_law_808 (by decide) rfl ?_
  exact law_tail (P := 810) (off := 1761) hB hG nx dL_law_810 dL_law_811 dL_law_814 dL_law_816 dL_law_821 dL_law_823 dL_law_826 dL_law_827 dL_law_828 dL_law_829 dL_law_831 dL_law_832 dL_law_833 dL_law_838 rfl (by omega) (by omega) (by omega) hq (by omega)
set_option maxRecDepth 100000 in
theorem lk_10 {z : xE} (hE : GE g z) (hB : Bd g B code 9 RL ret 51 603072 7207018) (hG : GK g) (hS : va_T .int b L (fun j => .int (xs j)) (xFree g) g.1 g.1.heap) (hc : 4 * c + 4 ≤ L) (hL : L ≤ 2048) {m : Mem} {sz : Nat} (hJ : JA (5000 * c) m) (nx : NX g B Q b c) : V g B (375 + 42 * c) (6000 + 8300 * c) Q (hp g m) sz 841 [some (.ref b), some (.ref (ad g 0)), some (.ref (ad g 363)), some (.ref (ad g 373)), some (.ref (ad g 374)), some (.int (nI (4 * c))), none, none, none] [] := by
  have hc5 : c ≤ 511 := by omega
  refine V.aload_n (pc := 841) hB dL_law_841 rfl ?_
  refine V.aload_n (pc := 842) hB dL_law_842 rfl ?_
  refine V.iload (pc := 843) hB dL_law_843 rfl ?_
  refine V.iconst (pc := 845) (v := 1) hB dL_law_845 rfl ?_
  refine V.iadd (pc := 846) hB dL_law_846 ?_
  refine V.sti (pc := 847) hB hS (sx (xs := xs) (q := 1) hc hL (by decide)).1 (sx (xs := xs) (q := 1) hc hL (by decide)).2 dL_law_847 ?_
  refine V.aload_n (pc := 848) hB dL_law_848 rfl ?_
  refine V.iload (pc := 849) hB dL_law_849 rfl ?_
  refine V.iconst (pc := 851) (v := 2) hB dL_law_851 rfl ?_
  refine V.iadd (pc := 852) hB dL_law_852 ?_
  refine V.sti (pc := 853) hB hS (sx (xs := xs) (q := 2) hc hL (by decide)).1 (sx (xs := xs) (q := 2) hc hL (by decide)).2 dL_law_853 ?_
  refine V.aload_n (pc := 854) hB dL_law_854 rfl ?_
  refine V.csW (pc := 855) hB cwx_L_layerAt wm_L_184 wst_L_layerAt dL_law_855 (w_layerAt hG hJ) (by omega) (by decide) rfl (by exact Nat.le_of_ble_eq_true rfl) (by omega) (by omega) (kI (fun v m1 sz hw => ?_)) rfl
  refine V.istore (pc := 858) hB dL_law_858 (by decide) rfl ?_
  refine V.aload_n (pc := 860) hB dL_law_860 rfl ?_
  refine V.aload_n (pc := 861) hB dL_law_861 rfl ?_
  refine V.iload (pc := 862) hB dL_law_862 rfl ?_
  refine V.iconst (pc := 864) (v := 1) hB dL_law_864 rfl ?_
  refine V.iadd (pc := 865) hB dL_law_865 ?_
  refine V.sti (pc := 866) hB hS (sx (xs := xs) (q := 1) hc hL (by decide)).1 (sx (xs := xs) (q := 1) hc hL (by decide)).2 dL_law_866 ?_
  refine V.aload_n (pc := 867) hB dL_law_867 rfl ?_
  refine V.iload (pc := 868) hB dL_law_868 rfl ?_
  refine V.iconst (pc := 870) (v := 2) hB dL_law_870 rfl ?_
  refine V.iadd (pc := 871) hB dL_law_871 ?_
  refine V.sti (pc := 872) hB hS (sx (xs := xs) (q := 2) hc hL (by decide)).1 (sx (xs := xs) (q := 2) hc hL (by decide)).2 dL_law_872 ?_
  refine V.cv (pc := 873) hB cw_X10_layerAt wm_L_186 wi_X10_layerAt ws_X10_layerAt dL_law_873 (n_layerAt hG hJ hw) (hp_at (ca_Model _)) fk_Model rfl (by omega) (by decide) rfl (by exact Nat.le_of_ble_eq_true rfl) (by omega) (by omega) kN (kI (fun v2 m2 sz hq => ?_)) rfl
  refine V.istore (pc := 876) hB dL_law_876 (by decide) rfl ?_
  exact law_tail (P := 878) (off := 1693) hB hG nx dL_law_878 dL_law_879 dL_law_882 dL_law_884 dL_law_889 dL_law_891 dL_law_894 dL_law_895 dL_law_896 dL_law_897 dL_law_899 dL_law_900 dL_law_901 dL_law_906 rfl (by omega) (by omega) (by omega) hq (by omega)
set_option maxRecDepth 100000 in
theorem lk_11 {z : xE} (hE : GE g z) (hB : Bd g B code 9 RL ret 51 603072 7207018) (hG : GK g) (hS : va_T .int b L (fun j => .int (xs j)) (xFree g) g.1 g.1.heap) (hc : 4 * c + 4 ≤ L) (hL : L ≤ 2048) {m : Mem} {sz : Nat} (hJ : JA (5000 * c) m) (nx : NX g B Q b c) : V g B (375 + 42 * c) (6000 + 8300 * c) Q (hp g m) sz 909 [some (.ref b), some (.ref (ad g 0)), some (.ref (ad g 363)), some (.ref (ad g 373)), some (.ref (ad g 374)), some (.int (nI (4 * c))), none, none, none] [] := by
  have hc5 : c ≤ 511 := by omega
  refine V.aload_n (pc := 909) hB dL_law_909 rfl ?_
  refine V.aload_n (pc := 910) hB dL_law_910 rfl ?_
  refine V.iload (pc := 911) hB dL_law_911 rfl ?_
  refine V.iconst (pc := 913) (v := 1) hB dL_law_913 rfl ?_
  refine V.iadd (pc := 914) hB dL_law_914 ?_
  refine V.sti (pc := 915) hB hS (sx (xs := xs) (q := 1) hc hL (by decide)).1 (sx (xs := xs) (q := 1) hc hL (by decide)).2 dL_law_915 ?_
  refine V.aload_n (pc := 916) hB dL_law_916 rfl ?_
  refine V.csW (pc := 917) hB cwx_L_setAir wm_L_187 wst_L_setAir dL_law_917 (w_setAir hG hJ) (by omega) (by decide) rfl (by exact Nat.le_of_ble_eq_true rfl) (by omega) (by omega) (kI (fun v m1 sz hw => ?_)) rfl
  refine V.istore (pc := 920) hB dL_law_920 (by decide) rfl ?_
  refine V.aload_n (pc := 922) hB dL_law_922 rfl ?_
  refine V.aload_n (pc := 923) hB dL_law_923 rfl ?_
  refine V.iload (pc := 924) hB dL_law_924 rfl ?_
  refine V.iconst (pc := 926) (v := 1) hB dL_law_926 rfl ?_
  refine V.iadd (pc := 927) hB dL_law_927 ?_
  refine V.sti (pc := 928) hB hS (sx (xs := xs) (q := 1) hc hL (by decide)).1 (sx (xs := xs) (q := 1) hc hL (by decide)).2 dL_law_928 ?_
  refine V.cv (pc := 929) hB cw_X10_setAir wm_L_189 wi_X10_setAir ws_X10_setAir dL_law_929 (n_setAir hG hJ hw) (hp_at (ca_Model _)) fk_Model rfl (by omega) (by decide) rfl (by exact Nat.le_of_ble_eq_true rfl) (by omega) (by omega) kN (kI (fun v2 m2 sz hq => ?_)) rfl
  refine V.istore (pc := 932) hB dL_law_932 (by decide) rfl ?_
  exact law_tail (P := 934) (off := 1637) hB hG nx dL_law_934 dL_law_935 dL_law_938 dL_law_940 dL_law_945 dL_law_947 dL_law_950 dL_law_951 dL_law_952 dL_law_953 dL_law_955 dL_law_956 dL_law_957 dL_law_962 rfl (by omega) (by omega) (by omega) hq (by omega)
set_option maxRecDepth 100000 in
theorem lk_12 {z : xE} (hE : GE g z) (hB : Bd g B code 9 RL ret 51 603072 7207018) (hG : GK g) (hS : va_T .int b L (fun j => .int (xs j)) (xFree g) g.1 g.1.heap) (hc : 4 * c + 4 ≤ L) (hL : L ≤ 2048) {m : Mem} {sz : Nat} (hJ : JA (5000 * c) m) (nx : NX g B Q b c) : V g B (375 + 42 * c) (6000 + 8300 * c) Q (hp g m) sz 965 [some (.ref b), some (.ref (ad g 0)), some (.ref (ad g 363)), some (.ref (ad g 373)), some (.ref (ad g 374)), some (.int (nI (4 * c))), none, none, none] [] := by
  have hc5 : c ≤ 511 := by omega
  refine V.aload_n (pc := 965) hB dL_law_965 rfl ?_
  refine V.cv (pc := 966) hB cw_X9_air wm_L_190 wi_X9_air ws_X9_air dL_law_966 (w_air hG hJ) (hp_at (ca_Bells _)) fk_Bells rfl (by omega) (by decide) rfl (by exact Nat.le_of_ble_eq_true rfl) (by omega) (by omega) kN (kI (fun v m1 sz hw => ?_)) rfl
  obtain ⟨rfl, hw⟩ := hw
  refine V.aload_n (pc := 969) hB dL_law_969 rfl ?_
  refine V.cv (pc := 970) hB cw_X10_air wm_L_193 wi_X10_air ws_X10_air dL_law_970 (n_air hG hJ hw) (hp_at (ca_Model _)) fk_Model rfl (by omega) (by decide) rfl (by exact Nat.le_of_ble_eq_true rfl) (by omega) (by omega) kN (kI (fun v2 m2 sz hq => ?_)) rfl
  exact V.icmp_eq (pc := 973) (tgt := 2599) hB dL_law_973 (by decide) (fun _ => nx.go (by omega) (by omega) hq.2 (by omega)) (fun z => absurd hq.1.symm z)
set_option maxRecDepth 100000 in
theorem lk_13 {z : xE} (hE : GE g z) (hB : Bd g B code 9 RL ret 51 603072 7207018) (hG : GK g) (hS : va_T .int b L (fun j => .int (xs j)) (xFree g) g.1 g.1.heap) (hc : 4 * c + 4 ≤ L) (hL : L ≤ 2048) {m : Mem} {sz : Nat} (hJ : JA (5000 * c) m) (nx : NX g B Q b c) : V g B (375 + 42 * c) (6000 + 8300 * c) Q (hp g m) sz 978 [some (.ref b), some (.ref (ad g 0)), some (.ref (ad g 363)), some (.ref (ad g 373)), some (.ref (ad g 374)), some (.int (nI (4 * c))), none, none, none] [] := by
  have hc5 : c ≤ 511 := by omega
  refine V.aload_n (pc := 978) hB dL_law_978 rfl ?_
  refine V.aload_n (pc := 979) hB dL_law_979 rfl ?_
  refine V.iload (pc := 980) hB dL_law_980 rfl ?_
  refine V.iconst (pc := 982) (v := 1) hB dL_law_982 rfl ?_
  refine V.iadd (pc := 983) hB dL_law_983 ?_
  refine V.sti (pc := 984) hB hS (sx (xs := xs) (q := 1) hc hL (by decide)).1 (sx (xs := xs) (q := 1) hc hL (by decide)).2 dL_law_984 ?_
  refine V.aload_n (pc := 985) hB dL_law_985 rfl ?_
  refine V.csW (pc := 986) hB cwx_L_pass wm_L_194 wst_L_pass dL_law_986 (w_pass hG hJ) (by omega) (by decide) rfl (by exact Nat.le_of_ble_eq_true rfl) (by omega) (by omega) (kI (fun v m1 sz hw => ?_)) rfl
  refine V.istore (pc := 989) hB dL_law_989 (by decide) rfl ?_
  refine V.aload_n (pc := 991) hB dL_law_991 rfl ?_
  refine V.aload_n (pc := 992) hB dL_law_992 rfl ?_
  refine V.iload (pc := 993) hB dL_law_993 rfl ?_
  refine V.iconst (pc := 995) (v := 1) hB dL_law_995 rfl ?_
  refine V.iadd (pc := 996) hB dL_law_996 ?_
  refine V.sti (pc := 997) hB hS (sx (xs := xs) (q := 1) hc hL (by decide)).1 (sx (xs := xs) (q := 1) hc hL (by decide)).2 dL_law_997 ?_
  refine V.cv (pc := 998) hB cw_X10_pass wm_L_196 wi_X10_pass ws_X10_pass dL_law_998 (n_pass hG hJ hw) (hp_at (ca_Model _)) fk_Model rfl (by omega) (by decide) rfl (by exact Nat.le_of_ble_eq_true rfl) (by omega) (by omega) kN (kI (fun v2 m2 sz hq => ?_)) rfl
  refine V.istore (pc := 1001) hB dL_law_1001 (by decide) rfl ?_
  exact law_tail (P := 1003) (off := 1568) hB hG nx dL_law_1003 dL_law_1004 dL_law_1007 dL_law_1009 dL_law_1014 dL_law_1016 dL_law_1019 dL_law_1020 dL_law_1021 dL_law_1022 dL_law_1024 dL_law_1025 dL_law_1026 dL_law_1031 rfl (by omega) (by omega) (by omega) hq (by omega)
set_option maxRecDepth 100000 in
theorem lk_14 {z : xE} (hE : GE g z) (hB : Bd g B code 9 RL ret 51 603072 7207018) (hG : GK g) (hS : va_T .int b L (fun j => .int (xs j)) (xFree g) g.1 g.1.heap) (hc : 4 * c + 4 ≤ L) (hL : L ≤ 2048) {m : Mem} {sz : Nat} (hJ : JA (5000 * c) m) (nx : NX g B Q b c) : V g B (375 + 42 * c) (6000 + 8300 * c) Q (hp g m) sz 1034 [some (.ref b), some (.ref (ad g 0)), some (.ref (ad g 363)), some (.ref (ad g 373)), some (.ref (ad g 374)), some (.int (nI (4 * c))), none, none, none] [] := by
  have hc5 : c ≤ 511 := by omega
  refine V.aload_n (pc := 1034) hB dL_law_1034 rfl ?_
  refine V.cv (pc := 1035) hB cw_X9_hour wm_L_197 wi_X9_hour ws_X9_hour dL_law_1035 (w_hour hG hJ) (hp_at (ca_Bells _)) fk_Bells rfl (by omega) (by decide) rfl (by exact Nat.le_of_ble_eq_true rfl) (by omega) (by omega) kN (kI (fun v m1 sz hw => ?_)) rfl
  obtain ⟨rfl, hw⟩ := hw
  refine V.aload_n (pc := 1038) hB dL_law_1038 rfl ?_
  refine V.cv (pc := 1039) hB cw_X10_hour wm_L_200 wi_X10_hour ws_X10_hour dL_law_1039 (n_hour hG hJ hw) (hp_at (ca_Model _)) fk_Model rfl (by omega) (by decide) rfl (by exact Nat.le_of_ble_eq_true rfl) (by omega) (by omega) kN (kI (fun v2 m2 sz hq => ?_)) rfl
  exact V.icmp_eq (pc := 1042) (tgt := 2599) hB dL_law_1042 (by decide) (fun _ => nx.go (by omega) (by omega) hq.2 (by omega)) (fun z => absurd hq.1.symm z)
set_option maxRecDepth 100000 in
theorem lk_15 {z : xE} (hE : GE g z) (hB : Bd g B code 9 RL ret 51 603072 7207018) (hG : GK g) (hS : va_T .int b L (fun j => .int (xs j)) (xFree g) g.1 g.1.heap) (hc : 4 * c + 4 ≤ L) (hL : L ≤ 2048) {m : Mem} {sz : Nat} (hJ : JA (5000 * c) m) (nx : NX g B Q b c) : V g B (375 + 42 * c) (6000 + 8300 * c) Q (hp g m) sz 1047 [some (.ref b), some (.ref (ad g 0)), some (.ref (ad g 363)), some (.ref (ad g 373)), some (.ref (ad g 374)), some (.int (nI (4 * c))), none, none, none] [] := by
  have hc5 : c ≤ 511 := by omega
  refine V.aload_n (pc := 1047) hB dL_law_1047 rfl ?_
  refine V.aload_n (pc := 1048) hB dL_law_1048 rfl ?_
  refine V.csW (pc := 1049) hB cwx_L_hoursUntilCrack wm_L_201 wst_L_hoursUntilCrack dL_law_1049 (w_hoursUntilCrack hG hJ) (by omega) (by decide) rfl (by exact Nat.le_of_ble_eq_true rfl) (by omega) (by omega) (kI (fun v m1 sz hw => ?_)) rfl
  refine V.istore (pc := 1052) hB dL_law_1052 (by decide) rfl ?_
  refine V.aload_n (pc := 1054) hB dL_law_1054 rfl ?_
  refine V.cv (pc := 1055) hB cw_X10_hoursUntilCrack wm_L_204 wi_X10_hoursUntilCrack ws_X10_hoursUntilCrack dL_law_1055 (n_hoursUntilCrack hG hJ hw) (hp_at (ca_Model _)) fk_Model rfl (by omega) (by decide) rfl (by exact Nat.le_of_ble_eq_true rfl) (by omega) (by omega) kN (kI (fun v2 m2 sz hq => ?_)) rfl
  refine V.istore (pc := 1058) hB dL_law_1058 (by decide) rfl ?_
  exact law_tail (P := 1060) (off := 1511) hB hG nx dL_law_1060 dL_law_1061 dL_law_1064 dL_law_1066 dL_law_1071 dL_law_1073 dL_law_1076 dL_law_1077 dL_law_1078 dL_law_1079 dL_law_1081 dL_law_1082 dL_law_1083 dL_law_1088 rfl (by omega) (by omega) (by omega) hq (by omega)
set_option maxRecDepth 100000 in
theorem lk_16 {z : xE} (hE : GE g z) (hB : Bd g B code 9 RL ret 51 603072 7207018) (hG : GK g) (hS : va_T .int b L (fun j => .int (xs j)) (xFree g) g.1 g.1.heap) (hc : 4 * c + 4 ≤ L) (hL : L ≤ 2048) {m : Mem} {sz : Nat} (hJ : JA (5000 * c) m) (nx : NX g B Q b c) : V g B (375 + 42 * c) (6000 + 8300 * c) Q (hp g m) sz 1091 [some (.ref b), some (.ref (ad g 0)), some (.ref (ad g 363)), some (.ref (ad g 373)), some (.ref (ad g 374)), some (.int (nI (4 * c))), none, none, none] [] := by
  have hc5 : c ≤ 511 := by omega
  refine V.aload_n (pc := 1091) hB dL_law_1091 rfl ?_
  refine V.aload_n (pc := 1092) hB dL_law_1092 rfl ?_
  refine V.iload (pc := 1093) hB dL_law_1093 rfl ?_
  refine V.iconst (pc := 1095) (v := 1) hB dL_law_1095 rfl ?_
  refine V.iadd (pc := 1096) hB dL_law_1096 ?_
  refine V.sti (pc := 1097) hB hS (sx (xs := xs) (q := 1) hc hL (by decide)).1 (sx (xs := xs) (q := 1) hc hL (by decide)).2 dL_law_1097 ?_
  refine V.aload_n (pc := 1098) hB dL_law_1098 rfl ?_
  refine V.csW (pc := 1099) hB cwx_L_hoursUntilThawed wm_L_205 wst_L_hoursUntilThawed dL_law_1099 (w_hoursUntilThawed hG hJ) (by omega) (by decide) rfl (by exact Nat.le_of_ble_eq_true rfl) (by omega) (by omega) (kI (fun v m1 sz hw => ?_)) rfl
  refine V.istore (pc := 1102) hB dL_law_1102 (by decide) rfl ?_
  refine V.aload_n (pc := 1104) hB dL_law_1104 rfl ?_
  refine V.aload_n (pc := 1105) hB dL_law_1105 rfl ?_
  refine V.iload (pc := 1106) hB dL_law_1106 rfl ?_
  refine V.iconst (pc := 1108) (v := 1) hB dL_law_1108 rfl ?_
  refine V.iadd (pc := 1109) hB dL_law_1109 ?_
  refine V.sti (pc := 1110) hB hS (sx (xs := xs) (q := 1) hc hL (by decide)).1 (sx (xs := xs) (q := 1) hc hL (by decide)).2 dL_law_1110 ?_
  refine V.cv (pc := 1111) hB cw_X10_hoursUntilThawed wm_L_207 wi_X10_hoursUntilThawed ws_X10_hoursUntilThawed dL_law_1111 (n_hoursUntilThawed hG hJ hw) (hp_at (ca_Model _)) fk_Model rfl (by omega) (by decide) rfl (by exact Nat.le_of_ble_eq_true rfl) (by omega) (by omega) kN (kI (fun v2 m2 sz hq => ?_)) rfl
  refine V.istore (pc := 1114) hB dL_law_1114 (by decide) rfl ?_
  exact law_tail (P := 1116) (off := 1455) hB hG nx dL_law_1116 dL_law_1117 dL_law_1120 dL_law_1122 dL_law_1127 dL_law_1129 dL_law_1132 dL_law_1133 dL_law_1134 dL_law_1135 dL_law_1137 dL_law_1138 dL_law_1139 dL_law_1144 rfl (by omega) (by omega) (by omega) hq (by omega)
set_option maxRecDepth 100000 in
theorem lk_17 {z : xE} (hE : GE g z) (hB : Bd g B code 9 RL ret 51 603072 7207018) (hG : GK g) (hS : va_T .int b L (fun j => .int (xs j)) (xFree g) g.1 g.1.heap) (hc : 4 * c + 4 ≤ L) (hL : L ≤ 2048) {m : Mem} {sz : Nat} (hJ : JA (5000 * c) m) (nx : NX g B Q b c) : V g B (375 + 42 * c) (6000 + 8300 * c) Q (hp g m) sz 1147 [some (.ref b), some (.ref (ad g 0)), some (.ref (ad g 363)), some (.ref (ad g 373)), some (.ref (ad g 374)), some (.int (nI (4 * c))), none, none, none] [] := by
  have hc5 : c ≤ 511 := by omega
  refine V.aload_n (pc := 1147) hB dL_law_1147 rfl ?_
  refine V.aload_n (pc := 1148) hB dL_law_1148 rfl ?_
  refine V.iload (pc := 1149) hB dL_law_1149 rfl ?_
  refine V.iconst (pc := 1151) (v := 1) hB dL_law_1151 rfl ?_
  refine V.iadd (pc := 1152) hB dL_law_1152 ?_
  refine V.sti (pc := 1153) hB hS (sx (xs := xs) (q := 1) hc hL (by decide)).1 (sx (xs := xs) (q := 1) hc hL (by decide)).2 dL_law_1153 ?_
  refine V.aload_n (pc := 1154) hB dL_law_1154 rfl ?_
  refine V.iload (pc := 1155) hB dL_law_1155 rfl ?_
  refine V.iconst (pc := 1157) (v := 2) hB dL_law_1157 rfl ?_
  refine V.iadd (pc := 1158) hB dL_law_1158 ?_
  refine V.sti (pc := 1159) hB hS (sx (xs := xs) (q := 2) hc hL (by decide)).1 (sx (xs := xs) (q := 2) hc hL (by decide)).2 dL_law_1159 ?_
  refine V.aload_n (pc := 1160) hB dL_law_1160 rfl ?_
  refine V.csW (pc := 1161) hB cwx_L_addWindow wm_L_208 wst_L_addWindow dL_law_1161 (w_addWindow hG hJ) (by omega) (by decide) rfl (by exact Nat.le_of_ble_eq_true rfl) (by omega) (by omega) (kI (fun v m1 sz hw => ?_)) rfl
  refine V.istore (pc := 1164) hB dL_law_1164 (by decide) rfl ?_
  refine V.aload_n (pc := 1166) hB dL_law_1166 rfl ?_
  refine V.aload_n (pc := 1167) hB dL_law_1167 rfl ?_
  refine V.iload (pc := 1168) hB dL_law_1168 rfl ?_
  refine V.iconst (pc := 1170) (v := 1) hB dL_law_1170 rfl ?_
  refine V.iadd (pc := 1171) hB dL_law_1171 ?_
  refine V.sti (pc := 1172) hB hS (sx (xs := xs) (q := 1) hc hL (by decide)).1 (sx (xs := xs) (q := 1) hc hL (by decide)).2 dL_law_1172 ?_
  refine V.aload_n (pc := 1173) hB dL_law_1173 rfl ?_
  refine V.iload (pc := 1174) hB dL_law_1174 rfl ?_
  refine V.iconst (pc := 1176) (v := 2) hB dL_law_1176 rfl ?_
  refine V.iadd (pc := 1177) hB dL_law_1177 ?_
  refine V.sti (pc := 1178) hB hS (sx (xs := xs) (q := 2) hc hL (by decide)).1 (sx (xs := xs) (q := 2) hc hL (by decide)).2 dL_law_1178 ?_
  refine V.cv (pc := 1179) hB cw_X10_addWindow wm_L_210 wi_X10_addWindow ws_X10_addWindow dL_law_1179 (n_addWindow hG hJ hw) (hp_at (ca_Model _)) fk_Model rfl (by omega) (by decide) rfl (by exact Nat.le_of_ble_eq_true rfl) (by omega) (by omega) kN (kI (fun v2 m2 sz hq => ?_)) rfl
  refine V.istore (pc := 1182) hB dL_law_1182 (by decide) rfl ?_
  exact law_tail (P := 1184) (off := 1387) hB hG nx dL_law_1184 dL_law_1185 dL_law_1188 dL_law_1190 dL_law_1195 dL_law_1197 dL_law_1200 dL_law_1201 dL_law_1202 dL_law_1203 dL_law_1205 dL_law_1206 dL_law_1207 dL_law_1212 rfl (by omega) (by omega) (by omega) hq (by omega)
set_option maxRecDepth 100000 in
theorem lk_18 {z : xE} (hE : GE g z) (hB : Bd g B code 9 RL ret 51 603072 7207018) (hG : GK g) (hS : va_T .int b L (fun j => .int (xs j)) (xFree g) g.1 g.1.heap) (hc : 4 * c + 4 ≤ L) (hL : L ≤ 2048) {m : Mem} {sz : Nat} (hJ : JA (5000 * c) m) (nx : NX g B Q b c) : V g B (375 + 42 * c) (6000 + 8300 * c) Q (hp g m) sz 1215 [some (.ref b), some (.ref (ad g 0)), some (.ref (ad g 363)), some (.ref (ad g 373)), some (.ref (ad g 374)), some (.int (nI (4 * c))), none, none, none] [] := by
  have hc5 : c ≤ 511 := by omega
  refine V.aload_n (pc := 1215) hB dL_law_1215 rfl ?_
  refine V.aload_n (pc := 1216) hB dL_law_1216 rfl ?_
  refine V.iload (pc := 1217) hB dL_law_1217 rfl ?_
  refine V.iconst (pc := 1219) (v := 1) hB dL_law_1219 rfl ?_
  refine V.iadd (pc := 1220) hB dL_law_1220 ?_
  refine V.sti (pc := 1221) hB hS (sx (xs := xs) (q := 1) hc hL (by decide)).1 (sx (xs := xs) (q := 1) hc hL (by decide)).2 dL_law_1221 ?_
  refine V.aload_n (pc := 1222) hB dL_law_1222 rfl ?_
  refine V.csW (pc := 1223) hB cwx_L_removeWindow wm_L_211 wst_L_removeWindow dL_law_1223 (w_removeWindow hG hJ) (by omega) (by decide) rfl (by exact Nat.le_of_ble_eq_true rfl) (by omega) (by omega) (kI (fun v m1 sz hw => ?_)) rfl
  refine V.istore (pc := 1226) hB dL_law_1226 (by decide) rfl ?_
  refine V.aload_n (pc := 1228) hB dL_law_1228 rfl ?_
  refine V.aload_n (pc := 1229) hB dL_law_1229 rfl ?_
  refine V.iload (pc := 1230) hB dL_law_1230 rfl ?_
  refine V.iconst (pc := 1232) (v := 1) hB dL_law_1232 rfl ?_
  refine V.iadd (pc := 1233) hB dL_law_1233 ?_
  refine V.sti (pc := 1234) hB hS (sx (xs := xs) (q := 1) hc hL (by decide)).1 (sx (xs := xs) (q := 1) hc hL (by decide)).2 dL_law_1234 ?_
  refine V.cv (pc := 1235) hB cw_X10_removeWindow wm_L_213 wi_X10_removeWindow ws_X10_removeWindow dL_law_1235 (n_removeWindow hG hJ hw) (hp_at (ca_Model _)) fk_Model rfl (by omega) (by decide) rfl (by exact Nat.le_of_ble_eq_true rfl) (by omega) (by omega) kN (kI (fun v2 m2 sz hq => ?_)) rfl
  refine V.istore (pc := 1238) hB dL_law_1238 (by decide) rfl ?_
  exact law_tail (P := 1240) (off := 1331) hB hG nx dL_law_1240 dL_law_1241 dL_law_1244 dL_law_1246 dL_law_1251 dL_law_1253 dL_law_1256 dL_law_1257 dL_law_1258 dL_law_1259 dL_law_1261 dL_law_1262 dL_law_1263 dL_law_1268 rfl (by omega) (by omega) (by omega) hq (by omega)
set_option maxRecDepth 100000 in
theorem lk_19 {z : xE} (hE : GE g z) (hB : Bd g B code 9 RL ret 51 603072 7207018) (hG : GK g) (hS : va_T .int b L (fun j => .int (xs j)) (xFree g) g.1 g.1.heap) (hc : 4 * c + 4 ≤ L) (hL : L ≤ 2048) {m : Mem} {sz : Nat} (hJ : JA (5000 * c) m) (nx : NX g B Q b c) : V g B (375 + 42 * c) (6000 + 8300 * c) Q (hp g m) sz 1271 [some (.ref b), some (.ref (ad g 0)), some (.ref (ad g 363)), some (.ref (ad g 373)), some (.ref (ad g 374)), some (.int (nI (4 * c))), none, none, none] [] := by
  have hc5 : c ≤ 511 := by omega
  refine V.aload_n (pc := 1271) hB dL_law_1271 rfl ?_
  refine V.cv (pc := 1272) hB cw_X9_windowCount wm_L_214 wi_X9_windowCount ws_X9_windowCount dL_law_1272 (w_windowCount hG hJ) (hp_at (ca_Bells _)) fk_Bells rfl (by omega) (by decide) rfl (by exact Nat.le_of_ble_eq_true rfl) (by omega) (by omega) kN (kI (fun v m1 sz hw => ?_)) rfl
  obtain ⟨rfl, hw⟩ := hw
  refine V.aload_n (pc := 1275) hB dL_law_1275 rfl ?_
  refine V.cv (pc := 1276) hB cw_X10_windowCount wm_L_217 wi_X10_windowCount ws_X10_windowCount dL_law_1276 (n_windowCount hG hJ hw) (hp_at (ca_Model _)) fk_Model rfl (by omega) (by decide) rfl (by exact Nat.le_of_ble_eq_true rfl) (by omega) (by omega) kN (kI (fun v2 m2 sz hq => ?_)) rfl
  exact V.icmp_eq (pc := 1279) (tgt := 2599) hB dL_law_1279 (by decide) (fun _ => nx.go (by omega) (by omega) hq.2 (by omega)) (fun z => absurd hq.1.symm z)
set_option maxRecDepth 100000 in
theorem lk_20 {z : xE} (hE : GE g z) (hB : Bd g B code 9 RL ret 51 603072 7207018) (hG : GK g) (hS : va_T .int b L (fun j => .int (xs j)) (xFree g) g.1 g.1.heap) (hc : 4 * c + 4 ≤ L) (hL : L ≤ 2048) {m : Mem} {sz : Nat} (hJ : JA (5000 * c) m) (nx : NX g B Q b c) : V g B (375 + 42 * c) (6000 + 8300 * c) Q (hp g m) sz 1284 [some (.ref b), some (.ref (ad g 0)), some (.ref (ad g 363)), some (.ref (ad g 373)), some (.ref (ad g 374)), some (.int (nI (4 * c))), none, none, none] [] := by
  have hc5 : c ≤ 511 := by omega
  refine V.aload_n (pc := 1284) hB dL_law_1284 rfl ?_
  refine V.aload_n (pc := 1285) hB dL_law_1285 rfl ?_
  refine V.iload (pc := 1286) hB dL_law_1286 rfl ?_
  refine V.iconst (pc := 1288) (v := 1) hB dL_law_1288 rfl ?_
  refine V.iadd (pc := 1289) hB dL_law_1289 ?_
  refine V.sti (pc := 1290) hB hS (sx (xs := xs) (q := 1) hc hL (by decide)).1 (sx (xs := xs) (q := 1) hc hL (by decide)).2 dL_law_1290 ?_
  refine V.aload_n (pc := 1291) hB dL_law_1291 rfl ?_
  refine V.csW (pc := 1292) hB cwx_L_windowFirst wm_L_218 wst_L_windowFirst dL_law_1292 (w_windowFirst hG hJ) (by omega) (by decide) rfl (by exact Nat.le_of_ble_eq_true rfl) (by omega) (by omega) (kI (fun v m1 sz hw => ?_)) rfl
  refine V.istore (pc := 1295) hB dL_law_1295 (by decide) rfl ?_
  refine V.aload_n (pc := 1297) hB dL_law_1297 rfl ?_
  refine V.aload_n (pc := 1298) hB dL_law_1298 rfl ?_
  refine V.iload (pc := 1299) hB dL_law_1299 rfl ?_
  refine V.iconst (pc := 1301) (v := 1) hB dL_law_1301 rfl ?_
  refine V.iadd (pc := 1302) hB dL_law_1302 ?_
  refine V.sti (pc := 1303) hB hS (sx (xs := xs) (q := 1) hc hL (by decide)).1 (sx (xs := xs) (q := 1) hc hL (by decide)).2 dL_law_1303 ?_
  refine V.cv (pc := 1304) hB cw_X10_windowFirst wm_L_220 wi_X10_windowFirst ws_X10_windowFirst dL_law_1304 (n_windowFirst hG hJ hw) (hp_at (ca_Model _)) fk_Model rfl (by omega) (by decide) rfl (by exact Nat.le_of_ble_eq_true rfl) (by omega) (by omega) kN (kI (fun v2 m2 sz hq => ?_)) rfl
  refine V.istore (pc := 1307) hB dL_law_1307 (by decide) rfl ?_
  exact law_tail (P := 1309) (off := 1262) hB hG nx dL_law_1309 dL_law_1310 dL_law_1313 dL_law_1315 dL_law_1320 dL_law_1322 dL_law_1325 dL_law_1326 dL_law_1327 dL_law_1328 dL_law_1330 dL_law_1331 dL_law_1332 dL_law_1337 rfl (by omega) (by omega) (by omega) hq (by omega)
set_option maxRecDepth 100000 in
theorem lk_21 {z : xE} (hE : GE g z) (hB : Bd g B code 9 RL ret 51 603072 7207018) (hG : GK g) (hS : va_T .int b L (fun j => .int (xs j)) (xFree g) g.1 g.1.heap) (hc : 4 * c + 4 ≤ L) (hL : L ≤ 2048) {m : Mem} {sz : Nat} (hJ : JA (5000 * c) m) (nx : NX g B Q b c) : V g B (375 + 42 * c) (6000 + 8300 * c) Q (hp g m) sz 1340 [some (.ref b), some (.ref (ad g 0)), some (.ref (ad g 363)), some (.ref (ad g 373)), some (.ref (ad g 374)), some (.int (nI (4 * c))), none, none, none] [] := by
  have hc5 : c ≤ 511 := by omega
  refine V.aload_n (pc := 1340) hB dL_law_1340 rfl ?_
  refine V.aload_n (pc := 1341) hB dL_law_1341 rfl ?_
  refine V.iload (pc := 1342) hB dL_law_1342 rfl ?_
  refine V.iconst (pc := 1344) (v := 1) hB dL_law_1344 rfl ?_
  refine V.iadd (pc := 1345) hB dL_law_1345 ?_
  refine V.sti (pc := 1346) hB hS (sx (xs := xs) (q := 1) hc hL (by decide)).1 (sx (xs := xs) (q := 1) hc hL (by decide)).2 dL_law_1346 ?_
  refine V.aload_n (pc := 1347) hB dL_law_1347 rfl ?_
  refine V.csW (pc := 1348) hB cwx_L_windowLast wm_L_221 wst_L_windowLast dL_law_1348 (w_windowLast hG hJ) (by omega) (by decide) rfl (by exact Nat.le_of_ble_eq_true rfl) (by omega) (by omega) (kI (fun v m1 sz hw => ?_)) rfl
  refine V.istore (pc := 1351) hB dL_law_1351 (by decide) rfl ?_
  refine V.aload_n (pc := 1353) hB dL_law_1353 rfl ?_
  refine V.aload_n (pc := 1354) hB dL_law_1354 rfl ?_
  refine V.iload (pc := 1355) hB dL_law_1355 rfl ?_
  refine V.iconst (pc := 1357) (v := 1) hB dL_law_1357 rfl ?_
  refine V.iadd (pc := 1358) hB dL_law_1358 ?_
  refine V.sti (pc := 1359) hB hS (sx (xs := xs) (q := 1) hc hL (by decide)).1 (sx (xs := xs) (q := 1) hc hL (by decide)).2 dL_law_1359 ?_
  refine V.cv (pc := 1360) hB cw_X10_windowLast wm_L_223 wi_X10_windowLast ws_X10_windowLast dL_law_1360 (n_windowLast hG hJ hw) (hp_at (ca_Model _)) fk_Model rfl (by omega) (by decide) rfl (by exact Nat.le_of_ble_eq_true rfl) (by omega) (by omega) kN (kI (fun v2 m2 sz hq => ?_)) rfl
  refine V.istore (pc := 1363) hB dL_law_1363 (by decide) rfl ?_
  exact law_tail (P := 1365) (off := 1206) hB hG nx dL_law_1365 dL_law_1366 dL_law_1369 dL_law_1371 dL_law_1376 dL_law_1378 dL_law_1381 dL_law_1382 dL_law_1383 dL_law_1384 dL_law_1386 dL_law_1387 dL_law_1388 dL_law_1393 rfl (by omega) (by omega) (by omega) hq (by omega)
set_option maxRecDepth 100000 in
theorem lk_22 {z : xE} (hE : GE g z) (hB : Bd g B code 9 RL ret 51 603072 7207018) (hG : GK g) (hS : va_T .int b L (fun j => .int (xs j)) (xFree g) g.1 g.1.heap) (hc : 4 * c + 4 ≤ L) (hL : L ≤ 2048) {m : Mem} {sz : Nat} (hJ : JA (5000 * c) m) (nx : NX g B Q b c) : V g B (375 + 42 * c) (6000 + 8300 * c) Q (hp g m) sz 1396 [some (.ref b), some (.ref (ad g 0)), some (.ref (ad g 363)), some (.ref (ad g 373)), some (.ref (ad g 374)), some (.int (nI (4 * c))), none, none, none] [] := by
  have hc5 : c ≤ 511 := by omega
  refine V.aload_n (pc := 1396) hB dL_law_1396 rfl ?_
  refine V.aload_n (pc := 1397) hB dL_law_1397 rfl ?_
  refine V.iload (pc := 1398) hB dL_law_1398 rfl ?_
  refine V.iconst (pc := 1400) (v := 1) hB dL_law_1400 rfl ?_
  refine V.iadd (pc := 1401) hB dL_law_1401 ?_
  refine V.sti (pc := 1402) hB hS (sx (xs := xs) (q := 1) hc hL (by decide)).1 (sx (xs := xs) (q := 1) hc hL (by decide)).2 dL_law_1402 ?_
  refine V.cv (pc := 1403) hB cw_X9_isInWindow wm_L_224 wi_X9_isInWindow ws_X9_isInWindow dL_law_1403 (w_isInWindow hG hJ) (hp_at (ca_Bells _)) fk_Bells rfl (by omega) (by decide) rfl (by exact Nat.le_of_ble_eq_true rfl) (by omega) (by omega) kN (kI (fun v m1 sz hw => ?_)) rfl
  obtain ⟨rfl, hw⟩ := hw
  refine V.aload_n (pc := 1406) hB dL_law_1406 rfl ?_
  refine V.aload_n (pc := 1407) hB dL_law_1407 rfl ?_
  refine V.iload (pc := 1408) hB dL_law_1408 rfl ?_
  refine V.iconst (pc := 1410) (v := 1) hB dL_law_1410 rfl ?_
  refine V.iadd (pc := 1411) hB dL_law_1411 ?_
  refine V.sti (pc := 1412) hB hS (sx (xs := xs) (q := 1) hc hL (by decide)).1 (sx (xs := xs) (q := 1) hc hL (by decide)).2 dL_law_1412 ?_
  refine V.cv (pc := 1413) hB cw_X10_isInWindow wm_L_228 wi_X10_isInWindow ws_X10_isInWindow dL_law_1413 (n_isInWindow hG hJ hw) (hp_at (ca_Model _)) fk_Model rfl (by omega) (by decide) rfl (by exact Nat.le_of_ble_eq_true rfl) (by omega) (by omega) kN (kI (fun v2 m2 sz hq => ?_)) rfl
  exact V.icmp_eq (pc := 1416) (tgt := 2599) hB dL_law_1416 (by decide) (fun _ => nx.go (by omega) (by omega) hq.2 (by omega)) (fun z => absurd hq.1.symm z)
set_option maxRecDepth 100000 in
theorem lk_23 {z : xE} (hE : GE g z) (hB : Bd g B code 9 RL ret 51 603072 7207018) (hG : GK g) (hS : va_T .int b L (fun j => .int (xs j)) (xFree g) g.1 g.1.heap) (hc : 4 * c + 4 ≤ L) (hL : L ≤ 2048) {m : Mem} {sz : Nat} (hJ : JA (5000 * c) m) (nx : NX g B Q b c) : V g B (375 + 42 * c) (6000 + 8300 * c) Q (hp g m) sz 1421 [some (.ref b), some (.ref (ad g 0)), some (.ref (ad g 363)), some (.ref (ad g 373)), some (.ref (ad g 374)), some (.int (nI (4 * c))), none, none, none] [] := by
  have hc5 : c ≤ 511 := by omega
  refine V.aload_n (pc := 1421) hB dL_law_1421 rfl ?_
  refine V.aload_n (pc := 1422) hB dL_law_1422 rfl ?_
  refine V.iload (pc := 1423) hB dL_law_1423 rfl ?_
  refine V.iconst (pc := 1425) (v := 1) hB dL_law_1425 rfl ?_
  refine V.iadd (pc := 1426) hB dL_law_1426 ?_
  refine V.sti (pc := 1427) hB hS (sx (xs := xs) (q := 1) hc hL (by decide)).1 (sx (xs := xs) (q := 1) hc hL (by decide)).2 dL_law_1427 ?_
  refine V.aload_n (pc := 1428) hB dL_law_1428 rfl ?_
  refine V.iload (pc := 1429) hB dL_law_1429 rfl ?_
  refine V.iconst (pc := 1431) (v := 2) hB dL_law_1431 rfl ?_
  refine V.iadd (pc := 1432) hB dL_law_1432 ?_
  refine V.sti (pc := 1433) hB hS (sx (xs := xs) (q := 2) hc hL (by decide)).1 (sx (xs := xs) (q := 2) hc hL (by decide)).2 dL_law_1433 ?_
  refine V.aload_n (pc := 1434) hB dL_law_1434 rfl ?_
  refine V.csW (pc := 1435) hB cwx_L_strike wm_L_229 wst_L_strike dL_law_1435 (w_strike hG hJ) (by omega) (by decide) rfl (by exact Nat.le_of_ble_eq_true rfl) (by omega) (by omega) (kI (fun v m1 sz hw => ?_)) rfl
  refine V.istore (pc := 1438) hB dL_law_1438 (by decide) rfl ?_
  refine V.aload_n (pc := 1440) hB dL_law_1440 rfl ?_
  refine V.aload_n (pc := 1441) hB dL_law_1441 rfl ?_
  refine V.iload (pc := 1442) hB dL_law_1442 rfl ?_
  refine V.iconst (pc := 1444) (v := 1) hB dL_law_1444 rfl ?_
  refine V.iadd (pc := 1445) hB dL_law_1445 ?_
  refine V.sti (pc := 1446) hB hS (sx (xs := xs) (q := 1) hc hL (by decide)).1 (sx (xs := xs) (q := 1) hc hL (by decide)).2 dL_law_1446 ?_
  refine V.aload_n (pc := 1447) hB dL_law_1447 rfl ?_
  refine V.iload (pc := 1448) hB dL_law_1448 rfl ?_
  refine V.iconst (pc := 1450) (v := 2) hB dL_law_1450 rfl ?_
  refine V.iadd (pc := 1451) hB dL_law_1451 ?_
  refine V.sti (pc := 1452) hB hS (sx (xs := xs) (q := 2) hc hL (by decide)).1 (sx (xs := xs) (q := 2) hc hL (by decide)).2 dL_law_1452 ?_
  refine V.cv (pc := 1453) hB cw_X10_strike wm_L_231 wi_X10_strike ws_X10_strike dL_law_1453 (n_strike hG hJ hw) (hp_at (ca_Model _)) fk_Model rfl (by omega) (by decide) rfl (by exact Nat.le_of_ble_eq_true rfl) (by omega) (by omega) kN (kI (fun v2 m2 sz hq => ?_)) rfl
  refine V.istore (pc := 1456) hB dL_law_1456 (by decide) rfl ?_
  exact law_tail (P := 1458) (off := 1113) hB hG nx dL_law_1458 dL_law_1459 dL_law_1462 dL_law_1464 dL_law_1469 dL_law_1471 dL_law_1474 dL_law_1475 dL_law_1476 dL_law_1477 dL_law_1479 dL_law_1480 dL_law_1481 dL_law_1486 rfl (by omega) (by omega) (by omega) hq (by omega)
set_option maxRecDepth 100000 in
theorem lk_24 {z : xE} (hE : GE g z) (hB : Bd g B code 9 RL ret 51 603072 7207018) (hG : GK g) (hS : va_T .int b L (fun j => .int (xs j)) (xFree g) g.1 g.1.heap) (hc : 4 * c + 4 ≤ L) (hL : L ≤ 2048) {m : Mem} {sz : Nat} (hJ : JA (5000 * c) m) (nx : NX g B Q b c) : V g B (375 + 42 * c) (6000 + 8300 * c) Q (hp g m) sz 1489 [some (.ref b), some (.ref (ad g 0)), some (.ref (ad g 363)), some (.ref (ad g 373)), some (.ref (ad g 374)), some (.int (nI (4 * c))), none, none, none] [] := by
  have hc5 : c ≤ 511 := by omega
  refine V.aload_n (pc := 1489) hB dL_law_1489 rfl ?_
  refine V.aload_n (pc := 1490) hB dL_law_1490 rfl ?_
  refine V.iload (pc := 1491) hB dL_law_1491 rfl ?_
  refine V.iconst (pc := 1493) (v := 1) hB dL_law_1493 rfl ?_
  refine V.iadd (pc := 1494) hB dL_law_1494 ?_
  refine V.sti (pc := 1495) hB hS (sx (xs := xs) (q := 1) hc hL (by decide)).1 (sx (xs := xs) (q := 1) hc hL (by decide)).2 dL_law_1495 ?_
  refine V.aload_n (pc := 1496) hB dL_law_1496 rfl ?_
  refine V.iload (pc := 1497) hB dL_law_1497 rfl ?_
  refine V.iconst (pc := 1499) (v := 2) hB dL_law_1499 rfl ?_
  refine V.iadd (pc := 1500) hB dL_law_1500 ?_
  refine V.sti (pc := 1501) hB hS (sx (xs := xs) (q := 2) hc hL (by decide)).1 (sx (xs := xs) (q := 2) hc hL (by decide)).2 dL_law_1501 ?_
  refine V.aload_n (pc := 1502) hB dL_law_1502 rfl ?_
  refine V.csW (pc := 1503) hB cwx_L_pitch wm_L_232 wst_L_pitch dL_law_1503 (w_pitch hG hJ) (by omega) (by decide) rfl (by exact Nat.le_of_ble_eq_true rfl) (by omega) (by omega) (kI (fun v m1 sz hw => ?_)) rfl
  refine V.istore (pc := 1506) hB dL_law_1506 (by decide) rfl ?_
  refine V.aload_n (pc := 1508) hB dL_law_1508 rfl ?_
  refine V.aload_n (pc := 1509) hB dL_law_1509 rfl ?_
  refine V.iload (pc := 1510) hB dL_law_1510 rfl ?_
  refine V.iconst (pc := 1512) (v := 1) hB dL_law_1512 rfl ?_
  refine V.iadd (pc := 1513) hB dL_law_1513 ?_
  refine V.sti (pc := 1514) hB hS (sx (xs := xs) (q := 1) hc hL (by decide)).1 (sx (xs := xs) (q := 1) hc hL (by decide)).2 dL_law_1514 ?_
  refine V.aload_n (pc := 1515) hB dL_law_1515 rfl ?_
  refine V.iload (pc := 1516) hB dL_law_1516 rfl ?_
  refine V.iconst (pc := 1518) (v := 2) hB dL_law_1518 rfl ?_
  refine V.iadd (pc := 1519) hB dL_law_1519 ?_
  refine V.sti (pc := 1520) hB hS (sx (xs := xs) (q := 2) hc hL (by decide)).1 (sx (xs := xs) (q := 2) hc hL (by decide)).2 dL_law_1520 ?_
  refine V.cv (pc := 1521) hB cw_X10_pitch wm_L_234 wi_X10_pitch ws_X10_pitch dL_law_1521 (n_pitch hG hJ hw) (hp_at (ca_Model _)) fk_Model rfl (by omega) (by decide) rfl (by exact Nat.le_of_ble_eq_true rfl) (by omega) (by omega) kN (kI (fun v2 m2 sz hq => ?_)) rfl
  refine V.istore (pc := 1524) hB dL_law_1524 (by decide) rfl ?_
  exact law_tail (P := 1526) (off := 1045) hB hG nx dL_law_1526 dL_law_1527 dL_law_1530 dL_law_1532 dL_law_1537 dL_law_1539 dL_law_1542 dL_law_1543 dL_law_1544 dL_law_1545 dL_law_1547 dL_law_1548 dL_law_1549 dL_law_1554 rfl (by omega) (by omega) (by omega) hq (by omega)
set_option maxRecDepth 100000 in
theorem lk_25 {z : xE} (hE : GE g z) (hB : Bd g B code 9 RL ret 51 603072 7207018) (hG : GK g) (hS : va_T .int b L (fun j => .int (xs j)) (xFree g) g.1 g.1.heap) (hc : 4 * c + 4 ≤ L) (hL : L ≤ 2048) {m : Mem} {sz : Nat} (hJ : JA (5000 * c) m) (nx : NX g B Q b c) : V g B (375 + 42 * c) (6000 + 8300 * c) Q (hp g m) sz 1557 [some (.ref b), some (.ref (ad g 0)), some (.ref (ad g 363)), some (.ref (ad g 373)), some (.ref (ad g 374)), some (.int (nI (4 * c))), none, none, none] [] := by
  have hc5 : c ≤ 511 := by omega
  refine V.aload_n (pc := 1557) hB dL_law_1557 rfl ?_
  refine V.cv (pc := 1558) hB cw_X9_pealCount wm_L_235 wi_X9_pealCount ws_X9_pealCount dL_law_1558 (w_pealCount hG hJ) (hp_at (ca_Bells _)) fk_Bells rfl (by omega) (by decide) rfl (by exact Nat.le_of_ble_eq_true rfl) (by omega) (by omega) kN (kI (fun v m1 sz hw => ?_)) rfl
  obtain ⟨rfl, hw⟩ := hw
  refine V.aload_n (pc := 1561) hB dL_law_1561 rfl ?_
  refine V.cv (pc := 1562) hB cw_X10_pealCount wm_L_238 wi_X10_pealCount ws_X10_pealCount dL_law_1562 (n_pealCount hG hJ hw) (hp_at (ca_Model _)) fk_Model rfl (by omega) (by decide) rfl (by exact Nat.le_of_ble_eq_true rfl) (by omega) (by omega) kN (kI (fun v2 m2 sz hq => ?_)) rfl
  exact V.icmp_eq (pc := 1565) (tgt := 2599) hB dL_law_1565 (by decide) (fun _ => nx.go (by omega) (by omega) hq.2 (by omega)) (fun z => absurd hq.1.symm z)
set_option maxRecDepth 100000 in
theorem lk_26 {z : xE} (hE : GE g z) (hB : Bd g B code 9 RL ret 51 603072 7207018) (hG : GK g) (hS : va_T .int b L (fun j => .int (xs j)) (xFree g) g.1 g.1.heap) (hc : 4 * c + 4 ≤ L) (hL : L ≤ 2048) {m : Mem} {sz : Nat} (hJ : JA (5000 * c) m) (nx : NX g B Q b c) : V g B (375 + 42 * c) (6000 + 8300 * c) Q (hp g m) sz 1570 [some (.ref b), some (.ref (ad g 0)), some (.ref (ad g 363)), some (.ref (ad g 373)), some (.ref (ad g 374)), some (.int (nI (4 * c))), none, none, none] [] := by
  have hc5 : c ≤ 511 := by omega
  refine V.aload_n (pc := 1570) hB dL_law_1570 rfl ?_
  refine V.aload_n (pc := 1571) hB dL_law_1571 rfl ?_
  refine V.iload (pc := 1572) hB dL_law_1572 rfl ?_
  refine V.iconst (pc := 1574) (v := 1) hB dL_law_1574 rfl ?_
  refine V.iadd (pc := 1575) hB dL_law_1575 ?_
  refine V.sti (pc := 1576) hB hS (sx (xs := xs) (q := 1) hc hL (by decide)).1 (sx (xs := xs) (q := 1) hc hL (by decide)).2 dL_law_1576 ?_
  refine V.aload_n (pc := 1577) hB dL_law_1577 rfl ?_
  refine V.csW (pc := 1578) hB cwx_L_pealKind wm_L_239 wst_L_pealKind dL_law_1578 (w_pealKind hG hJ) (by omega) (by decide) rfl (by exact Nat.le_of_ble_eq_true rfl) (by omega) (by omega) (kI (fun v m1 sz hw => ?_)) rfl
  refine V.istore (pc := 1581) hB dL_law_1581 (by decide) rfl ?_
  refine V.aload_n (pc := 1583) hB dL_law_1583 rfl ?_
  refine V.aload_n (pc := 1584) hB dL_law_1584 rfl ?_
  refine V.iload (pc := 1585) hB dL_law_1585 rfl ?_
  refine V.iconst (pc := 1587) (v := 1) hB dL_law_1587 rfl ?_
  refine V.iadd (pc := 1588) hB dL_law_1588 ?_
  refine V.sti (pc := 1589) hB hS (sx (xs := xs) (q := 1) hc hL (by decide)).1 (sx (xs := xs) (q := 1) hc hL (by decide)).2 dL_law_1589 ?_
  refine V.cv (pc := 1590) hB cw_X10_pealKind wm_L_241 wi_X10_pealKind ws_X10_pealKind dL_law_1590 (n_pealKind hG hJ hw) (hp_at (ca_Model _)) fk_Model rfl (by omega) (by decide) rfl (by exact Nat.le_of_ble_eq_true rfl) (by omega) (by omega) kN (kI (fun v2 m2 sz hq => ?_)) rfl
  refine V.istore (pc := 1593) hB dL_law_1593 (by decide) rfl ?_
  exact law_tail (P := 1595) (off := 976) hB hG nx dL_law_1595 dL_law_1596 dL_law_1599 dL_law_1601 dL_law_1606 dL_law_1608 dL_law_1611 dL_law_1612 dL_law_1613 dL_law_1614 dL_law_1616 dL_law_1617 dL_law_1618 dL_law_1623 rfl (by omega) (by omega) (by omega) hq (by omega)
set_option maxRecDepth 100000 in
theorem lk_27 {z : xE} (hE : GE g z) (hB : Bd g B code 9 RL ret 51 603072 7207018) (hG : GK g) (hS : va_T .int b L (fun j => .int (xs j)) (xFree g) g.1 g.1.heap) (hc : 4 * c + 4 ≤ L) (hL : L ≤ 2048) {m : Mem} {sz : Nat} (hJ : JA (5000 * c) m) (nx : NX g B Q b c) : V g B (375 + 42 * c) (6000 + 8300 * c) Q (hp g m) sz 1626 [some (.ref b), some (.ref (ad g 0)), some (.ref (ad g 363)), some (.ref (ad g 373)), some (.ref (ad g 374)), some (.int (nI (4 * c))), none, none, none] [] := by
  have hc5 : c ≤ 511 := by omega
  refine V.aload_n (pc := 1626) hB dL_law_1626 rfl ?_
  refine V.aload_n (pc := 1627) hB dL_law_1627 rfl ?_
  refine V.iload (pc := 1628) hB dL_law_1628 rfl ?_
  refine V.iconst (pc := 1630) (v := 1) hB dL_law_1630 rfl ?_
  refine V.iadd (pc := 1631) hB dL_law_1631 ?_
  refine V.sti (pc := 1632) hB hS (sx (xs := xs) (q := 1) hc hL (by decide)).1 (sx (xs := xs) (q := 1) hc hL (by decide)).2 dL_law_1632 ?_
  refine V.aload_n (pc := 1633) hB dL_law_1633 rfl ?_
  refine V.csW (pc := 1634) hB cwx_L_pealLake wm_L_242 wst_L_pealLake dL_law_1634 (w_pealLake hG hJ) (by omega) (by decide) rfl (by exact Nat.le_of_ble_eq_true rfl) (by omega) (by omega) (kI (fun v m1 sz hw => ?_)) rfl
  refine V.istore (pc := 1637) hB dL_law_1637 (by decide) rfl ?_
  refine V.aload_n (pc := 1639) hB dL_law_1639 rfl ?_
  refine V.aload_n (pc := 1640) hB dL_law_1640 rfl ?_
  refine V.iload (pc := 1641) hB dL_law_1641 rfl ?_
  refine V.iconst (pc := 1643) (v := 1) hB dL_law_1643 rfl ?_
  refine V.iadd (pc := 1644) hB dL_law_1644 ?_
  refine V.sti (pc := 1645) hB hS (sx (xs := xs) (q := 1) hc hL (by decide)).1 (sx (xs := xs) (q := 1) hc hL (by decide)).2 dL_law_1645 ?_
  refine V.cv (pc := 1646) hB cw_X10_pealLake wm_L_244 wi_X10_pealLake ws_X10_pealLake dL_law_1646 (n_pealLake hG hJ hw) (hp_at (ca_Model _)) fk_Model rfl (by omega) (by decide) rfl (by exact Nat.le_of_ble_eq_true rfl) (by omega) (by omega) kN (kI (fun v2 m2 sz hq => ?_)) rfl
  refine V.istore (pc := 1649) hB dL_law_1649 (by decide) rfl ?_
  exact law_tail (P := 1651) (off := 920) hB hG nx dL_law_1651 dL_law_1652 dL_law_1655 dL_law_1657 dL_law_1662 dL_law_1664 dL_law_1667 dL_law_1668 dL_law_1669 dL_law_1670 dL_law_1672 dL_law_1673 dL_law_1674 dL_law_1679 rfl (by omega) (by omega) (by omega) hq (by omega)
set_option maxRecDepth 100000 in
theorem lk_28 {z : xE} (hE : GE g z) (hB : Bd g B code 9 RL ret 51 603072 7207018) (hG : GK g) (hS : va_T .int b L (fun j => .int (xs j)) (xFree g) g.1 g.1.heap) (hc : 4 * c + 4 ≤ L) (hL : L ≤ 2048) {m : Mem} {sz : Nat} (hJ : JA (5000 * c) m) (nx : NX g B Q b c) : V g B (375 + 42 * c) (6000 + 8300 * c) Q (hp g m) sz 1682 [some (.ref b), some (.ref (ad g 0)), some (.ref (ad g 363)), some (.ref (ad g 373)), some (.ref (ad g 374)), some (.int (nI (4 * c))), none, none, none] [] := by
  have hc5 : c ≤ 511 := by omega
  refine V.aload_n (pc := 1682) hB dL_law_1682 rfl ?_
  refine V.aload_n (pc := 1683) hB dL_law_1683 rfl ?_
  refine V.iload (pc := 1684) hB dL_law_1684 rfl ?_
  refine V.iconst (pc := 1686) (v := 1) hB dL_law_1686 rfl ?_
  refine V.iadd (pc := 1687) hB dL_law_1687 ?_
  refine V.sti (pc := 1688) hB hS (sx (xs := xs) (q := 1) hc hL (by decide)).1 (sx (xs := xs) (q := 1) hc hL (by decide)).2 dL_law_1688 ?_
  refine V.aload_n (pc := 1689) hB dL_law_1689 rfl ?_
  refine V.csW (pc := 1690) hB cwx_L_pealPitch wm_L_245 wst_L_pealPitch dL_law_1690 (w_pealPitch hG hJ) (by omega) (by decide) rfl (by exact Nat.le_of_ble_eq_true rfl) (by omega) (by omega) (kI (fun v m1 sz hw => ?_)) rfl
  refine V.istore (pc := 1693) hB dL_law_1693 (by decide) rfl ?_
  refine V.aload_n (pc := 1695) hB dL_law_1695 rfl ?_
  refine V.aload_n (pc := 1696) hB dL_law_1696 rfl ?_
  refine V.iload (pc := 1697) hB dL_law_1697 rfl ?_
  refine V.iconst (pc := 1699) (v := 1) hB dL_law_1699 rfl ?_
  refine V.iadd (pc := 1700) hB dL_law_1700 ?_
  refine V.sti (pc := 1701) hB hS (sx (xs := xs) (q := 1) hc hL (by decide)).1 (sx (xs := xs) (q := 1) hc hL (by decide)).2 dL_law_1701 ?_
  refine V.cv (pc := 1702) hB cw_X10_pealPitch wm_L_247 wi_X10_pealPitch ws_X10_pealPitch dL_law_1702 (n_pealPitch hG hJ hw) (hp_at (ca_Model _)) fk_Model rfl (by omega) (by decide) rfl (by exact Nat.le_of_ble_eq_true rfl) (by omega) (by omega) kN (kI (fun v2 m2 sz hq => ?_)) rfl
  refine V.istore (pc := 1705) hB dL_law_1705 (by decide) rfl ?_
  exact law_tail (P := 1707) (off := 864) hB hG nx dL_law_1707 dL_law_1708 dL_law_1711 dL_law_1713 dL_law_1718 dL_law_1720 dL_law_1723 dL_law_1724 dL_law_1725 dL_law_1726 dL_law_1728 dL_law_1729 dL_law_1730 dL_law_1735 rfl (by omega) (by omega) (by omega) hq (by omega)
set_option maxRecDepth 100000 in
theorem lk_29 {z : xE} (hE : GE g z) (hB : Bd g B code 9 RL ret 51 603072 7207018) (hG : GK g) (hS : va_T .int b L (fun j => .int (xs j)) (xFree g) g.1 g.1.heap) (hc : 4 * c + 4 ≤ L) (hL : L ≤ 2048) {m : Mem} {sz : Nat} (hJ : JA (5000 * c) m) (nx : NX g B Q b c) : V g B (375 + 42 * c) (6000 + 8300 * c) Q (hp g m) sz 1738 [some (.ref b), some (.ref (ad g 0)), some (.ref (ad g 363)), some (.ref (ad g 373)), some (.ref (ad g 374)), some (.int (nI (4 * c))), none, none, none] [] := by
  have hc5 : c ≤ 511 := by omega
  refine V.aload_n (pc := 1738) hB dL_law_1738 rfl ?_
  refine V.aload_n (pc := 1739) hB dL_law_1739 rfl ?_
  refine V.iload (pc := 1740) hB dL_law_1740 rfl ?_
  refine V.iconst (pc := 1742) (v := 1) hB dL_law_1742 rfl ?_
  refine V.iadd (pc := 1743) hB dL_law_1743 ?_
  refine V.sti (pc := 1744) hB hS (sx (xs := xs) (q := 1) hc hL (by decide)).1 (sx (xs := xs) (q := 1) hc hL (by decide)).2 dL_law_1744 ?_
  refine V.aload_n (pc := 1745) hB dL_law_1745 rfl ?_
  refine V.csW (pc := 1746) hB cwx_L_pealHour wm_L_248 wst_L_pealHour dL_law_1746 (w_pealHour hG hJ) (by omega) (by decide) rfl (by exact Nat.le_of_ble_eq_true rfl) (by omega) (by omega) (kI (fun v m1 sz hw => ?_)) rfl
  refine V.istore (pc := 1749) hB dL_law_1749 (by decide) rfl ?_
  refine V.aload_n (pc := 1751) hB dL_law_1751 rfl ?_
  refine V.aload_n (pc := 1752) hB dL_law_1752 rfl ?_
  refine V.iload (pc := 1753) hB dL_law_1753 rfl ?_
  refine V.iconst (pc := 1755) (v := 1) hB dL_law_1755 rfl ?_
  refine V.iadd (pc := 1756) hB dL_law_1756 ?_
  refine V.sti (pc := 1757) hB hS (sx (xs := xs) (q := 1) hc hL (by decide)).1 (sx (xs := xs) (q := 1) hc hL (by decide)).2 dL_law_1757 ?_
  refine V.cv (pc := 1758) hB cw_X10_pealHour wm_L_250 wi_X10_pealHour ws_X10_pealHour dL_law_1758 (n_pealHour hG hJ hw) (hp_at (ca_Model _)) fk_Model rfl (by omega) (by decide) rfl (by exact Nat.le_of_ble_eq_true rfl) (by omega) (by omega) kN (kI (fun v2 m2 sz hq => ?_)) rfl
  refine V.istore (pc := 1761) hB dL_law_1761 (by decide) rfl ?_
  exact law_tail (P := 1763) (off := 808) hB hG nx dL_law_1763 dL_law_1764 dL_law_1767 dL_law_1769 dL_law_1774 dL_law_1776 dL_law_1779 dL_law_1780 dL_law_1781 dL_law_1782 dL_law_1784 dL_law_1785 dL_law_1786 dL_law_1791 rfl (by omega) (by omega) (by omega) hq (by omega)
set_option maxRecDepth 100000 in
theorem lk_30 {z : xE} (hE : GE g z) (hB : Bd g B code 9 RL ret 51 603072 7207018) (hG : GK g) (hS : va_T .int b L (fun j => .int (xs j)) (xFree g) g.1 g.1.heap) (hc : 4 * c + 4 ≤ L) (hL : L ≤ 2048) {m : Mem} {sz : Nat} (hJ : JA (5000 * c) m) (nx : NX g B Q b c) : V g B (375 + 42 * c) (6000 + 8300 * c) Q (hp g m) sz 1794 [some (.ref b), some (.ref (ad g 0)), some (.ref (ad g 363)), some (.ref (ad g 373)), some (.ref (ad g 374)), some (.int (nI (4 * c))), none, none, none] [] := by
  have hc5 : c ≤ 511 := by omega
  refine V.aload_n (pc := 1794) hB dL_law_1794 rfl ?_
  refine V.cv (pc := 1795) hB cw_X9_echoPairs wm_L_251 wi_X9_echoPairs ws_X9_echoPairs dL_law_1795 (w_echoPairs hG hJ) (hp_at (ca_Bells _)) fk_Bells rfl (by omega) (by decide) rfl (by exact Nat.le_of_ble_eq_true rfl) (by omega) (by omega) kN (kI (fun v m1 sz hw => ?_)) rfl
  obtain ⟨rfl, hw⟩ := hw
  refine V.aload_n (pc := 1798) hB dL_law_1798 rfl ?_
  refine V.cv (pc := 1799) hB cw_X10_echoPairs wm_L_254 wi_X10_echoPairs ws_X10_echoPairs dL_law_1799 (n_echoPairs hG hJ hw) (hp_at (ca_Model _)) fk_Model rfl (by omega) (by decide) rfl (by exact Nat.le_of_ble_eq_true rfl) (by omega) (by omega) kN (kI (fun v2 m2 sz hq => ?_)) rfl
  exact V.icmp_eq (pc := 1802) (tgt := 2599) hB dL_law_1802 (by decide) (fun _ => nx.go (by omega) (by omega) hq.2 (by omega)) (fun z => absurd hq.1.symm z)
set_option maxRecDepth 100000 in
theorem lk_31 {z : xE} (hE : GE g z) (hB : Bd g B code 9 RL ret 51 603072 7207018) (hG : GK g) (hS : va_T .int b L (fun j => .int (xs j)) (xFree g) g.1 g.1.heap) (hc : 4 * c + 4 ≤ L) (hL : L ≤ 2048) {m : Mem} {sz : Nat} (hJ : JA (5000 * c) m) (nx : NX g B Q b c) : V g B (375 + 42 * c) (6000 + 8300 * c) Q (hp g m) sz 1807 [some (.ref b), some (.ref (ad g 0)), some (.ref (ad g 363)), some (.ref (ad g 373)), some (.ref (ad g 374)), some (.int (nI (4 * c))), none, none, none] [] := by
  have hc5 : c ≤ 511 := by omega
  refine V.aload_n (pc := 1807) hB dL_law_1807 rfl ?_
  refine V.cv (pc := 1808) hB cw_X9_echoPairsByPitch wm_L_255 wi_X9_echoPairsByPitch ws_X9_echoPairsByPitch dL_law_1808 (w_echoPairsByPitch hG hJ) (hp_at (ca_Bells _)) fk_Bells rfl (by omega) (by decide) rfl (by exact Nat.le_of_ble_eq_true rfl) (by omega) (by omega) kN (kI (fun v m1 sz hw => ?_)) rfl
  obtain ⟨rfl, hw⟩ := hw
  refine V.aload_n (pc := 1811) hB dL_law_1811 rfl ?_
  refine V.cv (pc := 1812) hB cw_X10_echoPairsByPitch wm_L_258 wi_X10_echoPairsByPitch ws_X10_echoPairsByPitch dL_law_1812 (n_echoPairsByPitch hG hJ hw) (hp_at (ca_Model _)) fk_Model rfl (by omega) (by decide) rfl (by exact Nat.le_of_ble_eq_true rfl) (by omega) (by omega) kN (kI (fun v2 m2 sz hq => ?_)) rfl
  exact V.icmp_eq (pc := 1815) (tgt := 2599) hB dL_law_1815 (by decide) (fun _ => nx.go (by omega) (by omega) hq.2 (by omega)) (fun z => absurd hq.1.symm z)
set_option maxRecDepth 100000 in
theorem lk_32 {z : xE} (hE : GE g z) (hB : Bd g B code 9 RL ret 51 603072 7207018) (hG : GK g) (hS : va_T .int b L (fun j => .int (xs j)) (xFree g) g.1 g.1.heap) (hc : 4 * c + 4 ≤ L) (hL : L ≤ 2048) {m : Mem} {sz : Nat} (hJ : JA (5000 * c) m) (nx : NX g B Q b c) : V g B (375 + 42 * c) (6000 + 8300 * c) Q (hp g m) sz 1820 [some (.ref b), some (.ref (ad g 0)), some (.ref (ad g 363)), some (.ref (ad g 373)), some (.ref (ad g 374)), some (.int (nI (4 * c))), none, none, none] [] := by
  have hc5 : c ≤ 511 := by omega
  refine V.aload_n (pc := 1820) hB dL_law_1820 rfl ?_
  refine V.cv (pc := 1821) hB cw_X9_pitchCount wm_L_259 wi_X9_pitchCount ws_X9_pitchCount dL_law_1821 (w_pitchCount hG hJ) (hp_at (ca_Bells _)) fk_Bells rfl (by omega) (by decide) rfl (by exact Nat.le_of_ble_eq_true rfl) (by omega) (by omega) kN (kI (fun v m1 sz hw => ?_)) rfl
  obtain ⟨rfl, hw⟩ := hw
  refine V.aload_n (pc := 1824) hB dL_law_1824 rfl ?_
  refine V.cv (pc := 1825) hB cw_X10_pitchCount wm_L_262 wi_X10_pitchCount ws_X10_pitchCount dL_law_1825 (n_pitchCount hG hJ hw) (hp_at (ca_Model _)) fk_Model rfl (by omega) (by decide) rfl (by exact Nat.le_of_ble_eq_true rfl) (by omega) (by omega) kN (kI (fun v2 m2 sz hq => ?_)) rfl
  exact V.icmp_eq (pc := 1828) (tgt := 2599) hB dL_law_1828 (by decide) (fun _ => nx.go (by omega) (by omega) hq.2 (by omega)) (fun z => absurd hq.1.symm z)
set_option maxRecDepth 100000 in
theorem lk_33 {z : xE} (hE : GE g z) (hB : Bd g B code 9 RL ret 51 603072 7207018) (hG : GK g) (hS : va_T .int b L (fun j => .int (xs j)) (xFree g) g.1 g.1.heap) (hc : 4 * c + 4 ≤ L) (hL : L ≤ 2048) {m : Mem} {sz : Nat} (hJ : JA (5000 * c) m) (nx : NX g B Q b c) : V g B (375 + 42 * c) (6000 + 8300 * c) Q (hp g m) sz 1833 [some (.ref b), some (.ref (ad g 0)), some (.ref (ad g 363)), some (.ref (ad g 373)), some (.ref (ad g 374)), some (.int (nI (4 * c))), none, none, none] [] := by
  have hc5 : c ≤ 511 := by omega
  refine V.aload_n (pc := 1833) hB dL_law_1833 rfl ?_
  refine V.aload_n (pc := 1834) hB dL_law_1834 rfl ?_
  refine V.iload (pc := 1835) hB dL_law_1835 rfl ?_
  refine V.iconst (pc := 1837) (v := 1) hB dL_law_1837 rfl ?_
  refine V.iadd (pc := 1838) hB dL_law_1838 ?_
  refine V.sti (pc := 1839) hB hS (sx (xs := xs) (q := 1) hc hL (by decide)).1 (sx (xs := xs) (q := 1) hc hL (by decide)).2 dL_law_1839 ?_
  refine V.aload_n (pc := 1840) hB dL_law_1840 rfl ?_
  refine V.csW (pc := 1841) hB cwx_L_cracksOf wm_L_263 wst_L_cracksOf dL_law_1841 (w_cracksOf hG hJ) (by omega) (by decide) rfl (by exact Nat.le_of_ble_eq_true rfl) (by omega) (by omega) (kI (fun v m1 sz hw => ?_)) rfl
  refine V.istore (pc := 1844) hB dL_law_1844 (by decide) rfl ?_
  refine V.aload_n (pc := 1846) hB dL_law_1846 rfl ?_
  refine V.aload_n (pc := 1847) hB dL_law_1847 rfl ?_
  refine V.iload (pc := 1848) hB dL_law_1848 rfl ?_
  refine V.iconst (pc := 1850) (v := 1) hB dL_law_1850 rfl ?_
  refine V.iadd (pc := 1851) hB dL_law_1851 ?_
  refine V.sti (pc := 1852) hB hS (sx (xs := xs) (q := 1) hc hL (by decide)).1 (sx (xs := xs) (q := 1) hc hL (by decide)).2 dL_law_1852 ?_
  refine V.cv (pc := 1853) hB cw_X10_cracksOf wm_L_265 wi_X10_cracksOf ws_X10_cracksOf dL_law_1853 (n_cracksOf hG hJ hw) (hp_at (ca_Model _)) fk_Model rfl (by omega) (by decide) rfl (by exact Nat.le_of_ble_eq_true rfl) (by omega) (by omega) kN (kI (fun v2 m2 sz hq => ?_)) rfl
  refine V.istore (pc := 1856) hB dL_law_1856 (by decide) rfl ?_
  exact law_tail (P := 1858) (off := 713) hB hG nx dL_law_1858 dL_law_1859 dL_law_1862 dL_law_1864 dL_law_1869 dL_law_1871 dL_law_1874 dL_law_1875 dL_law_1876 dL_law_1877 dL_law_1879 dL_law_1880 dL_law_1881 dL_law_1886 rfl (by omega) (by omega) (by omega) hq (by omega)
set_option maxRecDepth 100000 in
theorem lk_34 {z : xE} (hE : GE g z) (hB : Bd g B code 9 RL ret 51 603072 7207018) (hG : GK g) (hS : va_T .int b L (fun j => .int (xs j)) (xFree g) g.1 g.1.heap) (hc : 4 * c + 4 ≤ L) (hL : L ≤ 2048) {m : Mem} {sz : Nat} (hJ : JA (5000 * c) m) (nx : NX g B Q b c) : V g B (375 + 42 * c) (6000 + 8300 * c) Q (hp g m) sz 1889 [some (.ref b), some (.ref (ad g 0)), some (.ref (ad g 363)), some (.ref (ad g 373)), some (.ref (ad g 374)), some (.int (nI (4 * c))), none, none, none] [] := by
  have hc5 : c ≤ 511 := by omega
  refine V.aload_n (pc := 1889) hB dL_law_1889 rfl ?_
  refine V.aload_n (pc := 1890) hB dL_law_1890 rfl ?_
  refine V.iload (pc := 1891) hB dL_law_1891 rfl ?_
  refine V.iconst (pc := 1893) (v := 1) hB dL_law_1893 rfl ?_
  refine V.iadd (pc := 1894) hB dL_law_1894 ?_
  refine V.sti (pc := 1895) hB hS (sx (xs := xs) (q := 1) hc hL (by decide)).1 (sx (xs := xs) (q := 1) hc hL (by decide)).2 dL_law_1895 ?_
  refine V.aload_n (pc := 1896) hB dL_law_1896 rfl ?_
  refine V.csW (pc := 1897) hB cwx_L_lakeAtRank wm_L_266 wst_L_lakeAtRank dL_law_1897 (w_lakeAtRank hG hJ) (by omega) (by decide) rfl (by exact Nat.le_of_ble_eq_true rfl) (by omega) (by omega) (kI (fun v m1 sz hw => ?_)) rfl
  refine V.istore (pc := 1900) hB dL_law_1900 (by decide) rfl ?_
  refine V.aload_n (pc := 1902) hB dL_law_1902 rfl ?_
  refine V.aload_n (pc := 1903) hB dL_law_1903 rfl ?_
  refine V.iload (pc := 1904) hB dL_law_1904 rfl ?_
  refine V.iconst (pc := 1906) (v := 1) hB dL_law_1906 rfl ?_
  refine V.iadd (pc := 1907) hB dL_law_1907 ?_
  refine V.sti (pc := 1908) hB hS (sx (xs := xs) (q := 1) hc hL (by decide)).1 (sx (xs := xs) (q := 1) hc hL (by decide)).2 dL_law_1908 ?_
  refine V.cv (pc := 1909) hB cw_X10_lakeAtRank wm_L_268 wi_X10_lakeAtRank ws_X10_lakeAtRank dL_law_1909 (n_lakeAtRank hG hJ (by omega) hw) (hp_at (ca_Model _)) fk_Model rfl (by omega) (by decide) rfl (by exact Nat.le_of_ble_eq_true rfl) (by omega) (by omega) kN (kI (fun v2 m2 sz hq => ?_)) rfl
  refine V.istore (pc := 1912) hB dL_law_1912 (by decide) rfl ?_
  exact law_tail (P := 1914) (off := 657) hB hG nx dL_law_1914 dL_law_1915 dL_law_1918 dL_law_1920 dL_law_1925 dL_law_1927 dL_law_1930 dL_law_1931 dL_law_1932 dL_law_1933 dL_law_1935 dL_law_1936 dL_law_1937 dL_law_1942 rfl (by omega) (by omega) (by omega) hq (by omega)
set_option maxRecDepth 100000 in
theorem lk_35 {z : xE} (hE : GE g z) (hB : Bd g B code 9 RL ret 51 603072 7207018) (hG : GK g) (hS : va_T .int b L (fun j => .int (xs j)) (xFree g) g.1 g.1.heap) (hc : 4 * c + 4 ≤ L) (hL : L ≤ 2048) {m : Mem} {sz : Nat} (hJ : JA (5000 * c) m) (nx : NX g B Q b c) : V g B (375 + 42 * c) (6000 + 8300 * c) Q (hp g m) sz 1945 [some (.ref b), some (.ref (ad g 0)), some (.ref (ad g 363)), some (.ref (ad g 373)), some (.ref (ad g 374)), some (.int (nI (4 * c))), none, none, none] [] := by
  have hc5 : c ≤ 511 := by omega
  refine V.aload_n (pc := 1945) hB dL_law_1945 rfl ?_
  refine V.cv (pc := 1946) hB cw_X9_frozenTotal wm_L_269 wi_X9_frozenTotal ws_X9_frozenTotal dL_law_1946 (w_frozenTotal hG hJ) (hp_at (ca_Bells _)) fk_Bells rfl (by omega) (by decide) rfl (by exact Nat.le_of_ble_eq_true rfl) (by omega) (by omega) kN (kI (fun v m1 sz hw => ?_)) rfl
  obtain ⟨rfl, hw⟩ := hw
  refine V.aload_n (pc := 1949) hB dL_law_1949 rfl ?_
  refine V.cv (pc := 1950) hB cw_X10_frozenTotal wm_L_272 wi_X10_frozenTotal ws_X10_frozenTotal dL_law_1950 (n_frozenTotal hG hJ hw) (hp_at (ca_Model _)) fk_Model rfl (by omega) (by decide) rfl (by exact Nat.le_of_ble_eq_true rfl) (by omega) (by omega) kN (kI (fun v2 m2 sz hq => ?_)) rfl
  exact V.icmp_eq (pc := 1953) (tgt := 2599) hB dL_law_1953 (by decide) (fun _ => nx.go (by omega) (by omega) hq.2 (by omega)) (fun z => absurd hq.1.symm z)
set_option maxRecDepth 100000 in
theorem lk_36 {z : xE} (hE : GE g z) (hB : Bd g B code 9 RL ret 51 603072 7207018) (hG : GK g) (hS : va_T .int b L (fun j => .int (xs j)) (xFree g) g.1 g.1.heap) (hc : 4 * c + 4 ≤ L) (hL : L ≤ 2048) {m : Mem} {sz : Nat} (hJ : JA (5000 * c) m) (nx : NX g B Q b c) : V g B (375 + 42 * c) (6000 + 8300 * c) Q (hp g m) sz 1958 [some (.ref b), some (.ref (ad g 0)), some (.ref (ad g 363)), some (.ref (ad g 373)), some (.ref (ad g 374)), some (.int (nI (4 * c))), none, none, none] [] := by
  have hc5 : c ≤ 511 := by omega
  refine V.aload_n (pc := 1958) hB dL_law_1958 rfl ?_
  refine V.cv (pc := 1959) hB cw_X9_thawedTotal wm_L_273 wi_X9_thawedTotal ws_X9_thawedTotal dL_law_1959 (w_thawedTotal hG hJ) (hp_at (ca_Bells _)) fk_Bells rfl (by omega) (by decide) rfl (by exact Nat.le_of_ble_eq_true rfl) (by omega) (by omega) kN (kI (fun v m1 sz hw => ?_)) rfl
  obtain ⟨rfl, hw⟩ := hw
  refine V.aload_n (pc := 1962) hB dL_law_1962 rfl ?_
  refine V.cv (pc := 1963) hB cw_X10_thawedTotal wm_L_276 wi_X10_thawedTotal ws_X10_thawedTotal dL_law_1963 (n_thawedTotal hG hJ hw) (hp_at (ca_Model _)) fk_Model rfl (by omega) (by decide) rfl (by exact Nat.le_of_ble_eq_true rfl) (by omega) (by omega) kN (kI (fun v2 m2 sz hq => ?_)) rfl
  exact V.icmp_eq (pc := 1966) (tgt := 2599) hB dL_law_1966 (by decide) (fun _ => nx.go (by omega) (by omega) hq.2 (by omega)) (fun z => absurd hq.1.symm z)
set_option maxRecDepth 100000 in
theorem lk_37 {z : xE} (hE : GE g z) (hB : Bd g B code 9 RL ret 51 603072 7207018) (hG : GK g) (hS : va_T .int b L (fun j => .int (xs j)) (xFree g) g.1 g.1.heap) (hc : 4 * c + 4 ≤ L) (hL : L ≤ 2048) {m : Mem} {sz : Nat} (hJ : JA (5000 * c) m) (nx : NX g B Q b c) : V g B (375 + 42 * c) (6000 + 8300 * c) Q (hp g m) sz 1971 [some (.ref b), some (.ref (ad g 0)), some (.ref (ad g 363)), some (.ref (ad g 373)), some (.ref (ad g 374)), some (.int (nI (4 * c))), none, none, none] [] := by
  have hc5 : c ≤ 511 := by omega
  refine V.aload_n (pc := 1971) hB dL_law_1971 rfl ?_
  refine V.cv (pc := 1972) hB cw_X9_crackTotal wm_L_277 wi_X9_crackTotal ws_X9_crackTotal dL_law_1972 (w_crackTotal hG hJ) (hp_at (ca_Bells _)) fk_Bells rfl (by omega) (by decide) rfl (by exact Nat.le_of_ble_eq_true rfl) (by omega) (by omega) kN (kI (fun v m1 sz hw => ?_)) rfl
  obtain ⟨rfl, hw⟩ := hw
  refine V.aload_n (pc := 1975) hB dL_law_1975 rfl ?_
  refine V.cv (pc := 1976) hB cw_X10_crackTotal wm_L_280 wi_X10_crackTotal ws_X10_crackTotal dL_law_1976 (n_crackTotal hG hJ hw) (hp_at (ca_Model _)) fk_Model rfl (by omega) (by decide) rfl (by exact Nat.le_of_ble_eq_true rfl) (by omega) (by omega) kN (kI (fun v2 m2 sz hq => ?_)) rfl
  exact V.icmp_eq (pc := 1979) (tgt := 2599) hB dL_law_1979 (by decide) (fun _ => nx.go (by omega) (by omega) hq.2 (by omega)) (fun z => absurd hq.1.symm z)
set_option maxRecDepth 100000 in
theorem lk_38 {z : xE} (hE : GE g z) (hB : Bd g B code 9 RL ret 51 603072 7207018) (hG : GK g) (hS : va_T .int b L (fun j => .int (xs j)) (xFree g) g.1 g.1.heap) (hc : 4 * c + 4 ≤ L) (hL : L ≤ 2048) {m : Mem} {sz : Nat} (hJ : JA (5000 * c) m) (nx : NX g B Q b c) : V g B (375 + 42 * c) (6000 + 8300 * c) Q (hp g m) sz 1984 [some (.ref b), some (.ref (ad g 0)), some (.ref (ad g 363)), some (.ref (ad g 373)), some (.ref (ad g 374)), some (.int (nI (4 * c))), none, none, none] [] := by
  have hc5 : c ≤ 511 := by omega
  refine V.aload_n (pc := 1984) hB dL_law_1984 rfl ?_
  refine V.aload_n (pc := 1985) hB dL_law_1985 rfl ?_
  refine V.iload (pc := 1986) hB dL_law_1986 rfl ?_
  refine V.iconst (pc := 1988) (v := 1) hB dL_law_1988 rfl ?_
  refine V.iadd (pc := 1989) hB dL_law_1989 ?_
  refine V.sti (pc := 1990) hB hS (sx (xs := xs) (q := 1) hc hL (by decide)).1 (sx (xs := xs) (q := 1) hc hL (by decide)).2 dL_law_1990 ?_
  refine V.i2c (pc := 1991) hB dL_law_1991 ?_
  refine V.aload_n (pc := 1992) hB dL_law_1992 rfl ?_
  refine V.csW (pc := 1993) hB cwx_L_append wm_L_281 wst_L_append dL_law_1993 (w_append hG hJ (c_ch _)) (by omega) (by decide) rfl (by exact Nat.le_of_ble_eq_true rfl) (by omega) (by omega) (kI (fun v m1 sz hw => ?_)) rfl
  refine V.istore (pc := 1996) hB dL_law_1996 (by decide) rfl ?_
  refine V.aload_n (pc := 1998) hB dL_law_1998 rfl ?_
  refine V.aload_n (pc := 1999) hB dL_law_1999 rfl ?_
  refine V.iload (pc := 2000) hB dL_law_2000 rfl ?_
  refine V.iconst (pc := 2002) (v := 1) hB dL_law_2002 rfl ?_
  refine V.iadd (pc := 2003) hB dL_law_2003 ?_
  refine V.sti (pc := 2004) hB hS (sx (xs := xs) (q := 1) hc hL (by decide)).1 (sx (xs := xs) (q := 1) hc hL (by decide)).2 dL_law_2004 ?_
  refine V.i2c (pc := 2005) hB dL_law_2005 ?_
  refine V.cv (pc := 2006) hB cw_X10_append wm_L_284 wi_X10_append ws_X10_append dL_law_2006 (n_append hG hJ hw) (hp_at (ca_Model _)) fk_Model rfl (by omega) (by decide) rfl (by exact Nat.le_of_ble_eq_true rfl) (by omega) (by omega) kN (kI (fun v2 m2 sz hq => ?_)) rfl
  refine V.istore (pc := 2009) hB dL_law_2009 (by decide) rfl ?_
  exact law_tail (P := 2011) (off := 560) hB hG nx dL_law_2011 dL_law_2012 dL_law_2015 dL_law_2017 dL_law_2022 dL_law_2024 dL_law_2027 dL_law_2028 dL_law_2029 dL_law_2030 dL_law_2032 dL_law_2033 dL_law_2034 dL_law_2039 rfl (by omega) (by omega) (by omega) hq (by omega)
set_option maxRecDepth 100000 in
theorem lk_39 {z : xE} (hE : GE g z) (hB : Bd g B code 9 RL ret 51 603072 7207018) (hG : GK g) (hS : va_T .int b L (fun j => .int (xs j)) (xFree g) g.1 g.1.heap) (hc : 4 * c + 4 ≤ L) (hL : L ≤ 2048) {m : Mem} {sz : Nat} (hJ : JA (5000 * c) m) (nx : NX g B Q b c) : V g B (375 + 42 * c) (6000 + 8300 * c) Q (hp g m) sz 2042 [some (.ref b), some (.ref (ad g 0)), some (.ref (ad g 363)), some (.ref (ad g 373)), some (.ref (ad g 374)), some (.int (nI (4 * c))), none, none, none] [] := by
  have hc5 : c ≤ 511 := by omega
  refine V.aload_n (pc := 2042) hB dL_law_2042 rfl ?_
  refine V.aload_n (pc := 2043) hB dL_law_2043 rfl ?_
  refine V.csW (pc := 2044) hB cwx_L_run wm_L_285 wst_L_run dL_law_2044 (w_run hG hE hJ) (by omega) (by decide) rfl (by exact Nat.le_of_ble_eq_true rfl) (by omega) (by omega) (kI (fun v m1 sz hw => ?_)) rfl
  refine V.istore (pc := 2047) hB dL_law_2047 (by decide) rfl ?_
  refine V.aload_n (pc := 2049) hB dL_law_2049 rfl ?_
  refine V.cv (pc := 2050) hB cw_X10_run wm_L_287 wi_X10_run ws_X10_run dL_law_2050 (n_run hG hE hJ hw) (hp_at (ca_Model _)) fk_Model rfl (by omega) (by decide) rfl (by exact Nat.le_of_ble_eq_true rfl) (by omega) (by omega) kN (kI (fun v2 m2 sz hq => ?_)) rfl
  refine V.istore (pc := 2053) hB dL_law_2053 (by decide) rfl ?_
  exact law_tail (P := 2055) (off := 516) hB hG nx dL_law_2055 dL_law_2056 dL_law_2059 dL_law_2061 dL_law_2066 dL_law_2068 dL_law_2071 dL_law_2072 dL_law_2073 dL_law_2074 dL_law_2076 dL_law_2077 dL_law_2078 dL_law_2083 rfl (by omega) (by omega) (by omega) hq (by omega)
set_option maxRecDepth 100000 in
theorem lk_40 {z : xE} (hE : GE g z) (hB : Bd g B code 9 RL ret 51 603072 7207018) (hG : GK g) (hS : va_T .int b L (fun j => .int (xs j)) (xFree g) g.1 g.1.heap) (hc : 4 * c + 4 ≤ L) (hL : L ≤ 2048) {m : Mem} {sz : Nat} (hJ : JA (5000 * c) m) (nx : NX g B Q b c) : V g B (375 + 42 * c) (6000 + 8300 * c) Q (hp g m) sz 2086 [some (.ref b), some (.ref (ad g 0)), some (.ref (ad g 363)), some (.ref (ad g 373)), some (.ref (ad g 374)), some (.int (nI (4 * c))), none, none, none] [] := by
  have hc5 : c ≤ 511 := by omega
  refine V.aload_n (pc := 2086) hB dL_law_2086 rfl ?_
  refine V.aload_n (pc := 2087) hB dL_law_2087 rfl ?_
  refine V.csW (pc := 2088) hB cwx_L_errorPosition wm_L_288 wst_L_errorPosition dL_law_2088 (w_errorPosition hG hJ) (by omega) (by decide) rfl (by exact Nat.le_of_ble_eq_true rfl) (by omega) (by omega) (kI (fun v m1 sz hw => ?_)) rfl
  refine V.istore (pc := 2091) hB dL_law_2091 (by decide) rfl ?_
  refine V.aload_n (pc := 2093) hB dL_law_2093 rfl ?_
  refine V.cv (pc := 2094) hB cw_X10_errorPosition wm_L_290 wi_X10_errorPosition ws_X10_errorPosition dL_law_2094 (n_errorPosition hG hJ hw) (hp_at (ca_Model _)) fk_Model rfl (by omega) (by decide) rfl (by exact Nat.le_of_ble_eq_true rfl) (by omega) (by omega) kN (kI (fun v2 m2 sz hq => ?_)) rfl
  refine V.istore (pc := 2097) hB dL_law_2097 (by decide) rfl ?_
  exact law_tail (P := 2099) (off := 472) hB hG nx dL_law_2099 dL_law_2100 dL_law_2103 dL_law_2105 dL_law_2110 dL_law_2112 dL_law_2115 dL_law_2116 dL_law_2117 dL_law_2118 dL_law_2120 dL_law_2121 dL_law_2122 dL_law_2127 rfl (by omega) (by omega) (by omega) hq (by omega)
set_option maxRecDepth 100000 in
theorem lk_41 {z : xE} (hE : GE g z) (hB : Bd g B code 9 RL ret 51 603072 7207018) (hG : GK g) (hS : va_T .int b L (fun j => .int (xs j)) (xFree g) g.1 g.1.heap) (hc : 4 * c + 4 ≤ L) (hL : L ≤ 2048) {m : Mem} {sz : Nat} (hJ : JA (5000 * c) m) (nx : NX g B Q b c) : V g B (375 + 42 * c) (6000 + 8300 * c) Q (hp g m) sz 2130 [some (.ref b), some (.ref (ad g 0)), some (.ref (ad g 363)), some (.ref (ad g 373)), some (.ref (ad g 374)), some (.int (nI (4 * c))), none, none, none] [] := by
  have hc5 : c ≤ 511 := by omega
  refine V.aload_n (pc := 2130) hB dL_law_2130 rfl ?_
  refine V.aload_n (pc := 2131) hB dL_law_2131 rfl ?_
  refine V.csW (pc := 2132) hB cwx_L_failedCommand wm_L_291 wst_L_failedCommand dL_law_2132 (w_failedCommand hG hJ) (by omega) (by decide) rfl (by exact Nat.le_of_ble_eq_true rfl) (by omega) (by omega) (kI (fun v m1 sz hw => ?_)) rfl
  refine V.istore (pc := 2135) hB dL_law_2135 (by decide) rfl ?_
  refine V.aload_n (pc := 2137) hB dL_law_2137 rfl ?_
  refine V.cv (pc := 2138) hB cw_X10_failedCommand wm_L_293 wi_X10_failedCommand ws_X10_failedCommand dL_law_2138 (n_failedCommand hG hJ hw) (hp_at (ca_Model _)) fk_Model rfl (by omega) (by decide) rfl (by exact Nat.le_of_ble_eq_true rfl) (by omega) (by omega) kN (kI (fun v2 m2 sz hq => ?_)) rfl
  refine V.istore (pc := 2141) hB dL_law_2141 (by decide) rfl ?_
  exact law_tail (P := 2143) (off := 428) hB hG nx dL_law_2143 dL_law_2144 dL_law_2147 dL_law_2149 dL_law_2154 dL_law_2156 dL_law_2159 dL_law_2160 dL_law_2161 dL_law_2162 dL_law_2164 dL_law_2165 dL_law_2166 dL_law_2171 rfl (by omega) (by omega) (by omega) hq (by omega)
set_option maxRecDepth 100000 in
theorem lk_42 {z : xE} (hE : GE g z) (hB : Bd g B code 9 RL ret 51 603072 7207018) (hG : GK g) (hS : va_T .int b L (fun j => .int (xs j)) (xFree g) g.1 g.1.heap) (hc : 4 * c + 4 ≤ L) (hL : L ≤ 2048) {m : Mem} {sz : Nat} (hJ : JA (5000 * c) m) (nx : NX g B Q b c) : V g B (375 + 42 * c) (6000 + 8300 * c) Q (hp g m) sz 2174 [some (.ref b), some (.ref (ad g 0)), some (.ref (ad g 363)), some (.ref (ad g 373)), some (.ref (ad g 374)), some (.int (nI (4 * c))), none, none, none] [] := by
  have hc5 : c ≤ 511 := by omega
  refine V.aload_n (pc := 2174) hB dL_law_2174 rfl ?_
  refine V.aload_n (pc := 2175) hB dL_law_2175 rfl ?_
  refine V.csW (pc := 2176) hB cwx_L_failureKind wm_L_294 wst_L_failureKind dL_law_2176 (w_failureKind hG hJ) (by omega) (by decide) rfl (by exact Nat.le_of_ble_eq_true rfl) (by omega) (by omega) (kI (fun v m1 sz hw => ?_)) rfl
  refine V.istore (pc := 2179) hB dL_law_2179 (by decide) rfl ?_
  refine V.aload_n (pc := 2181) hB dL_law_2181 rfl ?_
  refine V.cv (pc := 2182) hB cw_X10_failureKind wm_L_296 wi_X10_failureKind ws_X10_failureKind dL_law_2182 (n_failureKind hG hJ hw) (hp_at (ca_Model _)) fk_Model rfl (by omega) (by decide) rfl (by exact Nat.le_of_ble_eq_true rfl) (by omega) (by omega) kN (kI (fun v2 m2 sz hq => ?_)) rfl
  refine V.istore (pc := 2185) hB dL_law_2185 (by decide) rfl ?_
  exact law_tail (P := 2187) (off := 384) hB hG nx dL_law_2187 dL_law_2188 dL_law_2191 dL_law_2193 dL_law_2198 dL_law_2200 dL_law_2203 dL_law_2204 dL_law_2205 dL_law_2206 dL_law_2208 dL_law_2209 dL_law_2210 dL_law_2215 rfl (by omega) (by omega) (by omega) hq (by omega)
set_option maxRecDepth 100000 in
theorem lk_43 {z : xE} (hE : GE g z) (hB : Bd g B code 9 RL ret 51 603072 7207018) (hG : GK g) (hS : va_T .int b L (fun j => .int (xs j)) (xFree g) g.1 g.1.heap) (hc : 4 * c + 4 ≤ L) (hL : L ≤ 2048) {m : Mem} {sz : Nat} (hJ : JA (5000 * c) m) (nx : NX g B Q b c) : V g B (375 + 42 * c) (6000 + 8300 * c) Q (hp g m) sz 2218 [some (.ref b), some (.ref (ad g 0)), some (.ref (ad g 363)), some (.ref (ad g 373)), some (.ref (ad g 374)), some (.int (nI (4 * c))), none, none, none] [] := by
  have hc5 : c ≤ 511 := by omega
  obtain ⟨l, hl⟩ := hJ.jl
  refine V.aload_n (pc := 2218) hB dL_law_2218 rfl ?_
  refine V.aload_n (pc := 2219) hB dL_law_2219 rfl ?_
  refine V.iload (pc := 2220) hB dL_law_2220 rfl ?_
  refine V.iconst (pc := 2222) (v := 1) hB dL_law_2222 rfl ?_
  refine V.iadd (pc := 2223) hB dL_law_2223 ?_
  refine V.sti (pc := 2224) hB hS (sx (xs := xs) (q := 1) hc hL (by decide)).1 (sx (xs := xs) (q := 1) hc hL (by decide)).2 dL_law_2224 ?_
  refine V.aload_n (pc := 2225) hB dL_law_2225 rfl ?_
  refine V.csW (pc := 2226) hB cwx_L_describeLake wm_L_297 wst_L_describeLake dL_law_2226 (w_describeLake hG hE hJ hl) (by omega) (by decide) rfl (by exact Nat.le_of_ble_eq_true rfl) (by omega) (by omega) (kI (fun v m1 sz hw => ?_)) rfl
  refine V.istore (pc := 2229) hB dL_law_2229 (by decide) rfl ?_
  refine V.aload_n (pc := 2231) hB dL_law_2231 rfl ?_
  refine V.aload_n (pc := 2232) hB dL_law_2232 rfl ?_
  refine V.iload (pc := 2233) hB dL_law_2233 rfl ?_
  refine V.iconst (pc := 2235) (v := 1) hB dL_law_2235 rfl ?_
  refine V.iadd (pc := 2236) hB dL_law_2236 ?_
  refine V.sti (pc := 2237) hB hS (sx (xs := xs) (q := 1) hc hL (by decide)).1 (sx (xs := xs) (q := 1) hc hL (by decide)).2 dL_law_2237 ?_
  refine V.cv (pc := 2238) hB cw_X10_describeLake wm_L_299 wi_X10_describeLake ws_X10_describeLake dL_law_2238 (n_describeLake hG hJ hw) (hp_at (ca_Model _)) fk_Model rfl (by omega) (by decide) rfl (by exact Nat.le_of_ble_eq_true rfl) (by omega) (by omega) kN (kI (fun v2 m2 sz hq => ?_)) rfl
  refine V.istore (pc := 2241) hB dL_law_2241 (by decide) rfl ?_
  exact law_tail (P := 2243) (off := 328) hB hG nx dL_law_2243 dL_law_2244 dL_law_2247 dL_law_2249 dL_law_2254 dL_law_2256 dL_law_2259 dL_law_2260 dL_law_2261 dL_law_2262 dL_law_2264 dL_law_2265 dL_law_2266 dL_law_2271 rfl (by omega) (by omega) (by omega) hq (by omega)
set_option maxRecDepth 100000 in
theorem lk_44 {z : xE} (hE : GE g z) (hB : Bd g B code 9 RL ret 51 603072 7207018) (hG : GK g) (hS : va_T .int b L (fun j => .int (xs j)) (xFree g) g.1 g.1.heap) (hc : 4 * c + 4 ≤ L) (hL : L ≤ 2048) {m : Mem} {sz : Nat} (hJ : JA (5000 * c) m) (nx : NX g B Q b c) : V g B (375 + 42 * c) (6000 + 8300 * c) Q (hp g m) sz 2274 [some (.ref b), some (.ref (ad g 0)), some (.ref (ad g 363)), some (.ref (ad g 373)), some (.ref (ad g 374)), some (.int (nI (4 * c))), none, none, none] [] := by
  have hc5 : c ≤ 511 := by omega
  obtain ⟨l, hl⟩ := hJ.jl
  refine V.aload_n (pc := 2274) hB dL_law_2274 rfl ?_
  refine V.aload_n (pc := 2275) hB dL_law_2275 rfl ?_
  refine V.iload (pc := 2276) hB dL_law_2276 rfl ?_
  refine V.iconst (pc := 2278) (v := 1) hB dL_law_2278 rfl ?_
  refine V.iadd (pc := 2279) hB dL_law_2279 ?_
  refine V.sti (pc := 2280) hB hS (sx (xs := xs) (q := 1) hc hL (by decide)).1 (sx (xs := xs) (q := 1) hc hL (by decide)).2 dL_law_2280 ?_
  refine V.aload_n (pc := 2281) hB dL_law_2281 rfl ?_
  refine V.csW (pc := 2282) hB cwx_L_lineAt wm_L_300 wst_L_lineAt dL_law_2282 (w_lineAt hG hE hJ hl) (by omega) (by decide) rfl (by exact Nat.le_of_ble_eq_true rfl) (by omega) (by omega) (kI (fun v m1 sz hw => ?_)) rfl
  refine V.istore (pc := 2285) hB dL_law_2285 (by decide) rfl ?_
  refine V.aload_n (pc := 2287) hB dL_law_2287 rfl ?_
  refine V.aload_n (pc := 2288) hB dL_law_2288 rfl ?_
  refine V.iload (pc := 2289) hB dL_law_2289 rfl ?_
  refine V.iconst (pc := 2291) (v := 1) hB dL_law_2291 rfl ?_
  refine V.iadd (pc := 2292) hB dL_law_2292 ?_
  refine V.sti (pc := 2293) hB hS (sx (xs := xs) (q := 1) hc hL (by decide)).1 (sx (xs := xs) (q := 1) hc hL (by decide)).2 dL_law_2293 ?_
  refine V.cv (pc := 2294) hB cw_X10_lineAt wm_L_302 wi_X10_lineAt ws_X10_lineAt dL_law_2294 (n_lineAt hG hJ hl hw) (hp_at (ca_Model _)) fk_Model rfl (by omega) (by decide) rfl (by exact Nat.le_of_ble_eq_true rfl) (by omega) (by omega) kN (kI (fun v2 m2 sz hq => ?_)) rfl
  refine V.istore (pc := 2297) hB dL_law_2297 (by decide) rfl ?_
  exact law_tail (P := 2299) (off := 272) hB hG nx dL_law_2299 dL_law_2300 dL_law_2303 dL_law_2305 dL_law_2310 dL_law_2312 dL_law_2315 dL_law_2316 dL_law_2317 dL_law_2318 dL_law_2320 dL_law_2321 dL_law_2322 dL_law_2327 rfl (by omega) (by omega) (by omega) hq (by omega)
set_option maxRecDepth 100000 in
theorem lk_45 {z : xE} (hE : GE g z) (hB : Bd g B code 9 RL ret 51 603072 7207018) (hG : GK g) (hS : va_T .int b L (fun j => .int (xs j)) (xFree g) g.1 g.1.heap) (hc : 4 * c + 4 ≤ L) (hL : L ≤ 2048) {m : Mem} {sz : Nat} (hJ : JA (5000 * c) m) (nx : NX g B Q b c) : V g B (375 + 42 * c) (6000 + 8300 * c) Q (hp g m) sz 2330 [some (.ref b), some (.ref (ad g 0)), some (.ref (ad g 363)), some (.ref (ad g 373)), some (.ref (ad g 374)), some (.int (nI (4 * c))), none, none, none] [] := by
  have hc5 : c ≤ 511 := by omega
  refine V.aload_n (pc := 2330) hB dL_law_2330 rfl ?_
  refine V.aload_n (pc := 2331) hB dL_law_2331 rfl ?_
  refine V.iload (pc := 2332) hB dL_law_2332 rfl ?_
  refine V.iconst (pc := 2334) (v := 1) hB dL_law_2334 rfl ?_
  refine V.iadd (pc := 2335) hB dL_law_2335 ?_
  refine V.sti (pc := 2336) hB hS (sx (xs := xs) (q := 1) hc hL (by decide)).1 (sx (xs := xs) (q := 1) hc hL (by decide)).2 dL_law_2336 ?_
  refine V.aload (pc := 2337) hB dL_law_2337 rfl ?_
  refine V.csW (pc := 2339) hB cwx_L_meanTemperature wm_L_303 wst_L_meanTemperature dL_law_2339 (w_meanTemperature hG hJ) (by omega) (by decide) rfl (by exact Nat.le_of_ble_eq_true rfl) (by omega) (by omega) (kI (fun v m1 sz hw => ?_)) rfl
  refine V.istore (pc := 2342) hB dL_law_2342 (by decide) rfl ?_
  refine V.aload_n (pc := 2344) hB dL_law_2344 rfl ?_
  refine V.aload_n (pc := 2345) hB dL_law_2345 rfl ?_
  refine V.iload (pc := 2346) hB dL_law_2346 rfl ?_
  refine V.iconst (pc := 2348) (v := 1) hB dL_law_2348 rfl ?_
  refine V.iadd (pc := 2349) hB dL_law_2349 ?_
  refine V.sti (pc := 2350) hB hS (sx (xs := xs) (q := 1) hc hL (by decide)).1 (sx (xs := xs) (q := 1) hc hL (by decide)).2 dL_law_2350 ?_
  refine V.cv (pc := 2351) hB cw_X10_meanTemperature wm_L_306 wi_X10_meanTemperature ws_X10_meanTemperature dL_law_2351 (n_meanTemperature hG hJ hw) (hp_at (ca_Model _)) fk_Model rfl (by omega) (by decide) rfl (by exact Nat.le_of_ble_eq_true rfl) (by omega) (by omega) kN (kDv (fun v2 m2 sz hq => ?_)) rfl
  refine V.dstore (pc := 2354) hB dL_law_2354 (by decide) rfl ?_
  refine V.aload_n (pc := 2356) hB dL_law_2356 rfl ?_
  refine V.cv (pc := 2357) hB cw_X10_thrown wm_L_151 wi_X10_thrown ws_X10_thrown dL_law_2357 (c_X10_thrown hG) (hp_at (ca_Model _)) fk_Model rfl (by omega) (by decide) rfl (by exact Nat.le_of_ble_eq_true rfl) (by omega) (by omega) kN (kI (fun t m3 sz ht => ?_)) rfl
  obtain ⟨rfl, rfl⟩ := ht
  refine V.iload (pc := 2360) hB dL_law_2360 rfl ?_
  refine V.icmp_eq (pc := 2362) (tgt := 2367) hB dL_law_2362 (by decide) (fun _ => ?_) (fun z => absurd (hq).2.1 z)
  refine V.iload (pc := 2367) hB dL_law_2367 rfl ?_
  refine V.if_ne (pc := 2369) (tgt := 2404) hB dL_law_2369 (by decide) (fun _ => V.goto (pc := 2404) (tgt := 2599) hB dL_law_2404 (by decide) (nx.go (by omega) (by omega) (hq).1 (by omega))) (fun z => ?_)
  have e := (hq).2.2 z
  refine V.aload (pc := 2372) hB dL_law_2372 rfl ?_
  refine V.iconst (pc := 2374) (v := 0) hB dL_law_2374 rfl ?_
  refine V.dald (pc := 2375) hB dL_law_2375 (hp_at (k := 374) rfl) vp_in0 ?_
  refine V.dload (pc := 2376) hB dL_law_2376 rfl ?_
  refine V.dcmp (pc := 2378) hB dL_law_2378 ?_
  refine V.if_eq (pc := 2379) (tgt := 2404) hB dL_law_2379 (by decide) (fun _ => V.goto (pc := 2404) (tgt := 2599) hB dL_law_2404 (by decide) (nx.go (by omega) (by omega) (hq).1 (by omega))) (fun z2 => ?_)
  have z3 : ¬ Op.cmpValue (FP.dcmp (dj (m3.1 374 0) (m3.1 374 1)) v2) .l = 0 := z2
  rw [e] at z3
  refine V.aload (pc := 2382) hB dL_law_2382 rfl ?_
  refine V.iconst (pc := 2384) (v := 0) hB dL_law_2384 rfl ?_
  refine V.dald (pc := 2385) hB dL_law_2385 (hp_at (k := 374) rfl) vp_in0 ?_
  refine V.aload (pc := 2386) hB dL_law_2386 rfl ?_
  refine V.iconst (pc := 2388) (v := 0) hB dL_law_2388 rfl ?_
  refine V.dald (pc := 2389) hB dL_law_2389 (hp_at (k := 374) rfl) vp_in0 ?_
  refine V.dcmp (pc := 2390) hB dL_law_2390 ?_
  refine V.if_eq (pc := 2391) (tgt := 2402) hB dL_law_2391 (by decide) (fun z4 => ?_) (fun _ => ?_)
  · have z5 : Op.cmpValue (FP.dcmp (dj (m3.1 374 0) (m3.1 374 1)) (dj (m3.1 374 0) (m3.1 374 1))) .l = 0 := z4
    rw [e] at z5
    exact absurd z5 z3
  refine V.dload (pc := 2394) hB dL_law_2394 rfl ?_
  refine V.dload (pc := 2396) hB dL_law_2396 rfl ?_
  refine V.dcmp (pc := 2398) hB dL_law_2398 ?_
  exact V.if_ne (pc := 2399) (tgt := 2404) hB dL_law_2399 (by decide) (fun _ => V.goto (pc := 2404) (tgt := 2599) hB dL_law_2404 (by decide) (nx.go (by omega) (by omega) (hq).1 (by omega))) (fun z6 => absurd z6 z3)
set_option maxRecDepth 100000 in
theorem lk_46 {z : xE} (hE : GE g z) (hB : Bd g B code 9 RL ret 51 603072 7207018) (hG : GK g) (hS : va_T .int b L (fun j => .int (xs j)) (xFree g) g.1 g.1.heap) (hc : 4 * c + 4 ≤ L) (hL : L ≤ 2048) {m : Mem} {sz : Nat} (hJ : JA (5000 * c) m) (nx : NX g B Q b c) : V g B (375 + 42 * c) (6000 + 8300 * c) Q (hp g m) sz 2407 [some (.ref b), some (.ref (ad g 0)), some (.ref (ad g 363)), some (.ref (ad g 373)), some (.ref (ad g 374)), some (.int (nI (4 * c))), none, none, none] [] := by
  have hc5 : c ≤ 511 := by omega
  refine V.aload_n (pc := 2407) hB dL_law_2407 rfl ?_
  refine V.aload_n (pc := 2408) hB dL_law_2408 rfl ?_
  refine V.iload (pc := 2409) hB dL_law_2409 rfl ?_
  refine V.iconst (pc := 2411) (v := 1) hB dL_law_2411 rfl ?_
  refine V.iadd (pc := 2412) hB dL_law_2412 ?_
  refine V.sti (pc := 2413) hB hS (sx (xs := xs) (q := 1) hc hL (by decide)).1 (sx (xs := xs) (q := 1) hc hL (by decide)).2 dL_law_2413 ?_
  refine V.aload (pc := 2414) hB dL_law_2414 rfl ?_
  refine V.csW (pc := 2416) hB cwx_L_iceShare wm_L_307 wst_L_iceShare dL_law_2416 (w_iceShare hG hJ) (by omega) (by decide) rfl (by exact Nat.le_of_ble_eq_true rfl) (by omega) (by omega) (kI (fun v m1 sz hw => ?_)) rfl
  refine V.istore (pc := 2419) hB dL_law_2419 (by decide) rfl ?_
  refine V.aload_n (pc := 2421) hB dL_law_2421 rfl ?_
  refine V.aload_n (pc := 2422) hB dL_law_2422 rfl ?_
  refine V.iload (pc := 2423) hB dL_law_2423 rfl ?_
  refine V.iconst (pc := 2425) (v := 1) hB dL_law_2425 rfl ?_
  refine V.iadd (pc := 2426) hB dL_law_2426 ?_
  refine V.sti (pc := 2427) hB hS (sx (xs := xs) (q := 1) hc hL (by decide)).1 (sx (xs := xs) (q := 1) hc hL (by decide)).2 dL_law_2427 ?_
  refine V.cv (pc := 2428) hB cw_X10_iceShare wm_L_309 wi_X10_iceShare ws_X10_iceShare dL_law_2428 (n_iceShare hG hJ hw) (hp_at (ca_Model _)) fk_Model rfl (by omega) (by decide) rfl (by exact Nat.le_of_ble_eq_true rfl) (by omega) (by omega) kN (kFv (fun v2 m2 sz hq => ?_)) rfl
  refine V.fstore (pc := 2431) hB dL_law_2431 (by decide) rfl ?_
  refine V.aload_n (pc := 2433) hB dL_law_2433 rfl ?_
  refine V.cv (pc := 2434) hB cw_X10_thrown wm_L_151 wi_X10_thrown ws_X10_thrown dL_law_2434 (c_X10_thrown hG) (hp_at (ca_Model _)) fk_Model rfl (by omega) (by decide) rfl (by exact Nat.le_of_ble_eq_true rfl) (by omega) (by omega) kN (kI (fun t m3 sz ht => ?_)) rfl
  obtain ⟨rfl, rfl⟩ := ht
  refine V.iload (pc := 2437) hB dL_law_2437 rfl ?_
  refine V.icmp_eq (pc := 2439) (tgt := 2444) hB dL_law_2439 (by decide) (fun _ => ?_) (fun z => absurd (hq.1).2.1 z)
  refine V.iload (pc := 2444) hB dL_law_2444 rfl ?_
  refine V.if_ne (pc := 2446) (tgt := 2482) hB dL_law_2446 (by decide) (fun _ => V.goto (pc := 2482) (tgt := 2599) hB dL_law_2482 (by decide) (nx.go (by omega) (by omega) (hq.1).1 (by omega))) (fun z => ?_)
  have e := (hq.1).2.2 z
  have hnn := hq.2 z
  refine V.aload (pc := 2449) hB dL_law_2449 rfl ?_
  refine V.iconst (pc := 2451) (v := 0) hB dL_law_2451 rfl ?_
  refine V.dald (pc := 2452) hB dL_law_2452 (hp_at (k := 374) rfl) vp_in0 ?_
  refine V.fload (pc := 2453) hB dL_law_2453 rfl ?_
  refine V.f2d (pc := 2455) hB dL_law_2455 hnn ?_
  refine V.dcmp (pc := 2456) hB dL_law_2456 ?_
  refine V.if_eq (pc := 2457) (tgt := 2482) hB dL_law_2457 (by decide) (fun _ => V.goto (pc := 2482) (tgt := 2599) hB dL_law_2482 (by decide) (nx.go (by omega) (by omega) (hq.1).1 (by omega))) (fun z2 => absurd ?_ z2)
  show Op.cmpValue (FP.dcmp (dj (m3.1 374 0) (m3.1 374 1)) (FP.f2d v2)) .l = 0
  rw [e]
  exact dcmp_cs _ (dcmp_id hnn)
set_option maxRecDepth 100000 in
theorem lk_47 {z : xE} (hE : GE g z) (hB : Bd g B code 9 RL ret 51 603072 7207018) (hG : GK g) (hS : va_T .int b L (fun j => .int (xs j)) (xFree g) g.1 g.1.heap) (hc : 4 * c + 4 ≤ L) (hL : L ≤ 2048) {m : Mem} {sz : Nat} (hJ : JA (5000 * c) m) (nx : NX g B Q b c) : V g B (375 + 42 * c) (6000 + 8300 * c) Q (hp g m) sz 2485 [some (.ref b), some (.ref (ad g 0)), some (.ref (ad g 363)), some (.ref (ad g 373)), some (.ref (ad g 374)), some (.int (nI (4 * c))), none, none, none] [] := by
  have hc5 : c ≤ 511 := by omega
  refine V.aload_n (pc := 2485) hB dL_law_2485 rfl ?_
  refine V.cv (pc := 2486) hB cw_X9_isConsistent wm_L_310 wi_X9_isConsistent ws_X9_isConsistent dL_law_2486 (w_isConsistent hG hJ) (hp_at (ca_Bells _)) fk_Bells rfl (by omega) (by decide) rfl (by exact Nat.le_of_ble_eq_true rfl) (by omega) (by omega) kN (kI (fun v m1 sz hw => ?_)) rfl
  obtain ⟨rfl, hw⟩ := hw
  refine V.aload_n (pc := 2489) hB dL_law_2489 rfl ?_
  refine V.cv (pc := 2490) hB cw_X10_isConsistent wm_L_314 wi_X10_isConsistent ws_X10_isConsistent dL_law_2490 (n_isConsistent hG hJ hw) (hp_at (ca_Model _)) fk_Model rfl (by omega) (by decide) rfl (by exact Nat.le_of_ble_eq_true rfl) (by omega) (by omega) kN (kI (fun v2 m2 sz hq => ?_)) rfl
  exact V.icmp_eq (pc := 2493) (tgt := 2599) hB dL_law_2493 (by decide) (fun _ => nx.go (by omega) (by omega) hq.2 (by omega)) (fun z => absurd hq.1.symm z)
set_option maxRecDepth 100000 in
theorem lk_48 {z : xE} (hE : GE g z) (hB : Bd g B code 9 RL ret 51 603072 7207018) (hG : GK g) (hS : va_T .int b L (fun j => .int (xs j)) (xFree g) g.1 g.1.heap) (hc : 4 * c + 4 ≤ L) (hL : L ≤ 2048) {m : Mem} {sz : Nat} (hJ : JA (5000 * c) m) (nx : NX g B Q b c) : V g B (375 + 42 * c) (6000 + 8300 * c) Q (hp g m) sz 2498 [some (.ref b), some (.ref (ad g 0)), some (.ref (ad g 363)), some (.ref (ad g 373)), some (.ref (ad g 374)), some (.int (nI (4 * c))), none, none, none] [] := by
  have hc5 : c ≤ 511 := by omega
  refine V.aload_n (pc := 2498) hB dL_law_2498 rfl ?_
  refine V.aload_n (pc := 2499) hB dL_law_2499 rfl ?_
  refine V.csW (pc := 2500) hB cwx_L_undo wm_L_315 wst_L_undo dL_law_2500 (w_undo hG hJ) (by omega) (by decide) rfl (by exact Nat.le_of_ble_eq_true rfl) (by omega) (by omega) (kI (fun v m1 sz hw => ?_)) rfl
  refine V.istore (pc := 2503) hB dL_law_2503 (by decide) rfl ?_
  refine V.aload_n (pc := 2505) hB dL_law_2505 rfl ?_
  refine V.cv (pc := 2506) hB cw_X10_undo wm_L_317 wi_X10_undo ws_X10_undo dL_law_2506 (n_undo hG hJ hw) (hp_at (ca_Model _)) fk_Model rfl (by omega) (by decide) rfl (by exact Nat.le_of_ble_eq_true rfl) (by omega) (by omega) kN (kI (fun v2 m2 sz hq => ?_)) rfl
  refine V.istore (pc := 2509) hB dL_law_2509 (by decide) rfl ?_
  exact law_tail (P := 2511) (off := 60) hB hG nx dL_law_2511 dL_law_2512 dL_law_2515 dL_law_2517 dL_law_2522 dL_law_2524 dL_law_2527 dL_law_2528 dL_law_2529 dL_law_2530 dL_law_2532 dL_law_2533 dL_law_2534 dL_law_2539 rfl (by omega) (by omega) (by omega) hq (by omega)
set_option maxRecDepth 100000 in
theorem lk_49 {z : xE} (hE : GE g z) (hB : Bd g B code 9 RL ret 51 603072 7207018) (hG : GK g) (hS : va_T .int b L (fun j => .int (xs j)) (xFree g) g.1 g.1.heap) (hc : 4 * c + 4 ≤ L) (hL : L ≤ 2048) {m : Mem} {sz : Nat} (hJ : JA (5000 * c) m) (nx : NX g B Q b c) : V g B (375 + 42 * c) (6000 + 8300 * c) Q (hp g m) sz 2542 [some (.ref b), some (.ref (ad g 0)), some (.ref (ad g 363)), some (.ref (ad g 373)), some (.ref (ad g 374)), some (.int (nI (4 * c))), none, none, none] [] := by
  have hc5 : c ≤ 511 := by omega
  refine V.aload_n (pc := 2542) hB dL_law_2542 rfl ?_
  refine V.cv (pc := 2543) hB cw_X9_save wm_L_318 wi_X9_save ws_X9_save dL_law_2543 (w_save hG hJ) (hp_at (ca_Bells _)) fk_Bells rfl (by omega) (by decide) rfl (by exact Nat.le_of_ble_eq_true rfl) (by omega) (by omega) kN (kI (fun v m1 sz hw => ?_)) rfl
  obtain ⟨rfl, hw⟩ := hw
  refine V.aload_n (pc := 2546) hB dL_law_2546 rfl ?_
  refine V.cv (pc := 2547) hB cw_X10_save wm_L_321 wi_X10_save ws_X10_save dL_law_2547 (n_save hG hJ hw) (hp_at (ca_Model _)) fk_Model rfl (by omega) (by decide) rfl (by exact Nat.le_of_ble_eq_true rfl) (by omega) (by omega) kN (kI (fun v2 m2 sz hq => ?_)) rfl
  exact V.icmp_eq (pc := 2550) (tgt := 2599) hB dL_law_2550 (by decide) (fun _ => nx.go (by omega) (by omega) hq.2 (by omega)) (fun z => absurd hq.1.symm z)
set_option maxRecDepth 100000 in
theorem lk_50 {z : xE} (hE : GE g z) (hB : Bd g B code 9 RL ret 51 603072 7207018) (hG : GK g) (hS : va_T .int b L (fun j => .int (xs j)) (xFree g) g.1 g.1.heap) (hc : 4 * c + 4 ≤ L) (hL : L ≤ 2048) {m : Mem} {sz : Nat} (hJ : JA (5000 * c) m) (nx : NX g B Q b c) : V g B (375 + 42 * c) (6000 + 8300 * c) Q (hp g m) sz 2555 [some (.ref b), some (.ref (ad g 0)), some (.ref (ad g 363)), some (.ref (ad g 373)), some (.ref (ad g 374)), some (.int (nI (4 * c))), none, none, none] [] := by
  have hc5 : c ≤ 511 := by omega
  refine V.aload_n (pc := 2555) hB dL_law_2555 rfl ?_
  refine V.aload_n (pc := 2556) hB dL_law_2556 rfl ?_
  refine V.csW (pc := 2557) hB cwx_L_restore wm_L_322 wst_L_restore dL_law_2557 (w_restore hG hJ) (by omega) (by decide) rfl (by exact Nat.le_of_ble_eq_true rfl) (by omega) (by omega) (kI (fun v m1 sz hw => ?_)) rfl
  refine V.istore (pc := 2560) hB dL_law_2560 (by decide) rfl ?_
  refine V.aload_n (pc := 2562) hB dL_law_2562 rfl ?_
  refine V.cv (pc := 2563) hB cw_X10_restore wm_L_324 wi_X10_restore ws_X10_restore dL_law_2563 (n_restore hG hJ hw) (hp_at (ca_Model _)) fk_Model rfl (by omega) (by decide) rfl (by exact Nat.le_of_ble_eq_true rfl) (by omega) (by omega) kN (kI (fun v2 m2 sz hq => ?_)) rfl
  refine V.istore (pc := 2566) hB dL_law_2566 (by decide) rfl ?_
  exact law_tail (P := 2568) (off := 3) hB hG nx dL_law_2568 dL_law_2569 dL_law_2572 dL_law_2574 dL_law_2579 dL_law_2581 dL_law_2584 dL_law_2585 dL_law_2586 dL_law_2587 dL_law_2589 dL_law_2590 dL_law_2591 dL_law_2596 rfl (by omega) (by omega) (by omega) hq (by omega)
end LC
