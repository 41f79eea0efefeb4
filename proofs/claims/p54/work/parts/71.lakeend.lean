/-! the law's check of one lake: its end -/
theorem kF {g : xG} {B : BT} {k n : Nat} {Q : State → Prop} {ls : List (Option Value)} {st : List Value} {P : UInt32 → Mem → Prop} {pc' : Nat} (kk : ∀ (v : UInt32) (m' : Mem) (sz' : Nat), P v m' → V g B k n Q (hp g m') sz' pc' ls (.float v :: st)) : ∀ (v : OV) (m' : Mem) (sz' : Nat), rF P v m' → V g B k n Q (hp g m') sz' pc' ls (v.toList ++ st) := by
  rintro _ m' sz' ⟨v, rfl, hq⟩
  exact kk v m' sz' hq
theorem kD {g : xG} {B : BT} {k n : Nat} {Q : State → Prop} {ls : List (Option Value)} {st : List Value} {P : UInt64 → Mem → Prop} {pc' : Nat} (kk : ∀ (v : UInt64) (m' : Mem) (sz' : Nat), P v m' → V g B k n Q (hp g m') sz' pc' ls (.double v :: st)) : ∀ (v : OV) (m' : Mem) (sz' : Nat), rD P v m' → V g B k n Q (hp g m') sz' pc' ls (v.toList ++ st) := by
  rintro _ m' sz' ⟨v, rfl, hq⟩
  exact kk v m' sz' hq
section RD2
variable {g : xG} {m : Mem} {q : Nat}
theorem r_share (hG : GK g) (hI : CI m) (hX : XL m 0) (hq : q < nLk m 0) : CC g yX9_iceShare (.code yX9_iceShare cX9_iceShare 3 (some .float)) 5 1 6 [.ref (ad g 0), .int (nI q)] m (rF (fun v m2 => v = FP.fdiv (FP.i2f (l_sum (m.1 (LK 0 q + 1)) (nLy m 0 q))) (FP.i2f (m.1 (LK 0 q) 4)) ∧ m2 = m)) noX := by
  have h5 := hI.1.nl5
  refine (c_X9_iceShare hG hI (fun hx => hX.n32 hI.1 hx)).imp (fun r m' h => ?_) (fun E m' h => h.2.1 (in_nI hq (by omega)))
  obtain ⟨v, e, -, h1, h2⟩ := h
  rw [nI_clamp (n := q) (by omega)] at h1
  exact ⟨v, e, h1, h2⟩
theorem r_mean (hG : GK g) (hI : CI m) (hX : XL m 0) (hq : q < nLk m 0) (h0 : ¬ nLy m 0 q = 0) : CC g yX9_meanTemperature (.code yX9_meanTemperature cX9_meanTemperature 3 (some .double)) 3 2 12 [.ref (ad g 0), .int (nI q)] m (rD (fun v m2 => v = FP.ddiv (FP.i2d (l_sum (m.1 (LK 0 q + 2)) (nLy m 0 q))) (FP.i2d (nI (nLy m 0 q))) ∧ m2 = m)) noX := by
  have h5 := hI.1.nl5
  have eq9 : (nI q).toNatClampNeg = q := nI_clamp (by omega)
  refine (c_X9_meanTemperature hG hI (fun hx h9 => hX.n64 hI.1 hx h9)).imp (fun r m' h => ?_) (fun E m' h => ?_)
  · obtain ⟨v, e, -, h1, h2⟩ := h
    rw [eq9, (hI.1.ln hq).1] at h1
    exact ⟨v, e, h1, h2⟩
  · rcases h with ⟨_, h, _⟩ | ⟨_, h, _⟩
    · exact h (in_nI hq (by omega))
    · rw [eq9] at h; exact h0 h.2
theorem n64_q (hI : CI m) (hX : XL m 0) (hq : q < nLk m 0) (h0 : ¬ nLy m 0 q = 0) : vf_n64 (FP.ddiv (FP.i2d (l_sum (m.1 (LK 0 q + 2)) (nLy m 0 q))) (FP.i2d (nI (nLy m 0 q)))) := by
  have h5 := hI.1.nl5
  have eq9 : (nI q).toNatClampNeg = q := nI_clamp (by omega)
  have := hX.n64 hI.1 (x := nI q) (in_nI hq (by omega)) (by rw [eq9]; exact h0)
  rw [eq9, (hI.1.ln hq).1] at this
  exact this
theorem n32_q (hI : CI m) (hX : XL m 0) (hq : q < nLk m 0) : vf_n32 (FP.fdiv (FP.i2f (l_sum (m.1 (LK 0 q + 1)) (nLy m 0 q))) (FP.i2f (m.1 (LK 0 q) 4))) := by
  have h5 := hI.1.nl5
  have eq9 : (nI q).toNatClampNeg = q := nI_clamp (by omega)
  have := hX.n32 hI.1 (x := nI q) (in_nI hq (by omega))
  rw [eq9] at this
  exact this
theorem r_line (hG : GK g) {z : xE} (hE : GE g z) (hI : CI m) (hX : XL m 0) (hq : q < nLk m 0) {n : Nat} (hs : SW g m n) : CC g yX9_describeLake (.code yX9_describeLake cX9_describeLake 3 (some .int)) 8 42 8300 [.ref (ad g 0), .int (nI q)] m (rI (fun v m2 => v = nI (lnT (m.1 (LK 0 q + 1)) (m.1 (LK 0 q + 2)) (m.1 (LK 0 q + 3)) (nLy m 0 q)).length ∧ LT g m2 (lnT (m.1 (LK 0 q + 1)) (m.1 (LK 0 q + 2)) (m.1 (LK 0 q + 3)) (nLy m 0 q)) ∧ LF m m2)) noX := by
  have h5 := hI.1.nl5
  have eq9 : (nI q).toNatClampNeg = q := nI_clamp (by omega)
  refine (c_X9_describeLake hG hE hI hs hX.1.1).imp (fun r m' h => ?_) (fun E m' h => h.2.1 (in_nI hq (by omega)))
  obtain ⟨v, e, -, h1, h2, h3⟩ := h
  rw [eq9] at h1 h2
  exact ⟨v, e, h1, h2, h3⟩
theorem r_lineAt (hG : GK g) {z : xE} (hE : GE g z) {l : List Int32} (hL : LT g m l) (hok : okL l = true) (hl : l.length ≤ 100) {j : Nat} (hj : j < l.length) : CC g yX9_lineAt (.code yX9_lineAt cX9_lineAt 2 (some .char)) 6 1 6 [.ref (ad g 0), .int (nI j)] m (rI (fun v m2 => v = l.getD j 0 ∧ m2 = m)) noX := by
  refine (c_X9_lineAt hG hE hL (okL_at hok)).imp (fun r m' h => ?_) (fun E m' h => h.2.1 (in_nI hj (by omega)))
  obtain ⟨v, e, -, h1, h2⟩ := h
  rw [nI_clamp (n := j) (by omega)] at h1
  exact ⟨v, e, h1, h2⟩
end RD2
theorem IV.lf {g : xG} {K : Nat} {M M' : Mem} (h : IV g K M) (hk : LF M M') (hb : BW g M') : IV g K M' := by
  have ha : Agr M M' 0 := fun o ho => hk _ (by rw [LA_0]; omega) (by rw [LA_0]; omega)
  have hs : Sm M M' 0 0 := ha.sm h.lw.nl5
  exact ⟨h.1.keep (hs.lw h.lw) (fun k a => hk k (by omega) (by omega)), h.xl.sm h.lw hs, h.xc.sm hs, h.pi.sm h.lw hs, hb, h.wq.sm h.lw hs⟩
theorem swGx {g : xG} {m : Mem} {n : Nat} (h : SW g m n) {E : xH} {c : Nat} (hE : E (ad g m.2.1) = none) : SW (gx g E c) m n := ⟨h.1, h.2.1, h.2.2.1, h.2.2.2.1, h.2.2.2.2.1, hE⟩
theorem TS.mem {g : xG} {E : xH} {m m2 : Mem} {a w : Nat} {t : List Int32} (h : TS g E m a w t) (hE : E (ad g m2.2.1) = none) : TS g E m2 a w t := ⟨fun q e he => ⟨(h.1 q e he).1, fun z => by rw [z, hE] at he; cases he⟩, h.2⟩

set_option maxRecDepth 100000 in
set_option maxHeartbeats 4000000 in
theorem isl_d {g : xG} (hG : GK g) {z : xE} (hE : GE g z) {B : BT} {Q : State → Prop} {ret : Option FieldType} {mc ms k n : Nat} (hB : Bd g B cL_isLakeRight 10 RL ret 10 mc ms) {m : Mem} (hI : CI m) (hX : XL m 0) {q : Nat} (hq : q < nLk m 0) {n9 : Nat} (hSW : SW g m n9) {a w : Nat} (hstr : ∀ m2 : Mem, ex g (ad g m2.2.1) = none → SX g (hp g m2) a w (lnT (m.1 (LK 0 q + 1)) (m.1 (LK 0 q + 2)) (m.1 (LK 0 q + 3)) (nLy m 0 q)).length (lnT (m.1 (LK 0 q + 1)) (m.1 (LK 0 q + 2)) (m.1 (LK 0 q + 3)) (nLy m 0 q))) {x8 x9 : Option Value} (hc : k + 51 ≤ mc) (hs : n + 8354 ≤ ms) {sz : Nat} (kk : ∀ (m2 : Mem) (sz : Nat), LT g m2 (lnT (m.1 (LK 0 q + 1)) (m.1 (LK 0 q + 2)) (m.1 (LK 0 q + 3)) (nLy m 0 q)) → LF m m2 → V g B (k + 51) (n + 8354) Q (hp g m2) sz 416 [some (.ref (ad g 0)), some (.int (nI q)), some (.int (nI (nLy m 0 q))), some (.int (l_sum (m.1 (LK 0 q + 1)) (nLy m 0 q))), some (.int (l_sum (m.1 (LK 0 q + 2)) (nLy m 0 q))), some (.ref a), some (.int 1), some (.int 0), x8, x9] []) : V g B k n Q (hp g m) sz 297 [some (.ref (ad g 0)), some (.int (nI q)), some (.int (nI (nLy m 0 q))), some (.int (l_sum (m.1 (LK 0 q + 1)) (nLy m 0 q))), some (.int (l_sum (m.1 (LK 0 q + 2)) (nLy m 0 q))), some (.ref a), some (.int 1), some (.int (nI (nLy m 0 q))), x8, x9] [] := by
  have h5 := hI.1.nl5
  have h8 := (hI.1.ln hq).2
  have hvb := hX.1.1 q hq
  have eq9 : (nI q).toNatClampNeg = q := nI_clamp (by omega)
  obtain ⟨s, e1, e2, e3⟩ := lay_end hvb h8
  have k393 : ∀ sz : Nat, V g B (k + 9) (n + 54) Q (hp g m) sz 393 [some (.ref (ad g 0)), some (.int (nI q)), some (.int (nI (nLy m 0 q))), some (.int (l_sum (m.1 (LK 0 q + 1)) (nLy m 0 q))), some (.int (l_sum (m.1 (LK 0 q + 2)) (nLy m 0 q))), some (.ref a), some (.int 1), some (.int (nI (nLy m 0 q))), x8, x9] [] := by
    intro sz
    refine V.aload_n (pc := 393) hB dL_isLakeRight_393 rfl ?_
    refine V.iload_n (pc := 394) hB dL_isLakeRight_394 rfl ?_
    refine V.cv (pc := 395) hB cw_X9_describeLake wm_L_197 wi_X9_describeLake ws_X9_describeLake dL_isLakeRight_395 (r_line hG hE hI hX hq hSW) (hp_at (ca_Bells _)) fk_Bells rfl (by omega) (by decide) rfl (by exact Nat.le_of_ble_eq_true rfl) (by omega) (by omega) kN (kI (fun v_395 m_395 sz h_395 => ?_)) rfl
    obtain ⟨rfl, hLT, hLF⟩ := h_395
    have hs9 := hstr m_395 hLT.1.nx
    refine V.aload (pc := 398) hB dL_isLakeRight_398 rfl ?_
    refine V.callVR (pc := 400) hB cw_J0_length_8abf5 wm_L_200 wi_J0_length_8abf5 ws_J0_length_8abf5 dL_isLakeRight_400 (by decide) (by decide) (t_J0_length hG hE hs9) (SX.rc hB hs9) rfl (by exact Nat.le_of_ble_eq_true rfl) (by omega) (by omega) (fun _ _ _ hf => hf.elim) (fun v9 h9 sz9 hr9 => ?_) rfl
    obtain ⟨rfl, rfl, rfl⟩ := hr9
    refine V.icmp_ne (pc := 403) (tgt := 410) hB dL_isLakeRight_403 (by decide) (fun c_403 => ?_) (fun c_403 => ?_)
    · exact absurd rfl c_403
    · refine V.iconst (pc := 406) (v := 1) hB dL_isLakeRight_406 rfl ?_
      refine V.goto (pc := 407) (tgt := 411) hB dL_isLakeRight_407 (by decide) ?_
      refine V.istore (pc := 411) hB dL_isLakeRight_411 (by decide) rfl ?_
      refine V.iconst (pc := 413) (v := 0) hB dL_isLakeRight_413 rfl ?_
      refine V.istore (pc := 414) hB dL_isLakeRight_414 (by decide) rfl ?_
      exact V.wid (by omega) (by omega) (kk _ _ hLT hLF)
  refine V.iload (pc := 297) hB dL_isLakeRight_297 rfl ?_
  refine V.if_eq (pc := 299) (tgt := 348) hB dL_isLakeRight_299 (by decide) (fun c_299 => ?_) (fun c_299 => ?_)
  · exact absurd c_299 (by decide)
  · refine V.aload_n (pc := 302) hB dL_isLakeRight_302 rfl ?_
    refine V.iconst (pc := 303) (v := 2) hB dL_isLakeRight_303 rfl ?_
    refine V.iload_n (pc := 304) hB dL_isLakeRight_304 rfl ?_
    refine V.iload_n (pc := 305) hB dL_isLakeRight_305 rfl ?_
    refine V.csW (pc := 306) hB cwx_L_ask wm_L_160 wst_L_ask dL_isLakeRight_306 (a2_no hG hI (a := nI q) (b := l_sum (m.1 (LK 0 q + 1)) (nLy m 0 q)) (in_nI hq (by omega)) (by rw [eq9, e1]; exact e3)) (by omega) (by decide) rfl (by exact Nat.le_of_ble_eq_true rfl) (by omega) (by omega) (kI (fun v_306 m_306 sz h_306 => ?_)) rfl
    obtain ⟨rfl, hm_306⟩ := h_306
    rw [hm_306]
    refine V.sipush (pc := 309) (v := (-2004)) hB dL_isLakeRight_309 rfl ?_
    refine V.icmp_ne (pc := 312) (tgt := 348) hB dL_isLakeRight_312 (by decide) (fun c_312 => ?_) (fun c_312 => ?_)
    · exact absurd rfl c_312
    · refine V.aload_n (pc := 315) hB dL_isLakeRight_315 rfl ?_
      refine V.iload_n (pc := 316) hB dL_isLakeRight_316 rfl ?_
      refine V.cv (pc := 317) hB cw_X9_iceThickness wm_L_183 wi_X9_iceThickness ws_X9_iceThickness dL_isLakeRight_317 (r_ice hG hI hq) (hp_at (ca_Bells _)) fk_Bells rfl (by omega) (by decide) rfl (by exact Nat.le_of_ble_eq_true rfl) (by omega) (by omega) kN (kI (fun v_317 m_317 sz h_317 => ?_)) rfl
      obtain ⟨rfl, hm_317⟩ := h_317
      rw [hm_317]
      refine V.iload_n (pc := 320) hB dL_isLakeRight_320 rfl ?_
      refine V.icmp_ne (pc := 321) (tgt := 348) hB dL_isLakeRight_321 (by decide) (fun c_321 => ?_) (fun c_321 => ?_)
      · exact absurd rfl c_321
      · refine V.aload_n (pc := 324) hB dL_isLakeRight_324 rfl ?_
        refine V.iload_n (pc := 325) hB dL_isLakeRight_325 rfl ?_
        refine V.cv (pc := 326) hB cw_X9_iceThicknessByHalves wm_L_186 wi_X9_iceThicknessByHalves ws_X9_iceThicknessByHalves dL_isLakeRight_326 (r_iceH hG hI hq) (hp_at (ca_Bells _)) fk_Bells rfl (by omega) (by decide) rfl (by exact Nat.le_of_ble_eq_true rfl) (by omega) (by omega) kN (kI (fun v_326 m_326 sz h_326 => ?_)) rfl
        obtain ⟨rfl, hm_326⟩ := h_326
        rw [hm_326]
        refine V.iload_n (pc := 329) hB dL_isLakeRight_329 rfl ?_
        refine V.icmp_ne (pc := 330) (tgt := 348) hB dL_isLakeRight_330 (by decide) (fun c_330 => ?_) (fun c_330 => ?_)
        · exact absurd rfl c_330
        · refine V.iconst (pc := 333) (v := 2) hB dL_isLakeRight_333 rfl ?_
          refine V.iload_n (pc := 334) hB dL_isLakeRight_334 rfl ?_
          refine V.imul (pc := 335) hB dL_isLakeRight_335 ?_
          refine V.aload_n (pc := 336) hB dL_isLakeRight_336 rfl ?_
          refine V.iload_n (pc := 337) hB dL_isLakeRight_337 rfl ?_
          refine V.cv (pc := 338) hB cw_X9_depth wm_L_57 wi_X9_depth ws_X9_depth dL_isLakeRight_338 (r_depth hG hI hq) (hp_at (ca_Bells _)) fk_Bells rfl (by omega) (by decide) rfl (by exact Nat.le_of_ble_eq_true rfl) (by omega) (by omega) kN (kI (fun v_338 m_338 sz h_338 => ?_)) rfl
          obtain ⟨rfl, hm_338⟩ := h_338
          rw [hm_338]
          refine V.icmp_gt (pc := 341) (tgt := 348) hB dL_isLakeRight_341 (by decide) (fun c_341 => ?_) (fun c_341 => ?_)
          · exact absurd (hX.2.2.2.1 q hq).2.2 (Int32.not_le.mpr c_341)
          · refine V.iconst (pc := 344) (v := 1) hB dL_isLakeRight_344 rfl ?_
            refine V.goto (pc := 345) (tgt := 349) hB dL_isLakeRight_345 (by decide) ?_
            refine V.istore (pc := 349) hB dL_isLakeRight_349 (by decide) rfl ?_
            refine V.iload (pc := 351) hB dL_isLakeRight_351 rfl ?_
            refine V.if_eq (pc := 353) (tgt := 410) hB dL_isLakeRight_353 (by decide) (fun c_353 => ?_) (fun c_353 => ?_)
            · exact absurd c_353 (by decide)
            · refine V.aload_n (pc := 356) hB dL_isLakeRight_356 rfl ?_
              refine V.iload_n (pc := 357) hB dL_isLakeRight_357 rfl ?_
              refine V.cv (pc := 358) hB cw_X9_iceShare wm_L_189 wi_X9_iceShare ws_X9_iceShare dL_isLakeRight_358 (r_share hG hI hX hq) (hp_at (ca_Bells _)) fk_Bells rfl (by omega) (by decide) rfl (by exact Nat.le_of_ble_eq_true rfl) (by omega) (by omega) kN (kF (fun v_358 m_358 sz h_358 => ?_)) rfl
              obtain ⟨rfl, hm_358⟩ := h_358
              rw [hm_358]
              refine V.iload_n (pc := 361) hB dL_isLakeRight_361 rfl ?_
              refine V.i2f (pc := 362) hB dL_isLakeRight_362 ?_
              refine V.aload_n (pc := 363) hB dL_isLakeRight_363 rfl ?_
              refine V.iload_n (pc := 364) hB dL_isLakeRight_364 rfl ?_
              refine V.cv (pc := 365) hB cw_X9_depth wm_L_57 wi_X9_depth ws_X9_depth dL_isLakeRight_365 (r_depth hG hI hq) (hp_at (ca_Bells _)) fk_Bells rfl (by omega) (by decide) rfl (by exact Nat.le_of_ble_eq_true rfl) (by omega) (by omega) kN (kI (fun v_365 m_365 sz h_365 => ?_)) rfl
              obtain ⟨rfl, hm_365⟩ := h_365
              rw [hm_365]
              refine V.i2f (pc := 368) hB dL_isLakeRight_368 ?_
              refine V.fdiv (pc := 369) hB dL_isLakeRight_369 (n32_q hI hX hq) ?_
              refine V.fcmp (pc := 370) hB dL_isLakeRight_370 ?_
              refine V.if_ne (pc := 371) (tgt := 410) hB dL_isLakeRight_371 (by decide) (fun c_371 => ?_) (fun c_371 => ?_)
              · exact absurd (cmp_l0 (fcmp_id (n32_q hI hX hq))) c_371
              · refine V.iload_n (pc := 374) hB dL_isLakeRight_374 rfl ?_
                refine V.if_eq (pc := 375) (tgt := 393) hB dL_isLakeRight_375 (by decide) (fun c_375 => ?_) (fun c_375 => ?_)
                · exact V.wid (by omega) (by omega) (k393 _)
                · have h0 : ¬ nLy m 0 q = 0 := fun z9 => c_375 (by rw [z9]; rfl)
                  refine V.aload_n (pc := 378) hB dL_isLakeRight_378 rfl ?_
                  refine V.iload_n (pc := 379) hB dL_isLakeRight_379 rfl ?_
                  refine V.cv (pc := 380) hB cw_X9_meanTemperature wm_L_193 wi_X9_meanTemperature ws_X9_meanTemperature dL_isLakeRight_380 (r_mean hG hI hX hq h0) (hp_at (ca_Bells _)) fk_Bells rfl (by omega) (by decide) rfl (by exact Nat.le_of_ble_eq_true rfl) (by omega) (by omega) kN (kD (fun v_380 m_380 sz h_380 => ?_)) rfl
                  obtain ⟨rfl, hm_380⟩ := h_380
                  rw [hm_380]
                  refine V.iload (pc := 383) hB dL_isLakeRight_383 rfl ?_
                  refine V.i2d (pc := 385) hB dL_isLakeRight_385 ?_
                  refine V.iload_n (pc := 386) hB dL_isLakeRight_386 rfl ?_
                  refine V.i2d (pc := 387) hB dL_isLakeRight_387 ?_
                  refine V.ddiv (pc := 388) hB dL_isLakeRight_388 (n64_q hI hX hq h0) ?_
                  refine V.dcmp (pc := 389) hB dL_isLakeRight_389 ?_
                  refine V.if_ne (pc := 390) (tgt := 410) hB dL_isLakeRight_390 (by decide) (fun c_390 => ?_) (fun c_390 => ?_)
                  · exact absurd (cmp_l0 (dcmp_id (n64_q hI hX hq h0))) c_390
                  · exact V.wid (by omega) (by omega) (k393 _)

set_option maxRecDepth 100000 in
set_option maxHeartbeats 4000000 in
theorem isl_e {g : xG} (hG : GK g) {z : xE} (hE : GE g z) {B : BT} {Q : State → Prop} {ret : Option FieldType} {mc ms k n : Nat} (hB : Bd g B cL_isLakeRight 10 RL ret 10 mc ms) {m : Mem} {l : List Int32} (hLT : LT g m l) (hok : okL l = true) (hl : l.length ≤ 100) {a w : Nat} (hs9 : SX g (hp g m) a w l.length l) {x1 x2 x3 x4 : Int32} {x8 x9 : Option Value} (hc : k + l.length ≤ mc) (hs : n + 6 * l.length ≤ ms) {sz : Nat} (kk : ∀ sz : Nat, V g B (k + l.length) (n + 6 * l.length) Q (hp g m) sz 460 [some (.ref (ad g 0)), some (.int x1), some (.int x2), some (.int x3), some (.int x4), some (.ref a), some (.int 1), some (.int (nI (l.length))), x8, x9] []) : V g B k n Q (hp g m) sz 416 [some (.ref (ad g 0)), some (.int x1), some (.int x2), some (.int x3), some (.int x4), some (.ref a), some (.int 1), some (.int (nI (0))), x8, x9] [] := by
  have lp : ∀ p j : Nat, j + p = l.length → ∀ sz : Nat, V g B (k + j) (n + 6 * j) Q (hp g m) sz 416 [some (.ref (ad g 0)), some (.int x1), some (.int x2), some (.int x3), some (.int x4), some (.ref a), some (.int 1), some (.int (nI (j))), x8, x9] [] := by
    refine loop_dn (fun p ih j hj sz => ?_)
    refine V.iload (pc := 416) hB dL_isLakeRight_416 rfl ?_
    refine V.aload (pc := 418) hB dL_isLakeRight_418 rfl ?_
    refine V.callVR (pc := 420) hB cw_J0_length_8abf5 wm_L_200 wi_J0_length_8abf5 ws_J0_length_8abf5 dL_isLakeRight_420 (by decide) (by decide) (t_J0_length hG hE hs9) (SX.rc hB hs9) rfl (by exact Nat.le_of_ble_eq_true rfl) (by omega) (by omega) (fun _ _ _ hf => hf.elim) (fun v9 h9 sz9 hr9 => ?_) rfl
    obtain ⟨rfl, rfl, rfl⟩ := hr9
    refine V.icmp_ge (pc := 423) (tgt := 460) hB dL_isLakeRight_423 (by decide) (fun c_423 => ?_) (fun c_423 => ?_)
    · have hle := (nI_leI (by omega) (by omega)).mp c_423
      obtain rfl : j = l.length := by omega
      exact V.wid (by omega) (by omega) (kk _)
    · have hlt : j < l.length := Nat.not_le.mp (fun z9 => c_423 ((nI_leI (by omega) (by omega)).mpr z9))
      refine V.iload (pc := 426) hB dL_isLakeRight_426 rfl ?_
      refine V.if_eq (pc := 428) (tgt := 460) hB dL_isLakeRight_428 (by decide) (fun c_428 => ?_) (fun c_428 => ?_)
      · exact absurd c_428 (by decide)
      · refine V.aload_n (pc := 431) hB dL_isLakeRight_431 rfl ?_
        refine V.iload (pc := 432) hB dL_isLakeRight_432 rfl ?_
        refine V.cv (pc := 434) hB cw_X9_lineAt wm_L_205 wi_X9_lineAt ws_X9_lineAt dL_isLakeRight_434 (r_lineAt hG hE hLT hok hl hlt) (hp_at (ca_Bells _)) fk_Bells rfl (by omega) (by decide) rfl (by exact Nat.le_of_ble_eq_true rfl) (by omega) (by omega) kN (kI (fun v_434 m_434 sz h_434 => ?_)) rfl
        obtain ⟨rfl, hm_434⟩ := h_434
        rw [hm_434]
        refine V.aload (pc := 437) hB dL_isLakeRight_437 rfl ?_
        refine V.iload (pc := 439) hB dL_isLakeRight_439 rfl ?_
        refine V.callVR (pc := 441) hB cw_J0_charAt_5068e wm_L_208 wi_J0_charAt_5068e ws_J0_charAt_5068e dL_isLakeRight_441 (by decide) (by decide) (t_J0_charAt hG hE hs9 hlt) (SX.rc hB hs9) rfl (by exact Nat.le_of_ble_eq_true rfl) (by omega) (by omega) (fun _ _ _ hf => hf.elim) (fun v9 h9 sz9 hr9 => ?_) rfl
        obtain ⟨rfl, rfl, rfl⟩ := hr9
        refine V.icmp_ne (pc := 444) (tgt := 451) hB dL_isLakeRight_444 (by decide) (fun c_444 => ?_) (fun c_444 => ?_)
        · exact absurd rfl c_444
        · refine V.iconst (pc := 447) (v := 1) hB dL_isLakeRight_447 rfl ?_
          refine V.goto (pc := 448) (tgt := 452) hB dL_isLakeRight_448 (by decide) ?_
          refine V.istore (pc := 452) hB dL_isLakeRight_452 (by decide) rfl ?_
          refine V.iinc (pc := 454) (v := nI (j + 1)) hB dL_isLakeRight_454 rfl (nI_1 _) (by decide) rfl ?_
          refine V.goto (pc := 457) (tgt := 416) hB dL_isLakeRight_457 (by decide) ?_
          exact V.wid (by omega) (by omega) (ih (l.length - j - 1) (by omega) (j + 1) (by omega) _)
  exact V.wid (by omega) (by omega) (lp l.length 0 (by omega) _)

