def tw_ok (E : String) (w : Cond) : Bool := goodWord w || (match w with | .castable C D => decide (C = E) && decide (D = E) | .declares _ => true | _ => false)
theorem tw_chk {E : String} {L : List Cond} (h1 : L.all (tw_ok E) = true) (h2 : ∀ w ∈ L, w ∈ lw_tbl) : ∀ w ∈ L, WD w ∨ (w = .castable E E ∧ w ∈ lw_tbl) ∨ (∃ x, w = .declares x ∧ w ∈ lw_tbl) := by
  intro w hw
  have h := List.all_eq_true.mp h1 w hw
  have hm := h2 w hw
  unfold tw_ok at h
  rcases Bool.or_eq_true_iff.mp h with h | h
  · exact Or.inl ⟨hm, h⟩
  · cases w <;> first | (cases h; done) | exact Or.inr (Or.inr ⟨_, rfl, hm⟩) | skip
    simp only [Bool.and_eq_true, decide_eq_true_eq] at h
    obtain ⟨rfl, rfl⟩ := h
    exact Or.inr (Or.inl ⟨rfl, hm⟩)
theorem rx_0 : decode prog_41_method_4_code 0 = .ok (.aload_n 0, 1) := by decide +kernel
theorem rx_1 : decode prog_41_method_4_code 1 = .ok (.aload_n 1, 1) := by decide +kernel
theorem rx_2 : decode prog_41_method_4_code 2 = .ok (.invokespecial 13, 3) := by decide +kernel
theorem rx_5 : decode prog_41_method_4_code 5 = .ok (.return_, 1) := by decide +kernel
theorem twa_128 : ∀ w ∈ wx_at RX9 128 "java/util/NoSuchElementException" 13 prog_41_method_4_code ["java/lang/RuntimeException", "java/lang/Exception"], WD w ∨ (w = .castable "java/util/NoSuchElementException" "java/util/NoSuchElementException" ∧ w ∈ lw_tbl) ∨ (∃ x, w = .declares x ∧ w ∈ lw_tbl) := tw_chk (by decide +kernel) (by decide +kernel)
theorem twb_128 : (∀ w ∈ Cond.classLink RX9 124 "java/util/NoSuchElementException" :: Cond.initialized "java/util/NoSuchElementException" :: wx_at RX9 128 "java/util/NoSuchElementException" 13 prog_41_method_4_code ["java/lang/RuntimeException", "java/lang/Exception"], vx_ot w = true) := by decide +kernel
theorem twk_124 : WD (.classLink RX9 124 "java/util/NoSuchElementException") := WD.at 871 (by decide +kernel) rfl
theorem twi_124 : WD (.initialized "java/util/NoSuchElementException") := WD.at 46 (by decide +kernel) rfl
theorem twa_258 : ∀ w ∈ vx_atS RX9 258 "java/lang/IllegalArgumentException" ["java/lang/RuntimeException", "java/lang/Exception"], WD w ∨ (w = .castable "java/lang/IllegalArgumentException" "java/lang/IllegalArgumentException" ∧ w ∈ lw_tbl) ∨ (∃ x, w = .declares x ∧ w ∈ lw_tbl) := tw_chk (by decide +kernel) (by decide +kernel)
theorem twb_258 : (∀ w ∈ Cond.classLink RX9 254 "java/lang/IllegalArgumentException" :: Cond.initialized "java/lang/IllegalArgumentException" :: vx_atS RX9 258 "java/lang/IllegalArgumentException" ["java/lang/RuntimeException", "java/lang/Exception"], vx_ot w = true) := by decide +kernel
theorem twk_254 : WD (.classLink RX9 254 "java/lang/IllegalArgumentException") := WD.at 448 (by decide +kernel) rfl
theorem twi_254 : WD (.initialized "java/lang/IllegalArgumentException") := WD.at 38 (by decide +kernel) rfl
theorem twa_267 : ∀ w ∈ vx_atS RX9 267 "java/lang/IllegalStateException" ["java/lang/RuntimeException", "java/lang/Exception"], WD w ∨ (w = .castable "java/lang/IllegalStateException" "java/lang/IllegalStateException" ∧ w ∈ lw_tbl) ∨ (∃ x, w = .declares x ∧ w ∈ lw_tbl) := tw_chk (by decide +kernel) (by decide +kernel)
theorem twb_267 : (∀ w ∈ Cond.classLink RX9 263 "java/lang/IllegalStateException" :: Cond.initialized "java/lang/IllegalStateException" :: vx_atS RX9 267 "java/lang/IllegalStateException" ["java/lang/RuntimeException", "java/lang/Exception"], vx_ot w = true) := by decide +kernel
theorem twk_263 : WD (.classLink RX9 263 "java/lang/IllegalStateException") := WD.at 464 (by decide +kernel) rfl
theorem twi_263 : WD (.initialized "java/lang/IllegalStateException") := WD.at 39 (by decide +kernel) rfl
theorem twa_319 : ∀ w ∈ vx_atS RX9 319 "java/lang/IndexOutOfBoundsException" ["java/lang/RuntimeException", "java/lang/Exception"], WD w ∨ (w = .castable "java/lang/IndexOutOfBoundsException" "java/lang/IndexOutOfBoundsException" ∧ w ∈ lw_tbl) ∨ (∃ x, w = .declares x ∧ w ∈ lw_tbl) := tw_chk (by decide +kernel) (by decide +kernel)
theorem twb_319 : (∀ w ∈ Cond.classLink RX9 315 "java/lang/IndexOutOfBoundsException" :: Cond.initialized "java/lang/IndexOutOfBoundsException" :: vx_atS RX9 319 "java/lang/IndexOutOfBoundsException" ["java/lang/RuntimeException", "java/lang/Exception"], vx_ot w = true) := by decide +kernel
theorem twk_315 : WD (.classLink RX9 315 "java/lang/IndexOutOfBoundsException") := WD.at 435 (by decide +kernel) rfl
theorem twi_315 : WD (.initialized "java/lang/IndexOutOfBoundsException") := WD.at 36 (by decide +kernel) rfl
theorem twa_327 : ∀ w ∈ vx_atS RX9 327 "java/lang/ArithmeticException" ["java/lang/RuntimeException", "java/lang/Exception"], WD w ∨ (w = .castable "java/lang/ArithmeticException" "java/lang/ArithmeticException" ∧ w ∈ lw_tbl) ∨ (∃ x, w = .declares x ∧ w ∈ lw_tbl) := tw_chk (by decide +kernel) (by decide +kernel)
theorem twb_327 : (∀ w ∈ Cond.classLink RX9 323 "java/lang/ArithmeticException" :: Cond.initialized "java/lang/ArithmeticException" :: vx_atS RX9 327 "java/lang/ArithmeticException" ["java/lang/RuntimeException", "java/lang/Exception"], vx_ot w = true) := by decide +kernel
theorem twk_323 : WD (.classLink RX9 323 "java/lang/ArithmeticException") := WD.at 1183 (by decide +kernel) rfl
theorem twi_323 : WD (.initialized "java/lang/ArithmeticException") := WD.at 51 (by decide +kernel) rfl
theorem twa_374 : ∀ w ∈ vx_atS RX9 374 "java/lang/UnsupportedOperationException" ["java/lang/RuntimeException", "java/lang/Exception"], WD w ∨ (w = .castable "java/lang/UnsupportedOperationException" "java/lang/UnsupportedOperationException" ∧ w ∈ lw_tbl) ∨ (∃ x, w = .declares x ∧ w ∈ lw_tbl) := tw_chk (by decide +kernel) (by decide +kernel)
theorem twb_374 : (∀ w ∈ Cond.classLink RX9 370 "java/lang/UnsupportedOperationException" :: Cond.initialized "java/lang/UnsupportedOperationException" :: vx_atS RX9 374 "java/lang/UnsupportedOperationException" ["java/lang/RuntimeException", "java/lang/Exception"], vx_ot w = true) := by decide +kernel
theorem twk_370 : WD (.classLink RX9 370 "java/lang/UnsupportedOperationException") := WD.at 480 (by decide +kernel) rfl
theorem twi_370 : WD (.initialized "java/lang/UnsupportedOperationException") := WD.at 40 (by decide +kernel) rfl
theorem tw_124_126 : TX RX9 124 126 128 13 prog_41_method_4_code "java/util/NoSuchElementException" "there is no ice at this depth" := ⟨twk_124, twi_124, List.mem_of_getElem? (i := 880) (by decide +kernel), by decide +kernel, twa_128, twb_128, by decide +kernel⟩
theorem tw_124_155 : TX RX9 124 155 128 13 prog_41_method_4_code "java/util/NoSuchElementException" "no crack would happen soon" := ⟨twk_124, twi_124, List.mem_of_getElem? (i := 892) (by decide +kernel), by decide +kernel, twa_128, twb_128, by decide +kernel⟩
theorem tw_124_161 : TX RX9 124 161 128 13 prog_41_method_4_code "java/util/NoSuchElementException" "the lake would have ice for long" := ⟨twk_124, twi_124, List.mem_of_getElem? (i := 897) (by decide +kernel), by decide +kernel, twa_128, twb_128, by decide +kernel⟩
theorem tw_124_243 : TX RX9 124 243 128 13 prog_41_method_4_code "java/util/NoSuchElementException" "there is no such rank" := ⟨twk_124, twi_124, List.mem_of_getElem? (i := 939) (by decide +kernel), by decide +kernel, twa_128, twb_128, by decide +kernel⟩
theorem tw_254_281 : TW RX9 254 281 258 "java/lang/IllegalArgumentException" "this is not a command text" := ⟨twk_254, twi_254, List.mem_of_getElem? (i := 788) (by decide +kernel), by decide +kernel, twa_258, twb_258, by decide +kernel⟩
theorem tw_263_294 : TW RX9 263 294 267 "java/lang/IllegalStateException" "a command fails" := ⟨twk_263, twi_263, List.mem_of_getElem? (i := 809) (by decide +kernel), by decide +kernel, twa_267, twb_267, by decide +kernel⟩
theorem tw_124_300 : TX RX9 124 300 128 13 prog_41_method_4_code "java/util/NoSuchElementException" "no error position was set" := ⟨twk_124, twi_124, List.mem_of_getElem? (i := 944) (by decide +kernel), by decide +kernel, twa_128, twb_128, by decide +kernel⟩
theorem tw_124_302 : TX RX9 124 302 128 13 prog_41_method_4_code "java/util/NoSuchElementException" "no command has failed" := ⟨twk_124, twi_124, List.mem_of_getElem? (i := 949) (by decide +kernel), by decide +kernel, twa_128, twb_128, by decide +kernel⟩
theorem tw_315_317 : TW RX9 315 317 319 "java/lang/IndexOutOfBoundsException" "there is no such character" := ⟨twk_315, twi_315, List.mem_of_getElem? (i := 1283) (by decide +kernel), by decide +kernel, twa_319, twb_319, by decide +kernel⟩
theorem tw_323_325 : TW RX9 323 325 327 "java/lang/ArithmeticException" "the lake has no ice" := ⟨twk_323, twi_323, List.mem_of_getElem? (i := 1192) (by decide +kernel), by decide +kernel, twa_327, twb_327, by decide +kernel⟩
theorem tw_263_344 : TW RX9 263 344 267 "java/lang/IllegalStateException" "there is no snapshot" := ⟨twk_263, twi_263, List.mem_of_getElem? (i := 1404) (by decide +kernel), by decide +kernel, twa_267, twb_267, by decide +kernel⟩
theorem tw_315_352 : TW RX9 315 352 319 "java/lang/IndexOutOfBoundsException" "there is no such lake" := ⟨twk_315, twi_315, List.mem_of_getElem? (i := 852) (by decide +kernel), by decide +kernel, twa_319, twb_319, by decide +kernel⟩
theorem tw_315_357 : TW RX9 315 357 319 "java/lang/IndexOutOfBoundsException" "there is no such layer" := ⟨twk_315, twi_315, List.mem_of_getElem? (i := 862) (by decide +kernel), by decide +kernel, twa_319, twb_319, by decide +kernel⟩
theorem tw_124_359 : TX RX9 124 359 128 13 prog_41_method_4_code "java/util/NoSuchElementException" "there is no such peal" := ⟨twk_124, twi_124, List.mem_of_getElem? (i := 915) (by decide +kernel), by decide +kernel, twa_128, twb_128, by decide +kernel⟩
theorem tw_315_364 : TW RX9 315 364 319 "java/lang/IndexOutOfBoundsException" "there is no such lake, layer or position" := ⟨twk_315, twi_315, List.mem_of_getElem? (i := 444) (by decide +kernel), by decide +kernel, twa_319, twb_319, by decide +kernel⟩
theorem tw_254_366 : TW RX9 254 366 258 "java/lang/IllegalArgumentException" "a number is out of range" := ⟨twk_254, twi_254, List.mem_of_getElem? (i := 457) (by decide +kernel), by decide +kernel, twa_258, twb_258, by decide +kernel⟩
theorem tw_263_368 : TW RX9 263 368 267 "java/lang/IllegalStateException" "there is no room or it is too late" := ⟨twk_263, twi_263, List.mem_of_getElem? (i := 473) (by decide +kernel), by decide +kernel, twa_267, twb_267, by decide +kernel⟩
theorem tw_370_372 : TW RX9 370 372 374 "java/lang/UnsupportedOperationException" "the ice or the window does not allow this" := ⟨twk_370, twi_370, List.mem_of_getElem? (i := 489) (by decide +kernel), by decide +kernel, twa_374, twb_374, by decide +kernel⟩
