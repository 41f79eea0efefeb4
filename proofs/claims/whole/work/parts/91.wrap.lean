/-! the law's methods with handlers -/
theorem kDv {g : xG} {B : BT} {k n : Nat} {Q : State → Prop} {ls : List (Option Value)} {st : List Value} {P : UInt64 → Mem → Prop} {pc' : Nat} (kk : ∀ (v : UInt64) (m' : Mem) (sz' : Nat), P v m' → V g B k n Q (hp g m') sz' pc' ls (.double v :: st)) : ∀ (v : OV) (m' : Mem) (sz' : Nat), rD P v m' → V g B k n Q (hp g m') sz' pc' ls (v.toList ++ st) := by
  rintro _ m' sz' ⟨v, rfl, hq⟩
  exact kk v m' sz' hq
theorem kFv {g : xG} {B : BT} {k n : Nat} {Q : State → Prop} {ls : List (Option Value)} {st : List Value} {P : UInt32 → Mem → Prop} {pc' : Nat} (kk : ∀ (v : UInt32) (m' : Mem) (sz' : Nat), P v m' → V g B k n Q (hp g m') sz' pc' ls (.float v :: st)) : ∀ (v : OV) (m' : Mem) (sz' : Nat), rF P v m' → V g B k n Q (hp g m') sz' pc' ls (v.toList ++ st) := by
  rintro _ m' sz' ⟨v, rfl, hq⟩
  exact kk v m' sz' hq
theorem wca_IA : Cond.castable "java/lang/IllegalArgumentException" "java/lang/IllegalArgumentException" ∈ lw_tbl := List.mem_of_getElem? (i := 584) (by decide +kernel)
theorem wca_IS : Cond.castable "java/lang/IllegalStateException" "java/lang/IllegalStateException" ∈ lw_tbl := List.mem_of_getElem? (i := 600) (by decide +kernel)
theorem wca_IO : Cond.castable "java/lang/IndexOutOfBoundsException" "java/lang/IndexOutOfBoundsException" ∈ lw_tbl := List.mem_of_getElem? (i := 512) (by decide +kernel)
theorem wca_UO : Cond.castable "java/lang/UnsupportedOperationException" "java/lang/UnsupportedOperationException" ∈ lw_tbl := List.mem_of_getElem? (i := 616) (by decide +kernel)
theorem wca_NS : Cond.castable "java/util/NoSuchElementException" "java/util/NoSuchElementException" ∈ lw_tbl := List.mem_of_getElem? (i := 771) (by decide +kernel)
theorem wca_AR : Cond.castable "java/lang/ArithmeticException" "java/lang/ArithmeticException" ∈ lw_tbl := List.mem_of_getElem? (i := 1487) (by decide +kernel)
theorem ncx_AR_IO : NCx "java/lang/ArithmeticException" "java/lang/IndexOutOfBoundsException" := by unfold NCx; decide +kernel
theorem ncx_IA_IO : NCx "java/lang/IllegalArgumentException" "java/lang/IndexOutOfBoundsException" := by unfold NCx; decide +kernel
theorem ncx_IS_IA : NCx "java/lang/IllegalStateException" "java/lang/IllegalArgumentException" := by unfold NCx; decide +kernel
theorem ncx_IS_IO : NCx "java/lang/IllegalStateException" "java/lang/IndexOutOfBoundsException" := by unfold NCx; decide +kernel
theorem ncx_UO_IA : NCx "java/lang/UnsupportedOperationException" "java/lang/IllegalArgumentException" := by unfold NCx; decide +kernel
theorem ncx_UO_IS : NCx "java/lang/UnsupportedOperationException" "java/lang/IllegalStateException" := by unfold NCx; decide +kernel
theorem ncx_UO_IO : NCx "java/lang/UnsupportedOperationException" "java/lang/IndexOutOfBoundsException" := by unfold NCx; decide +kernel
theorem ncx_NS_IO : NCx "java/util/NoSuchElementException" "java/lang/IndexOutOfBoundsException" := by unfold NCx; decide +kernel
theorem cwx_L_addLake : CWW yL_addLake cL_addLake 4 (some .int) [(0, 9, 12, 13), (0, 9, 15, 15)] 3 := ⟨WD.at 496 (by decide +kernel) rfl, wn_L, by decide +kernel⟩
set_option maxRecDepth 100000 in
set_option maxHeartbeats 1000000 in
theorem c_L_addLake {g : xG} (hG : GK g) {m : Mem} {p0 : Int32} {P : Int32 → Mem → Prop} {PX : String → Mem → Prop} {d mc ms : Nat} (hC : CC g yX9_addLake (.code yX9_addLake cX9_addLake 2 (some .int)) d mc ms [.ref (ad g 0), .int p0] m (rI P) PX) (hPX : ∀ E m', PX E m' → E = "java/lang/IllegalArgumentException" ∨ E = "java/lang/IllegalStateException") : CC g yL_addLake (.codeWith yL_addLake cL_addLake 4 (some .int) [(0, 9, 12, 13), (0, 9, 15, 15)]) (d + 1) mc ms [.ref (ad g 0), .int p0, .ref (ad g 373)] m (rI (fun v m2 => (v = 0 ∧ ∃ r m1, P r m1 ∧ m2 = up m1 373 0 r) ∨ (v = 1 ∧ PX "java/lang/IllegalArgumentException" m2) ∨ (v = 2 ∧ PX "java/lang/IllegalStateException" m2))) noX := by
  refine CC.mkH hG RL rfl (by decide +kernel) rfl (Nat.le_of_ble_eq_true rfl) (fun sz B hB hX => ?_)
  show V g B 0 0 _ (hp g m) sz 0 [some (.ref (ad g 0)), some (.int p0), some (.ref (ad g 373)), none] []
  refine V.aload_n (pc := 0) hB dL_addLake_0 rfl ?_
  refine V.iconst (pc := 1) (v := 0) hB dL_addLake_1 rfl ?_
  refine V.aload_n (pc := 2) hB dL_addLake_2 rfl ?_
  refine V.iload_n (pc := 3) hB dL_addLake_3 rfl ?_
  refine V.cv (pc := 4) hB cw_X9_addLake wm_L_7 wi_X9_addLake ws_X9_addLake dL_addLake_4 hC (hp_at (ca_Bells _)) fk_Bells rfl (by omega) (by decide) rfl (by exact Nat.le_of_ble_eq_true rfl) (by omega) (by omega) (fun E m1 sz h => ?_) (kI (fun r m1 sz h => ?_)) rfl
  · rcases hPX E m1 h with rfl | rfl
    · refine VX.catch hB hX [] (0, 9, 12, 13) [(0, 9, 15, 15)] rfl (fun _ h => absurd h List.not_mem_nil) rfl (by decide) wc_L_13 wca_IA (fun a => ?_)
      refine V.astore_n (pc := 12) hB dL_addLake_12 (by decide) rfl ?_
      refine V.iconst (pc := 13) (v := 1) hB dL_addLake_13 rfl ?_
      exact V.retI (pc := 14) hB dL_addLake_14 rfl rfl (by omega) (by omega) (Or.inr (Or.inl ⟨rfl, h⟩))
    · refine VX.catch hB hX [(0, 9, 12, 13)] (0, 9, 15, 15) [] rfl (List.forall_mem_cons.mpr ⟨⟨by decide, _, wc_L_13, ncx_IS_IA⟩, fun _ h => absurd h List.not_mem_nil⟩) rfl (by decide) wc_L_15 wca_IS (fun a => ?_)
      refine V.astore_n (pc := 15) hB dL_addLake_15 (by decide) rfl ?_
      refine V.iconst (pc := 16) (v := 2) hB dL_addLake_16 rfl ?_
      exact V.retI (pc := 17) hB dL_addLake_17 rfl rfl (by omega) (by omega) (Or.inr (Or.inr (⟨rfl, h⟩)))
  · refine V.i2l (pc := 7) hB dL_addLake_7 ?_
    refine V.lastM (pc := 8) hB dL_addLake_8 ?_
    refine V.goto (pc := 9) (tgt := 18) hB dL_addLake_9 (by decide) ?_
    refine V.iconst (pc := 18) (v := 0) hB dL_addLake_18 rfl ?_
    exact V.retI (pc := 19) hB dL_addLake_19 rfl rfl (by omega) (by omega) (Or.inl ⟨rfl, r, m1, h, rfl⟩)

theorem cwx_L_freeze : CWW yL_freeze cL_freeze 6 (some .int) [(0, 12, 15, 21), (0, 12, 19, 13), (0, 12, 23, 15), (0, 12, 27, 23)] 5 := ⟨WD.at 648 (by decide +kernel) rfl, wn_L, by decide +kernel⟩
set_option maxRecDepth 100000 in
set_option maxHeartbeats 1000000 in
theorem c_L_freeze {g : xG} (hG : GK g) {m : Mem} {p0 p1 p2 : Int32} {P : Int32 → Mem → Prop} {PX : String → Mem → Prop} {d mc ms : Nat} (hC : CC g yX9_freeze (.code yX9_freeze cX9_freeze 4 (some .int)) d mc ms [.ref (ad g 0), .int p0, .int p1, .int p2] m (rI P) PX) (hPX : ∀ E m', PX E m' → E = "java/lang/IndexOutOfBoundsException" ∨ E = "java/lang/IllegalArgumentException" ∨ E = "java/lang/IllegalStateException" ∨ E = "java/lang/UnsupportedOperationException") : CC g yL_freeze (.codeWith yL_freeze cL_freeze 6 (some .int) [(0, 12, 15, 21), (0, 12, 19, 13), (0, 12, 23, 15), (0, 12, 27, 23)]) (d + 1) mc ms [.ref (ad g 0), .int p0, .int p1, .int p2, .ref (ad g 373)] m (rI (fun v m2 => (v = 0 ∧ ∃ r m1, P r m1 ∧ m2 = up m1 373 0 r) ∨ (v = 1 ∧ PX "java/lang/IndexOutOfBoundsException" m2) ∨ (v = 2 ∧ PX "java/lang/IllegalArgumentException" m2) ∨ (v = 3 ∧ PX "java/lang/IllegalStateException" m2) ∨ (v = 4 ∧ PX "java/lang/UnsupportedOperationException" m2))) noX := by
  refine CC.mkH hG RL rfl (by decide +kernel) rfl (Nat.le_of_ble_eq_true rfl) (fun sz B hB hX => ?_)
  show V g B 0 0 _ (hp g m) sz 0 [some (.ref (ad g 0)), some (.int p0), some (.int p1), some (.int p2), some (.ref (ad g 373)), none] []
  refine V.aload (pc := 0) hB dL_freeze_0 rfl ?_
  refine V.iconst (pc := 2) (v := 0) hB dL_freeze_2 rfl ?_
  refine V.aload_n (pc := 3) hB dL_freeze_3 rfl ?_
  refine V.iload_n (pc := 4) hB dL_freeze_4 rfl ?_
  refine V.iload_n (pc := 5) hB dL_freeze_5 rfl ?_
  refine V.iload_n (pc := 6) hB dL_freeze_6 rfl ?_
  refine V.cv (pc := 7) hB cw_X9_freeze wm_L_17 wi_X9_freeze ws_X9_freeze dL_freeze_7 hC (hp_at (ca_Bells _)) fk_Bells rfl (by omega) (by decide) rfl (by exact Nat.le_of_ble_eq_true rfl) (by omega) (by omega) (fun E m1 sz h => ?_) (kI (fun r m1 sz h => ?_)) rfl
  · rcases hPX E m1 h with rfl | rfl | rfl | rfl
    · refine VX.catch hB hX [] (0, 12, 15, 21) [(0, 12, 19, 13), (0, 12, 23, 15), (0, 12, 27, 23)] rfl (fun _ h => absurd h List.not_mem_nil) rfl (by decide) wc_L_21 wca_IO (fun a => ?_)
      refine V.astore (pc := 15) hB dL_freeze_15 (by decide) rfl ?_
      refine V.iconst (pc := 17) (v := 1) hB dL_freeze_17 rfl ?_
      exact V.retI (pc := 18) hB dL_freeze_18 rfl rfl (by omega) (by omega) (Or.inr (Or.inl ⟨rfl, h⟩))
    · refine VX.catch hB hX [(0, 12, 15, 21)] (0, 12, 19, 13) [(0, 12, 23, 15), (0, 12, 27, 23)] rfl (List.forall_mem_cons.mpr ⟨⟨by decide, _, wc_L_21, ncx_IA_IO⟩, fun _ h => absurd h List.not_mem_nil⟩) rfl (by decide) wc_L_13 wca_IA (fun a => ?_)
      refine V.astore (pc := 19) hB dL_freeze_19 (by decide) rfl ?_
      refine V.iconst (pc := 21) (v := 2) hB dL_freeze_21 rfl ?_
      exact V.retI (pc := 22) hB dL_freeze_22 rfl rfl (by omega) (by omega) (Or.inr (Or.inr (Or.inl ⟨rfl, h⟩)))
    · refine VX.catch hB hX [(0, 12, 15, 21), (0, 12, 19, 13)] (0, 12, 23, 15) [(0, 12, 27, 23)] rfl (List.forall_mem_cons.mpr ⟨⟨by decide, _, wc_L_21, ncx_IS_IO⟩, List.forall_mem_cons.mpr ⟨⟨by decide, _, wc_L_13, ncx_IS_IA⟩, fun _ h => absurd h List.not_mem_nil⟩⟩) rfl (by decide) wc_L_15 wca_IS (fun a => ?_)
      refine V.astore (pc := 23) hB dL_freeze_23 (by decide) rfl ?_
      refine V.iconst (pc := 25) (v := 3) hB dL_freeze_25 rfl ?_
      exact V.retI (pc := 26) hB dL_freeze_26 rfl rfl (by omega) (by omega) (Or.inr (Or.inr (Or.inr (Or.inl ⟨rfl, h⟩))))
    · refine VX.catch hB hX [(0, 12, 15, 21), (0, 12, 19, 13), (0, 12, 23, 15)] (0, 12, 27, 23) [] rfl (List.forall_mem_cons.mpr ⟨⟨by decide, _, wc_L_21, ncx_UO_IO⟩, List.forall_mem_cons.mpr ⟨⟨by decide, _, wc_L_13, ncx_UO_IA⟩, List.forall_mem_cons.mpr ⟨⟨by decide, _, wc_L_15, ncx_UO_IS⟩, fun _ h => absurd h List.not_mem_nil⟩⟩⟩) rfl (by decide) wc_L_23 wca_UO (fun a => ?_)
      refine V.astore (pc := 27) hB dL_freeze_27 (by decide) rfl ?_
      refine V.iconst (pc := 29) (v := 4) hB dL_freeze_29 rfl ?_
      exact V.retI (pc := 30) hB dL_freeze_30 rfl rfl (by omega) (by omega) (Or.inr (Or.inr (Or.inr (Or.inr (⟨rfl, h⟩)))))
  · refine V.i2l (pc := 10) hB dL_freeze_10 ?_
    refine V.lastM (pc := 11) hB dL_freeze_11 ?_
    refine V.goto (pc := 12) (tgt := 31) hB dL_freeze_12 (by decide) ?_
    refine V.iconst (pc := 31) (v := 0) hB dL_freeze_31 rfl ?_
    exact V.retI (pc := 32) hB dL_freeze_32 rfl rfl (by omega) (by omega) (Or.inl ⟨rfl, r, m1, h, rfl⟩)

theorem cwx_L_depth : CWW yL_depth cL_depth 4 (some .int) [(0, 9, 12, 21)] 3 := ⟨WD.at 693 (by decide +kernel) rfl, wn_L, by decide +kernel⟩
set_option maxRecDepth 100000 in
set_option maxHeartbeats 1000000 in
theorem c_L_depth {g : xG} (hG : GK g) {m : Mem} {p0 : Int32} {P : Int32 → Mem → Prop} {PX : String → Mem → Prop} {d mc ms : Nat} (hC : CC g yX9_depth (.code yX9_depth cX9_depth 2 (some .int)) d mc ms [.ref (ad g 0), .int p0] m (rI P) PX) (hPX : ∀ E m', PX E m' → E = "java/lang/IndexOutOfBoundsException") : CC g yL_depth (.codeWith yL_depth cL_depth 4 (some .int) [(0, 9, 12, 21)]) (d + 1) mc ms [.ref (ad g 0), .int p0, .ref (ad g 373)] m (rI (fun v m2 => (v = 0 ∧ ∃ r m1, P r m1 ∧ m2 = up m1 373 0 r) ∨ (v = 1 ∧ PX "java/lang/IndexOutOfBoundsException" m2))) noX := by
  refine CC.mkH hG RL rfl (by decide +kernel) rfl (Nat.le_of_ble_eq_true rfl) (fun sz B hB hX => ?_)
  show V g B 0 0 _ (hp g m) sz 0 [some (.ref (ad g 0)), some (.int p0), some (.ref (ad g 373)), none] []
  refine V.aload_n (pc := 0) hB dL_depth_0 rfl ?_
  refine V.iconst (pc := 1) (v := 0) hB dL_depth_1 rfl ?_
  refine V.aload_n (pc := 2) hB dL_depth_2 rfl ?_
  refine V.iload_n (pc := 3) hB dL_depth_3 rfl ?_
  refine V.cv (pc := 4) hB cw_X9_depth wm_L_25 wi_X9_depth ws_X9_depth dL_depth_4 hC (hp_at (ca_Bells _)) fk_Bells rfl (by omega) (by decide) rfl (by exact Nat.le_of_ble_eq_true rfl) (by omega) (by omega) (fun E m1 sz h => ?_) (kI (fun r m1 sz h => ?_)) rfl
  · obtain rfl := hPX E m1 h
    refine VX.catch hB hX [] (0, 9, 12, 21) [] rfl (fun _ h => absurd h List.not_mem_nil) rfl (by decide) wc_L_21 wca_IO (fun a => ?_)
    refine V.astore_n (pc := 12) hB dL_depth_12 (by decide) rfl ?_
    refine V.iconst (pc := 13) (v := 1) hB dL_depth_13 rfl ?_
    exact V.retI (pc := 14) hB dL_depth_14 rfl rfl (by omega) (by omega) (Or.inr (⟨rfl, h⟩))
  · refine V.i2l (pc := 7) hB dL_depth_7 ?_
    refine V.lastM (pc := 8) hB dL_depth_8 ?_
    refine V.goto (pc := 9) (tgt := 15) hB dL_depth_9 (by decide) ?_
    refine V.iconst (pc := 15) (v := 0) hB dL_depth_15 rfl ?_
    exact V.retI (pc := 16) hB dL_depth_16 rfl rfl (by omega) (by omega) (Or.inl ⟨rfl, r, m1, h, rfl⟩)

theorem cwx_L_layerCount : CWW yL_layerCount cL_layerCount 4 (some .int) [(0, 9, 12, 21)] 3 := ⟨WD.at 706 (by decide +kernel) rfl, wn_L, by decide +kernel⟩
set_option maxRecDepth 100000 in
set_option maxHeartbeats 1000000 in
theorem c_L_layerCount {g : xG} (hG : GK g) {m : Mem} {p0 : Int32} {P : Int32 → Mem → Prop} {PX : String → Mem → Prop} {d mc ms : Nat} (hC : CC g yX9_layerCount (.code yX9_layerCount cX9_layerCount 2 (some .int)) d mc ms [.ref (ad g 0), .int p0] m (rI P) PX) (hPX : ∀ E m', PX E m' → E = "java/lang/IndexOutOfBoundsException") : CC g yL_layerCount (.codeWith yL_layerCount cL_layerCount 4 (some .int) [(0, 9, 12, 21)]) (d + 1) mc ms [.ref (ad g 0), .int p0, .ref (ad g 373)] m (rI (fun v m2 => (v = 0 ∧ ∃ r m1, P r m1 ∧ m2 = up m1 373 0 r) ∨ (v = 1 ∧ PX "java/lang/IndexOutOfBoundsException" m2))) noX := by
  refine CC.mkH hG RL rfl (by decide +kernel) rfl (Nat.le_of_ble_eq_true rfl) (fun sz B hB hX => ?_)
  show V g B 0 0 _ (hp g m) sz 0 [some (.ref (ad g 0)), some (.int p0), some (.ref (ad g 373)), none] []
  refine V.aload_n (pc := 0) hB dL_layerCount_0 rfl ?_
  refine V.iconst (pc := 1) (v := 0) hB dL_layerCount_1 rfl ?_
  refine V.aload_n (pc := 2) hB dL_layerCount_2 rfl ?_
  refine V.iload_n (pc := 3) hB dL_layerCount_3 rfl ?_
  refine V.cv (pc := 4) hB cw_X9_layerCount wm_L_28 wi_X9_layerCount ws_X9_layerCount dL_layerCount_4 hC (hp_at (ca_Bells _)) fk_Bells rfl (by omega) (by decide) rfl (by exact Nat.le_of_ble_eq_true rfl) (by omega) (by omega) (fun E m1 sz h => ?_) (kI (fun r m1 sz h => ?_)) rfl
  · obtain rfl := hPX E m1 h
    refine VX.catch hB hX [] (0, 9, 12, 21) [] rfl (fun _ h => absurd h List.not_mem_nil) rfl (by decide) wc_L_21 wca_IO (fun a => ?_)
    refine V.astore_n (pc := 12) hB dL_layerCount_12 (by decide) rfl ?_
    refine V.iconst (pc := 13) (v := 1) hB dL_layerCount_13 rfl ?_
    exact V.retI (pc := 14) hB dL_layerCount_14 rfl rfl (by omega) (by omega) (Or.inr (⟨rfl, h⟩))
  · refine V.i2l (pc := 7) hB dL_layerCount_7 ?_
    refine V.lastM (pc := 8) hB dL_layerCount_8 ?_
    refine V.goto (pc := 9) (tgt := 15) hB dL_layerCount_9 (by decide) ?_
    refine V.iconst (pc := 15) (v := 0) hB dL_layerCount_15 rfl ?_
    exact V.retI (pc := 16) hB dL_layerCount_16 rfl rfl (by omega) (by omega) (Or.inl ⟨rfl, r, m1, h, rfl⟩)

theorem cwx_L_thickness : CWW yL_thickness cL_thickness 5 (some .int) [(0, 10, 13, 21)] 4 := ⟨WD.at 713 (by decide +kernel) rfl, wn_L, by decide +kernel⟩
set_option maxRecDepth 100000 in
set_option maxHeartbeats 1000000 in
theorem c_L_thickness {g : xG} (hG : GK g) {m : Mem} {p0 p1 : Int32} {P : Int32 → Mem → Prop} {PX : String → Mem → Prop} {d mc ms : Nat} (hC : CC g yX9_thickness (.code yX9_thickness cX9_thickness 3 (some .int)) d mc ms [.ref (ad g 0), .int p0, .int p1] m (rI P) PX) (hPX : ∀ E m', PX E m' → E = "java/lang/IndexOutOfBoundsException") : CC g yL_thickness (.codeWith yL_thickness cL_thickness 5 (some .int) [(0, 10, 13, 21)]) (d + 1) mc ms [.ref (ad g 0), .int p0, .int p1, .ref (ad g 373)] m (rI (fun v m2 => (v = 0 ∧ ∃ r m1, P r m1 ∧ m2 = up m1 373 0 r) ∨ (v = 1 ∧ PX "java/lang/IndexOutOfBoundsException" m2))) noX := by
  refine CC.mkH hG RL rfl (by decide +kernel) rfl (Nat.le_of_ble_eq_true rfl) (fun sz B hB hX => ?_)
  show V g B 0 0 _ (hp g m) sz 0 [some (.ref (ad g 0)), some (.int p0), some (.int p1), some (.ref (ad g 373)), none] []
  refine V.aload_n (pc := 0) hB dL_thickness_0 rfl ?_
  refine V.iconst (pc := 1) (v := 0) hB dL_thickness_1 rfl ?_
  refine V.aload_n (pc := 2) hB dL_thickness_2 rfl ?_
  refine V.iload_n (pc := 3) hB dL_thickness_3 rfl ?_
  refine V.iload_n (pc := 4) hB dL_thickness_4 rfl ?_
  refine V.cv (pc := 5) hB cw_X9_thickness wm_L_31 wi_X9_thickness ws_X9_thickness dL_thickness_5 hC (hp_at (ca_Bells _)) fk_Bells rfl (by omega) (by decide) rfl (by exact Nat.le_of_ble_eq_true rfl) (by omega) (by omega) (fun E m1 sz h => ?_) (kI (fun r m1 sz h => ?_)) rfl
  · obtain rfl := hPX E m1 h
    refine VX.catch hB hX [] (0, 10, 13, 21) [] rfl (fun _ h => absurd h List.not_mem_nil) rfl (by decide) wc_L_21 wca_IO (fun a => ?_)
    refine V.astore (pc := 13) hB dL_thickness_13 (by decide) rfl ?_
    refine V.iconst (pc := 15) (v := 1) hB dL_thickness_15 rfl ?_
    exact V.retI (pc := 16) hB dL_thickness_16 rfl rfl (by omega) (by omega) (Or.inr (⟨rfl, h⟩))
  · refine V.i2l (pc := 8) hB dL_thickness_8 ?_
    refine V.lastM (pc := 9) hB dL_thickness_9 ?_
    refine V.goto (pc := 10) (tgt := 17) hB dL_thickness_10 (by decide) ?_
    refine V.iconst (pc := 17) (v := 0) hB dL_thickness_17 rfl ?_
    exact V.retI (pc := 18) hB dL_thickness_18 rfl rfl (by omega) (by omega) (Or.inl ⟨rfl, r, m1, h, rfl⟩)

theorem cwx_L_temperature : CWW yL_temperature cL_temperature 5 (some .int) [(0, 10, 13, 21)] 4 := ⟨WD.at 729 (by decide +kernel) rfl, wn_L, by decide +kernel⟩
set_option maxRecDepth 100000 in
set_option maxHeartbeats 1000000 in
theorem c_L_temperature {g : xG} (hG : GK g) {m : Mem} {p0 p1 : Int32} {P : Int32 → Mem → Prop} {PX : String → Mem → Prop} {d mc ms : Nat} (hC : CC g yX9_temperature (.code yX9_temperature cX9_temperature 3 (some .int)) d mc ms [.ref (ad g 0), .int p0, .int p1] m (rI P) PX) (hPX : ∀ E m', PX E m' → E = "java/lang/IndexOutOfBoundsException") : CC g yL_temperature (.codeWith yL_temperature cL_temperature 5 (some .int) [(0, 10, 13, 21)]) (d + 1) mc ms [.ref (ad g 0), .int p0, .int p1, .ref (ad g 373)] m (rI (fun v m2 => (v = 0 ∧ ∃ r m1, P r m1 ∧ m2 = up m1 373 0 r) ∨ (v = 1 ∧ PX "java/lang/IndexOutOfBoundsException" m2))) noX := by
  refine CC.mkH hG RL rfl (by decide +kernel) rfl (Nat.le_of_ble_eq_true rfl) (fun sz B hB hX => ?_)
  show V g B 0 0 _ (hp g m) sz 0 [some (.ref (ad g 0)), some (.int p0), some (.int p1), some (.ref (ad g 373)), none] []
  refine V.aload_n (pc := 0) hB dL_temperature_0 rfl ?_
  refine V.iconst (pc := 1) (v := 0) hB dL_temperature_1 rfl ?_
  refine V.aload_n (pc := 2) hB dL_temperature_2 rfl ?_
  refine V.iload_n (pc := 3) hB dL_temperature_3 rfl ?_
  refine V.iload_n (pc := 4) hB dL_temperature_4 rfl ?_
  refine V.cv (pc := 5) hB cw_X9_temperature wm_L_35 wi_X9_temperature ws_X9_temperature dL_temperature_5 hC (hp_at (ca_Bells _)) fk_Bells rfl (by omega) (by decide) rfl (by exact Nat.le_of_ble_eq_true rfl) (by omega) (by omega) (fun E m1 sz h => ?_) (kI (fun r m1 sz h => ?_)) rfl
  · obtain rfl := hPX E m1 h
    refine VX.catch hB hX [] (0, 10, 13, 21) [] rfl (fun _ h => absurd h List.not_mem_nil) rfl (by decide) wc_L_21 wca_IO (fun a => ?_)
    refine V.astore (pc := 13) hB dL_temperature_13 (by decide) rfl ?_
    refine V.iconst (pc := 15) (v := 1) hB dL_temperature_15 rfl ?_
    exact V.retI (pc := 16) hB dL_temperature_16 rfl rfl (by omega) (by omega) (Or.inr (⟨rfl, h⟩))
  · refine V.i2l (pc := 8) hB dL_temperature_8 ?_
    refine V.lastM (pc := 9) hB dL_temperature_9 ?_
    refine V.goto (pc := 10) (tgt := 17) hB dL_temperature_10 (by decide) ?_
    refine V.iconst (pc := 17) (v := 0) hB dL_temperature_17 rfl ?_
    exact V.retI (pc := 18) hB dL_temperature_18 rfl rfl (by omega) (by omega) (Or.inl ⟨rfl, r, m1, h, rfl⟩)

theorem cwx_L_strain : CWW yL_strain cL_strain 5 (some .int) [(0, 10, 13, 21)] 4 := ⟨WD.at 736 (by decide +kernel) rfl, wn_L, by decide +kernel⟩
set_option maxRecDepth 100000 in
set_option maxHeartbeats 1000000 in
theorem c_L_strain {g : xG} (hG : GK g) {m : Mem} {p0 p1 : Int32} {P : Int32 → Mem → Prop} {PX : String → Mem → Prop} {d mc ms : Nat} (hC : CC g yX9_strain (.code yX9_strain cX9_strain 3 (some .int)) d mc ms [.ref (ad g 0), .int p0, .int p1] m (rI P) PX) (hPX : ∀ E m', PX E m' → E = "java/lang/IndexOutOfBoundsException") : CC g yL_strain (.codeWith yL_strain cL_strain 5 (some .int) [(0, 10, 13, 21)]) (d + 1) mc ms [.ref (ad g 0), .int p0, .int p1, .ref (ad g 373)] m (rI (fun v m2 => (v = 0 ∧ ∃ r m1, P r m1 ∧ m2 = up m1 373 0 r) ∨ (v = 1 ∧ PX "java/lang/IndexOutOfBoundsException" m2))) noX := by
  refine CC.mkH hG RL rfl (by decide +kernel) rfl (Nat.le_of_ble_eq_true rfl) (fun sz B hB hX => ?_)
  show V g B 0 0 _ (hp g m) sz 0 [some (.ref (ad g 0)), some (.int p0), some (.int p1), some (.ref (ad g 373)), none] []
  refine V.aload_n (pc := 0) hB dL_strain_0 rfl ?_
  refine V.iconst (pc := 1) (v := 0) hB dL_strain_1 rfl ?_
  refine V.aload_n (pc := 2) hB dL_strain_2 rfl ?_
  refine V.iload_n (pc := 3) hB dL_strain_3 rfl ?_
  refine V.iload_n (pc := 4) hB dL_strain_4 rfl ?_
  refine V.cv (pc := 5) hB cw_X9_strain wm_L_38 wi_X9_strain ws_X9_strain dL_strain_5 hC (hp_at (ca_Bells _)) fk_Bells rfl (by omega) (by decide) rfl (by exact Nat.le_of_ble_eq_true rfl) (by omega) (by omega) (fun E m1 sz h => ?_) (kI (fun r m1 sz h => ?_)) rfl
  · obtain rfl := hPX E m1 h
    refine VX.catch hB hX [] (0, 10, 13, 21) [] rfl (fun _ h => absurd h List.not_mem_nil) rfl (by decide) wc_L_21 wca_IO (fun a => ?_)
    refine V.astore (pc := 13) hB dL_strain_13 (by decide) rfl ?_
    refine V.iconst (pc := 15) (v := 1) hB dL_strain_15 rfl ?_
    exact V.retI (pc := 16) hB dL_strain_16 rfl rfl (by omega) (by omega) (Or.inr (⟨rfl, h⟩))
  · refine V.i2l (pc := 8) hB dL_strain_8 ?_
    refine V.lastM (pc := 9) hB dL_strain_9 ?_
    refine V.goto (pc := 10) (tgt := 17) hB dL_strain_10 (by decide) ?_
    refine V.iconst (pc := 17) (v := 0) hB dL_strain_17 rfl ?_
    exact V.retI (pc := 18) hB dL_strain_18 rfl rfl (by omega) (by omega) (Or.inl ⟨rfl, r, m1, h, rfl⟩)

theorem cwx_L_iceThickness : CWW yL_iceThickness cL_iceThickness 4 (some .int) [(0, 9, 12, 21)] 3 := ⟨WD.at 743 (by decide +kernel) rfl, wn_L, by decide +kernel⟩
set_option maxRecDepth 100000 in
set_option maxHeartbeats 1000000 in
theorem c_L_iceThickness {g : xG} (hG : GK g) {m : Mem} {p0 : Int32} {P : Int32 → Mem → Prop} {PX : String → Mem → Prop} {d mc ms : Nat} (hC : CC g yX9_iceThickness (.code yX9_iceThickness cX9_iceThickness 2 (some .int)) d mc ms [.ref (ad g 0), .int p0] m (rI P) PX) (hPX : ∀ E m', PX E m' → E = "java/lang/IndexOutOfBoundsException") : CC g yL_iceThickness (.codeWith yL_iceThickness cL_iceThickness 4 (some .int) [(0, 9, 12, 21)]) (d + 1) mc ms [.ref (ad g 0), .int p0, .ref (ad g 373)] m (rI (fun v m2 => (v = 0 ∧ ∃ r m1, P r m1 ∧ m2 = up m1 373 0 r) ∨ (v = 1 ∧ PX "java/lang/IndexOutOfBoundsException" m2))) noX := by
  refine CC.mkH hG RL rfl (by decide +kernel) rfl (Nat.le_of_ble_eq_true rfl) (fun sz B hB hX => ?_)
  show V g B 0 0 _ (hp g m) sz 0 [some (.ref (ad g 0)), some (.int p0), some (.ref (ad g 373)), none] []
  refine V.aload_n (pc := 0) hB dL_iceThickness_0 rfl ?_
  refine V.iconst (pc := 1) (v := 0) hB dL_iceThickness_1 rfl ?_
  refine V.aload_n (pc := 2) hB dL_iceThickness_2 rfl ?_
  refine V.iload_n (pc := 3) hB dL_iceThickness_3 rfl ?_
  refine V.cv (pc := 4) hB cw_X9_iceThickness wm_L_41 wi_X9_iceThickness ws_X9_iceThickness dL_iceThickness_4 hC (hp_at (ca_Bells _)) fk_Bells rfl (by omega) (by decide) rfl (by exact Nat.le_of_ble_eq_true rfl) (by omega) (by omega) (fun E m1 sz h => ?_) (kI (fun r m1 sz h => ?_)) rfl
  · obtain rfl := hPX E m1 h
    refine VX.catch hB hX [] (0, 9, 12, 21) [] rfl (fun _ h => absurd h List.not_mem_nil) rfl (by decide) wc_L_21 wca_IO (fun a => ?_)
    refine V.astore_n (pc := 12) hB dL_iceThickness_12 (by decide) rfl ?_
    refine V.iconst (pc := 13) (v := 1) hB dL_iceThickness_13 rfl ?_
    exact V.retI (pc := 14) hB dL_iceThickness_14 rfl rfl (by omega) (by omega) (Or.inr (⟨rfl, h⟩))
  · refine V.i2l (pc := 7) hB dL_iceThickness_7 ?_
    refine V.lastM (pc := 8) hB dL_iceThickness_8 ?_
    refine V.goto (pc := 9) (tgt := 15) hB dL_iceThickness_9 (by decide) ?_
    refine V.iconst (pc := 15) (v := 0) hB dL_iceThickness_15 rfl ?_
    exact V.retI (pc := 16) hB dL_iceThickness_16 rfl rfl (by omega) (by omega) (Or.inl ⟨rfl, r, m1, h, rfl⟩)

theorem cwx_L_iceThicknessByHalves : CWW yL_iceThicknessByHalves cL_iceThicknessByHalves 4 (some .int) [(0, 9, 12, 21)] 3 := ⟨WD.at 751 (by decide +kernel) rfl, wn_L, by decide +kernel⟩
set_option maxRecDepth 100000 in
set_option maxHeartbeats 1000000 in
theorem c_L_iceThicknessByHalves {g : xG} (hG : GK g) {m : Mem} {p0 : Int32} {P : Int32 → Mem → Prop} {PX : String → Mem → Prop} {d mc ms : Nat} (hC : CC g yX9_iceThicknessByHalves (.code yX9_iceThicknessByHalves cX9_iceThicknessByHalves 2 (some .int)) d mc ms [.ref (ad g 0), .int p0] m (rI P) PX) (hPX : ∀ E m', PX E m' → E = "java/lang/IndexOutOfBoundsException") : CC g yL_iceThicknessByHalves (.codeWith yL_iceThicknessByHalves cL_iceThicknessByHalves 4 (some .int) [(0, 9, 12, 21)]) (d + 1) mc ms [.ref (ad g 0), .int p0, .ref (ad g 373)] m (rI (fun v m2 => (v = 0 ∧ ∃ r m1, P r m1 ∧ m2 = up m1 373 0 r) ∨ (v = 1 ∧ PX "java/lang/IndexOutOfBoundsException" m2))) noX := by
  refine CC.mkH hG RL rfl (by decide +kernel) rfl (Nat.le_of_ble_eq_true rfl) (fun sz B hB hX => ?_)
  show V g B 0 0 _ (hp g m) sz 0 [some (.ref (ad g 0)), some (.int p0), some (.ref (ad g 373)), none] []
  refine V.aload_n (pc := 0) hB dL_iceThicknessByHalves_0 rfl ?_
  refine V.iconst (pc := 1) (v := 0) hB dL_iceThicknessByHalves_1 rfl ?_
  refine V.aload_n (pc := 2) hB dL_iceThicknessByHalves_2 rfl ?_
  refine V.iload_n (pc := 3) hB dL_iceThicknessByHalves_3 rfl ?_
  refine V.cv (pc := 4) hB cw_X9_iceThicknessByHalves wm_L_44 wi_X9_iceThicknessByHalves ws_X9_iceThicknessByHalves dL_iceThicknessByHalves_4 hC (hp_at (ca_Bells _)) fk_Bells rfl (by omega) (by decide) rfl (by exact Nat.le_of_ble_eq_true rfl) (by omega) (by omega) (fun E m1 sz h => ?_) (kI (fun r m1 sz h => ?_)) rfl
  · obtain rfl := hPX E m1 h
    refine VX.catch hB hX [] (0, 9, 12, 21) [] rfl (fun _ h => absurd h List.not_mem_nil) rfl (by decide) wc_L_21 wca_IO (fun a => ?_)
    refine V.astore_n (pc := 12) hB dL_iceThicknessByHalves_12 (by decide) rfl ?_
    refine V.iconst (pc := 13) (v := 1) hB dL_iceThicknessByHalves_13 rfl ?_
    exact V.retI (pc := 14) hB dL_iceThicknessByHalves_14 rfl rfl (by omega) (by omega) (Or.inr (⟨rfl, h⟩))
  · refine V.i2l (pc := 7) hB dL_iceThicknessByHalves_7 ?_
    refine V.lastM (pc := 8) hB dL_iceThicknessByHalves_8 ?_
    refine V.goto (pc := 9) (tgt := 15) hB dL_iceThicknessByHalves_9 (by decide) ?_
    refine V.iconst (pc := 15) (v := 0) hB dL_iceThicknessByHalves_15 rfl ?_
    exact V.retI (pc := 16) hB dL_iceThicknessByHalves_16 rfl rfl (by omega) (by omega) (Or.inl ⟨rfl, r, m1, h, rfl⟩)

theorem cwx_L_layerAt : CWW yL_layerAt cL_layerAt 5 (some .int) [(0, 10, 13, 21), (0, 10, 17, 50)] 4 := ⟨WD.at 759 (by decide +kernel) rfl, wn_L, by decide +kernel⟩
set_option maxRecDepth 100000 in
set_option maxHeartbeats 1000000 in
theorem c_L_layerAt {g : xG} (hG : GK g) {m : Mem} {p0 p1 : Int32} {P : Int32 → Mem → Prop} {PX : String → Mem → Prop} {d mc ms : Nat} (hC : CC g yX9_layerAt (.code yX9_layerAt cX9_layerAt 4 (some .int)) d mc ms [.ref (ad g 0), .int p0, .int p1] m (rI P) PX) (hPX : ∀ E m', PX E m' → E = "java/lang/IndexOutOfBoundsException" ∨ E = "java/util/NoSuchElementException") : CC g yL_layerAt (.codeWith yL_layerAt cL_layerAt 5 (some .int) [(0, 10, 13, 21), (0, 10, 17, 50)]) (d + 1) mc ms [.ref (ad g 0), .int p0, .int p1, .ref (ad g 373)] m (rI (fun v m2 => (v = 0 ∧ ∃ r m1, P r m1 ∧ m2 = up m1 373 0 r) ∨ (v = 1 ∧ PX "java/lang/IndexOutOfBoundsException" m2) ∨ (v = 2 ∧ PX "java/util/NoSuchElementException" m2))) noX := by
  refine CC.mkH hG RL rfl (by decide +kernel) rfl (Nat.le_of_ble_eq_true rfl) (fun sz B hB hX => ?_)
  show V g B 0 0 _ (hp g m) sz 0 [some (.ref (ad g 0)), some (.int p0), some (.int p1), some (.ref (ad g 373)), none] []
  refine V.aload_n (pc := 0) hB dL_layerAt_0 rfl ?_
  refine V.iconst (pc := 1) (v := 0) hB dL_layerAt_1 rfl ?_
  refine V.aload_n (pc := 2) hB dL_layerAt_2 rfl ?_
  refine V.iload_n (pc := 3) hB dL_layerAt_3 rfl ?_
  refine V.iload_n (pc := 4) hB dL_layerAt_4 rfl ?_
  refine V.cv (pc := 5) hB cw_X9_layerAt wm_L_47 wi_X9_layerAt ws_X9_layerAt dL_layerAt_5 hC (hp_at (ca_Bells _)) fk_Bells rfl (by omega) (by decide) rfl (by exact Nat.le_of_ble_eq_true rfl) (by omega) (by omega) (fun E m1 sz h => ?_) (kI (fun r m1 sz h => ?_)) rfl
  · rcases hPX E m1 h with rfl | rfl
    · refine VX.catch hB hX [] (0, 10, 13, 21) [(0, 10, 17, 50)] rfl (fun _ h => absurd h List.not_mem_nil) rfl (by decide) wc_L_21 wca_IO (fun a => ?_)
      refine V.astore (pc := 13) hB dL_layerAt_13 (by decide) rfl ?_
      refine V.iconst (pc := 15) (v := 1) hB dL_layerAt_15 rfl ?_
      exact V.retI (pc := 16) hB dL_layerAt_16 rfl rfl (by omega) (by omega) (Or.inr (Or.inl ⟨rfl, h⟩))
    · refine VX.catch hB hX [(0, 10, 13, 21)] (0, 10, 17, 50) [] rfl (List.forall_mem_cons.mpr ⟨⟨by decide, _, wc_L_21, ncx_NS_IO⟩, fun _ h => absurd h List.not_mem_nil⟩) rfl (by decide) wc_L_50 wca_NS (fun a => ?_)
      refine V.astore (pc := 17) hB dL_layerAt_17 (by decide) rfl ?_
      refine V.iconst (pc := 19) (v := 2) hB dL_layerAt_19 rfl ?_
      exact V.retI (pc := 20) hB dL_layerAt_20 rfl rfl (by omega) (by omega) (Or.inr (Or.inr (⟨rfl, h⟩)))
  · refine V.i2l (pc := 8) hB dL_layerAt_8 ?_
    refine V.lastM (pc := 9) hB dL_layerAt_9 ?_
    refine V.goto (pc := 10) (tgt := 21) hB dL_layerAt_10 (by decide) ?_
    refine V.iconst (pc := 21) (v := 0) hB dL_layerAt_21 rfl ?_
    exact V.retI (pc := 22) hB dL_layerAt_22 rfl rfl (by omega) (by omega) (Or.inl ⟨rfl, r, m1, h, rfl⟩)

theorem cwx_L_setAir : CWW yL_setAir cL_setAir 4 (some .int) [(0, 9, 12, 13)] 3 := ⟨WD.at 787 (by decide +kernel) rfl, wn_L, by decide +kernel⟩
set_option maxRecDepth 100000 in
set_option maxHeartbeats 1000000 in
theorem c_L_setAir {g : xG} (hG : GK g) {m : Mem} {p0 : Int32} {P : Int32 → Mem → Prop} {PX : String → Mem → Prop} {d mc ms : Nat} (hC : CC g yX9_setAir (.code yX9_setAir cX9_setAir 2 (some .int)) d mc ms [.ref (ad g 0), .int p0] m (rI P) PX) (hPX : ∀ E m', PX E m' → E = "java/lang/IllegalArgumentException") : CC g yL_setAir (.codeWith yL_setAir cL_setAir 4 (some .int) [(0, 9, 12, 13)]) (d + 1) mc ms [.ref (ad g 0), .int p0, .ref (ad g 373)] m (rI (fun v m2 => (v = 0 ∧ ∃ r m1, P r m1 ∧ m2 = up m1 373 0 r) ∨ (v = 1 ∧ PX "java/lang/IllegalArgumentException" m2))) noX := by
  refine CC.mkH hG RL rfl (by decide +kernel) rfl (Nat.le_of_ble_eq_true rfl) (fun sz B hB hX => ?_)
  show V g B 0 0 _ (hp g m) sz 0 [some (.ref (ad g 0)), some (.int p0), some (.ref (ad g 373)), none] []
  refine V.aload_n (pc := 0) hB dL_setAir_0 rfl ?_
  refine V.iconst (pc := 1) (v := 0) hB dL_setAir_1 rfl ?_
  refine V.aload_n (pc := 2) hB dL_setAir_2 rfl ?_
  refine V.iload_n (pc := 3) hB dL_setAir_3 rfl ?_
  refine V.cv (pc := 4) hB cw_X9_setAir wm_L_52 wi_X9_setAir ws_X9_setAir dL_setAir_4 hC (hp_at (ca_Bells _)) fk_Bells rfl (by omega) (by decide) rfl (by exact Nat.le_of_ble_eq_true rfl) (by omega) (by omega) (fun E m1 sz h => ?_) (kI (fun r m1 sz h => ?_)) rfl
  · obtain rfl := hPX E m1 h
    refine VX.catch hB hX [] (0, 9, 12, 13) [] rfl (fun _ h => absurd h List.not_mem_nil) rfl (by decide) wc_L_13 wca_IA (fun a => ?_)
    refine V.astore_n (pc := 12) hB dL_setAir_12 (by decide) rfl ?_
    refine V.iconst (pc := 13) (v := 1) hB dL_setAir_13 rfl ?_
    exact V.retI (pc := 14) hB dL_setAir_14 rfl rfl (by omega) (by omega) (Or.inr (⟨rfl, h⟩))
  · refine V.i2l (pc := 7) hB dL_setAir_7 ?_
    refine V.lastM (pc := 8) hB dL_setAir_8 ?_
    refine V.goto (pc := 9) (tgt := 15) hB dL_setAir_9 (by decide) ?_
    refine V.iconst (pc := 15) (v := 0) hB dL_setAir_15 rfl ?_
    exact V.retI (pc := 16) hB dL_setAir_16 rfl rfl (by omega) (by omega) (Or.inl ⟨rfl, r, m1, h, rfl⟩)

theorem cwx_L_pass : CWW yL_pass cL_pass 4 (some .int) [(0, 9, 12, 13)] 3 := ⟨WD.at 802 (by decide +kernel) rfl, wn_L, by decide +kernel⟩
set_option maxRecDepth 100000 in
set_option maxHeartbeats 1000000 in
theorem c_L_pass {g : xG} (hG : GK g) {m : Mem} {p0 : Int32} {P : Int32 → Mem → Prop} {PX : String → Mem → Prop} {d mc ms : Nat} (hC : CC g yX9_pass (.code yX9_pass cX9_pass 2 (some .int)) d mc ms [.ref (ad g 0), .int p0] m (rI P) PX) (hPX : ∀ E m', PX E m' → E = "java/lang/IllegalArgumentException") : CC g yL_pass (.codeWith yL_pass cL_pass 4 (some .int) [(0, 9, 12, 13)]) (d + 1) mc ms [.ref (ad g 0), .int p0, .ref (ad g 373)] m (rI (fun v m2 => (v = 0 ∧ ∃ r m1, P r m1 ∧ m2 = up m1 373 0 r) ∨ (v = 1 ∧ PX "java/lang/IllegalArgumentException" m2))) noX := by
  refine CC.mkH hG RL rfl (by decide +kernel) rfl (Nat.le_of_ble_eq_true rfl) (fun sz B hB hX => ?_)
  show V g B 0 0 _ (hp g m) sz 0 [some (.ref (ad g 0)), some (.int p0), some (.ref (ad g 373)), none] []
  refine V.aload_n (pc := 0) hB dL_pass_0 rfl ?_
  refine V.iconst (pc := 1) (v := 0) hB dL_pass_1 rfl ?_
  refine V.aload_n (pc := 2) hB dL_pass_2 rfl ?_
  refine V.iload_n (pc := 3) hB dL_pass_3 rfl ?_
  refine V.cv (pc := 4) hB cw_X9_pass wm_L_55 wi_X9_pass ws_X9_pass dL_pass_4 hC (hp_at (ca_Bells _)) fk_Bells rfl (by omega) (by decide) rfl (by exact Nat.le_of_ble_eq_true rfl) (by omega) (by omega) (fun E m1 sz h => ?_) (kI (fun r m1 sz h => ?_)) rfl
  · obtain rfl := hPX E m1 h
    refine VX.catch hB hX [] (0, 9, 12, 13) [] rfl (fun _ h => absurd h List.not_mem_nil) rfl (by decide) wc_L_13 wca_IA (fun a => ?_)
    refine V.astore_n (pc := 12) hB dL_pass_12 (by decide) rfl ?_
    refine V.iconst (pc := 13) (v := 1) hB dL_pass_13 rfl ?_
    exact V.retI (pc := 14) hB dL_pass_14 rfl rfl (by omega) (by omega) (Or.inr (⟨rfl, h⟩))
  · refine V.i2l (pc := 7) hB dL_pass_7 ?_
    refine V.lastM (pc := 8) hB dL_pass_8 ?_
    refine V.goto (pc := 9) (tgt := 15) hB dL_pass_9 (by decide) ?_
    refine V.iconst (pc := 15) (v := 0) hB dL_pass_15 rfl ?_
    exact V.retI (pc := 16) hB dL_pass_16 rfl rfl (by omega) (by omega) (Or.inl ⟨rfl, r, m1, h, rfl⟩)

theorem cwx_L_hoursUntilCrack : CWW yL_hoursUntilCrack cL_hoursUntilCrack 3 (some .int) [(0, 8, 11, 50)] 2 := ⟨WD.at 866 (by decide +kernel) rfl, wn_L, by decide +kernel⟩
set_option maxRecDepth 100000 in
set_option maxHeartbeats 1000000 in
theorem c_L_hoursUntilCrack {g : xG} (hG : GK g) {m : Mem} {P : Int32 → Mem → Prop} {PX : String → Mem → Prop} {d mc ms : Nat} (hC : CC g yX9_hoursUntilCrack (.code yX9_hoursUntilCrack cX9_hoursUntilCrack 2 (some .int)) d mc ms [.ref (ad g 0)] m (rI P) PX) (hPX : ∀ E m', PX E m' → E = "java/util/NoSuchElementException") : CC g yL_hoursUntilCrack (.codeWith yL_hoursUntilCrack cL_hoursUntilCrack 3 (some .int) [(0, 8, 11, 50)]) (d + 1) mc ms [.ref (ad g 0), .ref (ad g 373)] m (rI (fun v m2 => (v = 0 ∧ ∃ r m1, P r m1 ∧ m2 = up m1 373 0 r) ∨ (v = 1 ∧ PX "java/util/NoSuchElementException" m2))) noX := by
  refine CC.mkH hG RL rfl (by decide +kernel) rfl (Nat.le_of_ble_eq_true rfl) (fun sz B hB hX => ?_)
  show V g B 0 0 _ (hp g m) sz 0 [some (.ref (ad g 0)), some (.ref (ad g 373)), none] []
  refine V.aload_n (pc := 0) hB dL_hoursUntilCrack_0 rfl ?_
  refine V.iconst (pc := 1) (v := 0) hB dL_hoursUntilCrack_1 rfl ?_
  refine V.aload_n (pc := 2) hB dL_hoursUntilCrack_2 rfl ?_
  refine V.cv (pc := 3) hB cw_X9_hoursUntilCrack wm_L_58 wi_X9_hoursUntilCrack ws_X9_hoursUntilCrack dL_hoursUntilCrack_3 hC (hp_at (ca_Bells _)) fk_Bells rfl (by omega) (by decide) rfl (by exact Nat.le_of_ble_eq_true rfl) (by omega) (by omega) (fun E m1 sz h => ?_) (kI (fun r m1 sz h => ?_)) rfl
  · obtain rfl := hPX E m1 h
    refine VX.catch hB hX [] (0, 8, 11, 50) [] rfl (fun _ h => absurd h List.not_mem_nil) rfl (by decide) wc_L_50 wca_NS (fun a => ?_)
    refine V.astore_n (pc := 11) hB dL_hoursUntilCrack_11 (by decide) rfl ?_
    refine V.iconst (pc := 12) (v := 1) hB dL_hoursUntilCrack_12 rfl ?_
    exact V.retI (pc := 13) hB dL_hoursUntilCrack_13 rfl rfl (by omega) (by omega) (Or.inr (⟨rfl, h⟩))
  · refine V.i2l (pc := 6) hB dL_hoursUntilCrack_6 ?_
    refine V.lastM (pc := 7) hB dL_hoursUntilCrack_7 ?_
    refine V.goto (pc := 8) (tgt := 14) hB dL_hoursUntilCrack_8 (by decide) ?_
    refine V.iconst (pc := 14) (v := 0) hB dL_hoursUntilCrack_14 rfl ?_
    exact V.retI (pc := 15) hB dL_hoursUntilCrack_15 rfl rfl (by omega) (by omega) (Or.inl ⟨rfl, r, m1, h, rfl⟩)

theorem cwx_L_hoursUntilThawed : CWW yL_hoursUntilThawed cL_hoursUntilThawed 4 (some .int) [(0, 9, 12, 21), (0, 9, 15, 50)] 3 := ⟨WD.at 875 (by decide +kernel) rfl, wn_L, by decide +kernel⟩
set_option maxRecDepth 100000 in
set_option maxHeartbeats 1000000 in
theorem c_L_hoursUntilThawed {g : xG} (hG : GK g) {m : Mem} {p0 : Int32} {P : Int32 → Mem → Prop} {PX : String → Mem → Prop} {d mc ms : Nat} (hC : CC g yX9_hoursUntilThawed (.code yX9_hoursUntilThawed cX9_hoursUntilThawed 3 (some .int)) d mc ms [.ref (ad g 0), .int p0] m (rI P) PX) (hPX : ∀ E m', PX E m' → E = "java/lang/IndexOutOfBoundsException" ∨ E = "java/util/NoSuchElementException") : CC g yL_hoursUntilThawed (.codeWith yL_hoursUntilThawed cL_hoursUntilThawed 4 (some .int) [(0, 9, 12, 21), (0, 9, 15, 50)]) (d + 1) mc ms [.ref (ad g 0), .int p0, .ref (ad g 373)] m (rI (fun v m2 => (v = 0 ∧ ∃ r m1, P r m1 ∧ m2 = up m1 373 0 r) ∨ (v = 1 ∧ PX "java/lang/IndexOutOfBoundsException" m2) ∨ (v = 2 ∧ PX "java/util/NoSuchElementException" m2))) noX := by
  refine CC.mkH hG RL rfl (by decide +kernel) rfl (Nat.le_of_ble_eq_true rfl) (fun sz B hB hX => ?_)
  show V g B 0 0 _ (hp g m) sz 0 [some (.ref (ad g 0)), some (.int p0), some (.ref (ad g 373)), none] []
  refine V.aload_n (pc := 0) hB dL_hoursUntilThawed_0 rfl ?_
  refine V.iconst (pc := 1) (v := 0) hB dL_hoursUntilThawed_1 rfl ?_
  refine V.aload_n (pc := 2) hB dL_hoursUntilThawed_2 rfl ?_
  refine V.iload_n (pc := 3) hB dL_hoursUntilThawed_3 rfl ?_
  refine V.cv (pc := 4) hB cw_X9_hoursUntilThawed wm_L_62 wi_X9_hoursUntilThawed ws_X9_hoursUntilThawed dL_hoursUntilThawed_4 hC (hp_at (ca_Bells _)) fk_Bells rfl (by omega) (by decide) rfl (by exact Nat.le_of_ble_eq_true rfl) (by omega) (by omega) (fun E m1 sz h => ?_) (kI (fun r m1 sz h => ?_)) rfl
  · rcases hPX E m1 h with rfl | rfl
    · refine VX.catch hB hX [] (0, 9, 12, 21) [(0, 9, 15, 50)] rfl (fun _ h => absurd h List.not_mem_nil) rfl (by decide) wc_L_21 wca_IO (fun a => ?_)
      refine V.astore_n (pc := 12) hB dL_hoursUntilThawed_12 (by decide) rfl ?_
      refine V.iconst (pc := 13) (v := 1) hB dL_hoursUntilThawed_13 rfl ?_
      exact V.retI (pc := 14) hB dL_hoursUntilThawed_14 rfl rfl (by omega) (by omega) (Or.inr (Or.inl ⟨rfl, h⟩))
    · refine VX.catch hB hX [(0, 9, 12, 21)] (0, 9, 15, 50) [] rfl (List.forall_mem_cons.mpr ⟨⟨by decide, _, wc_L_21, ncx_NS_IO⟩, fun _ h => absurd h List.not_mem_nil⟩) rfl (by decide) wc_L_50 wca_NS (fun a => ?_)
      refine V.astore_n (pc := 15) hB dL_hoursUntilThawed_15 (by decide) rfl ?_
      refine V.iconst (pc := 16) (v := 2) hB dL_hoursUntilThawed_16 rfl ?_
      exact V.retI (pc := 17) hB dL_hoursUntilThawed_17 rfl rfl (by omega) (by omega) (Or.inr (Or.inr (⟨rfl, h⟩)))
  · refine V.i2l (pc := 7) hB dL_hoursUntilThawed_7 ?_
    refine V.lastM (pc := 8) hB dL_hoursUntilThawed_8 ?_
    refine V.goto (pc := 9) (tgt := 18) hB dL_hoursUntilThawed_9 (by decide) ?_
    refine V.iconst (pc := 18) (v := 0) hB dL_hoursUntilThawed_18 rfl ?_
    exact V.retI (pc := 19) hB dL_hoursUntilThawed_19 rfl rfl (by omega) (by omega) (Or.inl ⟨rfl, r, m1, h, rfl⟩)

theorem cwx_L_addWindow : CWW yL_addWindow cL_addWindow 5 (some .int) [(0, 10, 13, 13), (0, 10, 17, 15), (0, 10, 21, 23)] 4 := ⟨WD.at 883 (by decide +kernel) rfl, wn_L, by decide +kernel⟩
set_option maxRecDepth 100000 in
set_option maxHeartbeats 1000000 in
theorem c_L_addWindow {g : xG} (hG : GK g) {m : Mem} {p0 p1 : Int32} {P : Int32 → Mem → Prop} {PX : String → Mem → Prop} {d mc ms : Nat} (hC : CC g yX9_addWindow (.code yX9_addWindow cX9_addWindow 3 (some .int)) d mc ms [.ref (ad g 0), .int p0, .int p1] m (rI P) PX) (hPX : ∀ E m', PX E m' → E = "java/lang/IllegalArgumentException" ∨ E = "java/lang/IllegalStateException" ∨ E = "java/lang/UnsupportedOperationException") : CC g yL_addWindow (.codeWith yL_addWindow cL_addWindow 5 (some .int) [(0, 10, 13, 13), (0, 10, 17, 15), (0, 10, 21, 23)]) (d + 1) mc ms [.ref (ad g 0), .int p0, .int p1, .ref (ad g 373)] m (rI (fun v m2 => (v = 0 ∧ ∃ r m1, P r m1 ∧ m2 = up m1 373 0 r) ∨ (v = 1 ∧ PX "java/lang/IllegalArgumentException" m2) ∨ (v = 2 ∧ PX "java/lang/IllegalStateException" m2) ∨ (v = 3 ∧ PX "java/lang/UnsupportedOperationException" m2))) noX := by
  refine CC.mkH hG RL rfl (by decide +kernel) rfl (Nat.le_of_ble_eq_true rfl) (fun sz B hB hX => ?_)
  show V g B 0 0 _ (hp g m) sz 0 [some (.ref (ad g 0)), some (.int p0), some (.int p1), some (.ref (ad g 373)), none] []
  refine V.aload_n (pc := 0) hB dL_addWindow_0 rfl ?_
  refine V.iconst (pc := 1) (v := 0) hB dL_addWindow_1 rfl ?_
  refine V.aload_n (pc := 2) hB dL_addWindow_2 rfl ?_
  refine V.iload_n (pc := 3) hB dL_addWindow_3 rfl ?_
  refine V.iload_n (pc := 4) hB dL_addWindow_4 rfl ?_
  refine V.cv (pc := 5) hB cw_X9_addWindow wm_L_65 wi_X9_addWindow ws_X9_addWindow dL_addWindow_5 hC (hp_at (ca_Bells _)) fk_Bells rfl (by omega) (by decide) rfl (by exact Nat.le_of_ble_eq_true rfl) (by omega) (by omega) (fun E m1 sz h => ?_) (kI (fun r m1 sz h => ?_)) rfl
  · rcases hPX E m1 h with rfl | rfl | rfl
    · refine VX.catch hB hX [] (0, 10, 13, 13) [(0, 10, 17, 15), (0, 10, 21, 23)] rfl (fun _ h => absurd h List.not_mem_nil) rfl (by decide) wc_L_13 wca_IA (fun a => ?_)
      refine V.astore (pc := 13) hB dL_addWindow_13 (by decide) rfl ?_
      refine V.iconst (pc := 15) (v := 1) hB dL_addWindow_15 rfl ?_
      exact V.retI (pc := 16) hB dL_addWindow_16 rfl rfl (by omega) (by omega) (Or.inr (Or.inl ⟨rfl, h⟩))
    · refine VX.catch hB hX [(0, 10, 13, 13)] (0, 10, 17, 15) [(0, 10, 21, 23)] rfl (List.forall_mem_cons.mpr ⟨⟨by decide, _, wc_L_13, ncx_IS_IA⟩, fun _ h => absurd h List.not_mem_nil⟩) rfl (by decide) wc_L_15 wca_IS (fun a => ?_)
      refine V.astore (pc := 17) hB dL_addWindow_17 (by decide) rfl ?_
      refine V.iconst (pc := 19) (v := 2) hB dL_addWindow_19 rfl ?_
      exact V.retI (pc := 20) hB dL_addWindow_20 rfl rfl (by omega) (by omega) (Or.inr (Or.inr (Or.inl ⟨rfl, h⟩)))
    · refine VX.catch hB hX [(0, 10, 13, 13), (0, 10, 17, 15)] (0, 10, 21, 23) [] rfl (List.forall_mem_cons.mpr ⟨⟨by decide, _, wc_L_13, ncx_UO_IA⟩, List.forall_mem_cons.mpr ⟨⟨by decide, _, wc_L_15, ncx_UO_IS⟩, fun _ h => absurd h List.not_mem_nil⟩⟩) rfl (by decide) wc_L_23 wca_UO (fun a => ?_)
      refine V.astore (pc := 21) hB dL_addWindow_21 (by decide) rfl ?_
      refine V.iconst (pc := 23) (v := 3) hB dL_addWindow_23 rfl ?_
      exact V.retI (pc := 24) hB dL_addWindow_24 rfl rfl (by omega) (by omega) (Or.inr (Or.inr (Or.inr (⟨rfl, h⟩))))
  · refine V.i2l (pc := 8) hB dL_addWindow_8 ?_
    refine V.lastM (pc := 9) hB dL_addWindow_9 ?_
    refine V.goto (pc := 10) (tgt := 25) hB dL_addWindow_10 (by decide) ?_
    refine V.iconst (pc := 25) (v := 0) hB dL_addWindow_25 rfl ?_
    exact V.retI (pc := 26) hB dL_addWindow_26 rfl rfl (by omega) (by omega) (Or.inl ⟨rfl, r, m1, h, rfl⟩)

theorem cwx_L_removeWindow : CWW yL_removeWindow cL_removeWindow 4 (some .int) [(0, 9, 12, 21)] 3 := ⟨WD.at 899 (by decide +kernel) rfl, wn_L, by decide +kernel⟩
set_option maxRecDepth 100000 in
set_option maxHeartbeats 1000000 in
theorem c_L_removeWindow {g : xG} (hG : GK g) {m : Mem} {p0 : Int32} {P : Int32 → Mem → Prop} {PX : String → Mem → Prop} {d mc ms : Nat} (hC : CC g yX9_removeWindow (.code yX9_removeWindow cX9_removeWindow 2 (some .int)) d mc ms [.ref (ad g 0), .int p0] m (rI P) PX) (hPX : ∀ E m', PX E m' → E = "java/lang/IndexOutOfBoundsException") : CC g yL_removeWindow (.codeWith yL_removeWindow cL_removeWindow 4 (some .int) [(0, 9, 12, 21)]) (d + 1) mc ms [.ref (ad g 0), .int p0, .ref (ad g 373)] m (rI (fun v m2 => (v = 0 ∧ ∃ r m1, P r m1 ∧ m2 = up m1 373 0 r) ∨ (v = 1 ∧ PX "java/lang/IndexOutOfBoundsException" m2))) noX := by
  refine CC.mkH hG RL rfl (by decide +kernel) rfl (Nat.le_of_ble_eq_true rfl) (fun sz B hB hX => ?_)
  show V g B 0 0 _ (hp g m) sz 0 [some (.ref (ad g 0)), some (.int p0), some (.ref (ad g 373)), none] []
  refine V.aload_n (pc := 0) hB dL_removeWindow_0 rfl ?_
  refine V.iconst (pc := 1) (v := 0) hB dL_removeWindow_1 rfl ?_
  refine V.aload_n (pc := 2) hB dL_removeWindow_2 rfl ?_
  refine V.iload_n (pc := 3) hB dL_removeWindow_3 rfl ?_
  refine V.cv (pc := 4) hB cw_X9_removeWindow wm_L_68 wi_X9_removeWindow ws_X9_removeWindow dL_removeWindow_4 hC (hp_at (ca_Bells _)) fk_Bells rfl (by omega) (by decide) rfl (by exact Nat.le_of_ble_eq_true rfl) (by omega) (by omega) (fun E m1 sz h => ?_) (kI (fun r m1 sz h => ?_)) rfl
  · obtain rfl := hPX E m1 h
    refine VX.catch hB hX [] (0, 9, 12, 21) [] rfl (fun _ h => absurd h List.not_mem_nil) rfl (by decide) wc_L_21 wca_IO (fun a => ?_)
    refine V.astore_n (pc := 12) hB dL_removeWindow_12 (by decide) rfl ?_
    refine V.iconst (pc := 13) (v := 1) hB dL_removeWindow_13 rfl ?_
    exact V.retI (pc := 14) hB dL_removeWindow_14 rfl rfl (by omega) (by omega) (Or.inr (⟨rfl, h⟩))
  · refine V.i2l (pc := 7) hB dL_removeWindow_7 ?_
    refine V.lastM (pc := 8) hB dL_removeWindow_8 ?_
    refine V.goto (pc := 9) (tgt := 15) hB dL_removeWindow_9 (by decide) ?_
    refine V.iconst (pc := 15) (v := 0) hB dL_removeWindow_15 rfl ?_
    exact V.retI (pc := 16) hB dL_removeWindow_16 rfl rfl (by omega) (by omega) (Or.inl ⟨rfl, r, m1, h, rfl⟩)

theorem cwx_L_windowFirst : CWW yL_windowFirst cL_windowFirst 4 (some .int) [(0, 9, 12, 21)] 3 := ⟨WD.at 918 (by decide +kernel) rfl, wn_L, by decide +kernel⟩
set_option maxRecDepth 100000 in
set_option maxHeartbeats 1000000 in
theorem c_L_windowFirst {g : xG} (hG : GK g) {m : Mem} {p0 : Int32} {P : Int32 → Mem → Prop} {PX : String → Mem → Prop} {d mc ms : Nat} (hC : CC g yX9_windowFirst (.code yX9_windowFirst cX9_windowFirst 2 (some .int)) d mc ms [.ref (ad g 0), .int p0] m (rI P) PX) (hPX : ∀ E m', PX E m' → E = "java/lang/IndexOutOfBoundsException") : CC g yL_windowFirst (.codeWith yL_windowFirst cL_windowFirst 4 (some .int) [(0, 9, 12, 21)]) (d + 1) mc ms [.ref (ad g 0), .int p0, .ref (ad g 373)] m (rI (fun v m2 => (v = 0 ∧ ∃ r m1, P r m1 ∧ m2 = up m1 373 0 r) ∨ (v = 1 ∧ PX "java/lang/IndexOutOfBoundsException" m2))) noX := by
  refine CC.mkH hG RL rfl (by decide +kernel) rfl (Nat.le_of_ble_eq_true rfl) (fun sz B hB hX => ?_)
  show V g B 0 0 _ (hp g m) sz 0 [some (.ref (ad g 0)), some (.int p0), some (.ref (ad g 373)), none] []
  refine V.aload_n (pc := 0) hB dL_windowFirst_0 rfl ?_
  refine V.iconst (pc := 1) (v := 0) hB dL_windowFirst_1 rfl ?_
  refine V.aload_n (pc := 2) hB dL_windowFirst_2 rfl ?_
  refine V.iload_n (pc := 3) hB dL_windowFirst_3 rfl ?_
  refine V.cv (pc := 4) hB cw_X9_windowFirst wm_L_71 wi_X9_windowFirst ws_X9_windowFirst dL_windowFirst_4 hC (hp_at (ca_Bells _)) fk_Bells rfl (by omega) (by decide) rfl (by exact Nat.le_of_ble_eq_true rfl) (by omega) (by omega) (fun E m1 sz h => ?_) (kI (fun r m1 sz h => ?_)) rfl
  · obtain rfl := hPX E m1 h
    refine VX.catch hB hX [] (0, 9, 12, 21) [] rfl (fun _ h => absurd h List.not_mem_nil) rfl (by decide) wc_L_21 wca_IO (fun a => ?_)
    refine V.astore_n (pc := 12) hB dL_windowFirst_12 (by decide) rfl ?_
    refine V.iconst (pc := 13) (v := 1) hB dL_windowFirst_13 rfl ?_
    exact V.retI (pc := 14) hB dL_windowFirst_14 rfl rfl (by omega) (by omega) (Or.inr (⟨rfl, h⟩))
  · refine V.i2l (pc := 7) hB dL_windowFirst_7 ?_
    refine V.lastM (pc := 8) hB dL_windowFirst_8 ?_
    refine V.goto (pc := 9) (tgt := 15) hB dL_windowFirst_9 (by decide) ?_
    refine V.iconst (pc := 15) (v := 0) hB dL_windowFirst_15 rfl ?_
    exact V.retI (pc := 16) hB dL_windowFirst_16 rfl rfl (by omega) (by omega) (Or.inl ⟨rfl, r, m1, h, rfl⟩)

theorem cwx_L_windowLast : CWW yL_windowLast cL_windowLast 4 (some .int) [(0, 9, 12, 21)] 3 := ⟨WD.at 925 (by decide +kernel) rfl, wn_L, by decide +kernel⟩
set_option maxRecDepth 100000 in
set_option maxHeartbeats 1000000 in
theorem c_L_windowLast {g : xG} (hG : GK g) {m : Mem} {p0 : Int32} {P : Int32 → Mem → Prop} {PX : String → Mem → Prop} {d mc ms : Nat} (hC : CC g yX9_windowLast (.code yX9_windowLast cX9_windowLast 2 (some .int)) d mc ms [.ref (ad g 0), .int p0] m (rI P) PX) (hPX : ∀ E m', PX E m' → E = "java/lang/IndexOutOfBoundsException") : CC g yL_windowLast (.codeWith yL_windowLast cL_windowLast 4 (some .int) [(0, 9, 12, 21)]) (d + 1) mc ms [.ref (ad g 0), .int p0, .ref (ad g 373)] m (rI (fun v m2 => (v = 0 ∧ ∃ r m1, P r m1 ∧ m2 = up m1 373 0 r) ∨ (v = 1 ∧ PX "java/lang/IndexOutOfBoundsException" m2))) noX := by
  refine CC.mkH hG RL rfl (by decide +kernel) rfl (Nat.le_of_ble_eq_true rfl) (fun sz B hB hX => ?_)
  show V g B 0 0 _ (hp g m) sz 0 [some (.ref (ad g 0)), some (.int p0), some (.ref (ad g 373)), none] []
  refine V.aload_n (pc := 0) hB dL_windowLast_0 rfl ?_
  refine V.iconst (pc := 1) (v := 0) hB dL_windowLast_1 rfl ?_
  refine V.aload_n (pc := 2) hB dL_windowLast_2 rfl ?_
  refine V.iload_n (pc := 3) hB dL_windowLast_3 rfl ?_
  refine V.cv (pc := 4) hB cw_X9_windowLast wm_L_74 wi_X9_windowLast ws_X9_windowLast dL_windowLast_4 hC (hp_at (ca_Bells _)) fk_Bells rfl (by omega) (by decide) rfl (by exact Nat.le_of_ble_eq_true rfl) (by omega) (by omega) (fun E m1 sz h => ?_) (kI (fun r m1 sz h => ?_)) rfl
  · obtain rfl := hPX E m1 h
    refine VX.catch hB hX [] (0, 9, 12, 21) [] rfl (fun _ h => absurd h List.not_mem_nil) rfl (by decide) wc_L_21 wca_IO (fun a => ?_)
    refine V.astore_n (pc := 12) hB dL_windowLast_12 (by decide) rfl ?_
    refine V.iconst (pc := 13) (v := 1) hB dL_windowLast_13 rfl ?_
    exact V.retI (pc := 14) hB dL_windowLast_14 rfl rfl (by omega) (by omega) (Or.inr (⟨rfl, h⟩))
  · refine V.i2l (pc := 7) hB dL_windowLast_7 ?_
    refine V.lastM (pc := 8) hB dL_windowLast_8 ?_
    refine V.goto (pc := 9) (tgt := 15) hB dL_windowLast_9 (by decide) ?_
    refine V.iconst (pc := 15) (v := 0) hB dL_windowLast_15 rfl ?_
    exact V.retI (pc := 16) hB dL_windowLast_16 rfl rfl (by omega) (by omega) (Or.inl ⟨rfl, r, m1, h, rfl⟩)

theorem cwx_L_strike : CWW yL_strike cL_strike 5 (some .int) [(0, 10, 13, 21), (0, 10, 17, 23)] 4 := ⟨WD.at 932 (by decide +kernel) rfl, wn_L, by decide +kernel⟩
set_option maxRecDepth 100000 in
set_option maxHeartbeats 1000000 in
theorem c_L_strike {g : xG} (hG : GK g) {m : Mem} {p0 p1 : Int32} {P : Int32 → Mem → Prop} {PX : String → Mem → Prop} {d mc ms : Nat} (hC : CC g yX9_strike (.code yX9_strike cX9_strike 3 (some .int)) d mc ms [.ref (ad g 0), .int p0, .int p1] m (rI P) PX) (hPX : ∀ E m', PX E m' → E = "java/lang/IndexOutOfBoundsException" ∨ E = "java/lang/UnsupportedOperationException") : CC g yL_strike (.codeWith yL_strike cL_strike 5 (some .int) [(0, 10, 13, 21), (0, 10, 17, 23)]) (d + 1) mc ms [.ref (ad g 0), .int p0, .int p1, .ref (ad g 373)] m (rI (fun v m2 => (v = 0 ∧ ∃ r m1, P r m1 ∧ m2 = up m1 373 0 r) ∨ (v = 1 ∧ PX "java/lang/IndexOutOfBoundsException" m2) ∨ (v = 2 ∧ PX "java/lang/UnsupportedOperationException" m2))) noX := by
  refine CC.mkH hG RL rfl (by decide +kernel) rfl (Nat.le_of_ble_eq_true rfl) (fun sz B hB hX => ?_)
  show V g B 0 0 _ (hp g m) sz 0 [some (.ref (ad g 0)), some (.int p0), some (.int p1), some (.ref (ad g 373)), none] []
  refine V.aload_n (pc := 0) hB dL_strike_0 rfl ?_
  refine V.iconst (pc := 1) (v := 0) hB dL_strike_1 rfl ?_
  refine V.aload_n (pc := 2) hB dL_strike_2 rfl ?_
  refine V.iload_n (pc := 3) hB dL_strike_3 rfl ?_
  refine V.iload_n (pc := 4) hB dL_strike_4 rfl ?_
  refine V.cv (pc := 5) hB cw_X9_strike wm_L_77 wi_X9_strike ws_X9_strike dL_strike_5 hC (hp_at (ca_Bells _)) fk_Bells rfl (by omega) (by decide) rfl (by exact Nat.le_of_ble_eq_true rfl) (by omega) (by omega) (fun E m1 sz h => ?_) (kI (fun r m1 sz h => ?_)) rfl
  · rcases hPX E m1 h with rfl | rfl
    · refine VX.catch hB hX [] (0, 10, 13, 21) [(0, 10, 17, 23)] rfl (fun _ h => absurd h List.not_mem_nil) rfl (by decide) wc_L_21 wca_IO (fun a => ?_)
      refine V.astore (pc := 13) hB dL_strike_13 (by decide) rfl ?_
      refine V.iconst (pc := 15) (v := 1) hB dL_strike_15 rfl ?_
      exact V.retI (pc := 16) hB dL_strike_16 rfl rfl (by omega) (by omega) (Or.inr (Or.inl ⟨rfl, h⟩))
    · refine VX.catch hB hX [(0, 10, 13, 21)] (0, 10, 17, 23) [] rfl (List.forall_mem_cons.mpr ⟨⟨by decide, _, wc_L_21, ncx_UO_IO⟩, fun _ h => absurd h List.not_mem_nil⟩) rfl (by decide) wc_L_23 wca_UO (fun a => ?_)
      refine V.astore (pc := 17) hB dL_strike_17 (by decide) rfl ?_
      refine V.iconst (pc := 19) (v := 2) hB dL_strike_19 rfl ?_
      exact V.retI (pc := 20) hB dL_strike_20 rfl rfl (by omega) (by omega) (Or.inr (Or.inr (⟨rfl, h⟩)))
  · refine V.i2l (pc := 8) hB dL_strike_8 ?_
    refine V.lastM (pc := 9) hB dL_strike_9 ?_
    refine V.goto (pc := 10) (tgt := 21) hB dL_strike_10 (by decide) ?_
    refine V.iconst (pc := 21) (v := 0) hB dL_strike_21 rfl ?_
    exact V.retI (pc := 22) hB dL_strike_22 rfl rfl (by omega) (by omega) (Or.inl ⟨rfl, r, m1, h, rfl⟩)

theorem cwx_L_pitch : CWW yL_pitch cL_pitch 5 (some .int) [(0, 10, 13, 21), (0, 10, 17, 23)] 4 := ⟨WD.at 950 (by decide +kernel) rfl, wn_L, by decide +kernel⟩
set_option maxRecDepth 100000 in
set_option maxHeartbeats 1000000 in
theorem c_L_pitch {g : xG} (hG : GK g) {m : Mem} {p0 p1 : Int32} {P : Int32 → Mem → Prop} {PX : String → Mem → Prop} {d mc ms : Nat} (hC : CC g yX9_pitch (.code yX9_pitch cX9_pitch 3 (some .int)) d mc ms [.ref (ad g 0), .int p0, .int p1] m (rI P) PX) (hPX : ∀ E m', PX E m' → E = "java/lang/IndexOutOfBoundsException" ∨ E = "java/lang/UnsupportedOperationException") : CC g yL_pitch (.codeWith yL_pitch cL_pitch 5 (some .int) [(0, 10, 13, 21), (0, 10, 17, 23)]) (d + 1) mc ms [.ref (ad g 0), .int p0, .int p1, .ref (ad g 373)] m (rI (fun v m2 => (v = 0 ∧ ∃ r m1, P r m1 ∧ m2 = up m1 373 0 r) ∨ (v = 1 ∧ PX "java/lang/IndexOutOfBoundsException" m2) ∨ (v = 2 ∧ PX "java/lang/UnsupportedOperationException" m2))) noX := by
  refine CC.mkH hG RL rfl (by decide +kernel) rfl (Nat.le_of_ble_eq_true rfl) (fun sz B hB hX => ?_)
  show V g B 0 0 _ (hp g m) sz 0 [some (.ref (ad g 0)), some (.int p0), some (.int p1), some (.ref (ad g 373)), none] []
  refine V.aload_n (pc := 0) hB dL_pitch_0 rfl ?_
  refine V.iconst (pc := 1) (v := 0) hB dL_pitch_1 rfl ?_
  refine V.aload_n (pc := 2) hB dL_pitch_2 rfl ?_
  refine V.iload_n (pc := 3) hB dL_pitch_3 rfl ?_
  refine V.iload_n (pc := 4) hB dL_pitch_4 rfl ?_
  refine V.cv (pc := 5) hB cw_X9_pitch wm_L_80 wi_X9_pitch ws_X9_pitch dL_pitch_5 hC (hp_at (ca_Bells _)) fk_Bells rfl (by omega) (by decide) rfl (by exact Nat.le_of_ble_eq_true rfl) (by omega) (by omega) (fun E m1 sz h => ?_) (kI (fun r m1 sz h => ?_)) rfl
  · rcases hPX E m1 h with rfl | rfl
    · refine VX.catch hB hX [] (0, 10, 13, 21) [(0, 10, 17, 23)] rfl (fun _ h => absurd h List.not_mem_nil) rfl (by decide) wc_L_21 wca_IO (fun a => ?_)
      refine V.astore (pc := 13) hB dL_pitch_13 (by decide) rfl ?_
      refine V.iconst (pc := 15) (v := 1) hB dL_pitch_15 rfl ?_
      exact V.retI (pc := 16) hB dL_pitch_16 rfl rfl (by omega) (by omega) (Or.inr (Or.inl ⟨rfl, h⟩))
    · refine VX.catch hB hX [(0, 10, 13, 21)] (0, 10, 17, 23) [] rfl (List.forall_mem_cons.mpr ⟨⟨by decide, _, wc_L_21, ncx_UO_IO⟩, fun _ h => absurd h List.not_mem_nil⟩) rfl (by decide) wc_L_23 wca_UO (fun a => ?_)
      refine V.astore (pc := 17) hB dL_pitch_17 (by decide) rfl ?_
      refine V.iconst (pc := 19) (v := 2) hB dL_pitch_19 rfl ?_
      exact V.retI (pc := 20) hB dL_pitch_20 rfl rfl (by omega) (by omega) (Or.inr (Or.inr (⟨rfl, h⟩)))
  · refine V.i2l (pc := 8) hB dL_pitch_8 ?_
    refine V.lastM (pc := 9) hB dL_pitch_9 ?_
    refine V.goto (pc := 10) (tgt := 21) hB dL_pitch_10 (by decide) ?_
    refine V.iconst (pc := 21) (v := 0) hB dL_pitch_21 rfl ?_
    exact V.retI (pc := 22) hB dL_pitch_22 rfl rfl (by omega) (by omega) (Or.inl ⟨rfl, r, m1, h, rfl⟩)

theorem cwx_L_pealKind : CWW yL_pealKind cL_pealKind 4 (some .int) [(0, 9, 12, 50)] 3 := ⟨WD.at 958 (by decide +kernel) rfl, wn_L, by decide +kernel⟩
set_option maxRecDepth 100000 in
set_option maxHeartbeats 1000000 in
theorem c_L_pealKind {g : xG} (hG : GK g) {m : Mem} {p0 : Int32} {P : Int32 → Mem → Prop} {PX : String → Mem → Prop} {d mc ms : Nat} (hC : CC g yX9_pealKind (.code yX9_pealKind cX9_pealKind 2 (some .char)) d mc ms [.ref (ad g 0), .int p0] m (rI P) PX) (hPX : ∀ E m', PX E m' → E = "java/util/NoSuchElementException") : CC g yL_pealKind (.codeWith yL_pealKind cL_pealKind 4 (some .int) [(0, 9, 12, 50)]) (d + 1) mc ms [.ref (ad g 0), .int p0, .ref (ad g 373)] m (rI (fun v m2 => (v = 0 ∧ ∃ r m1, P r m1 ∧ m2 = up m1 373 0 r) ∨ (v = 1 ∧ PX "java/util/NoSuchElementException" m2))) noX := by
  refine CC.mkH hG RL rfl (by decide +kernel) rfl (Nat.le_of_ble_eq_true rfl) (fun sz B hB hX => ?_)
  show V g B 0 0 _ (hp g m) sz 0 [some (.ref (ad g 0)), some (.int p0), some (.ref (ad g 373)), none] []
  refine V.aload_n (pc := 0) hB dL_pealKind_0 rfl ?_
  refine V.iconst (pc := 1) (v := 0) hB dL_pealKind_1 rfl ?_
  refine V.aload_n (pc := 2) hB dL_pealKind_2 rfl ?_
  refine V.iload_n (pc := 3) hB dL_pealKind_3 rfl ?_
  refine V.cv (pc := 4) hB cw_X9_pealKind wm_L_83 wi_X9_pealKind ws_X9_pealKind dL_pealKind_4 hC (hp_at (ca_Bells _)) fk_Bells rfl (by omega) (by decide) rfl (by exact Nat.le_of_ble_eq_true rfl) (by omega) (by omega) (fun E m1 sz h => ?_) (kI (fun r m1 sz h => ?_)) rfl
  · obtain rfl := hPX E m1 h
    refine VX.catch hB hX [] (0, 9, 12, 50) [] rfl (fun _ h => absurd h List.not_mem_nil) rfl (by decide) wc_L_50 wca_NS (fun a => ?_)
    refine V.astore_n (pc := 12) hB dL_pealKind_12 (by decide) rfl ?_
    refine V.iconst (pc := 13) (v := 1) hB dL_pealKind_13 rfl ?_
    exact V.retI (pc := 14) hB dL_pealKind_14 rfl rfl (by omega) (by omega) (Or.inr (⟨rfl, h⟩))
  · refine V.i2l (pc := 7) hB dL_pealKind_7 ?_
    refine V.lastM (pc := 8) hB dL_pealKind_8 ?_
    refine V.goto (pc := 9) (tgt := 15) hB dL_pealKind_9 (by decide) ?_
    refine V.iconst (pc := 15) (v := 0) hB dL_pealKind_15 rfl ?_
    exact V.retI (pc := 16) hB dL_pealKind_16 rfl rfl (by omega) (by omega) (Or.inl ⟨rfl, r, m1, h, rfl⟩)

theorem cwx_L_pealLake : CWW yL_pealLake cL_pealLake 4 (some .int) [(0, 9, 12, 50)] 3 := ⟨WD.at 977 (by decide +kernel) rfl, wn_L, by decide +kernel⟩
set_option maxRecDepth 100000 in
set_option maxHeartbeats 1000000 in
theorem c_L_pealLake {g : xG} (hG : GK g) {m : Mem} {p0 : Int32} {P : Int32 → Mem → Prop} {PX : String → Mem → Prop} {d mc ms : Nat} (hC : CC g yX9_pealLake (.code yX9_pealLake cX9_pealLake 2 (some .int)) d mc ms [.ref (ad g 0), .int p0] m (rI P) PX) (hPX : ∀ E m', PX E m' → E = "java/util/NoSuchElementException") : CC g yL_pealLake (.codeWith yL_pealLake cL_pealLake 4 (some .int) [(0, 9, 12, 50)]) (d + 1) mc ms [.ref (ad g 0), .int p0, .ref (ad g 373)] m (rI (fun v m2 => (v = 0 ∧ ∃ r m1, P r m1 ∧ m2 = up m1 373 0 r) ∨ (v = 1 ∧ PX "java/util/NoSuchElementException" m2))) noX := by
  refine CC.mkH hG RL rfl (by decide +kernel) rfl (Nat.le_of_ble_eq_true rfl) (fun sz B hB hX => ?_)
  show V g B 0 0 _ (hp g m) sz 0 [some (.ref (ad g 0)), some (.int p0), some (.ref (ad g 373)), none] []
  refine V.aload_n (pc := 0) hB dL_pealLake_0 rfl ?_
  refine V.iconst (pc := 1) (v := 0) hB dL_pealLake_1 rfl ?_
  refine V.aload_n (pc := 2) hB dL_pealLake_2 rfl ?_
  refine V.iload_n (pc := 3) hB dL_pealLake_3 rfl ?_
  refine V.cv (pc := 4) hB cw_X9_pealLake wm_L_87 wi_X9_pealLake ws_X9_pealLake dL_pealLake_4 hC (hp_at (ca_Bells _)) fk_Bells rfl (by omega) (by decide) rfl (by exact Nat.le_of_ble_eq_true rfl) (by omega) (by omega) (fun E m1 sz h => ?_) (kI (fun r m1 sz h => ?_)) rfl
  · obtain rfl := hPX E m1 h
    refine VX.catch hB hX [] (0, 9, 12, 50) [] rfl (fun _ h => absurd h List.not_mem_nil) rfl (by decide) wc_L_50 wca_NS (fun a => ?_)
    refine V.astore_n (pc := 12) hB dL_pealLake_12 (by decide) rfl ?_
    refine V.iconst (pc := 13) (v := 1) hB dL_pealLake_13 rfl ?_
    exact V.retI (pc := 14) hB dL_pealLake_14 rfl rfl (by omega) (by omega) (Or.inr (⟨rfl, h⟩))
  · refine V.i2l (pc := 7) hB dL_pealLake_7 ?_
    refine V.lastM (pc := 8) hB dL_pealLake_8 ?_
    refine V.goto (pc := 9) (tgt := 15) hB dL_pealLake_9 (by decide) ?_
    refine V.iconst (pc := 15) (v := 0) hB dL_pealLake_15 rfl ?_
    exact V.retI (pc := 16) hB dL_pealLake_16 rfl rfl (by omega) (by omega) (Or.inl ⟨rfl, r, m1, h, rfl⟩)

theorem cwx_L_pealPitch : CWW yL_pealPitch cL_pealPitch 4 (some .int) [(0, 9, 12, 50)] 3 := ⟨WD.at 984 (by decide +kernel) rfl, wn_L, by decide +kernel⟩
set_option maxRecDepth 100000 in
set_option maxHeartbeats 1000000 in
theorem c_L_pealPitch {g : xG} (hG : GK g) {m : Mem} {p0 : Int32} {P : Int32 → Mem → Prop} {PX : String → Mem → Prop} {d mc ms : Nat} (hC : CC g yX9_pealPitch (.code yX9_pealPitch cX9_pealPitch 2 (some .int)) d mc ms [.ref (ad g 0), .int p0] m (rI P) PX) (hPX : ∀ E m', PX E m' → E = "java/util/NoSuchElementException") : CC g yL_pealPitch (.codeWith yL_pealPitch cL_pealPitch 4 (some .int) [(0, 9, 12, 50)]) (d + 1) mc ms [.ref (ad g 0), .int p0, .ref (ad g 373)] m (rI (fun v m2 => (v = 0 ∧ ∃ r m1, P r m1 ∧ m2 = up m1 373 0 r) ∨ (v = 1 ∧ PX "java/util/NoSuchElementException" m2))) noX := by
  refine CC.mkH hG RL rfl (by decide +kernel) rfl (Nat.le_of_ble_eq_true rfl) (fun sz B hB hX => ?_)
  show V g B 0 0 _ (hp g m) sz 0 [some (.ref (ad g 0)), some (.int p0), some (.ref (ad g 373)), none] []
  refine V.aload_n (pc := 0) hB dL_pealPitch_0 rfl ?_
  refine V.iconst (pc := 1) (v := 0) hB dL_pealPitch_1 rfl ?_
  refine V.aload_n (pc := 2) hB dL_pealPitch_2 rfl ?_
  refine V.iload_n (pc := 3) hB dL_pealPitch_3 rfl ?_
  refine V.cv (pc := 4) hB cw_X9_pealPitch wm_L_90 wi_X9_pealPitch ws_X9_pealPitch dL_pealPitch_4 hC (hp_at (ca_Bells _)) fk_Bells rfl (by omega) (by decide) rfl (by exact Nat.le_of_ble_eq_true rfl) (by omega) (by omega) (fun E m1 sz h => ?_) (kI (fun r m1 sz h => ?_)) rfl
  · obtain rfl := hPX E m1 h
    refine VX.catch hB hX [] (0, 9, 12, 50) [] rfl (fun _ h => absurd h List.not_mem_nil) rfl (by decide) wc_L_50 wca_NS (fun a => ?_)
    refine V.astore_n (pc := 12) hB dL_pealPitch_12 (by decide) rfl ?_
    refine V.iconst (pc := 13) (v := 1) hB dL_pealPitch_13 rfl ?_
    exact V.retI (pc := 14) hB dL_pealPitch_14 rfl rfl (by omega) (by omega) (Or.inr (⟨rfl, h⟩))
  · refine V.i2l (pc := 7) hB dL_pealPitch_7 ?_
    refine V.lastM (pc := 8) hB dL_pealPitch_8 ?_
    refine V.goto (pc := 9) (tgt := 15) hB dL_pealPitch_9 (by decide) ?_
    refine V.iconst (pc := 15) (v := 0) hB dL_pealPitch_15 rfl ?_
    exact V.retI (pc := 16) hB dL_pealPitch_16 rfl rfl (by omega) (by omega) (Or.inl ⟨rfl, r, m1, h, rfl⟩)

theorem cwx_L_pealHour : CWW yL_pealHour cL_pealHour 4 (some .int) [(0, 9, 12, 50)] 3 := ⟨WD.at 991 (by decide +kernel) rfl, wn_L, by decide +kernel⟩
set_option maxRecDepth 100000 in
set_option maxHeartbeats 1000000 in
theorem c_L_pealHour {g : xG} (hG : GK g) {m : Mem} {p0 : Int32} {P : Int32 → Mem → Prop} {PX : String → Mem → Prop} {d mc ms : Nat} (hC : CC g yX9_pealHour (.code yX9_pealHour cX9_pealHour 2 (some .int)) d mc ms [.ref (ad g 0), .int p0] m (rI P) PX) (hPX : ∀ E m', PX E m' → E = "java/util/NoSuchElementException") : CC g yL_pealHour (.codeWith yL_pealHour cL_pealHour 4 (some .int) [(0, 9, 12, 50)]) (d + 1) mc ms [.ref (ad g 0), .int p0, .ref (ad g 373)] m (rI (fun v m2 => (v = 0 ∧ ∃ r m1, P r m1 ∧ m2 = up m1 373 0 r) ∨ (v = 1 ∧ PX "java/util/NoSuchElementException" m2))) noX := by
  refine CC.mkH hG RL rfl (by decide +kernel) rfl (Nat.le_of_ble_eq_true rfl) (fun sz B hB hX => ?_)
  show V g B 0 0 _ (hp g m) sz 0 [some (.ref (ad g 0)), some (.int p0), some (.ref (ad g 373)), none] []
  refine V.aload_n (pc := 0) hB dL_pealHour_0 rfl ?_
  refine V.iconst (pc := 1) (v := 0) hB dL_pealHour_1 rfl ?_
  refine V.aload_n (pc := 2) hB dL_pealHour_2 rfl ?_
  refine V.iload_n (pc := 3) hB dL_pealHour_3 rfl ?_
  refine V.cv (pc := 4) hB cw_X9_pealHour wm_L_93 wi_X9_pealHour ws_X9_pealHour dL_pealHour_4 hC (hp_at (ca_Bells _)) fk_Bells rfl (by omega) (by decide) rfl (by exact Nat.le_of_ble_eq_true rfl) (by omega) (by omega) (fun E m1 sz h => ?_) (kI (fun r m1 sz h => ?_)) rfl
  · obtain rfl := hPX E m1 h
    refine VX.catch hB hX [] (0, 9, 12, 50) [] rfl (fun _ h => absurd h List.not_mem_nil) rfl (by decide) wc_L_50 wca_NS (fun a => ?_)
    refine V.astore_n (pc := 12) hB dL_pealHour_12 (by decide) rfl ?_
    refine V.iconst (pc := 13) (v := 1) hB dL_pealHour_13 rfl ?_
    exact V.retI (pc := 14) hB dL_pealHour_14 rfl rfl (by omega) (by omega) (Or.inr (⟨rfl, h⟩))
  · refine V.i2l (pc := 7) hB dL_pealHour_7 ?_
    refine V.lastM (pc := 8) hB dL_pealHour_8 ?_
    refine V.goto (pc := 9) (tgt := 15) hB dL_pealHour_9 (by decide) ?_
    refine V.iconst (pc := 15) (v := 0) hB dL_pealHour_15 rfl ?_
    exact V.retI (pc := 16) hB dL_pealHour_16 rfl rfl (by omega) (by omega) (Or.inl ⟨rfl, r, m1, h, rfl⟩)

theorem cwx_L_cracksOf : CWW yL_cracksOf cL_cracksOf 4 (some .int) [(0, 9, 12, 21)] 3 := ⟨WD.at 998 (by decide +kernel) rfl, wn_L, by decide +kernel⟩
set_option maxRecDepth 100000 in
set_option maxHeartbeats 1000000 in
theorem c_L_cracksOf {g : xG} (hG : GK g) {m : Mem} {p0 : Int32} {P : Int32 → Mem → Prop} {PX : String → Mem → Prop} {d mc ms : Nat} (hC : CC g yX9_cracksOf (.code yX9_cracksOf cX9_cracksOf 2 (some .int)) d mc ms [.ref (ad g 0), .int p0] m (rI P) PX) (hPX : ∀ E m', PX E m' → E = "java/lang/IndexOutOfBoundsException") : CC g yL_cracksOf (.codeWith yL_cracksOf cL_cracksOf 4 (some .int) [(0, 9, 12, 21)]) (d + 1) mc ms [.ref (ad g 0), .int p0, .ref (ad g 373)] m (rI (fun v m2 => (v = 0 ∧ ∃ r m1, P r m1 ∧ m2 = up m1 373 0 r) ∨ (v = 1 ∧ PX "java/lang/IndexOutOfBoundsException" m2))) noX := by
  refine CC.mkH hG RL rfl (by decide +kernel) rfl (Nat.le_of_ble_eq_true rfl) (fun sz B hB hX => ?_)
  show V g B 0 0 _ (hp g m) sz 0 [some (.ref (ad g 0)), some (.int p0), some (.ref (ad g 373)), none] []
  refine V.aload_n (pc := 0) hB dL_cracksOf_0 rfl ?_
  refine V.iconst (pc := 1) (v := 0) hB dL_cracksOf_1 rfl ?_
  refine V.aload_n (pc := 2) hB dL_cracksOf_2 rfl ?_
  refine V.iload_n (pc := 3) hB dL_cracksOf_3 rfl ?_
  refine V.cv (pc := 4) hB cw_X9_cracksOf wm_L_96 wi_X9_cracksOf ws_X9_cracksOf dL_cracksOf_4 hC (hp_at (ca_Bells _)) fk_Bells rfl (by omega) (by decide) rfl (by exact Nat.le_of_ble_eq_true rfl) (by omega) (by omega) (fun E m1 sz h => ?_) (kI (fun r m1 sz h => ?_)) rfl
  · obtain rfl := hPX E m1 h
    refine VX.catch hB hX [] (0, 9, 12, 21) [] rfl (fun _ h => absurd h List.not_mem_nil) rfl (by decide) wc_L_21 wca_IO (fun a => ?_)
    refine V.astore_n (pc := 12) hB dL_cracksOf_12 (by decide) rfl ?_
    refine V.iconst (pc := 13) (v := 1) hB dL_cracksOf_13 rfl ?_
    exact V.retI (pc := 14) hB dL_cracksOf_14 rfl rfl (by omega) (by omega) (Or.inr (⟨rfl, h⟩))
  · refine V.i2l (pc := 7) hB dL_cracksOf_7 ?_
    refine V.lastM (pc := 8) hB dL_cracksOf_8 ?_
    refine V.goto (pc := 9) (tgt := 15) hB dL_cracksOf_9 (by decide) ?_
    refine V.iconst (pc := 15) (v := 0) hB dL_cracksOf_15 rfl ?_
    exact V.retI (pc := 16) hB dL_cracksOf_16 rfl rfl (by omega) (by omega) (Or.inl ⟨rfl, r, m1, h, rfl⟩)

theorem cwx_L_lakeAtRank : CWW yL_lakeAtRank cL_lakeAtRank 4 (some .int) [(0, 9, 12, 50)] 3 := ⟨WD.at 1005 (by decide +kernel) rfl, wn_L, by decide +kernel⟩
set_option maxRecDepth 100000 in
set_option maxHeartbeats 1000000 in
theorem c_L_lakeAtRank {g : xG} (hG : GK g) {m : Mem} {p0 : Int32} {P : Int32 → Mem → Prop} {PX : String → Mem → Prop} {d mc ms : Nat} (hC : CC g yX9_lakeAtRank (.code yX9_lakeAtRank cX9_lakeAtRank 3 (some .int)) d mc ms [.ref (ad g 0), .int p0] m (rI P) PX) (hPX : ∀ E m', PX E m' → E = "java/util/NoSuchElementException") : CC g yL_lakeAtRank (.codeWith yL_lakeAtRank cL_lakeAtRank 4 (some .int) [(0, 9, 12, 50)]) (d + 1) mc ms [.ref (ad g 0), .int p0, .ref (ad g 373)] m (rI (fun v m2 => (v = 0 ∧ ∃ r m1, P r m1 ∧ m2 = up m1 373 0 r) ∨ (v = 1 ∧ PX "java/util/NoSuchElementException" m2))) noX := by
  refine CC.mkH hG RL rfl (by decide +kernel) rfl (Nat.le_of_ble_eq_true rfl) (fun sz B hB hX => ?_)
  show V g B 0 0 _ (hp g m) sz 0 [some (.ref (ad g 0)), some (.int p0), some (.ref (ad g 373)), none] []
  refine V.aload_n (pc := 0) hB dL_lakeAtRank_0 rfl ?_
  refine V.iconst (pc := 1) (v := 0) hB dL_lakeAtRank_1 rfl ?_
  refine V.aload_n (pc := 2) hB dL_lakeAtRank_2 rfl ?_
  refine V.iload_n (pc := 3) hB dL_lakeAtRank_3 rfl ?_
  refine V.cv (pc := 4) hB cw_X9_lakeAtRank wm_L_99 wi_X9_lakeAtRank ws_X9_lakeAtRank dL_lakeAtRank_4 hC (hp_at (ca_Bells _)) fk_Bells rfl (by omega) (by decide) rfl (by exact Nat.le_of_ble_eq_true rfl) (by omega) (by omega) (fun E m1 sz h => ?_) (kI (fun r m1 sz h => ?_)) rfl
  · obtain rfl := hPX E m1 h
    refine VX.catch hB hX [] (0, 9, 12, 50) [] rfl (fun _ h => absurd h List.not_mem_nil) rfl (by decide) wc_L_50 wca_NS (fun a => ?_)
    refine V.astore_n (pc := 12) hB dL_lakeAtRank_12 (by decide) rfl ?_
    refine V.iconst (pc := 13) (v := 1) hB dL_lakeAtRank_13 rfl ?_
    exact V.retI (pc := 14) hB dL_lakeAtRank_14 rfl rfl (by omega) (by omega) (Or.inr (⟨rfl, h⟩))
  · refine V.i2l (pc := 7) hB dL_lakeAtRank_7 ?_
    refine V.lastM (pc := 8) hB dL_lakeAtRank_8 ?_
    refine V.goto (pc := 9) (tgt := 15) hB dL_lakeAtRank_9 (by decide) ?_
    refine V.iconst (pc := 15) (v := 0) hB dL_lakeAtRank_15 rfl ?_
    exact V.retI (pc := 16) hB dL_lakeAtRank_16 rfl rfl (by omega) (by omega) (Or.inl ⟨rfl, r, m1, h, rfl⟩)

theorem cwx_L_append : CWW yL_append cL_append 4 (some .int) [(0, 9, 12, 13), (0, 9, 15, 15)] 3 := ⟨WD.at 1025 (by decide +kernel) rfl, wn_L, by decide +kernel⟩
set_option maxRecDepth 100000 in
set_option maxHeartbeats 1000000 in
theorem c_L_append {g : xG} (hG : GK g) {m : Mem} {p0 : Int32} {P : Int32 → Mem → Prop} {PX : String → Mem → Prop} {d mc ms : Nat} (hC : CC g yX9_append (.code yX9_append cX9_append 2 (some .int)) d mc ms [.ref (ad g 0), .int p0] m (rI P) PX) (hPX : ∀ E m', PX E m' → E = "java/lang/IllegalArgumentException" ∨ E = "java/lang/IllegalStateException") : CC g yL_append (.codeWith yL_append cL_append 4 (some .int) [(0, 9, 12, 13), (0, 9, 15, 15)]) (d + 1) mc ms [.ref (ad g 0), .int p0, .ref (ad g 373)] m (rI (fun v m2 => (v = 0 ∧ ∃ r m1, P r m1 ∧ m2 = up m1 373 0 r) ∨ (v = 1 ∧ PX "java/lang/IllegalArgumentException" m2) ∨ (v = 2 ∧ PX "java/lang/IllegalStateException" m2))) noX := by
  refine CC.mkH hG RL rfl (by decide +kernel) rfl (Nat.le_of_ble_eq_true rfl) (fun sz B hB hX => ?_)
  show V g B 0 0 _ (hp g m) sz 0 [some (.ref (ad g 0)), some (.int p0), some (.ref (ad g 373)), none] []
  refine V.aload_n (pc := 0) hB dL_append_0 rfl ?_
  refine V.iconst (pc := 1) (v := 0) hB dL_append_1 rfl ?_
  refine V.aload_n (pc := 2) hB dL_append_2 rfl ?_
  refine V.iload_n (pc := 3) hB dL_append_3 rfl ?_
  refine V.cv (pc := 4) hB cw_X9_append wm_L_102 wi_X9_append ws_X9_append dL_append_4 hC (hp_at (ca_Bells _)) fk_Bells rfl (by omega) (by decide) rfl (by exact Nat.le_of_ble_eq_true rfl) (by omega) (by omega) (fun E m1 sz h => ?_) (kI (fun r m1 sz h => ?_)) rfl
  · rcases hPX E m1 h with rfl | rfl
    · refine VX.catch hB hX [] (0, 9, 12, 13) [(0, 9, 15, 15)] rfl (fun _ h => absurd h List.not_mem_nil) rfl (by decide) wc_L_13 wca_IA (fun a => ?_)
      refine V.astore_n (pc := 12) hB dL_append_12 (by decide) rfl ?_
      refine V.iconst (pc := 13) (v := 1) hB dL_append_13 rfl ?_
      exact V.retI (pc := 14) hB dL_append_14 rfl rfl (by omega) (by omega) (Or.inr (Or.inl ⟨rfl, h⟩))
    · refine VX.catch hB hX [(0, 9, 12, 13)] (0, 9, 15, 15) [] rfl (List.forall_mem_cons.mpr ⟨⟨by decide, _, wc_L_13, ncx_IS_IA⟩, fun _ h => absurd h List.not_mem_nil⟩) rfl (by decide) wc_L_15 wca_IS (fun a => ?_)
      refine V.astore_n (pc := 15) hB dL_append_15 (by decide) rfl ?_
      refine V.iconst (pc := 16) (v := 2) hB dL_append_16 rfl ?_
      exact V.retI (pc := 17) hB dL_append_17 rfl rfl (by omega) (by omega) (Or.inr (Or.inr (⟨rfl, h⟩)))
  · refine V.i2l (pc := 7) hB dL_append_7 ?_
    refine V.lastM (pc := 8) hB dL_append_8 ?_
    refine V.goto (pc := 9) (tgt := 18) hB dL_append_9 (by decide) ?_
    refine V.iconst (pc := 18) (v := 0) hB dL_append_18 rfl ?_
    exact V.retI (pc := 19) hB dL_append_19 rfl rfl (by omega) (by omega) (Or.inl ⟨rfl, r, m1, h, rfl⟩)

theorem cwx_L_run : CWW yL_run cL_run 3 (some .int) [(0, 8, 11, 13), (0, 8, 14, 15)] 2 := ⟨WD.at 1042 (by decide +kernel) rfl, wn_L, by decide +kernel⟩
set_option maxRecDepth 100000 in
set_option maxHeartbeats 1000000 in
theorem c_L_run {g : xG} (hG : GK g) {m : Mem} {P : Int32 → Mem → Prop} {PX : String → Mem → Prop} {d mc ms : Nat} (hC : CC g yX9_run (.code yX9_run cX9_run 6 (some .int)) d mc ms [.ref (ad g 0)] m (rI P) PX) (hPX : ∀ E m', PX E m' → E = "java/lang/IllegalArgumentException" ∨ E = "java/lang/IllegalStateException") : CC g yL_run (.codeWith yL_run cL_run 3 (some .int) [(0, 8, 11, 13), (0, 8, 14, 15)]) (d + 1) mc ms [.ref (ad g 0), .ref (ad g 373)] m (rI (fun v m2 => (v = 0 ∧ ∃ r m1, P r m1 ∧ m2 = up m1 373 0 r) ∨ (v = 1 ∧ PX "java/lang/IllegalArgumentException" m2) ∨ (v = 2 ∧ PX "java/lang/IllegalStateException" m2))) noX := by
  refine CC.mkH hG RL rfl (by decide +kernel) rfl (Nat.le_of_ble_eq_true rfl) (fun sz B hB hX => ?_)
  show V g B 0 0 _ (hp g m) sz 0 [some (.ref (ad g 0)), some (.ref (ad g 373)), none] []
  refine V.aload_n (pc := 0) hB dL_run_0 rfl ?_
  refine V.iconst (pc := 1) (v := 0) hB dL_run_1 rfl ?_
  refine V.aload_n (pc := 2) hB dL_run_2 rfl ?_
  refine V.cv (pc := 3) hB cw_X9_run wm_L_106 wi_X9_run ws_X9_run dL_run_3 hC (hp_at (ca_Bells _)) fk_Bells rfl (by omega) (by decide) rfl (by exact Nat.le_of_ble_eq_true rfl) (by omega) (by omega) (fun E m1 sz h => ?_) (kI (fun r m1 sz h => ?_)) rfl
  · rcases hPX E m1 h with rfl | rfl
    · refine VX.catch hB hX [] (0, 8, 11, 13) [(0, 8, 14, 15)] rfl (fun _ h => absurd h List.not_mem_nil) rfl (by decide) wc_L_13 wca_IA (fun a => ?_)
      refine V.astore_n (pc := 11) hB dL_run_11 (by decide) rfl ?_
      refine V.iconst (pc := 12) (v := 1) hB dL_run_12 rfl ?_
      exact V.retI (pc := 13) hB dL_run_13 rfl rfl (by omega) (by omega) (Or.inr (Or.inl ⟨rfl, h⟩))
    · refine VX.catch hB hX [(0, 8, 11, 13)] (0, 8, 14, 15) [] rfl (List.forall_mem_cons.mpr ⟨⟨by decide, _, wc_L_13, ncx_IS_IA⟩, fun _ h => absurd h List.not_mem_nil⟩) rfl (by decide) wc_L_15 wca_IS (fun a => ?_)
      refine V.astore_n (pc := 14) hB dL_run_14 (by decide) rfl ?_
      refine V.iconst (pc := 15) (v := 2) hB dL_run_15 rfl ?_
      exact V.retI (pc := 16) hB dL_run_16 rfl rfl (by omega) (by omega) (Or.inr (Or.inr (⟨rfl, h⟩)))
  · refine V.i2l (pc := 6) hB dL_run_6 ?_
    refine V.lastM (pc := 7) hB dL_run_7 ?_
    refine V.goto (pc := 8) (tgt := 17) hB dL_run_8 (by decide) ?_
    refine V.iconst (pc := 17) (v := 0) hB dL_run_17 rfl ?_
    exact V.retI (pc := 18) hB dL_run_18 rfl rfl (by omega) (by omega) (Or.inl ⟨rfl, r, m1, h, rfl⟩)

theorem cwx_L_errorPosition : CWW yL_errorPosition cL_errorPosition 3 (some .int) [(0, 8, 11, 50)] 2 := ⟨WD.at 1178 (by decide +kernel) rfl, wn_L, by decide +kernel⟩
set_option maxRecDepth 100000 in
set_option maxHeartbeats 1000000 in
theorem c_L_errorPosition {g : xG} (hG : GK g) {m : Mem} {P : Int32 → Mem → Prop} {PX : String → Mem → Prop} {d mc ms : Nat} (hC : CC g yX9_errorPosition (.code yX9_errorPosition cX9_errorPosition 1 (some .int)) d mc ms [.ref (ad g 0)] m (rI P) PX) (hPX : ∀ E m', PX E m' → E = "java/util/NoSuchElementException") : CC g yL_errorPosition (.codeWith yL_errorPosition cL_errorPosition 3 (some .int) [(0, 8, 11, 50)]) (d + 1) mc ms [.ref (ad g 0), .ref (ad g 373)] m (rI (fun v m2 => (v = 0 ∧ ∃ r m1, P r m1 ∧ m2 = up m1 373 0 r) ∨ (v = 1 ∧ PX "java/util/NoSuchElementException" m2))) noX := by
  refine CC.mkH hG RL rfl (by decide +kernel) rfl (Nat.le_of_ble_eq_true rfl) (fun sz B hB hX => ?_)
  show V g B 0 0 _ (hp g m) sz 0 [some (.ref (ad g 0)), some (.ref (ad g 373)), none] []
  refine V.aload_n (pc := 0) hB dL_errorPosition_0 rfl ?_
  refine V.iconst (pc := 1) (v := 0) hB dL_errorPosition_1 rfl ?_
  refine V.aload_n (pc := 2) hB dL_errorPosition_2 rfl ?_
  refine V.cv (pc := 3) hB cw_X9_errorPosition wm_L_109 wi_X9_errorPosition ws_X9_errorPosition dL_errorPosition_3 hC (hp_at (ca_Bells _)) fk_Bells rfl (by omega) (by decide) rfl (by exact Nat.le_of_ble_eq_true rfl) (by omega) (by omega) (fun E m1 sz h => ?_) (kI (fun r m1 sz h => ?_)) rfl
  · obtain rfl := hPX E m1 h
    refine VX.catch hB hX [] (0, 8, 11, 50) [] rfl (fun _ h => absurd h List.not_mem_nil) rfl (by decide) wc_L_50 wca_NS (fun a => ?_)
    refine V.astore_n (pc := 11) hB dL_errorPosition_11 (by decide) rfl ?_
    refine V.iconst (pc := 12) (v := 1) hB dL_errorPosition_12 rfl ?_
    exact V.retI (pc := 13) hB dL_errorPosition_13 rfl rfl (by omega) (by omega) (Or.inr (⟨rfl, h⟩))
  · refine V.i2l (pc := 6) hB dL_errorPosition_6 ?_
    refine V.lastM (pc := 7) hB dL_errorPosition_7 ?_
    refine V.goto (pc := 8) (tgt := 14) hB dL_errorPosition_8 (by decide) ?_
    refine V.iconst (pc := 14) (v := 0) hB dL_errorPosition_14 rfl ?_
    exact V.retI (pc := 15) hB dL_errorPosition_15 rfl rfl (by omega) (by omega) (Or.inl ⟨rfl, r, m1, h, rfl⟩)

theorem cwx_L_failedCommand : CWW yL_failedCommand cL_failedCommand 3 (some .int) [(0, 8, 11, 50)] 2 := ⟨WD.at 1186 (by decide +kernel) rfl, wn_L, by decide +kernel⟩
set_option maxRecDepth 100000 in
set_option maxHeartbeats 1000000 in
theorem c_L_failedCommand {g : xG} (hG : GK g) {m : Mem} {P : Int32 → Mem → Prop} {PX : String → Mem → Prop} {d mc ms : Nat} (hC : CC g yX9_failedCommand (.code yX9_failedCommand cX9_failedCommand 1 (some .int)) d mc ms [.ref (ad g 0)] m (rI P) PX) (hPX : ∀ E m', PX E m' → E = "java/util/NoSuchElementException") : CC g yL_failedCommand (.codeWith yL_failedCommand cL_failedCommand 3 (some .int) [(0, 8, 11, 50)]) (d + 1) mc ms [.ref (ad g 0), .ref (ad g 373)] m (rI (fun v m2 => (v = 0 ∧ ∃ r m1, P r m1 ∧ m2 = up m1 373 0 r) ∨ (v = 1 ∧ PX "java/util/NoSuchElementException" m2))) noX := by
  refine CC.mkH hG RL rfl (by decide +kernel) rfl (Nat.le_of_ble_eq_true rfl) (fun sz B hB hX => ?_)
  show V g B 0 0 _ (hp g m) sz 0 [some (.ref (ad g 0)), some (.ref (ad g 373)), none] []
  refine V.aload_n (pc := 0) hB dL_failedCommand_0 rfl ?_
  refine V.iconst (pc := 1) (v := 0) hB dL_failedCommand_1 rfl ?_
  refine V.aload_n (pc := 2) hB dL_failedCommand_2 rfl ?_
  refine V.cv (pc := 3) hB cw_X9_failedCommand wm_L_112 wi_X9_failedCommand ws_X9_failedCommand dL_failedCommand_3 hC (hp_at (ca_Bells _)) fk_Bells rfl (by omega) (by decide) rfl (by exact Nat.le_of_ble_eq_true rfl) (by omega) (by omega) (fun E m1 sz h => ?_) (kI (fun r m1 sz h => ?_)) rfl
  · obtain rfl := hPX E m1 h
    refine VX.catch hB hX [] (0, 8, 11, 50) [] rfl (fun _ h => absurd h List.not_mem_nil) rfl (by decide) wc_L_50 wca_NS (fun a => ?_)
    refine V.astore_n (pc := 11) hB dL_failedCommand_11 (by decide) rfl ?_
    refine V.iconst (pc := 12) (v := 1) hB dL_failedCommand_12 rfl ?_
    exact V.retI (pc := 13) hB dL_failedCommand_13 rfl rfl (by omega) (by omega) (Or.inr (⟨rfl, h⟩))
  · refine V.i2l (pc := 6) hB dL_failedCommand_6 ?_
    refine V.lastM (pc := 7) hB dL_failedCommand_7 ?_
    refine V.goto (pc := 8) (tgt := 14) hB dL_failedCommand_8 (by decide) ?_
    refine V.iconst (pc := 14) (v := 0) hB dL_failedCommand_14 rfl ?_
    exact V.retI (pc := 15) hB dL_failedCommand_15 rfl rfl (by omega) (by omega) (Or.inl ⟨rfl, r, m1, h, rfl⟩)

theorem cwx_L_failureKind : CWW yL_failureKind cL_failureKind 3 (some .int) [(0, 8, 11, 50)] 2 := ⟨WD.at 1194 (by decide +kernel) rfl, wn_L, by decide +kernel⟩
set_option maxRecDepth 100000 in
set_option maxHeartbeats 1000000 in
theorem c_L_failureKind {g : xG} (hG : GK g) {m : Mem} {P : Int32 → Mem → Prop} {PX : String → Mem → Prop} {d mc ms : Nat} (hC : CC g yX9_failureKind (.code yX9_failureKind cX9_failureKind 1 (some .char)) d mc ms [.ref (ad g 0)] m (rI P) PX) (hPX : ∀ E m', PX E m' → E = "java/util/NoSuchElementException") : CC g yL_failureKind (.codeWith yL_failureKind cL_failureKind 3 (some .int) [(0, 8, 11, 50)]) (d + 1) mc ms [.ref (ad g 0), .ref (ad g 373)] m (rI (fun v m2 => (v = 0 ∧ ∃ r m1, P r m1 ∧ m2 = up m1 373 0 r) ∨ (v = 1 ∧ PX "java/util/NoSuchElementException" m2))) noX := by
  refine CC.mkH hG RL rfl (by decide +kernel) rfl (Nat.le_of_ble_eq_true rfl) (fun sz B hB hX => ?_)
  show V g B 0 0 _ (hp g m) sz 0 [some (.ref (ad g 0)), some (.ref (ad g 373)), none] []
  refine V.aload_n (pc := 0) hB dL_failureKind_0 rfl ?_
  refine V.iconst (pc := 1) (v := 0) hB dL_failureKind_1 rfl ?_
  refine V.aload_n (pc := 2) hB dL_failureKind_2 rfl ?_
  refine V.cv (pc := 3) hB cw_X9_failureKind wm_L_115 wi_X9_failureKind ws_X9_failureKind dL_failureKind_3 hC (hp_at (ca_Bells _)) fk_Bells rfl (by omega) (by decide) rfl (by exact Nat.le_of_ble_eq_true rfl) (by omega) (by omega) (fun E m1 sz h => ?_) (kI (fun r m1 sz h => ?_)) rfl
  · obtain rfl := hPX E m1 h
    refine VX.catch hB hX [] (0, 8, 11, 50) [] rfl (fun _ h => absurd h List.not_mem_nil) rfl (by decide) wc_L_50 wca_NS (fun a => ?_)
    refine V.astore_n (pc := 11) hB dL_failureKind_11 (by decide) rfl ?_
    refine V.iconst (pc := 12) (v := 1) hB dL_failureKind_12 rfl ?_
    exact V.retI (pc := 13) hB dL_failureKind_13 rfl rfl (by omega) (by omega) (Or.inr (⟨rfl, h⟩))
  · refine V.i2l (pc := 6) hB dL_failureKind_6 ?_
    refine V.lastM (pc := 7) hB dL_failureKind_7 ?_
    refine V.goto (pc := 8) (tgt := 14) hB dL_failureKind_8 (by decide) ?_
    refine V.iconst (pc := 14) (v := 0) hB dL_failureKind_14 rfl ?_
    exact V.retI (pc := 15) hB dL_failureKind_15 rfl rfl (by omega) (by omega) (Or.inl ⟨rfl, r, m1, h, rfl⟩)

theorem cwx_L_describeLake : CWW yL_describeLake cL_describeLake 4 (some .int) [(0, 9, 12, 21)] 3 := ⟨WD.at 1201 (by decide +kernel) rfl, wn_L, by decide +kernel⟩
set_option maxRecDepth 100000 in
set_option maxHeartbeats 1000000 in
theorem c_L_describeLake {g : xG} (hG : GK g) {m : Mem} {p0 : Int32} {P : Int32 → Mem → Prop} {PX : String → Mem → Prop} {d mc ms : Nat} (hC : CC g yX9_describeLake (.code yX9_describeLake cX9_describeLake 3 (some .int)) d mc ms [.ref (ad g 0), .int p0] m (rI P) PX) (hPX : ∀ E m', PX E m' → E = "java/lang/IndexOutOfBoundsException") : CC g yL_describeLake (.codeWith yL_describeLake cL_describeLake 4 (some .int) [(0, 9, 12, 21)]) (d + 1) mc ms [.ref (ad g 0), .int p0, .ref (ad g 373)] m (rI (fun v m2 => (v = 0 ∧ ∃ r m1, P r m1 ∧ m2 = up m1 373 0 r) ∨ (v = 1 ∧ PX "java/lang/IndexOutOfBoundsException" m2))) noX := by
  refine CC.mkH hG RL rfl (by decide +kernel) rfl (Nat.le_of_ble_eq_true rfl) (fun sz B hB hX => ?_)
  show V g B 0 0 _ (hp g m) sz 0 [some (.ref (ad g 0)), some (.int p0), some (.ref (ad g 373)), none] []
  refine V.aload_n (pc := 0) hB dL_describeLake_0 rfl ?_
  refine V.iconst (pc := 1) (v := 0) hB dL_describeLake_1 rfl ?_
  refine V.aload_n (pc := 2) hB dL_describeLake_2 rfl ?_
  refine V.iload_n (pc := 3) hB dL_describeLake_3 rfl ?_
  refine V.cv (pc := 4) hB cw_X9_describeLake wm_L_119 wi_X9_describeLake ws_X9_describeLake dL_describeLake_4 hC (hp_at (ca_Bells _)) fk_Bells rfl (by omega) (by decide) rfl (by exact Nat.le_of_ble_eq_true rfl) (by omega) (by omega) (fun E m1 sz h => ?_) (kI (fun r m1 sz h => ?_)) rfl
  · obtain rfl := hPX E m1 h
    refine VX.catch hB hX [] (0, 9, 12, 21) [] rfl (fun _ h => absurd h List.not_mem_nil) rfl (by decide) wc_L_21 wca_IO (fun a => ?_)
    refine V.astore_n (pc := 12) hB dL_describeLake_12 (by decide) rfl ?_
    refine V.iconst (pc := 13) (v := 1) hB dL_describeLake_13 rfl ?_
    exact V.retI (pc := 14) hB dL_describeLake_14 rfl rfl (by omega) (by omega) (Or.inr (⟨rfl, h⟩))
  · refine V.i2l (pc := 7) hB dL_describeLake_7 ?_
    refine V.lastM (pc := 8) hB dL_describeLake_8 ?_
    refine V.goto (pc := 9) (tgt := 15) hB dL_describeLake_9 (by decide) ?_
    refine V.iconst (pc := 15) (v := 0) hB dL_describeLake_15 rfl ?_
    exact V.retI (pc := 16) hB dL_describeLake_16 rfl rfl (by omega) (by omega) (Or.inl ⟨rfl, r, m1, h, rfl⟩)

theorem cwx_L_lineAt : CWW yL_lineAt cL_lineAt 4 (some .int) [(0, 9, 12, 21)] 3 := ⟨WD.at 1456 (by decide +kernel) rfl, wn_L, by decide +kernel⟩
set_option maxRecDepth 100000 in
set_option maxHeartbeats 1000000 in
theorem c_L_lineAt {g : xG} (hG : GK g) {m : Mem} {p0 : Int32} {P : Int32 → Mem → Prop} {PX : String → Mem → Prop} {d mc ms : Nat} (hC : CC g yX9_lineAt (.code yX9_lineAt cX9_lineAt 2 (some .char)) d mc ms [.ref (ad g 0), .int p0] m (rI P) PX) (hPX : ∀ E m', PX E m' → E = "java/lang/IndexOutOfBoundsException") : CC g yL_lineAt (.codeWith yL_lineAt cL_lineAt 4 (some .int) [(0, 9, 12, 21)]) (d + 1) mc ms [.ref (ad g 0), .int p0, .ref (ad g 373)] m (rI (fun v m2 => (v = 0 ∧ ∃ r m1, P r m1 ∧ m2 = up m1 373 0 r) ∨ (v = 1 ∧ PX "java/lang/IndexOutOfBoundsException" m2))) noX := by
  refine CC.mkH hG RL rfl (by decide +kernel) rfl (Nat.le_of_ble_eq_true rfl) (fun sz B hB hX => ?_)
  show V g B 0 0 _ (hp g m) sz 0 [some (.ref (ad g 0)), some (.int p0), some (.ref (ad g 373)), none] []
  refine V.aload_n (pc := 0) hB dL_lineAt_0 rfl ?_
  refine V.iconst (pc := 1) (v := 0) hB dL_lineAt_1 rfl ?_
  refine V.aload_n (pc := 2) hB dL_lineAt_2 rfl ?_
  refine V.iload_n (pc := 3) hB dL_lineAt_3 rfl ?_
  refine V.cv (pc := 4) hB cw_X9_lineAt wm_L_122 wi_X9_lineAt ws_X9_lineAt dL_lineAt_4 hC (hp_at (ca_Bells _)) fk_Bells rfl (by omega) (by decide) rfl (by exact Nat.le_of_ble_eq_true rfl) (by omega) (by omega) (fun E m1 sz h => ?_) (kI (fun r m1 sz h => ?_)) rfl
  · obtain rfl := hPX E m1 h
    refine VX.catch hB hX [] (0, 9, 12, 21) [] rfl (fun _ h => absurd h List.not_mem_nil) rfl (by decide) wc_L_21 wca_IO (fun a => ?_)
    refine V.astore_n (pc := 12) hB dL_lineAt_12 (by decide) rfl ?_
    refine V.iconst (pc := 13) (v := 1) hB dL_lineAt_13 rfl ?_
    exact V.retI (pc := 14) hB dL_lineAt_14 rfl rfl (by omega) (by omega) (Or.inr (⟨rfl, h⟩))
  · refine V.i2l (pc := 7) hB dL_lineAt_7 ?_
    refine V.lastM (pc := 8) hB dL_lineAt_8 ?_
    refine V.goto (pc := 9) (tgt := 15) hB dL_lineAt_9 (by decide) ?_
    refine V.iconst (pc := 15) (v := 0) hB dL_lineAt_15 rfl ?_
    exact V.retI (pc := 16) hB dL_lineAt_16 rfl rfl (by omega) (by omega) (Or.inl ⟨rfl, r, m1, h, rfl⟩)

theorem cwx_L_meanTemperature : CWW yL_meanTemperature cL_meanTemperature 4 (some .int) [(0, 8, 11, 21), (0, 8, 14, 129)] 3 := ⟨WD.at 1474 (by decide +kernel) rfl, wn_L, by decide +kernel⟩
set_option maxRecDepth 100000 in
set_option maxHeartbeats 1000000 in
theorem c_L_meanTemperature {g : xG} (hG : GK g) {m : Mem} {p0 : Int32} {P : UInt64 → Mem → Prop} {PX : String → Mem → Prop} {d mc ms : Nat} (hC : CC g yX9_meanTemperature (.code yX9_meanTemperature cX9_meanTemperature 3 (some .double)) d mc ms [.ref (ad g 0), .int p0] m (rD P) PX) (hPX : ∀ E m', PX E m' → E = "java/lang/IndexOutOfBoundsException" ∨ E = "java/lang/ArithmeticException") : CC g yL_meanTemperature (.codeWith yL_meanTemperature cL_meanTemperature 4 (some .int) [(0, 8, 11, 21), (0, 8, 14, 129)]) (d + 1) mc ms [.ref (ad g 0), .int p0, .ref (ad g 374)] m (rI (fun v m2 => (v = 0 ∧ ∃ r m1, P r m1 ∧ m2 = dUp m1 r) ∨ (v = 1 ∧ PX "java/lang/IndexOutOfBoundsException" m2) ∨ (v = 2 ∧ PX "java/lang/ArithmeticException" m2))) noX := by
  refine CC.mkH hG RL rfl (by decide +kernel) rfl (Nat.le_of_ble_eq_true rfl) (fun sz B hB hX => ?_)
  show V g B 0 0 _ (hp g m) sz 0 [some (.ref (ad g 0)), some (.int p0), some (.ref (ad g 374)), none] []
  refine V.aload_n (pc := 0) hB dL_meanTemperature_0 rfl ?_
  refine V.iconst (pc := 1) (v := 0) hB dL_meanTemperature_1 rfl ?_
  refine V.aload_n (pc := 2) hB dL_meanTemperature_2 rfl ?_
  refine V.iload_n (pc := 3) hB dL_meanTemperature_3 rfl ?_
  refine V.cv (pc := 4) hB cw_X9_meanTemperature wm_L_125 wi_X9_meanTemperature ws_X9_meanTemperature dL_meanTemperature_4 hC (hp_at (ca_Bells _)) fk_Bells rfl (by omega) (by decide) rfl (by exact Nat.le_of_ble_eq_true rfl) (by omega) (by omega) (fun E m1 sz h => ?_) (kDv (fun r m1 sz h => ?_)) rfl
  · rcases hPX E m1 h with rfl | rfl
    · refine VX.catch hB hX [] (0, 8, 11, 21) [(0, 8, 14, 129)] rfl (fun _ h => absurd h List.not_mem_nil) rfl (by decide) wc_L_21 wca_IO (fun a => ?_)
      refine V.astore_n (pc := 11) hB dL_meanTemperature_11 (by decide) rfl ?_
      refine V.iconst (pc := 12) (v := 1) hB dL_meanTemperature_12 rfl ?_
      exact V.retI (pc := 13) hB dL_meanTemperature_13 rfl rfl (by omega) (by omega) (Or.inr (Or.inl ⟨rfl, h⟩))
    · refine VX.catch hB hX [(0, 8, 11, 21)] (0, 8, 14, 129) [] rfl (List.forall_mem_cons.mpr ⟨⟨by decide, _, wc_L_21, ncx_AR_IO⟩, fun _ h => absurd h List.not_mem_nil⟩) rfl (by decide) wc_L_129 wca_AR (fun a => ?_)
      refine V.astore_n (pc := 14) hB dL_meanTemperature_14 (by decide) rfl ?_
      refine V.iconst (pc := 15) (v := 2) hB dL_meanTemperature_15 rfl ?_
      exact V.retI (pc := 16) hB dL_meanTemperature_16 rfl rfl (by omega) (by omega) (Or.inr (Or.inr (⟨rfl, h⟩)))
  · refine V.dastM (pc := 7) hB dL_meanTemperature_7 ?_
    refine V.goto (pc := 8) (tgt := 17) hB dL_meanTemperature_8 (by decide) ?_
    refine V.iconst (pc := 17) (v := 0) hB dL_meanTemperature_17 rfl ?_
    exact V.retI (pc := 18) hB dL_meanTemperature_18 rfl rfl (by omega) (by omega) (Or.inl ⟨rfl, r, m1, h, rfl⟩)

theorem cwx_L_iceShare : CWW yL_iceShare cL_iceShare 4 (some .int) [(0, 9, 12, 21)] 3 := ⟨WD.at 1502 (by decide +kernel) rfl, wn_L, by decide +kernel⟩
set_option maxRecDepth 100000 in
set_option maxHeartbeats 1000000 in
theorem c_L_iceShare {g : xG} (hG : GK g) {m : Mem} {p0 : Int32} {P : UInt32 → Mem → Prop} {PX : String → Mem → Prop} {d mc ms : Nat} (hC : CC g yX9_iceShare (.code yX9_iceShare cX9_iceShare 3 (some .float)) d mc ms [.ref (ad g 0), .int p0] m (rF P) PX) (hPX : ∀ E m', PX E m' → E = "java/lang/IndexOutOfBoundsException") (hn : ∀ r m1, P r m1 → vf_n64 (FP.f2d r)) : CC g yL_iceShare (.codeWith yL_iceShare cL_iceShare 4 (some .int) [(0, 9, 12, 21)]) (d + 1) mc ms [.ref (ad g 0), .int p0, .ref (ad g 374)] m (rI (fun v m2 => (v = 0 ∧ ∃ r m1, P r m1 ∧ m2 = dUp m1 (FP.f2d r)) ∨ (v = 1 ∧ PX "java/lang/IndexOutOfBoundsException" m2))) noX := by
  refine CC.mkH hG RL rfl (by decide +kernel) rfl (Nat.le_of_ble_eq_true rfl) (fun sz B hB hX => ?_)
  show V g B 0 0 _ (hp g m) sz 0 [some (.ref (ad g 0)), some (.int p0), some (.ref (ad g 374)), none] []
  refine V.aload_n (pc := 0) hB dL_iceShare_0 rfl ?_
  refine V.iconst (pc := 1) (v := 0) hB dL_iceShare_1 rfl ?_
  refine V.aload_n (pc := 2) hB dL_iceShare_2 rfl ?_
  refine V.iload_n (pc := 3) hB dL_iceShare_3 rfl ?_
  refine V.cv (pc := 4) hB cw_X9_iceShare wm_L_131 wi_X9_iceShare ws_X9_iceShare dL_iceShare_4 hC (hp_at (ca_Bells _)) fk_Bells rfl (by omega) (by decide) rfl (by exact Nat.le_of_ble_eq_true rfl) (by omega) (by omega) (fun E m1 sz h => ?_) (kFv (fun r m1 sz h => ?_)) rfl
  · obtain rfl := hPX E m1 h
    refine VX.catch hB hX [] (0, 9, 12, 21) [] rfl (fun _ h => absurd h List.not_mem_nil) rfl (by decide) wc_L_21 wca_IO (fun a => ?_)
    refine V.astore_n (pc := 12) hB dL_iceShare_12 (by decide) rfl ?_
    refine V.iconst (pc := 13) (v := 1) hB dL_iceShare_13 rfl ?_
    exact V.retI (pc := 14) hB dL_iceShare_14 rfl rfl (by omega) (by omega) (Or.inr (⟨rfl, h⟩))
  · refine V.f2d (pc := 7) hB dL_iceShare_7 (hn _ _ h) ?_
    refine V.dastM (pc := 8) hB dL_iceShare_8 ?_
    refine V.goto (pc := 9) (tgt := 15) hB dL_iceShare_9 (by decide) ?_
    refine V.iconst (pc := 15) (v := 0) hB dL_iceShare_15 rfl ?_
    exact V.retI (pc := 16) hB dL_iceShare_16 rfl rfl (by omega) (by omega) (Or.inl ⟨rfl, r, m1, h, rfl⟩)

theorem cwx_L_undo : CWW yL_undo cL_undo 3 (some .int) [(0, 8, 11, 15)] 2 := ⟨WD.at 1509 (by decide +kernel) rfl, wn_L, by decide +kernel⟩
set_option maxRecDepth 100000 in
set_option maxHeartbeats 1000000 in
theorem c_L_undo {g : xG} (hG : GK g) {m : Mem} {P : Int32 → Mem → Prop} {PX : String → Mem → Prop} {d mc ms : Nat} (hC : CC g yX9_undo (.code yX9_undo cX9_undo 1 (some .int)) d mc ms [.ref (ad g 0)] m (rI P) PX) (hPX : ∀ E m', PX E m' → E = "java/lang/IllegalStateException") : CC g yL_undo (.codeWith yL_undo cL_undo 3 (some .int) [(0, 8, 11, 15)]) (d + 1) mc ms [.ref (ad g 0), .ref (ad g 373)] m (rI (fun v m2 => (v = 0 ∧ ∃ r m1, P r m1 ∧ m2 = up m1 373 0 r) ∨ (v = 1 ∧ PX "java/lang/IllegalStateException" m2))) noX := by
  refine CC.mkH hG RL rfl (by decide +kernel) rfl (Nat.le_of_ble_eq_true rfl) (fun sz B hB hX => ?_)
  show V g B 0 0 _ (hp g m) sz 0 [some (.ref (ad g 0)), some (.ref (ad g 373)), none] []
  refine V.aload_n (pc := 0) hB dL_undo_0 rfl ?_
  refine V.iconst (pc := 1) (v := 0) hB dL_undo_1 rfl ?_
  refine V.aload_n (pc := 2) hB dL_undo_2 rfl ?_
  refine V.cv (pc := 3) hB cw_X9_undo wm_L_135 wi_X9_undo ws_X9_undo dL_undo_3 hC (hp_at (ca_Bells _)) fk_Bells rfl (by omega) (by decide) rfl (by exact Nat.le_of_ble_eq_true rfl) (by omega) (by omega) (fun E m1 sz h => ?_) (kI (fun r m1 sz h => ?_)) rfl
  · obtain rfl := hPX E m1 h
    refine VX.catch hB hX [] (0, 8, 11, 15) [] rfl (fun _ h => absurd h List.not_mem_nil) rfl (by decide) wc_L_15 wca_IS (fun a => ?_)
    refine V.astore_n (pc := 11) hB dL_undo_11 (by decide) rfl ?_
    refine V.iconst (pc := 12) (v := 1) hB dL_undo_12 rfl ?_
    exact V.retI (pc := 13) hB dL_undo_13 rfl rfl (by omega) (by omega) (Or.inr (⟨rfl, h⟩))
  · refine V.i2l (pc := 6) hB dL_undo_6 ?_
    refine V.lastM (pc := 7) hB dL_undo_7 ?_
    refine V.goto (pc := 8) (tgt := 14) hB dL_undo_8 (by decide) ?_
    refine V.iconst (pc := 14) (v := 0) hB dL_undo_14 rfl ?_
    exact V.retI (pc := 15) hB dL_undo_15 rfl rfl (by omega) (by omega) (Or.inl ⟨rfl, r, m1, h, rfl⟩)

theorem cwx_L_restore : CWW yL_restore cL_restore 3 (some .int) [(0, 8, 11, 15)] 2 := ⟨WD.at 1522 (by decide +kernel) rfl, wn_L, by decide +kernel⟩
set_option maxRecDepth 100000 in
set_option maxHeartbeats 1000000 in
theorem c_L_restore {g : xG} (hG : GK g) {m : Mem} {P : Int32 → Mem → Prop} {PX : String → Mem → Prop} {d mc ms : Nat} (hC : CC g yX9_restore (.code yX9_restore cX9_restore 1 (some .int)) d mc ms [.ref (ad g 0)] m (rI P) PX) (hPX : ∀ E m', PX E m' → E = "java/lang/IllegalStateException") : CC g yL_restore (.codeWith yL_restore cL_restore 3 (some .int) [(0, 8, 11, 15)]) (d + 1) mc ms [.ref (ad g 0), .ref (ad g 373)] m (rI (fun v m2 => (v = 0 ∧ ∃ r m1, P r m1 ∧ m2 = up m1 373 0 r) ∨ (v = 1 ∧ PX "java/lang/IllegalStateException" m2))) noX := by
  refine CC.mkH hG RL rfl (by decide +kernel) rfl (Nat.le_of_ble_eq_true rfl) (fun sz B hB hX => ?_)
  show V g B 0 0 _ (hp g m) sz 0 [some (.ref (ad g 0)), some (.ref (ad g 373)), none] []
  refine V.aload_n (pc := 0) hB dL_restore_0 rfl ?_
  refine V.iconst (pc := 1) (v := 0) hB dL_restore_1 rfl ?_
  refine V.aload_n (pc := 2) hB dL_restore_2 rfl ?_
  refine V.cv (pc := 3) hB cw_X9_restore wm_L_138 wi_X9_restore ws_X9_restore dL_restore_3 hC (hp_at (ca_Bells _)) fk_Bells rfl (by omega) (by decide) rfl (by exact Nat.le_of_ble_eq_true rfl) (by omega) (by omega) (fun E m1 sz h => ?_) (kI (fun r m1 sz h => ?_)) rfl
  · obtain rfl := hPX E m1 h
    refine VX.catch hB hX [] (0, 8, 11, 15) [] rfl (fun _ h => absurd h List.not_mem_nil) rfl (by decide) wc_L_15 wca_IS (fun a => ?_)
    refine V.astore_n (pc := 11) hB dL_restore_11 (by decide) rfl ?_
    refine V.iconst (pc := 12) (v := 1) hB dL_restore_12 rfl ?_
    exact V.retI (pc := 13) hB dL_restore_13 rfl rfl (by omega) (by omega) (Or.inr (⟨rfl, h⟩))
  · refine V.i2l (pc := 6) hB dL_restore_6 ?_
    refine V.lastM (pc := 7) hB dL_restore_7 ?_
    refine V.goto (pc := 8) (tgt := 14) hB dL_restore_8 (by decide) ?_
    refine V.iconst (pc := 14) (v := 0) hB dL_restore_14 rfl ?_
    exact V.retI (pc := 15) hB dL_restore_15 rfl rfl (by omega) (by omega) (Or.inl ⟨rfl, r, m1, h, rfl⟩)
