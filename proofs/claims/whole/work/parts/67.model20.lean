/-! the reference's reads of its line and of what failed -/
theorem c16_128 {c : Nat} (h : c < 128) : ((nI c).toUInt32 % 65536).toInt32 = nI c := by
  have H : ∀ c : Fin 128, ((nI c.1).toUInt32 % 65536).toInt32 = nI c.1 := by decide +kernel
  exact H ⟨c, h⟩

set_option maxRecDepth 100000 in
set_option maxHeartbeats 1000000 in
theorem c_X10_lineAt {g : xG} (hG : GK g) {m : Mem} {l : List Int32} (h14 : m.1 363 14 = nI l.length) (hLR : LR m l) (hl80 : l.length ≤ 80) (hl8 : ∀ j, j < l.length → ∃ c, c < 128 ∧ l.getD j 0 = nI c) {x : Int32} : CC g yX10_lineAt (.code yX10_lineAt cX10_lineAt 2 (some .char)) 3 0 0 [.ref (ad g 363), .int x] m (rI (akP m (0 ≤ x ∧ x < nI l.length) (l.getD x.toNatClampNeg 0))) noX := by
  obtain ⟨a, ha⟩ : ∃ a, a = (decide (0 ≤ x) && decide (x ≤ nI l.length - 1)) := ⟨_, rfl⟩
  have hai : a = true ↔ (0 ≤ x ∧ x < nI l.length) := by
    rw [ha, Bool.and_eq_true, decide_eq_true_eq, decide_eq_true_eq, le_sub1 (by omega)]
  refine CC.mk hG RX10 rfl (by decide +kernel) rfl (Nat.le_of_ble_eq_true rfl) (fun sz B hB hX => ?_)
  show V g B 0 0 _ (hp g m) sz 0 [some (.ref (ad g 363)), some (.int x)] []
  refine V.aload_n (pc := 0) hB dX10_lineAt_0 rfl ?_
  refine V.iload_n (pc := 1) hB dX10_lineAt_1 rfl ?_
  refine V.iconst (pc := 2) (v := 0) hB dX10_lineAt_2 rfl ?_
  refine V.aload_n (pc := 3) hB dX10_lineAt_3 rfl ?_
  refine V.get (pc := 4) hB fk_Model 14 wf_X10_185 dX10_lineAt_4 (by decide) (hp_at (ca_Model _)) rfl ?_
  rw [h14]
  refine V.iconst (pc := 7) (v := 1) hB dX10_lineAt_7 rfl ?_
  refine V.isub (pc := 8) hB dX10_lineAt_8 ?_
  refine V.cs (pc := 9) hB cw_X10_isIn wm_X10_69 wst_X10_isIn dX10_lineAt_9 (c_X10_isIn hG) (by omega) (by decide) rfl (by exact Nat.le_of_ble_eq_true rfl) (by omega) (by omega) kN (kI (fun v_9 m_9 sz h_9 => ?_)) rfl
  obtain ⟨rfl, hm_9⟩ := h_9
  obtain rfl := hm_9.symm
  rw [← ha]
  refine V.cv (pc := 12) hB cw_X10_goes wm_X10_61 wi_X10_goes ws_X10_goes dX10_lineAt_12 (c_X10_goes hG) (hp_at (ca_Model _)) fk_Model rfl (by omega) (by decide) rfl (by exact Nat.le_of_ble_eq_true rfl) (by omega) (by omega) kN (kI (fun v_12 m_12 sz h_12 => ?_)) rfl
  obtain ⟨rfl, hm_12⟩ := h_12
  subst hm_12
  rw [thrV_b1]
  refine V.if_eq (pc := 15) (tgt := 28) hB dX10_lineAt_15 (by decide) (fun c_15 => ?_) (fun c_15 => ?_)
  · have ha0 : a = false := by
      cases a
      · rfl
      · exact absurd c_15 (by decide)
    rw [ha0, show (if false = false then (1 : Int32) else 0) = 1 from rfl]
    refine V.iconst (pc := 28) (v := 0) hB dX10_lineAt_28 rfl ?_
    refine V.retI (pc := 29) hB dX10_lineAt_29 rfl (by first | rfl | (rw [← hv16]; exact nar_c16 _)) (by omega) (by omega) ?_
    first | exact Or.inl ⟨hai.mp ha1, by rw [hjc], rfl⟩ | exact Or.inr ⟨fun z => by rw [hai.mpr z] at ha0; exact absurd ha0 (by decide), rfl, rfl⟩
  · have ha1 : a = true := by
      cases a
      · exact absurd rfl c_15
      · rfl
    rw [ha1, show (if true = false then (1 : Int32) else 0) = 0 from rfl]
    obtain ⟨j, hxe, hj, hjc⟩ := idx_j (hai.mp ha1) (by omega)
    obtain ⟨c, hc, hce⟩ := hl8 j hj
    have hv16 : ((l.getD j 0).toUInt32 % 65536).toInt32 = l.getD j 0 := by rw [hce]; exact c16_128 hc
    refine V.aload_n (pc := 18) hB dX10_lineAt_18 rfl ?_
    refine V.get (pc := 19) hB fk_Model 13 wf_X10_38 dX10_lineAt_19 (by decide) (hp_at (ca_Model _)) rfl ?_
    refine V.iload_n (pc := 22) hB dX10_lineAt_22 rfl ?_
    refine V.ialdM (pc := 23) hB (ca_Line) dX10_lineAt_23 (show ix x j 80 by rw [hxe]; exact ix_nI (by omega) (by decide)) ?_
    rw [show (up m 363 15 0).1 371 j = l.getD j 0 from (congrFun (up_cell _ _ _ (by decide)) j).trans (hLR j hj)]
    refine V.i2c (pc := 24) hB dX10_lineAt_24 ?_
    rw [hv16]
    refine V.goto (pc := 25) (tgt := 29) hB dX10_lineAt_25 (by decide) ?_
    refine V.retI (pc := 29) hB dX10_lineAt_29 rfl (by first | rfl | (rw [← hv16]; exact nar_c16 _)) (by omega) (by omega) ?_
    first | exact Or.inl ⟨hai.mp ha1, by rw [hjc], rfl⟩ | exact Or.inr ⟨fun z => by rw [hai.mpr z] at ha0; exact absurd ha0 (by decide), rfl, rfl⟩

set_option maxRecDepth 100000 in
set_option maxHeartbeats 1000000 in
theorem c_X10_errorPosition {g : xG} (hG : GK g) {m : Mem} : CC g yX10_errorPosition (.code yX10_errorPosition cX10_errorPosition 1 (some .int)) 3 0 0 [.ref (ad g 363)] m (rI (akP m (¬ m.1 363 7 = -1) (m.1 363 7))) noX := by
  obtain ⟨a, ha⟩ : ∃ a, a = decide (¬ m.1 363 7 = -1) := ⟨_, rfl⟩
  have hai : a = true ↔ ¬ m.1 363 7 = -1 := by rw [ha, decide_eq_true_eq]
  refine CC.mk hG RX10 rfl (by decide +kernel) rfl (Nat.le_of_ble_eq_true rfl) (fun sz B hB hX => ?_)
  show V g B 0 0 _ (hp g m) sz 0 [some (.ref (ad g 363))] []
  have join : ∀ (sz : Nat) (u : Int32), u = (if a = true then 1 else 0) → V g B 0 0 (QM g B 0 0 (rI (akP m (¬ m.1 363 7 = -1) (m.1 363 7))) noX) (hp g (m)) sz 14 [some (.ref (ad g 363))] [.int u, .ref (ad g 363)] := by
    intro sz u hu
    refine V.cv (pc := 14) hB cw_X10_goes wm_X10_61 wi_X10_goes ws_X10_goes dX10_errorPosition_14 (c_X10_goes hG) (hp_at (ca_Model _)) fk_Model rfl (by omega) (by decide) rfl (by exact Nat.le_of_ble_eq_true rfl) (by omega) (by omega) kN (kI (fun v_14 m_14 sz h_14 => ?_)) rfl
    obtain ⟨rfl, hm_14⟩ := h_14
    subst hm_14
    rw [hu, thrV_b1]
    refine V.if_eq (pc := 17) (tgt := 27) hB dX10_errorPosition_17 (by decide) (fun c_17 => ?_) (fun c_17 => ?_)
    · have ha0 : a = false := by
        cases a
        · rfl
        · exact absurd c_17 (by decide)
      rw [ha0, show (if false = false then (1 : Int32) else 0) = 1 from rfl]
      refine V.iconst (pc := 27) (v := 0) hB dX10_errorPosition_27 rfl ?_
      refine V.retI (pc := 28) hB dX10_errorPosition_28 rfl (rfl) (by omega) (by omega) ?_
      first | exact Or.inl ⟨hai.mp ha1, rfl, rfl⟩ | exact Or.inr ⟨fun z => by rw [hai.mpr z] at ha0; exact absurd ha0 (by decide), rfl, rfl⟩
    · have ha1 : a = true := by
        cases a
        · exact absurd rfl c_17
        · rfl
      rw [ha1, show (if true = false then (1 : Int32) else 0) = 0 from rfl]
      refine V.aload_n (pc := 20) hB dX10_errorPosition_20 rfl ?_
      refine V.get (pc := 21) hB fk_Model 7 wf_X10_25 dX10_errorPosition_21 (by decide) (hp_at (ca_Model _)) rfl ?_
      rw [show (up m 363 15 0).1 363 7 = m.1 363 7 from up_slot _ _ _ (by decide)]
      refine V.goto (pc := 24) (tgt := 28) hB dX10_errorPosition_24 (by decide) ?_
      refine V.retI (pc := 28) hB dX10_errorPosition_28 rfl (rfl) (by omega) (by omega) ?_
      first | exact Or.inl ⟨hai.mp ha1, rfl, rfl⟩ | exact Or.inr ⟨fun z => by rw [hai.mpr z] at ha0; exact absurd ha0 (by decide), rfl, rfl⟩
  refine V.aload_n (pc := 0) hB dX10_errorPosition_0 rfl ?_
  refine V.aload_n (pc := 1) hB dX10_errorPosition_1 rfl ?_
  refine V.get (pc := 2) hB fk_Model 7 wf_X10_25 dX10_errorPosition_2 (by decide) (hp_at (ca_Model _)) rfl ?_
  refine V.iconst (pc := 5) (v := (-1)) hB dX10_errorPosition_5 rfl ?_
  refine V.icmp_eq (pc := 6) (tgt := 13) hB dX10_errorPosition_6 (by decide) (fun c_6 => ?_) (fun c_6 => ?_)
  · have hu : (0 : Int32) = if a = true then 1 else 0 := by rw [ha, decide_eq_false (fun w => w c_6)]; rfl
    refine V.iconst (pc := 13) (v := 0) hB dX10_errorPosition_13 rfl ?_
    exact join sz _ hu
  · have hu : (1 : Int32) = if a = true then 1 else 0 := by rw [ha, decide_eq_true c_6]; rfl
    refine V.iconst (pc := 9) (v := 1) hB dX10_errorPosition_9 rfl ?_
    refine V.goto (pc := 10) (tgt := 14) hB dX10_errorPosition_10 (by decide) ?_
    exact join sz _ hu

set_option maxRecDepth 100000 in
set_option maxHeartbeats 1000000 in
theorem c_X10_failedCommand {g : xG} (hG : GK g) {m : Mem} : CC g yX10_failedCommand (.code yX10_failedCommand cX10_failedCommand 1 (some .int)) 3 0 0 [.ref (ad g 363)] m (rI (akP m (¬ m.1 363 8 = -1) (m.1 363 8))) noX := by
  obtain ⟨a, ha⟩ : ∃ a, a = decide (¬ m.1 363 8 = -1) := ⟨_, rfl⟩
  have hai : a = true ↔ ¬ m.1 363 8 = -1 := by rw [ha, decide_eq_true_eq]
  refine CC.mk hG RX10 rfl (by decide +kernel) rfl (Nat.le_of_ble_eq_true rfl) (fun sz B hB hX => ?_)
  show V g B 0 0 _ (hp g m) sz 0 [some (.ref (ad g 363))] []
  have join : ∀ (sz : Nat) (u : Int32), u = (if a = true then 1 else 0) → V g B 0 0 (QM g B 0 0 (rI (akP m (¬ m.1 363 8 = -1) (m.1 363 8))) noX) (hp g (m)) sz 14 [some (.ref (ad g 363))] [.int u, .ref (ad g 363)] := by
    intro sz u hu
    refine V.cv (pc := 14) hB cw_X10_goes wm_X10_61 wi_X10_goes ws_X10_goes dX10_failedCommand_14 (c_X10_goes hG) (hp_at (ca_Model _)) fk_Model rfl (by omega) (by decide) rfl (by exact Nat.le_of_ble_eq_true rfl) (by omega) (by omega) kN (kI (fun v_14 m_14 sz h_14 => ?_)) rfl
    obtain ⟨rfl, hm_14⟩ := h_14
    subst hm_14
    rw [hu, thrV_b1]
    refine V.if_eq (pc := 17) (tgt := 27) hB dX10_failedCommand_17 (by decide) (fun c_17 => ?_) (fun c_17 => ?_)
    · have ha0 : a = false := by
        cases a
        · rfl
        · exact absurd c_17 (by decide)
      rw [ha0, show (if false = false then (1 : Int32) else 0) = 1 from rfl]
      refine V.iconst (pc := 27) (v := 0) hB dX10_failedCommand_27 rfl ?_
      refine V.retI (pc := 28) hB dX10_failedCommand_28 rfl (rfl) (by omega) (by omega) ?_
      first | exact Or.inl ⟨hai.mp ha1, rfl, rfl⟩ | exact Or.inr ⟨fun z => by rw [hai.mpr z] at ha0; exact absurd ha0 (by decide), rfl, rfl⟩
    · have ha1 : a = true := by
        cases a
        · exact absurd rfl c_17
        · rfl
      rw [ha1, show (if true = false then (1 : Int32) else 0) = 0 from rfl]
      refine V.aload_n (pc := 20) hB dX10_failedCommand_20 rfl ?_
      refine V.get (pc := 21) hB fk_Model 8 wf_X10_29 dX10_failedCommand_21 (by decide) (hp_at (ca_Model _)) rfl ?_
      rw [show (up m 363 15 0).1 363 8 = m.1 363 8 from up_slot _ _ _ (by decide)]
      refine V.goto (pc := 24) (tgt := 28) hB dX10_failedCommand_24 (by decide) ?_
      refine V.retI (pc := 28) hB dX10_failedCommand_28 rfl (rfl) (by omega) (by omega) ?_
      first | exact Or.inl ⟨hai.mp ha1, rfl, rfl⟩ | exact Or.inr ⟨fun z => by rw [hai.mpr z] at ha0; exact absurd ha0 (by decide), rfl, rfl⟩
  refine V.aload_n (pc := 0) hB dX10_failedCommand_0 rfl ?_
  refine V.aload_n (pc := 1) hB dX10_failedCommand_1 rfl ?_
  refine V.get (pc := 2) hB fk_Model 8 wf_X10_29 dX10_failedCommand_2 (by decide) (hp_at (ca_Model _)) rfl ?_
  refine V.iconst (pc := 5) (v := (-1)) hB dX10_failedCommand_5 rfl ?_
  refine V.icmp_eq (pc := 6) (tgt := 13) hB dX10_failedCommand_6 (by decide) (fun c_6 => ?_) (fun c_6 => ?_)
  · have hu : (0 : Int32) = if a = true then 1 else 0 := by rw [ha, decide_eq_false (fun w => w c_6)]; rfl
    refine V.iconst (pc := 13) (v := 0) hB dX10_failedCommand_13 rfl ?_
    exact join sz _ hu
  · have hu : (1 : Int32) = if a = true then 1 else 0 := by rw [ha, decide_eq_true c_6]; rfl
    refine V.iconst (pc := 9) (v := 1) hB dX10_failedCommand_9 rfl ?_
    refine V.goto (pc := 10) (tgt := 14) hB dX10_failedCommand_10 (by decide) ?_
    exact join sz _ hu

set_option maxRecDepth 100000 in
set_option maxHeartbeats 1000000 in
theorem c_X10_failureKind {g : xG} (hG : GK g) {m : Mem} (hf : fits .char (.int (m.1 363 9)) = true) : CC g yX10_failureKind (.code yX10_failureKind cX10_failureKind 1 (some .char)) 3 0 0 [.ref (ad g 363)] m (rI (akP m (¬ m.1 363 8 = -1) (m.1 363 9))) noX := by
  obtain ⟨a, ha⟩ : ∃ a, a = decide (¬ m.1 363 8 = -1) := ⟨_, rfl⟩
  have hai : a = true ↔ ¬ m.1 363 8 = -1 := by rw [ha, decide_eq_true_eq]
  have hv16 : ((m.1 363 9).toUInt32 % 65536).toInt32 = m.1 363 9 := Value.int.inj (fits_nar hf)
  refine CC.mk hG RX10 rfl (by decide +kernel) rfl (Nat.le_of_ble_eq_true rfl) (fun sz B hB hX => ?_)
  show V g B 0 0 _ (hp g m) sz 0 [some (.ref (ad g 363))] []
  have join : ∀ (sz : Nat) (u : Int32), u = (if a = true then 1 else 0) → V g B 0 0 (QM g B 0 0 (rI (akP m (¬ m.1 363 8 = -1) (m.1 363 9))) noX) (hp g (m)) sz 14 [some (.ref (ad g 363))] [.int u, .ref (ad g 363)] := by
    intro sz u hu
    refine V.cv (pc := 14) hB cw_X10_goes wm_X10_61 wi_X10_goes ws_X10_goes dX10_failureKind_14 (c_X10_goes hG) (hp_at (ca_Model _)) fk_Model rfl (by omega) (by decide) rfl (by exact Nat.le_of_ble_eq_true rfl) (by omega) (by omega) kN (kI (fun v_14 m_14 sz h_14 => ?_)) rfl
    obtain ⟨rfl, hm_14⟩ := h_14
    subst hm_14
    rw [hu, thrV_b1]
    refine V.if_eq (pc := 17) (tgt := 28) hB dX10_failureKind_17 (by decide) (fun c_17 => ?_) (fun c_17 => ?_)
    · have ha0 : a = false := by
        cases a
        · rfl
        · exact absurd c_17 (by decide)
      rw [ha0, show (if false = false then (1 : Int32) else 0) = 1 from rfl]
      refine V.iconst (pc := 28) (v := 0) hB dX10_failureKind_28 rfl ?_
      refine V.retI (pc := 29) hB dX10_failureKind_29 rfl (by first | rfl | (rw [← hv16]; exact nar_c16 _)) (by omega) (by omega) ?_
      first | exact Or.inl ⟨hai.mp ha1, rfl, rfl⟩ | exact Or.inr ⟨fun z => by rw [hai.mpr z] at ha0; exact absurd ha0 (by decide), rfl, rfl⟩
    · have ha1 : a = true := by
        cases a
        · exact absurd rfl c_17
        · rfl
      rw [ha1, show (if true = false then (1 : Int32) else 0) = 0 from rfl]
      refine V.aload_n (pc := 20) hB dX10_failureKind_20 rfl ?_
      refine V.get (pc := 21) hB fk_Model 9 wf_X10_247 dX10_failureKind_21 (by decide) (hp_at (ca_Model _)) rfl ?_
      rw [show (up m 363 15 0).1 363 9 = m.1 363 9 from up_slot _ _ _ (by decide)]
      refine V.i2c (pc := 24) hB dX10_failureKind_24 ?_
      rw [hv16]
      refine V.goto (pc := 25) (tgt := 29) hB dX10_failureKind_25 (by decide) ?_
      refine V.retI (pc := 29) hB dX10_failureKind_29 rfl (by first | rfl | (rw [← hv16]; exact nar_c16 _)) (by omega) (by omega) ?_
      first | exact Or.inl ⟨hai.mp ha1, rfl, rfl⟩ | exact Or.inr ⟨fun z => by rw [hai.mpr z] at ha0; exact absurd ha0 (by decide), rfl, rfl⟩
  refine V.aload_n (pc := 0) hB dX10_failureKind_0 rfl ?_
  refine V.aload_n (pc := 1) hB dX10_failureKind_1 rfl ?_
  refine V.get (pc := 2) hB fk_Model 8 wf_X10_29 dX10_failureKind_2 (by decide) (hp_at (ca_Model _)) rfl ?_
  refine V.iconst (pc := 5) (v := (-1)) hB dX10_failureKind_5 rfl ?_
  refine V.icmp_eq (pc := 6) (tgt := 13) hB dX10_failureKind_6 (by decide) (fun c_6 => ?_) (fun c_6 => ?_)
  · have hu : (0 : Int32) = if a = true then 1 else 0 := by rw [ha, decide_eq_false (fun w => w c_6)]; rfl
    refine V.iconst (pc := 13) (v := 0) hB dX10_failureKind_13 rfl ?_
    exact join sz _ hu
  · have hu : (1 : Int32) = if a = true then 1 else 0 := by rw [ha, decide_eq_true c_6]; rfl
    refine V.iconst (pc := 9) (v := 1) hB dX10_failureKind_9 rfl ?_
    refine V.goto (pc := 10) (tgt := 14) hB dX10_failureKind_10 (by decide) ?_
    exact join sz _ hu
