theorem rem_nly {m : Mem} (hI : CI m) {j : Nat} (hj : j < 5) : nLy (rem m) 0 j = nLy m 0 j := (rem_agr hI.1 (by omega)).nly hj
theorem rem_nwn {m : Mem} (hI : CI m) : nWn (rem m) 0 = nWn m 0 := ((rem_agr hI.1 (by omega)).sm hI.1.nl5).nw

set_option maxRecDepth 100000 in
set_option maxHeartbeats 4000000 in
theorem c_X9_addLake {g : xG} (hG : GK g) {m : Mem} (hI : CI m) {x : Int32} : CC g yX9_addLake (.code yX9_addLake cX9_addLake 2 (some .int)) 4 1 6 [.ref (ad g 0), .int x] m (rI (fun v m2 => placeF m 0 x = 45 ∧ v = nI (nLk (rem m) 0) ∧ m2 = placeM 0 x (rem m))) (fun E m2 => faultE (placeF m 0 x) = some E ∧ m2 = m) := by
  refine CC.mk hG RX9 rfl (by decide +kernel) rfl (Nat.le_of_ble_eq_true rfl) (fun sz B hB hX => ?_)
  show V g B 0 0 _ (hp g m) sz 0 [some (.ref (ad g 0)), some (.int x)] []
  refine V.aload_n (pc := 0) hB dX9_addLake_0 rfl ?_
  refine V.get (pc := 1) hB fk_Bells 0 wf_X9_12 dX9_addLake_1 (by decide) (hp_at (ca_Bells _)) rfl ?_
  refine V.iload_n (pc := 4) hB dX9_addLake_4 rfl ?_
  refine V.cv (pc := 5) hB cw_X6_placeFault wm_X9_62 wi_X6_placeFault ws_X6_placeFault dX9_addLake_5 (c_X6_placeFault hG (by omega)) (hp_at (ca_Land (by omega) _)) fk_Land rfl (by omega) (by decide) rfl (by exact Nat.le_of_ble_eq_true rfl) (by omega) (by omega) kN (kI (fun v_5 m_5 sz h_5 => ?_)) rfl
  obtain ⟨rfl, rfl⟩ := h_5
  refine V.cs (pc := 8) hB cw_X9_refuseOn wm_X9_66 wst_X9_refuseOn dX9_addLake_8 (c_X9_refuseOn hG) (by omega) (by decide) rfl (by exact Nat.le_of_ble_eq_true rfl) (by omega) (by omega) (fun E m2 sz hx => VX.outM hB hX (by omega) (by omega) hx) (kV (fun m_8 sz h_8 => ?_)) rfl
  obtain ⟨hf0, rfl⟩ := h_8
  have hf := okF_none (placeF_in _ _ _) hf0
  have hg := placeF_ok hI.1 hf
  refine V.aload_n (pc := 11) hB dX9_addLake_11 rfl ?_
  refine V.get (pc := 12) hB fk_Bells 4 wf_X9_29 dX9_addLake_12 (by decide) (hp_at (ca_Bells _)) rfl ?_
  refine V.aload_n (pc := 15) hB dX9_addLake_15 rfl ?_
  refine V.get (pc := 16) hB fk_Bells 0 wf_X9_12 dX9_addLake_16 (by decide) (hp_at (ca_Bells _)) rfl ?_
  refine V.cv (pc := 19) hB cw_X3_remember wm_X9_70 wi_X3_remember ws_X3_remember dX9_addLake_19 (c_X3_remember hG (i := 0) (by omega) hI.2.1 hI.1) (hp_at (ca_Hist _)) fk_Hist rfl (by omega) (by decide) rfl (by exact Nat.le_of_ble_eq_true rfl) (by omega) (by omega) kN (kV (fun m_19 sz h_19 => ?_)) rfl
  obtain rfl : m_19 = rem _ := h_19
  have hL := rem_LW hI.1
  refine V.aload_n (pc := 22) hB dX9_addLake_22 rfl ?_
  refine V.get (pc := 23) hB fk_Bells 0 wf_X9_12 dX9_addLake_23 (by decide) (hp_at (ca_Bells _)) rfl ?_
  refine V.iload_n (pc := 26) hB dX9_addLake_26 rfl ?_
  refine V.cv (pc := 27) hB cw_X6_placeLake wm_X9_74 wi_X6_placeLake ws_X6_placeLake dX9_addLake_27 (c_X6_placeLake hG (by omega) hL.1 (by rw [hL.2]; exact hg.1)) (hp_at (ca_Land (by omega) _)) fk_Land rfl (by omega) (by decide) rfl (by exact Nat.le_of_ble_eq_true rfl) (by omega) (by omega) kN (kI (fun v_27 m_27 sz h_27 => ?_)) rfl
  obtain ⟨rfl, rfl⟩ := h_27
  refine V.retI (pc := 30) hB dX9_addLake_30 rfl (rfl) (by omega) (by omega) ?_
  exact ⟨hf, rfl, rfl⟩

set_option maxRecDepth 100000 in
set_option maxHeartbeats 4000000 in
theorem c_X9_setAir {g : xG} (hG : GK g) {m : Mem} (hI : CI m) {x : Int32} : CC g yX9_setAir (.code yX9_setAir cX9_setAir 2 (some .int)) 4 1 6 [.ref (ad g 0), .int x] m (rI (fun v m2 => airF x = 45 ∧ v = (rem m).1 (LA 0) 2 ∧ m2 = up (rem m) (LA 0) 2 x)) (fun E m2 => faultE (airF x) = some E ∧ m2 = m) := by
  refine CC.mk hG RX9 rfl (by decide +kernel) rfl (Nat.le_of_ble_eq_true rfl) (fun sz B hB hX => ?_)
  show V g B 0 0 _ (hp g m) sz 0 [some (.ref (ad g 0)), some (.int x)] []
  refine V.aload_n (pc := 0) hB dX9_setAir_0 rfl ?_
  refine V.get (pc := 1) hB fk_Bells 0 wf_X9_12 dX9_setAir_1 (by decide) (hp_at (ca_Bells _)) rfl ?_
  refine V.iload_n (pc := 4) hB dX9_setAir_4 rfl ?_
  refine V.cv (pc := 5) hB cw_X6_airFault wm_X9_131 wi_X6_airFault ws_X6_airFault dX9_setAir_5 (c_X6_airFault hG (by omega)) (hp_at (ca_Land (by omega) _)) fk_Land rfl (by omega) (by decide) rfl (by exact Nat.le_of_ble_eq_true rfl) (by omega) (by omega) kN (kI (fun v_5 m_5 sz h_5 => ?_)) rfl
  obtain ⟨rfl, rfl⟩ := h_5
  refine V.cs (pc := 8) hB cw_X9_refuseOn wm_X9_66 wst_X9_refuseOn dX9_setAir_8 (c_X9_refuseOn hG) (by omega) (by decide) rfl (by exact Nat.le_of_ble_eq_true rfl) (by omega) (by omega) (fun E m2 sz hx => VX.outM hB hX (by omega) (by omega) hx) (kV (fun m_8 sz h_8 => ?_)) rfl
  obtain ⟨hf0, rfl⟩ := h_8
  have hf := okF_none (airF_in _) hf0
  
  refine V.aload_n (pc := 11) hB dX9_setAir_11 rfl ?_
  refine V.get (pc := 12) hB fk_Bells 4 wf_X9_29 dX9_setAir_12 (by decide) (hp_at (ca_Bells _)) rfl ?_
  refine V.aload_n (pc := 15) hB dX9_setAir_15 rfl ?_
  refine V.get (pc := 16) hB fk_Bells 0 wf_X9_12 dX9_setAir_16 (by decide) (hp_at (ca_Bells _)) rfl ?_
  refine V.cv (pc := 19) hB cw_X3_remember wm_X9_70 wi_X3_remember ws_X3_remember dX9_setAir_19 (c_X3_remember hG (i := 0) (by omega) hI.2.1 hI.1) (hp_at (ca_Hist _)) fk_Hist rfl (by omega) (by decide) rfl (by exact Nat.le_of_ble_eq_true rfl) (by omega) (by omega) kN (kV (fun m_19 sz h_19 => ?_)) rfl
  obtain rfl : m_19 = rem _ := h_19
  have hL := rem_LW hI.1
  refine V.aload_n (pc := 22) hB dX9_setAir_22 rfl ?_
  refine V.get (pc := 23) hB fk_Bells 0 wf_X9_12 dX9_setAir_23 (by decide) (hp_at (ca_Bells _)) rfl ?_
  refine V.iload_n (pc := 26) hB dX9_setAir_26 rfl ?_
  refine V.cv (pc := 27) hB cw_X6_changeAir wm_X9_134 wi_X6_changeAir ws_X6_changeAir dX9_setAir_27 (c_X6_changeAir hG (by omega)) (hp_at (ca_Land (by omega) _)) fk_Land rfl (by omega) (by decide) rfl (by exact Nat.le_of_ble_eq_true rfl) (by omega) (by omega) kN (kI (fun v_27 m_27 sz h_27 => ?_)) rfl
  obtain ⟨rfl, rfl⟩ := h_27
  refine V.retI (pc := 30) hB dX9_setAir_30 rfl (rfl) (by omega) (by omega) ?_
  exact ⟨hf, rfl, rfl⟩

set_option maxRecDepth 100000 in
set_option maxHeartbeats 4000000 in
theorem c_X9_freeze {g : xG} (hG : GK g) {m : Mem} (hI : CI m) {x t te : Int32} : CC g yX9_freeze (.code yX9_freeze cX9_freeze 4 (some .int)) 4 1 6 [.ref (ad g 0), .int x, .int t, .int te] m (rI (fun v m2 => growF m 0 x t te = 45 ∧ v = nI (nLy (rem m) 0 x.toNatClampNeg + 1) ∧ m2 = growM 0 x.toNatClampNeg t te (rem m))) (fun E m2 => faultE (growF m 0 x t te) = some E ∧ m2 = m) := by
  refine CC.mk hG RX9 rfl (by decide +kernel) rfl (Nat.le_of_ble_eq_true rfl) (fun sz B hB hX => ?_)
  show V g B 0 0 _ (hp g m) sz 0 [some (.ref (ad g 0)), some (.int x), some (.int t), some (.int te)] []
  refine V.aload_n (pc := 0) hB dX9_freeze_0 rfl ?_
  refine V.get (pc := 1) hB fk_Bells 0 wf_X9_12 dX9_freeze_1 (by decide) (hp_at (ca_Bells _)) rfl ?_
  refine V.iload_n (pc := 4) hB dX9_freeze_4 rfl ?_
  refine V.iload_n (pc := 5) hB dX9_freeze_5 rfl ?_
  refine V.iload_n (pc := 6) hB dX9_freeze_6 rfl ?_
  refine V.cv (pc := 7) hB cw_X6_growFault wm_X9_78 wi_X6_growFault ws_X6_growFault dX9_freeze_7 (c_X6_growFault hG (by omega) hI.1) (hp_at (ca_Land (by omega) _)) fk_Land rfl (by omega) (by decide) rfl (by exact Nat.le_of_ble_eq_true rfl) (by omega) (by omega) kN (kI (fun v_7 m_7 sz h_7 => ?_)) rfl
  obtain ⟨rfl, rfl⟩ := h_7
  refine V.cs (pc := 10) hB cw_X9_refuseOn wm_X9_66 wst_X9_refuseOn dX9_freeze_10 (c_X9_refuseOn hG) (by omega) (by decide) rfl (by exact Nat.le_of_ble_eq_true rfl) (by omega) (by omega) (fun E m2 sz hx => VX.outM hB hX (by omega) (by omega) hx) (kV (fun m_10 sz h_10 => ?_)) rfl
  obtain ⟨hf0, rfl⟩ := h_10
  have hf := okF_none (growF_in _ _ _ _ _) hf0
  have hg := growF_ok hI.1 hf
  obtain ⟨j, hxe, hj, hjc⟩ := idx_j hg.1 (by have := hI.1.nl5; omega)
  rw [hjc] at hg
  subst hxe
  have h5 := hI.1.nl5
  have hny := rem_nly hI (j := j) (by omega)
  refine V.aload_n (pc := 13) hB dX9_freeze_13 rfl ?_
  refine V.get (pc := 14) hB fk_Bells 4 wf_X9_29 dX9_freeze_14 (by decide) (hp_at (ca_Bells _)) rfl ?_
  refine V.aload_n (pc := 17) hB dX9_freeze_17 rfl ?_
  refine V.get (pc := 18) hB fk_Bells 0 wf_X9_12 dX9_freeze_18 (by decide) (hp_at (ca_Bells _)) rfl ?_
  refine V.cv (pc := 21) hB cw_X3_remember wm_X9_70 wi_X3_remember ws_X3_remember dX9_freeze_21 (c_X3_remember hG (i := 0) (by omega) hI.2.1 hI.1) (hp_at (ca_Hist _)) fk_Hist rfl (by omega) (by decide) rfl (by exact Nat.le_of_ble_eq_true rfl) (by omega) (by omega) kN (kV (fun m_21 sz h_21 => ?_)) rfl
  obtain rfl : m_21 = rem _ := h_21
  have hL := rem_LW hI.1
  refine V.aload_n (pc := 24) hB dX9_freeze_24 rfl ?_
  refine V.get (pc := 25) hB fk_Bells 0 wf_X9_12 dX9_freeze_25 (by decide) (hp_at (ca_Bells _)) rfl ?_
  refine V.iload_n (pc := 28) hB dX9_freeze_28 rfl ?_
  refine V.iload_n (pc := 29) hB dX9_freeze_29 rfl ?_
  refine V.iload_n (pc := 30) hB dX9_freeze_30 rfl ?_
  refine V.cv (pc := 31) hB cw_X6_growLayer wm_X9_82 wi_X6_growLayer ws_X6_growLayer dX9_freeze_31 (c_X6_growLayer hG (by omega) hL.1 (by rw [hL.2]; exact hj) (by rw [hny]; exact hg.2.2.1)) (hp_at (ca_Land (by omega) _)) fk_Land rfl (by omega) (by decide) rfl (by exact Nat.le_of_ble_eq_true rfl) (by omega) (by omega) kN (kI (fun v_31 m_31 sz h_31 => ?_)) rfl
  obtain ⟨rfl, rfl⟩ := h_31
  refine V.retI (pc := 34) hB dX9_freeze_34 rfl (rfl) (by omega) (by omega) ?_
  rw [hjc]
  exact ⟨hf, rfl, rfl⟩

set_option maxRecDepth 100000 in
set_option maxHeartbeats 4000000 in
theorem c_X9_pass {g : xG} (hG : GK g) {m : Mem} (hI : CI m) {x : Int32} : CC g yX9_pass (.code yX9_pass cX9_pass 2 (some .int)) 7 1 6 [.ref (ad g 0), .int x] m (rI (fun v m2 => passF x = 45 ∧ v = nI (hoursN 0 (rem m) x.toNatClampNeg) ∧ m2 = hoursM 0 (rem m) x.toNatClampNeg)) (fun E m2 => faultE (passF x) = some E ∧ m2 = m) := by
  refine CC.mk hG RX9 rfl (by decide +kernel) rfl (Nat.le_of_ble_eq_true rfl) (fun sz B hB hX => ?_)
  show V g B 0 0 _ (hp g m) sz 0 [some (.ref (ad g 0)), some (.int x)] []
  refine V.aload_n (pc := 0) hB dX9_pass_0 rfl ?_
  refine V.get (pc := 1) hB fk_Bells 0 wf_X9_12 dX9_pass_1 (by decide) (hp_at (ca_Bells _)) rfl ?_
  refine V.iload_n (pc := 4) hB dX9_pass_4 rfl ?_
  refine V.cv (pc := 5) hB cw_X6_passFault wm_X9_140 wi_X6_passFault ws_X6_passFault dX9_pass_5 (c_X6_passFault hG (by omega)) (hp_at (ca_Land (by omega) _)) fk_Land rfl (by omega) (by decide) rfl (by exact Nat.le_of_ble_eq_true rfl) (by omega) (by omega) kN (kI (fun v_5 m_5 sz h_5 => ?_)) rfl
  obtain ⟨rfl, rfl⟩ := h_5
  refine V.cs (pc := 8) hB cw_X9_refuseOn wm_X9_66 wst_X9_refuseOn dX9_pass_8 (c_X9_refuseOn hG) (by omega) (by decide) rfl (by exact Nat.le_of_ble_eq_true rfl) (by omega) (by omega) (fun E m2 sz hx => VX.outM hB hX (by omega) (by omega) hx) (kV (fun m_8 sz h_8 => ?_)) rfl
  obtain ⟨hf0, rfl⟩ := h_8
  have hf := okF_none (passF_in _) hf0
  have hg := passF_ok hf
  obtain ⟨j, hj⟩ : ∃ j, j = x.toNatClampNeg := ⟨_, rfl⟩
  rw [← hj] at hg
  obtain ⟨hxe, hg1, hg2⟩ := hg
  subst hxe
  refine V.aload_n (pc := 11) hB dX9_pass_11 rfl ?_
  refine V.get (pc := 12) hB fk_Bells 4 wf_X9_29 dX9_pass_12 (by decide) (hp_at (ca_Bells _)) rfl ?_
  refine V.aload_n (pc := 15) hB dX9_pass_15 rfl ?_
  refine V.get (pc := 16) hB fk_Bells 0 wf_X9_12 dX9_pass_16 (by decide) (hp_at (ca_Bells _)) rfl ?_
  refine V.cv (pc := 19) hB cw_X3_remember wm_X9_70 wi_X3_remember ws_X3_remember dX9_pass_19 (c_X3_remember hG (i := 0) (by omega) hI.2.1 hI.1) (hp_at (ca_Hist _)) fk_Hist rfl (by omega) (by decide) rfl (by exact Nat.le_of_ble_eq_true rfl) (by omega) (by omega) kN (kV (fun m_19 sz h_19 => ?_)) rfl
  obtain rfl : m_19 = rem _ := h_19
  have hL := rem_LW hI.1
  refine V.aload_n (pc := 22) hB dX9_pass_22 rfl ?_
  refine V.get (pc := 23) hB fk_Bells 0 wf_X9_12 dX9_pass_23 (by decide) (hp_at (ca_Bells _)) rfl ?_
  refine V.iload_n (pc := 26) hB dX9_pass_26 rfl ?_
  refine V.cv (pc := 27) hB cw_X6_letHoursPass wm_X9_143 wi_X6_letHoursPass ws_X6_letHoursPass dX9_pass_27 (c_X6_letHoursPass hG (by omega) hL.1 (n := j) (by omega)) (hp_at (ca_Land (by omega) _)) fk_Land rfl (by omega) (by decide) rfl (by exact Nat.le_of_ble_eq_true rfl) (by omega) (by omega) kN (kI (fun v_27 m_27 sz h_27 => ?_)) rfl
  obtain ⟨rfl, rfl⟩ := h_27
  refine V.retI (pc := 30) hB dX9_pass_30 rfl (rfl) (by omega) (by omega) ?_
  rw [← hj]
  exact ⟨hf, rfl, rfl⟩

set_option maxRecDepth 100000 in
set_option maxHeartbeats 4000000 in
theorem c_X9_addWindow {g : xG} (hG : GK g) {m : Mem} (hI : CI m) {x z : Int32} : CC g yX9_addWindow (.code yX9_addWindow cX9_addWindow 3 (some .int)) 4 1 6 [.ref (ad g 0), .int x, .int z] m (rI (fun v m2 => winF m 0 x z = 45 ∧ v = nI (nWn (rem m) 0 + 1) ∧ m2 = insM 0 (nWn (rem m) 0) x z (rem m))) (fun E m2 => faultE (winF m 0 x z) = some E ∧ m2 = m) := by
  refine CC.mk hG RX9 rfl (by decide +kernel) rfl (Nat.le_of_ble_eq_true rfl) (fun sz B hB hX => ?_)
  show V g B 0 0 _ (hp g m) sz 0 [some (.ref (ad g 0)), some (.int x), some (.int z)] []
  refine V.aload_n (pc := 0) hB dX9_addWindow_0 rfl ?_
  refine V.get (pc := 1) hB fk_Bells 0 wf_X9_12 dX9_addWindow_1 (by decide) (hp_at (ca_Bells _)) rfl ?_
  refine V.iload_n (pc := 4) hB dX9_addWindow_4 rfl ?_
  refine V.iload_n (pc := 5) hB dX9_addWindow_5 rfl ?_
  refine V.cv (pc := 6) hB cw_X6_windowFault wm_X9_163 wi_X6_windowFault ws_X6_windowFault dX9_addWindow_6 (c_X6_windowFault hG (by omega) hI.1) (hp_at (ca_Land (by omega) _)) fk_Land rfl (by omega) (by decide) rfl (by exact Nat.le_of_ble_eq_true rfl) (by omega) (by omega) kN (kI (fun v_6 m_6 sz h_6 => ?_)) rfl
  obtain ⟨rfl, rfl⟩ := h_6
  refine V.cs (pc := 9) hB cw_X9_refuseOn wm_X9_66 wst_X9_refuseOn dX9_addWindow_9 (c_X9_refuseOn hG) (by omega) (by decide) rfl (by exact Nat.le_of_ble_eq_true rfl) (by omega) (by omega) (fun E m2 sz hx => VX.outM hB hX (by omega) (by omega) hx) (kV (fun m_9 sz h_9 => ?_)) rfl
  obtain ⟨hf0, rfl⟩ := h_9
  have hf := okF_none (winF_in _ _ _ _) hf0
  have hg := winF_ok hI.1 hf
  have hnw := rem_nwn hI
  refine V.aload_n (pc := 12) hB dX9_addWindow_12 rfl ?_
  refine V.get (pc := 13) hB fk_Bells 4 wf_X9_29 dX9_addWindow_13 (by decide) (hp_at (ca_Bells _)) rfl ?_
  refine V.aload_n (pc := 16) hB dX9_addWindow_16 rfl ?_
  refine V.get (pc := 17) hB fk_Bells 0 wf_X9_12 dX9_addWindow_17 (by decide) (hp_at (ca_Bells _)) rfl ?_
  refine V.cv (pc := 20) hB cw_X3_remember wm_X9_70 wi_X3_remember ws_X3_remember dX9_addWindow_20 (c_X3_remember hG (i := 0) (by omega) hI.2.1 hI.1) (hp_at (ca_Hist _)) fk_Hist rfl (by omega) (by decide) rfl (by exact Nat.le_of_ble_eq_true rfl) (by omega) (by omega) kN (kV (fun m_20 sz h_20 => ?_)) rfl
  obtain rfl : m_20 = rem _ := h_20
  have hL := rem_LW hI.1
  refine V.aload_n (pc := 23) hB dX9_addWindow_23 rfl ?_
  refine V.get (pc := 24) hB fk_Bells 0 wf_X9_12 dX9_addWindow_24 (by decide) (hp_at (ca_Bells _)) rfl ?_
  refine V.get (pc := 27) hB fk_Land 6 wf_X9_167 dX9_addWindow_27 (by decide) (hp_at (ca_Land (by omega) _)) rfl ?_
  refine V.iload_n (pc := 30) hB dX9_addWindow_30 rfl ?_
  refine V.iload_n (pc := 31) hB dX9_addWindow_31 rfl ?_
  refine V.cv (pc := 32) hB cw_X8_insert wm_X9_171 wi_X8_insert ws_X8_insert dX9_addWindow_32 (c_X8_insert hG (by omega) hL.1.wr (by rw [hnw]; exact hg)) (hp_at (ca_Win (by omega) _)) fk_Win rfl (by omega) (by decide) rfl (by exact Nat.le_of_ble_eq_true rfl) (by omega) (by omega) kN (kI (fun v_32 m_32 sz h_32 => ?_)) rfl
  obtain ⟨rfl, rfl⟩ := h_32
  refine V.retI (pc := 35) hB dX9_addWindow_35 rfl (rfl) (by omega) (by omega) ?_
  exact ⟨hf, rfl, rfl⟩

set_option maxRecDepth 100000 in
set_option maxHeartbeats 4000000 in
theorem c_X9_removeWindow {g : xG} (hG : GK g) {m : Mem} (hI : CI m) {x : Int32} : CC g yX9_removeWindow (.code yX9_removeWindow cX9_removeWindow 2 (some .int)) 4 1 6 [.ref (ad g 0), .int x] m (rI (fun v m2 => openF m 0 x = 45 ∧ v = nI (nWn (rem m) 0 - 1) ∧ m2 = rmM 0 (nWn (rem m) 0) x.toNatClampNeg (rem m))) (fun E m2 => faultE (openF m 0 x) = some E ∧ m2 = m) := by
  refine CC.mk hG RX9 rfl (by decide +kernel) rfl (Nat.le_of_ble_eq_true rfl) (fun sz B hB hX => ?_)
  show V g B 0 0 _ (hp g m) sz 0 [some (.ref (ad g 0)), some (.int x)] []
  refine V.aload_n (pc := 0) hB dX9_removeWindow_0 rfl ?_
  refine V.get (pc := 1) hB fk_Bells 0 wf_X9_12 dX9_removeWindow_1 (by decide) (hp_at (ca_Bells _)) rfl ?_
  refine V.iload_n (pc := 4) hB dX9_removeWindow_4 rfl ?_
  refine V.cv (pc := 5) hB cw_X6_openFault wm_X9_177 wi_X6_openFault ws_X6_openFault dX9_removeWindow_5 (c_X6_openFault hG (by omega) hI.1) (hp_at (ca_Land (by omega) _)) fk_Land rfl (by omega) (by decide) rfl (by exact Nat.le_of_ble_eq_true rfl) (by omega) (by omega) kN (kI (fun v_5 m_5 sz h_5 => ?_)) rfl
  obtain ⟨rfl, rfl⟩ := h_5
  refine V.cs (pc := 8) hB cw_X9_refuseOn wm_X9_66 wst_X9_refuseOn dX9_removeWindow_8 (c_X9_refuseOn hG) (by omega) (by decide) rfl (by exact Nat.le_of_ble_eq_true rfl) (by omega) (by omega) (fun E m2 sz hx => VX.outM hB hX (by omega) (by omega) hx) (kV (fun m_8 sz h_8 => ?_)) rfl
  obtain ⟨hf0, rfl⟩ := h_8
  have hf := okF_none (openF_in _ _ _) hf0
  have hg := openF_ok hf
  obtain ⟨j, hxe, hj, hjc⟩ := idx_j hg (by have := hI.1.wr.2; omega)
  subst hxe
  have hnw := rem_nwn hI
  refine V.aload_n (pc := 11) hB dX9_removeWindow_11 rfl ?_
  refine V.get (pc := 12) hB fk_Bells 4 wf_X9_29 dX9_removeWindow_12 (by decide) (hp_at (ca_Bells _)) rfl ?_
  refine V.aload_n (pc := 15) hB dX9_removeWindow_15 rfl ?_
  refine V.get (pc := 16) hB fk_Bells 0 wf_X9_12 dX9_removeWindow_16 (by decide) (hp_at (ca_Bells _)) rfl ?_
  refine V.cv (pc := 19) hB cw_X3_remember wm_X9_70 wi_X3_remember ws_X3_remember dX9_removeWindow_19 (c_X3_remember hG (i := 0) (by omega) hI.2.1 hI.1) (hp_at (ca_Hist _)) fk_Hist rfl (by omega) (by decide) rfl (by exact Nat.le_of_ble_eq_true rfl) (by omega) (by omega) kN (kV (fun m_19 sz h_19 => ?_)) rfl
  obtain rfl : m_19 = rem _ := h_19
  have hL := rem_LW hI.1
  refine V.aload_n (pc := 22) hB dX9_removeWindow_22 rfl ?_
  refine V.get (pc := 23) hB fk_Bells 0 wf_X9_12 dX9_removeWindow_23 (by decide) (hp_at (ca_Bells _)) rfl ?_
  refine V.get (pc := 26) hB fk_Land 6 wf_X9_167 dX9_removeWindow_26 (by decide) (hp_at (ca_Land (by omega) _)) rfl ?_
  refine V.iload_n (pc := 29) hB dX9_removeWindow_29 rfl ?_
  refine V.cv (pc := 30) hB cw_X8_removeAt wm_X9_180 wi_X8_removeAt ws_X8_removeAt dX9_removeWindow_30 (c_X8_removeAt hG (by omega) hL.1.wr (by rw [hnw]; exact hj)) (hp_at (ca_Win (by omega) _)) fk_Win rfl (by omega) (by decide) rfl (by exact Nat.le_of_ble_eq_true rfl) (by omega) (by omega) kN (kI (fun v_30 m_30 sz h_30 => ?_)) rfl
  obtain ⟨rfl, rfl⟩ := h_30
  refine V.retI (pc := 33) hB dX9_removeWindow_33 rfl (rfl) (by omega) (by omega) ?_
  rw [hjc]
  exact ⟨hf, rfl, rfl⟩

set_option maxRecDepth 100000 in
set_option maxHeartbeats 4000000 in
theorem c_X9_strike {g : xG} (hG : GK g) {m : Mem} (hI : CI m) {x y : Int32} : CC g yX9_strike (.code yX9_strike cX9_strike 3 (some .int)) 4 1 6 [.ref (ad g 0), .int x, .int y] m (rI (fun v m2 => ringF m 0 x y = 45 ∧ v = pitchV ((rem m).1 (LK 0 x.toNatClampNeg + 1)) ((rem m).1 (LK 0 x.toNatClampNeg + 2)) y.toNatClampNeg ∧ m2 = ringM 0 x.toNatClampNeg y.toNatClampNeg (rem m))) (fun E m2 => faultE (ringF m 0 x y) = some E ∧ m2 = m) := by
  refine CC.mk hG RX9 rfl (by decide +kernel) rfl (Nat.le_of_ble_eq_true rfl) (fun sz B hB hX => ?_)
  show V g B 0 0 _ (hp g m) sz 0 [some (.ref (ad g 0)), some (.int x), some (.int y)] []
  refine V.aload_n (pc := 0) hB dX9_strike_0 rfl ?_
  refine V.get (pc := 1) hB fk_Bells 0 wf_X9_12 dX9_strike_1 (by decide) (hp_at (ca_Bells _)) rfl ?_
  refine V.iload_n (pc := 4) hB dX9_strike_4 rfl ?_
  refine V.iload_n (pc := 5) hB dX9_strike_5 rfl ?_
  refine V.cv (pc := 6) hB cw_X6_ringFault wm_X9_196 wi_X6_ringFault ws_X6_ringFault dX9_strike_6 (c_X6_ringFault hG (by omega) hI.1) (hp_at (ca_Land (by omega) _)) fk_Land rfl (by omega) (by decide) rfl (by exact Nat.le_of_ble_eq_true rfl) (by omega) (by omega) kN (kI (fun v_6 m_6 sz h_6 => ?_)) rfl
  obtain ⟨rfl, rfl⟩ := h_6
  refine V.cs (pc := 9) hB cw_X9_refuseOn wm_X9_66 wst_X9_refuseOn dX9_strike_9 (c_X9_refuseOn hG) (by omega) (by decide) rfl (by exact Nat.le_of_ble_eq_true rfl) (by omega) (by omega) (fun E m2 sz hx => VX.outM hB hX (by omega) (by omega) hx) (kV (fun m_9 sz h_9 => ?_)) rfl
  obtain ⟨hf0, rfl⟩ := h_9
  have hf := okF_none (ringF_in _ _ _ _) hf0
  have hg := ringF_ok hf
  obtain ⟨j, hxe, hj, hjc⟩ := idx_j hg.1.1 (by have := hI.1.nl5; omega)
  rw [hjc] at hg
  obtain ⟨q, hye, hq, hqc⟩ := idx_j hg.1.2 (by have := (hI.1.ln hj).2; omega)
  subst hxe
  subst hye
  have h5 := hI.1.nl5
  have h8 := (hI.1.ln hj).2
  refine V.aload_n (pc := 12) hB dX9_strike_12 rfl ?_
  refine V.get (pc := 13) hB fk_Bells 4 wf_X9_29 dX9_strike_13 (by decide) (hp_at (ca_Bells _)) rfl ?_
  refine V.aload_n (pc := 16) hB dX9_strike_16 rfl ?_
  refine V.get (pc := 17) hB fk_Bells 0 wf_X9_12 dX9_strike_17 (by decide) (hp_at (ca_Bells _)) rfl ?_
  refine V.cv (pc := 20) hB cw_X3_remember wm_X9_70 wi_X3_remember ws_X3_remember dX9_strike_20 (c_X3_remember hG (i := 0) (by omega) hI.2.1 hI.1) (hp_at (ca_Hist _)) fk_Hist rfl (by omega) (by decide) rfl (by exact Nat.le_of_ble_eq_true rfl) (by omega) (by omega) kN (kV (fun m_20 sz h_20 => ?_)) rfl
  obtain rfl : m_20 = rem _ := h_20
  have hL := rem_LW hI.1
  refine V.aload_n (pc := 23) hB dX9_strike_23 rfl ?_
  refine V.get (pc := 24) hB fk_Bells 0 wf_X9_12 dX9_strike_24 (by decide) (hp_at (ca_Bells _)) rfl ?_
  refine V.iload_n (pc := 27) hB dX9_strike_27 rfl ?_
  refine V.iload_n (pc := 28) hB dX9_strike_28 rfl ?_
  refine V.cv (pc := 29) hB cw_X6_ring wm_X9_199 wi_X6_ring ws_X6_ring dX9_strike_29 (c_X6_ring hG (by omega) hL.1 (by rw [hL.2]; exact hj) (by omega)) (hp_at (ca_Land (by omega) _)) fk_Land rfl (by omega) (by decide) rfl (by exact Nat.le_of_ble_eq_true rfl) (by omega) (by omega) kN (kI (fun v_29 m_29 sz h_29 => ?_)) rfl
  obtain ⟨rfl, rfl⟩ := h_29
  refine V.retI (pc := 32) hB dX9_strike_32 rfl (rfl) (by omega) (by omega) ?_
  rw [hjc, hqc]
  exact ⟨hf, rfl, rfl⟩

set_option maxRecDepth 100000 in
set_option maxHeartbeats 4000000 in
theorem c_X9_windowFirst {g : xG} (hG : GK g) {m : Mem} (hI : CI m) {x : Int32} : CC g yX9_windowFirst (.code yX9_windowFirst cX9_windowFirst 2 (some .int)) 3 1 6 [.ref (ad g 0), .int x] m (rI (fun v m2 => openF m 0 x = 45 ∧ v = m.1 (LA 0 + 3) x.toNatClampNeg ∧ m2 = m)) (fun E m2 => faultE (openF m 0 x) = some E ∧ m2 = m) := by
  refine CC.mk hG RX9 rfl (by decide +kernel) rfl (Nat.le_of_ble_eq_true rfl) (fun sz B hB hX => ?_)
  show V g B 0 0 _ (hp g m) sz 0 [some (.ref (ad g 0)), some (.int x)] []
  refine V.aload_n (pc := 0) hB dX9_windowFirst_0 rfl ?_
  refine V.get (pc := 1) hB fk_Bells 0 wf_X9_12 dX9_windowFirst_1 (by decide) (hp_at (ca_Bells _)) rfl ?_
  refine V.iload_n (pc := 4) hB dX9_windowFirst_4 rfl ?_
  refine V.cv (pc := 5) hB cw_X6_openFault wm_X9_177 wi_X6_openFault ws_X6_openFault dX9_windowFirst_5 (c_X6_openFault hG (by omega) hI.1) (hp_at (ca_Land (by omega) _)) fk_Land rfl (by omega) (by decide) rfl (by exact Nat.le_of_ble_eq_true rfl) (by omega) (by omega) kN (kI (fun v_5 m_5 sz h_5 => ?_)) rfl
  obtain ⟨rfl, rfl⟩ := h_5
  refine V.cs (pc := 8) hB cw_X9_refuseOn wm_X9_66 wst_X9_refuseOn dX9_windowFirst_8 (c_X9_refuseOn hG) (by omega) (by decide) rfl (by exact Nat.le_of_ble_eq_true rfl) (by omega) (by omega) (fun E m2 sz hx => VX.outM hB hX (by omega) (by omega) hx) (kV (fun m_8 sz h_8 => ?_)) rfl
  obtain ⟨hf0, rfl⟩ := h_8
  have hf := okF_none (openF_in _ _ _) hf0
  have hg := openF_ok hf
  refine V.aload_n (pc := 11) hB dX9_windowFirst_11 rfl ?_
  refine V.get (pc := 12) hB fk_Bells 0 wf_X9_12 dX9_windowFirst_12 (by decide) (hp_at (ca_Bells _)) rfl ?_
  refine V.get (pc := 15) hB fk_Land 6 wf_X9_167 dX9_windowFirst_15 (by decide) (hp_at (ca_Land (by omega) _)) rfl ?_
  refine V.get (pc := 18) hB fk_Win 0 wf_X9_186 dX9_windowFirst_18 (by decide) (hp_at (ca_Win (by omega) _)) rfl ?_
  refine V.iload_n (pc := 21) hB dX9_windowFirst_21 rfl ?_
  refine V.ialdM (pc := 22) hB (ca_WinF (by omega)) dX9_windowFirst_22 (ix_of hg.1 hg.2 (by have := hI.1.wr.2; omega) hI.1.wr.2) ?_
  refine V.retI (pc := 23) hB dX9_windowFirst_23 rfl (rfl) (by omega) (by omega) ?_
  exact ⟨hf, rfl, rfl⟩

set_option maxRecDepth 100000 in
set_option maxHeartbeats 4000000 in
theorem c_X9_windowLast {g : xG} (hG : GK g) {m : Mem} (hI : CI m) {x : Int32} : CC g yX9_windowLast (.code yX9_windowLast cX9_windowLast 2 (some .int)) 3 1 6 [.ref (ad g 0), .int x] m (rI (fun v m2 => openF m 0 x = 45 ∧ v = m.1 (LA 0 + 4) x.toNatClampNeg ∧ m2 = m)) (fun E m2 => faultE (openF m 0 x) = some E ∧ m2 = m) := by
  refine CC.mk hG RX9 rfl (by decide +kernel) rfl (Nat.le_of_ble_eq_true rfl) (fun sz B hB hX => ?_)
  show V g B 0 0 _ (hp g m) sz 0 [some (.ref (ad g 0)), some (.int x)] []
  refine V.aload_n (pc := 0) hB dX9_windowLast_0 rfl ?_
  refine V.get (pc := 1) hB fk_Bells 0 wf_X9_12 dX9_windowLast_1 (by decide) (hp_at (ca_Bells _)) rfl ?_
  refine V.iload_n (pc := 4) hB dX9_windowLast_4 rfl ?_
  refine V.cv (pc := 5) hB cw_X6_openFault wm_X9_177 wi_X6_openFault ws_X6_openFault dX9_windowLast_5 (c_X6_openFault hG (by omega) hI.1) (hp_at (ca_Land (by omega) _)) fk_Land rfl (by omega) (by decide) rfl (by exact Nat.le_of_ble_eq_true rfl) (by omega) (by omega) kN (kI (fun v_5 m_5 sz h_5 => ?_)) rfl
  obtain ⟨rfl, rfl⟩ := h_5
  refine V.cs (pc := 8) hB cw_X9_refuseOn wm_X9_66 wst_X9_refuseOn dX9_windowLast_8 (c_X9_refuseOn hG) (by omega) (by decide) rfl (by exact Nat.le_of_ble_eq_true rfl) (by omega) (by omega) (fun E m2 sz hx => VX.outM hB hX (by omega) (by omega) hx) (kV (fun m_8 sz h_8 => ?_)) rfl
  obtain ⟨hf0, rfl⟩ := h_8
  have hf := okF_none (openF_in _ _ _) hf0
  have hg := openF_ok hf
  refine V.aload_n (pc := 11) hB dX9_windowLast_11 rfl ?_
  refine V.get (pc := 12) hB fk_Bells 0 wf_X9_12 dX9_windowLast_12 (by decide) (hp_at (ca_Bells _)) rfl ?_
  refine V.get (pc := 15) hB fk_Land 6 wf_X9_167 dX9_windowLast_15 (by decide) (hp_at (ca_Land (by omega) _)) rfl ?_
  refine V.get (pc := 18) hB fk_Win 1 wf_X9_189 dX9_windowLast_18 (by decide) (hp_at (ca_Win (by omega) _)) rfl ?_
  refine V.iload_n (pc := 21) hB dX9_windowLast_21 rfl ?_
  refine V.ialdM (pc := 22) hB (ca_WinL (by omega)) dX9_windowLast_22 (ix_of hg.1 hg.2 (by have := hI.1.wr.2; omega) hI.1.wr.2) ?_
  refine V.retI (pc := 23) hB dX9_windowLast_23 rfl (rfl) (by omega) (by omega) ?_
  exact ⟨hf, rfl, rfl⟩

set_option maxRecDepth 100000 in
set_option maxHeartbeats 4000000 in
theorem c_X9_pitch {g : xG} (hG : GK g) {m : Mem} (hI : CI m) {x y : Int32} : CC g yX9_pitch (.code yX9_pitch cX9_pitch 3 (some .int)) 4 1 6 [.ref (ad g 0), .int x, .int y] m (rI (fun v m2 => ringF m 0 x y = 45 ∧ v = pitchV (m.1 (LK 0 x.toNatClampNeg + 1)) (m.1 (LK 0 x.toNatClampNeg + 2)) y.toNatClampNeg ∧ m2 = m)) (fun E m2 => faultE (ringF m 0 x y) = some E ∧ m2 = m) := by
  refine CC.mk hG RX9 rfl (by decide +kernel) rfl (Nat.le_of_ble_eq_true rfl) (fun sz B hB hX => ?_)
  show V g B 0 0 _ (hp g m) sz 0 [some (.ref (ad g 0)), some (.int x), some (.int y)] []
  refine V.aload_n (pc := 0) hB dX9_pitch_0 rfl ?_
  refine V.get (pc := 1) hB fk_Bells 0 wf_X9_12 dX9_pitch_1 (by decide) (hp_at (ca_Bells _)) rfl ?_
  refine V.iload_n (pc := 4) hB dX9_pitch_4 rfl ?_
  refine V.iload_n (pc := 5) hB dX9_pitch_5 rfl ?_
  refine V.cv (pc := 6) hB cw_X6_ringFault wm_X9_196 wi_X6_ringFault ws_X6_ringFault dX9_pitch_6 (c_X6_ringFault hG (by omega) hI.1) (hp_at (ca_Land (by omega) _)) fk_Land rfl (by omega) (by decide) rfl (by exact Nat.le_of_ble_eq_true rfl) (by omega) (by omega) kN (kI (fun v_6 m_6 sz h_6 => ?_)) rfl
  obtain ⟨rfl, rfl⟩ := h_6
  refine V.cs (pc := 9) hB cw_X9_refuseOn wm_X9_66 wst_X9_refuseOn dX9_pitch_9 (c_X9_refuseOn hG) (by omega) (by decide) rfl (by exact Nat.le_of_ble_eq_true rfl) (by omega) (by omega) (fun E m2 sz hx => VX.outM hB hX (by omega) (by omega) hx) (kV (fun m_9 sz h_9 => ?_)) rfl
  obtain ⟨hf0, rfl⟩ := h_9
  have hf := okF_none (ringF_in _ _ _ _) hf0
  have hg := ringF_ok hf
  obtain ⟨j, hxe, hj, hjc⟩ := idx_j hg.1.1 (by have := hI.1.nl5; omega)
  rw [hjc] at hg
  obtain ⟨q, hye, hq, hqc⟩ := idx_j hg.1.2 (by have := (hI.1.ln hj).2; omega)
  subst hxe
  subst hye
  have h5 := hI.1.nl5
  have h8 := (hI.1.ln hj).2
  refine V.aload_n (pc := 12) hB dX9_pitch_12 rfl ?_
  refine V.get (pc := 13) hB fk_Bells 0 wf_X9_12 dX9_pitch_13 (by decide) (hp_at (ca_Bells _)) rfl ?_
  refine V.get (pc := 16) hB fk_Land 0 wf_X9_157 dX9_pitch_16 (by decide) (hp_at (ca_Land (by omega) _)) rfl ?_
  refine V.iload_n (pc := 19) hB dX9_pitch_19 rfl ?_
  refine V.aaldLk (pc := 20) hB (by omega) dX9_pitch_20 (ix_nI (by omega) (by decide)) ?_
  refine V.iload_n (pc := 21) hB dX9_pitch_21 rfl ?_
  refine V.cv (pc := 22) hB cw_X5_pitchOf wm_X9_202 wi_X5_pitchOf ws_X5_pitchOf dX9_pitch_22 (c_X5_pitchOf hG (by omega) (by omega) (by omega)) (hp_at (ca_Lake (by omega) (by omega) _)) fk_Lake rfl (by omega) (by decide) rfl (by exact Nat.le_of_ble_eq_true rfl) (by omega) (by omega) kN (kI (fun v_22 m_22 sz h_22 => ?_)) rfl
  obtain ⟨rfl, rfl⟩ := h_22
  refine V.retI (pc := 25) hB dX9_pitch_25 rfl (rfl) (by omega) (by omega) ?_
  rw [hjc, hqc]
  exact ⟨hf, rfl, rfl⟩

set_option maxRecDepth 100000 in
set_option maxHeartbeats 4000000 in
theorem c_X9_save {g : xG} (hG : GK g) {m : Mem} (hI : CI m) : CC g yX9_save (.code yX9_save cX9_save 1 (some .int)) 3 0 0 [.ref (ad g 0)] m (rI (fun v m2 => v = (up (cpLand 2 0 m) 0 3 1).1 (LA 0) 1 ∧ m2 = up (cpLand 2 0 m) 0 3 1)) noX := by
  refine CC.mk hG RX9 rfl (by decide +kernel) rfl (Nat.le_of_ble_eq_true rfl) (fun sz B hB hX => ?_)
  show V g B 0 0 _ (hp g m) sz 0 [some (.ref (ad g 0))] []
  refine V.aload_n (pc := 0) hB dX9_save_0 rfl ?_
  refine V.get (pc := 1) hB fk_Bells 2 wf_X9_19 dX9_save_1 (by decide) (hp_at (ca_Bells _)) rfl ?_
  refine V.aload_n (pc := 4) hB dX9_save_4 rfl ?_
  refine V.get (pc := 5) hB fk_Bells 0 wf_X9_12 dX9_save_5 (by decide) (hp_at (ca_Bells _)) rfl ?_
  refine V.cv (pc := 8) hB cw_X6_copyFrom wm_X9_149 wi_X6_copyFrom ws_X6_copyFrom dX9_save_8 (c_X6_copyFrom hG (i := 2) (i2 := 0) (by omega) (by omega) (by decide) hI.1) (hp_at (ca_Land (by omega) _)) fk_Land rfl (by omega) (by decide) rfl (by exact Nat.le_of_ble_eq_true rfl) (by omega) (by omega) kN (kV (fun m_8 sz h_8 => ?_)) rfl
  subst h_8
  refine V.aload_n (pc := 11) hB dX9_save_11 rfl ?_
  refine V.iconst (pc := 12) (v := 1) hB dX9_save_12 rfl ?_
  refine V.p_Bells_hasSnapshot (pc := 13) hB wf_X9_22 dX9_save_13 rfl rfl ?_
  refine V.aload_n (pc := 16) hB dX9_save_16 rfl ?_
  refine V.get (pc := 17) hB fk_Bells 0 wf_X9_12 dX9_save_17 (by decide) (hp_at (ca_Bells _)) rfl ?_
  refine V.get (pc := 20) hB fk_Land 1 wf_X9_86 dX9_save_20 (by decide) (hp_at (ca_Land (by omega) _)) rfl ?_
  refine V.retI (pc := 23) hB dX9_save_23 rfl (rfl) (by omega) (by omega) ?_
  exact ⟨rfl, rfl⟩

set_option maxRecDepth 100000 in
set_option maxHeartbeats 4000000 in
theorem c_X9_restore {g : xG} (hG : GK g) {m : Mem} (hI : CI m) : CC g yX9_restore (.code yX9_restore cX9_restore 1 (some .int)) 3 1 6 [.ref (ad g 0)] m (rI (fun v m2 => ¬ m.1 0 3 = 0 ∧ v = (up (cpLand 0 2 m) 91 1 0).1 (LA 0) 1 ∧ m2 = up (cpLand 0 2 m) 91 1 0)) (fun E m2 => E = "java/lang/IllegalStateException" ∧ m.1 0 3 = 0 ∧ m2 = m) := by
  refine CC.mkX hG RX9 rfl (by decide +kernel) rfl (Nat.le_of_ble_eq_true rfl) (fun sz B hB hX hS => ?_)
  show V g B 0 0 _ (hp g m) sz 0 [some (.ref (ad g 0))] []
  refine V.aload_n (pc := 0) hB dX9_restore_0 rfl ?_
  refine V.get (pc := 1) hB fk_Bells 3 wf_X9_22 dX9_restore_1 (by decide) (hp_at (ca_Bells _)) rfl ?_
  refine V.if_ne (pc := 4) (tgt := 18) hB dX9_restore_4 (by decide) (fun c_4 => ?_) (fun c_4 => ?_)
  · have hS2 : LW m 2 := hI.2.2.2.elim (fun z => absurd z c_4) (fun z => z.2)
    refine V.aload_n (pc := 18) hB dX9_restore_18 rfl ?_
    refine V.get (pc := 19) hB fk_Bells 0 wf_X9_12 dX9_restore_19 (by decide) (hp_at (ca_Bells _)) rfl ?_
    refine V.aload_n (pc := 22) hB dX9_restore_22 rfl ?_
    refine V.get (pc := 23) hB fk_Bells 2 wf_X9_19 dX9_restore_23 (by decide) (hp_at (ca_Bells _)) rfl ?_
    refine V.cv (pc := 26) hB cw_X6_copyFrom wm_X9_149 wi_X6_copyFrom ws_X6_copyFrom dX9_restore_26 (c_X6_copyFrom hG (i := 0) (i2 := 2) (by omega) (by omega) (by decide) hS2) (hp_at (ca_Land (by omega) _)) fk_Land rfl (by omega) (by decide) rfl (by exact Nat.le_of_ble_eq_true rfl) (by omega) (by omega) kN (kV (fun m_26 sz h_26 => ?_)) rfl
    subst h_26
    refine V.aload_n (pc := 29) hB dX9_restore_29 rfl ?_
    refine V.get (pc := 30) hB fk_Bells 4 wf_X9_29 dX9_restore_30 (by decide) (hp_at (ca_Bells _)) rfl ?_
    refine V.cv (pc := 33) hB cw_X3_forget wm_X9_346 wi_X3_forget ws_X3_forget dX9_restore_33 (c_X3_forget hG) (hp_at (ca_Hist _)) fk_Hist rfl (by omega) (by decide) rfl (by exact Nat.le_of_ble_eq_true rfl) (by omega) (by omega) kN (kV (fun m_33 sz h_33 => ?_)) rfl
    subst h_33
    refine V.aload_n (pc := 36) hB dX9_restore_36 rfl ?_
    refine V.get (pc := 37) hB fk_Bells 0 wf_X9_12 dX9_restore_37 (by decide) (hp_at (ca_Bells _)) rfl ?_
    refine V.get (pc := 40) hB fk_Land 1 wf_X9_86 dX9_restore_40 (by decide) (hp_at (ca_Land (by omega) _)) rfl ?_
    refine V.retI (pc := 43) hB dX9_restore_43 rfl (rfl) (by omega) (by omega) ?_
    exact ⟨c_4, rfl, rfl⟩
  · refine V.throwSW (pc := 7) hB hX hS tw_263_344 dX9_restore_7 dX9_restore_10 dX9_restore_11 dX9_restore_14 dX9_restore_17 (by omega) (by exact Nat.le_of_ble_eq_true rfl) (by omega) (by omega) (fun _ => ⟨_, rfl, ?_⟩)
    exact ⟨rfl, c_4, rfl⟩

def tlyM (m : Mem) : Mem := setRow m 362 (tallyRow (m.1 (LA 0 + 8)) (m.1 362) (cOf m 0))
theorem tly_agr (m : Mem) : Agr m (tlyM m) 0 := fun o ho => setRow_cell _ _ (by unfold LA; split <;> omega)
def csB (m : Mem) : Prop := nI (pairsN (m.1 (LA 0 + 8)) (cOf m 0) (cOf m 0)) = l_sum (fun p => nI (cntEq (m.1 (LA 0 + 8)) (nI p) (cOf m 0)) * (nI (cntEq (m.1 (LA 0 + 8)) (nI p) (cOf m 0)) - 1) / 2) 141 ∧ (tlyM m).1 (LA 0) 4 - (tlyM m).1 (LA 0) 5 = l_sum (iceV (tlyM m) 0) (nLk (tlyM m) 0)

set_option maxRecDepth 100000 in
set_option maxHeartbeats 4000000 in
theorem c_X9_isConsistent {g : xG} (hG : GK g) {m : Mem} (hI : CI m) : CC g yX9_isConsistent (.code yX9_isConsistent cX9_isConsistent 1 (some .boolean)) 7 0 0 [.ref (ad g 0)] m (rI (fun v m2 => ((csB m ∧ v = 1) ∨ (¬ csB m ∧ v = 0)) ∧ m2 = tlyM m)) noX := by
  refine CC.mk hG RX9 rfl (by decide +kernel) rfl (Nat.le_of_ble_eq_true rfl) (fun sz B hB hX => ?_)
  show V g B 0 0 _ (hp g m) sz 0 [some (.ref (ad g 0))] []
  refine V.aload_n (pc := 0) hB dX9_isConsistent_0 rfl ?_
  refine V.get (pc := 1) hB fk_Bells 0 wf_X9_12 dX9_isConsistent_1 (by decide) (hp_at (ca_Bells _)) rfl ?_
  refine V.cv (pc := 4) hB cw_X6_bothSumsAgree wm_X9_331 wi_X6_bothSumsAgree ws_X6_bothSumsAgree dX9_isConsistent_4 (c_X6_bothSumsAgree hG (by omega) hI.1) (hp_at (ca_Land (by omega) _)) fk_Land rfl (by omega) (by decide) rfl (by exact Nat.le_of_ble_eq_true rfl) (by omega) (by omega) kN (kI (fun v_4 m_4 sz h_4 => ?_)) rfl
  obtain ⟨rfl, rfl⟩ := h_4
  refine V.if_eq (pc := 7) (tgt := 66) hB dX9_isConsistent_7 (by decide) (fun c_7 => ?_) (fun c_7 => ?_)
  · exact absurd c_7 (by decide)
  · refine V.aload_n (pc := 10) hB dX9_isConsistent_10 rfl ?_
    refine V.get (pc := 11) hB fk_Bells 0 wf_X9_12 dX9_isConsistent_11 (by decide) (hp_at (ca_Bells _)) rfl ?_
    refine V.get (pc := 14) hB fk_Land 7 wf_X9_205 dX9_isConsistent_14 (by decide) (hp_at (ca_Land (by omega) _)) rfl ?_
    refine V.cv (pc := 17) hB cw_X7_pairsByComparing wm_X9_227 wi_X7_pairsByComparing ws_X7_pairsByComparing dX9_isConsistent_17 (c_X7_pairsByComparing hG (by omega) hI.1.pr) (hp_at (ca_Peal (by omega) _)) fk_Peal rfl (by omega) (by decide) rfl (by exact Nat.le_of_ble_eq_true rfl) (by omega) (by omega) kN (kI (fun v_17 m_17 sz h_17 => ?_)) rfl
    obtain ⟨rfl, rfl⟩ := h_17
    refine V.aload_n (pc := 20) hB dX9_isConsistent_20 rfl ?_
    refine V.get (pc := 21) hB fk_Bells 0 wf_X9_12 dX9_isConsistent_21 (by decide) (hp_at (ca_Bells _)) rfl ?_
    refine V.get (pc := 24) hB fk_Land 7 wf_X9_205 dX9_isConsistent_24 (by decide) (hp_at (ca_Land (by omega) _)) rfl ?_
    refine V.aload_n (pc := 27) hB dX9_isConsistent_27 rfl ?_
    refine V.get (pc := 28) hB fk_Bells 10 wf_X9_58 dX9_isConsistent_28 (by decide) (hp_at (ca_Bells _)) rfl ?_
    refine V.cv (pc := 31) hB cw_X7_pairsByCounting wm_X9_230 wi_X7_pairsByCounting ws_X7_pairsByCounting dX9_isConsistent_31 (c_X7_pairsByCounting hG (by omega) hI.1.pr) (hp_at (ca_Peal (by omega) _)) fk_Peal rfl (by omega) (by decide) rfl (by exact Nat.le_of_ble_eq_true rfl) (by omega) (by omega) kN (kI (fun v_31 m_31 sz h_31 => ?_)) rfl
    obtain ⟨rfl, h_31⟩ := h_31
    obtain rfl : m_31 = tlyM _ := h_31
    have hL := ((tly_agr _).lw hI.1).1
    refine V.icmp_ne (pc := 34) (tgt := 66) hB dX9_isConsistent_34 (by decide) (fun c_34 => ?_) (fun c_34 => ?_)
    · refine V.iconst (pc := 66) (v := 0) hB dX9_isConsistent_66 rfl ?_
      refine V.retI (pc := 67) hB dX9_isConsistent_67 rfl (rfl) (by omega) (by omega) ?_
      first
      | exact ⟨Or.inl ⟨⟨c_34, c_59⟩, rfl⟩, rfl⟩
      | exact ⟨Or.inr ⟨fun z => c_59 z.2, rfl⟩, rfl⟩
      | exact ⟨Or.inr ⟨fun z => c_34 z.1, rfl⟩, rfl⟩
    · refine V.aload_n (pc := 37) hB dX9_isConsistent_37 rfl ?_
      refine V.get (pc := 38) hB fk_Bells 0 wf_X9_12 dX9_isConsistent_38 (by decide) (hp_at (ca_Bells _)) rfl ?_
      refine V.get (pc := 41) hB fk_Land 4 wf_X9_245 dX9_isConsistent_41 (by decide) (hp_at (ca_Land (by omega) _)) rfl ?_
      refine V.aload_n (pc := 44) hB dX9_isConsistent_44 rfl ?_
      refine V.get (pc := 45) hB fk_Bells 0 wf_X9_12 dX9_isConsistent_45 (by decide) (hp_at (ca_Bells _)) rfl ?_
      refine V.get (pc := 48) hB fk_Land 5 wf_X9_248 dX9_isConsistent_48 (by decide) (hp_at (ca_Land (by omega) _)) rfl ?_
      refine V.isub (pc := 51) hB dX9_isConsistent_51 ?_
      refine V.aload_n (pc := 52) hB dX9_isConsistent_52 rfl ?_
      refine V.get (pc := 53) hB fk_Bells 0 wf_X9_12 dX9_isConsistent_53 (by decide) (hp_at (ca_Bells _)) rfl ?_
      refine V.cv (pc := 56) hB cw_X6_allIce wm_X9_334 wi_X6_allIce ws_X6_allIce dX9_isConsistent_56 (c_X6_allIce hG (by omega) hL) (hp_at (ca_Land (by omega) _)) fk_Land rfl (by omega) (by decide) rfl (by exact Nat.le_of_ble_eq_true rfl) (by omega) (by omega) kN (kI (fun v_56 m_56 sz h_56 => ?_)) rfl
      obtain ⟨rfl, rfl⟩ := h_56
      refine V.icmp_ne (pc := 59) (tgt := 66) hB dX9_isConsistent_59 (by decide) (fun c_59 => ?_) (fun c_59 => ?_)
      · refine V.iconst (pc := 66) (v := 0) hB dX9_isConsistent_66 rfl ?_
        refine V.retI (pc := 67) hB dX9_isConsistent_67 rfl (rfl) (by omega) (by omega) ?_
        first
        | exact ⟨Or.inl ⟨⟨c_34, c_59⟩, rfl⟩, rfl⟩
        | exact ⟨Or.inr ⟨fun z => c_59 z.2, rfl⟩, rfl⟩
        | exact ⟨Or.inr ⟨fun z => c_34 z.1, rfl⟩, rfl⟩
      · refine V.iconst (pc := 62) (v := 1) hB dX9_isConsistent_62 rfl ?_
        refine V.goto (pc := 63) (tgt := 67) hB dX9_isConsistent_63 (by decide) ?_
        refine V.retI (pc := 67) hB dX9_isConsistent_67 rfl (rfl) (by omega) (by omega) ?_
        first
        | exact ⟨Or.inl ⟨⟨c_34, c_59⟩, rfl⟩, rfl⟩
        | exact ⟨Or.inr ⟨fun z => c_59 z.2, rfl⟩, rfl⟩
        | exact ⟨Or.inr ⟨fun z => c_34 z.1, rfl⟩, rfl⟩

set_option maxRecDepth 100000 in
set_option maxHeartbeats 4000000 in
theorem c_X9_hoursUntilCrack {g : xG} (hG : GK g) {m : Mem} (hI : CI m) : CC g yX9_hoursUntilCrack (.code yX9_hoursUntilCrack cX9_hoursUntilCrack 2 (some .int)) 6 1 6 [.ref (ad g 0)] m (rI (fun v m2 => ∃ n, n < 96 ∧ v = nI (n + 1) ∧ (∀ p, p < n → hourN 1 (hoursM 1 (cpLand 1 0 m) p) = 0) ∧ 0 < hourN 1 (hoursM 1 (cpLand 1 0 m) n) ∧ m2 = hoursM 1 (cpLand 1 0 m) (n + 1))) (fun E m2 => E = "java/util/NoSuchElementException" ∧ (∀ p, p < 96 → hourN 1 (hoursM 1 (cpLand 1 0 m) p) = 0) ∧ m2 = hoursM 1 (cpLand 1 0 m) 96) := by
  refine CC.mkX hG RX9 rfl (by decide +kernel) rfl (Nat.le_of_ble_eq_true rfl) (fun sz B hB hX hS => ?_)
  show V g B 0 0 _ (hp g m) sz 0 [some (.ref (ad g 0)), none] []
  have loop : ∀ q : Nat, q ≤ 96 → ∀ (sz : Nat), (∀ p, p < q → hourN 1 (hoursM 1 (cpLand 1 0 m) p) = 0) → V g B 0 0 (QM g B 1 6 (rI (fun v m2 => ∃ n, n < 96 ∧ v = nI (n + 1) ∧ (∀ p, p < n → hourN 1 (hoursM 1 (cpLand 1 0 m) p) = 0) ∧ 0 < hourN 1 (hoursM 1 (cpLand 1 0 m) n) ∧ m2 = hoursM 1 (cpLand 1 0 m) (n + 1))) (fun E m2 => E = "java/util/NoSuchElementException" ∧ (∀ p, p < 96 → hourN 1 (hoursM 1 (cpLand 1 0 m) p) = 0) ∧ m2 = hoursM 1 (cpLand 1 0 m) 96)) (hp g (hoursM 1 (cpLand 1 0 m) q)) sz 13 [some (.ref (ad g 0)), some (.int (nI (q + 1)))] [] := by
    have hL1 := (cpLand_LW (i := 1) (i2 := 0) (by decide) hI.1).1
    refine loop_up (fun q hq ih => ?_)
    intro sz hz
    refine V.iload_n (pc := 13) hB dX9_hoursUntilCrack_13 rfl ?_
    refine V.bipush (pc := 14) (v := 96) hB dX9_hoursUntilCrack_14 rfl ?_
    refine V.icmp_gt (pc := 16) (tgt := 37) hB dX9_hoursUntilCrack_16 (by decide) (fun c_16 => ?_) (fun c_16 => ?_)
    · have hq96 : q = 96 := by
        have := (nI_ltI (a := 96) (b := q + 1) (by decide) (by omega)).mp c_16
        omega
      refine V.throwX (pc := 37) hB hX hS rx_0 rx_1 rx_2 rx_5 tw_124_155 dX9_hoursUntilCrack_37 dX9_hoursUntilCrack_40 dX9_hoursUntilCrack_41 dX9_hoursUntilCrack_43 dX9_hoursUntilCrack_46 (by omega) (by exact Nat.le_of_ble_eq_true rfl) (by omega) (by omega) (fun _ => ⟨_, rfl, ?_⟩)
      subst hq96
      exact ⟨rfl, hz, rfl⟩
    · have hlt : q < 96 := Nat.not_le.mp (fun z => c_16 ((nI_ltI (a := 96) (b := q + 1) (by decide) (by omega)).mpr (by omega)))
      refine V.aload_n (pc := 19) hB dX9_hoursUntilCrack_19 rfl ?_
      refine V.get (pc := 20) hB fk_Bells 1 wf_X9_16 dX9_hoursUntilCrack_20 (by decide) (hp_at (ca_Bells _)) rfl ?_
      refine V.cv (pc := 23) hB cw_X6_letHourPass wm_X9_152 wi_X6_letHourPass ws_X6_letHourPass dX9_hoursUntilCrack_23 (c_X6_letHourPass hG (by omega) (hours_LW hL1 q).1) (hp_at (ca_Land (by omega) _)) fk_Land rfl (by omega) (by decide) rfl (by exact Nat.le_of_ble_eq_true rfl) (by omega) (by omega) kN (kI (fun v_23 m_23 sz h_23 => ?_)) rfl
      obtain ⟨rfl, rfl⟩ := h_23
      refine V.if_le (pc := 26) (tgt := 31) hB dX9_hoursUntilCrack_26 (by decide) (fun c_26 => ?_) (fun c_26 => ?_)
      · have h0 := (nI_le0 (by have := hourN_le (hours_LW hL1 q).1; omega)).mp c_26
        refine V.iinc (pc := 31) (v := nI (q + 1 + 1)) hB dX9_hoursUntilCrack_31 rfl (nI_1 _) (by decide) rfl ?_
        refine V.goto (pc := 34) (tgt := 13) hB dX9_hoursUntilCrack_34 (by decide) ?_
        exact ih hlt sz (fun p hp => (Nat.lt_succ_iff_lt_or_eq.mp hp).elim (hz p) (fun e => by rw [e]; exact h0))
      · have hp : 0 < hourN 1 (hoursM 1 (cpLand 1 0 m) q) := Nat.pos_of_ne_zero (fun z => c_26 ((nI_le0 (by have := hourN_le (hours_LW hL1 q).1; omega)).mpr z))
        refine V.iload_n (pc := 29) hB dX9_hoursUntilCrack_29 rfl ?_
        refine V.retI (pc := 30) hB dX9_hoursUntilCrack_30 rfl (rfl) (by omega) (by omega) ?_
        exact ⟨q, hlt, rfl, hz, hp, rfl⟩
  refine V.aload_n (pc := 0) hB dX9_hoursUntilCrack_0 rfl ?_
  refine V.get (pc := 1) hB fk_Bells 1 wf_X9_16 dX9_hoursUntilCrack_1 (by decide) (hp_at (ca_Bells _)) rfl ?_
  refine V.aload_n (pc := 4) hB dX9_hoursUntilCrack_4 rfl ?_
  refine V.get (pc := 5) hB fk_Bells 0 wf_X9_12 dX9_hoursUntilCrack_5 (by decide) (hp_at (ca_Bells _)) rfl ?_
  refine V.cv (pc := 8) hB cw_X6_copyFrom wm_X9_149 wi_X6_copyFrom ws_X6_copyFrom dX9_hoursUntilCrack_8 (c_X6_copyFrom hG (i := 1) (i2 := 0) (by omega) (by omega) (by decide) hI.1) (hp_at (ca_Land (by omega) _)) fk_Land rfl (by omega) (by decide) rfl (by exact Nat.le_of_ble_eq_true rfl) (by omega) (by omega) kN (kV (fun m_8 sz h_8 => ?_)) rfl
  subst h_8
  refine V.iconst (pc := 11) (v := 1) hB dX9_hoursUntilCrack_11 rfl ?_
  refine V.istore_n (pc := 12) hB dX9_hoursUntilCrack_12 (by decide) rfl ?_
  exact loop 0 (by omega) sz (fun p hp => absurd hp (Nat.not_lt_zero _))

theorem LN.zero {m : Mem} {i j N : Nat} (h : LN m i j N) : m.1 (LK i j) 3 = 0 ↔ N = 0 := by
  rw [h.1]
  refine ⟨fun z => ?_, fun z => by rw [z]; rfl⟩
  have := congrArg Int32.toNatClampNeg z
  rw [nI_clamp (by have := h.2; omega)] at this
  exact this

set_option maxRecDepth 100000 in
set_option maxHeartbeats 4000000 in
theorem c_X9_hoursUntilThawed {g : xG} (hG : GK g) {m : Mem} (hI : CI m) {x : Int32} : CC g yX9_hoursUntilThawed (.code yX9_hoursUntilThawed cX9_hoursUntilThawed 3 (some .int)) 6 2 12 [.ref (ad g 0), .int x] m (rI (fun v m2 => inL m x ∧ ((nLy m 0 x.toNatClampNeg = 0 ∧ v = 0 ∧ m2 = m) ∨ (¬ nLy m 0 x.toNatClampNeg = 0 ∧ ∃ n, n < 96 ∧ v = nI (n + 1) ∧ (∀ p, p < n → ¬ nLy (hoursM 1 (cpLand 1 0 m) (p + 1)) 1 x.toNatClampNeg = 0) ∧ nLy (hoursM 1 (cpLand 1 0 m) (n + 1)) 1 x.toNatClampNeg = 0 ∧ m2 = hoursM 1 (cpLand 1 0 m) (n + 1))))) (fun E m2 => (E = "java/lang/IndexOutOfBoundsException" ∧ ¬ inL m x ∧ m2 = m) ∨ (E = "java/util/NoSuchElementException" ∧ (inL m x ∧ ¬ nLy m 0 x.toNatClampNeg = 0) ∧ (∀ p, p < 96 → ¬ nLy (hoursM 1 (cpLand 1 0 m) (p + 1)) 1 x.toNatClampNeg = 0) ∧ m2 = hoursM 1 (cpLand 1 0 m) 96)) := by
  refine CC.mkX hG RX9 rfl (by decide +kernel) rfl (Nat.le_of_ble_eq_true rfl) (fun sz B hB hX hS => ?_)
  show V g B 0 0 _ (hp g m) sz 0 [some (.ref (ad g 0)), some (.int x), none] []
  have loop : ∀ m : Mem, CI m → inL m x → ¬ nLy m 0 x.toNatClampNeg = 0 → ∀ q : Nat, q ≤ 96 → ∀ (sz : Nat), (∀ p, p < q → ¬ nLy (hoursM 1 (cpLand 1 0 m) (p + 1)) 1 x.toNatClampNeg = 0) → V g B 1 6 (QM g B 2 12 (rI (fun v m2 => inL m x ∧ ((nLy m 0 x.toNatClampNeg = 0 ∧ v = 0 ∧ m2 = m) ∨ (¬ nLy m 0 x.toNatClampNeg = 0 ∧ ∃ n, n < 96 ∧ v = nI (n + 1) ∧ (∀ p, p < n → ¬ nLy (hoursM 1 (cpLand 1 0 m) (p + 1)) 1 x.toNatClampNeg = 0) ∧ nLy (hoursM 1 (cpLand 1 0 m) (n + 1)) 1 x.toNatClampNeg = 0 ∧ m2 = hoursM 1 (cpLand 1 0 m) (n + 1))))) (fun E m2 => (E = "java/lang/IndexOutOfBoundsException" ∧ ¬ inL m x ∧ m2 = m) ∨ (E = "java/util/NoSuchElementException" ∧ (inL m x ∧ ¬ nLy m 0 x.toNatClampNeg = 0) ∧ (∀ p, p < 96 → ¬ nLy (hoursM 1 (cpLand 1 0 m) (p + 1)) 1 x.toNatClampNeg = 0) ∧ m2 = hoursM 1 (cpLand 1 0 m) 96))) (hp g (hoursM 1 (cpLand 1 0 m) q)) sz 26 [some (.ref (ad g 0)), some (.int x), some (.int (nI (q + 1)))] [] := by
    clear hI
    intro m hI hc hy1
    have hcl := cpLand_LW (i := 1) (i2 := 0) (by decide) hI.1
    have hL1 := hcl.1
    obtain ⟨hxe, hx⟩ := idx_of hc (by have := hI.1.nl5; omega)
    have h5 := hI.1.nl5
    refine loop_up (fun q hq ih => ?_)
    intro sz hz
    refine V.iload_n (pc := 26) hB dX9_hoursUntilThawed_26 rfl ?_
    refine V.bipush (pc := 27) (v := 96) hB dX9_hoursUntilThawed_27 rfl ?_
    refine V.icmp_gt (pc := 29) (tgt := 63) hB dX9_hoursUntilThawed_29 (by decide) (fun c_29 => ?_) (fun c_29 => ?_)
    · have hq96 : q = 96 := by
        have := (nI_ltI (a := 96) (b := q + 1) (by decide) (by omega)).mp c_29
        omega
      refine V.throwX (pc := 63) hB hX hS rx_0 rx_1 rx_2 rx_5 tw_124_161 dX9_hoursUntilThawed_63 dX9_hoursUntilThawed_66 dX9_hoursUntilThawed_67 dX9_hoursUntilThawed_69 dX9_hoursUntilThawed_72 (by omega) (by exact Nat.le_of_ble_eq_true rfl) (by omega) (by omega) (fun _ => ⟨_, rfl, ?_⟩)
      subst hq96
      exact Or.inr ⟨rfl, ⟨hc, hy1⟩, hz, rfl⟩
    · have hlt : q < 96 := Nat.not_le.mp (fun z => c_29 ((nI_ltI (a := 96) (b := q + 1) (by decide) (by omega)).mpr (by omega)))
      refine V.aload_n (pc := 32) hB dX9_hoursUntilThawed_32 rfl ?_
      refine V.get (pc := 33) hB fk_Bells 1 wf_X9_16 dX9_hoursUntilThawed_33 (by decide) (hp_at (ca_Bells _)) rfl ?_
      refine V.cv (pc := 36) hB cw_X6_letHourPass wm_X9_152 wi_X6_letHourPass ws_X6_letHourPass dX9_hoursUntilThawed_36 (c_X6_letHourPass hG (by omega) (hours_LW hL1 q).1) (hp_at (ca_Land (by omega) _)) fk_Land rfl (by omega) (by decide) rfl (by exact Nat.le_of_ble_eq_true rfl) (by omega) (by omega) kN (kI (fun v_36 m_36 sz h_36 => ?_)) rfl
      obtain ⟨rfl, rfl⟩ := h_36
      have hq1 := hours_LW hL1 (q + 1)
      have hlq := hq1.1.ln (j := x.toNatClampNeg) (by rw [hq1.2, hcl.2]; exact hx)
      refine V.pop (pc := 39) hB dX9_hoursUntilThawed_39 rfl ?_
      refine V.aload_n (pc := 40) hB dX9_hoursUntilThawed_40 rfl ?_
      refine V.get (pc := 41) hB fk_Bells 1 wf_X9_16 dX9_hoursUntilThawed_41 (by decide) (hp_at (ca_Bells _)) rfl ?_
      refine V.get (pc := 44) hB fk_Land 0 wf_X9_157 dX9_hoursUntilThawed_44 (by decide) (hp_at (ca_Land (by omega) _)) rfl ?_
      refine V.iload_n (pc := 47) hB dX9_hoursUntilThawed_47 rfl ?_
      refine V.aaldLk (pc := 48) hB (by omega) dX9_hoursUntilThawed_48 (ix_of hc.1 hc.2 (by omega) h5) ?_
      refine V.get (pc := 49) hB fk_Lake 3 wf_X9_98 dX9_hoursUntilThawed_49 (by decide) (hp_at (ca_Lake (by omega) (by omega) _)) rfl ?_
      refine V.if_ne (pc := 52) (tgt := 57) hB dX9_hoursUntilThawed_52 (by decide) (fun c_52 => ?_) (fun c_52 => ?_)
      · have h1 : ¬ nLy (hoursM 1 (cpLand 1 0 m) (q + 1)) 1 x.toNatClampNeg = 0 := fun z => c_52 (hlq.zero.mpr z)
        refine V.iinc (pc := 57) (v := nI (q + 1 + 1)) hB dX9_hoursUntilThawed_57 rfl (nI_1 _) (by decide) rfl ?_
        refine V.goto (pc := 60) (tgt := 26) hB dX9_hoursUntilThawed_60 (by decide) ?_
        exact ih hlt sz (fun p hp => (Nat.lt_succ_iff_lt_or_eq.mp hp).elim (hz p) (fun e => by rw [e]; exact h1))
      · have h0 := hlq.zero.mp c_52
        refine V.iload_n (pc := 55) hB dX9_hoursUntilThawed_55 rfl ?_
        refine V.retI (pc := 56) hB dX9_hoursUntilThawed_56 rfl (rfl) (by omega) (by omega) ?_
        exact ⟨hc, Or.inr ⟨hy1, q, hlt, rfl, hz, h0, rfl⟩⟩
  refine V.aload_n (pc := 0) hB dX9_hoursUntilThawed_0 rfl ?_
  refine V.iload_n (pc := 1) hB dX9_hoursUntilThawed_1 rfl ?_
  refine V.cv (pc := 2) hB cw_X9_lakeNumbered wm_X9_89 wi_X9_lakeNumbered ws_X9_lakeNumbered dX9_hoursUntilThawed_2 (c_X9_lakeNumbered hG hI) (hp_at (ca_Bells _)) fk_Bells rfl (by omega) (by decide) rfl (by exact Nat.le_of_ble_eq_true rfl) (by omega) (by omega) (fun E m2 sz hx => VX.outM hB hX (by omega) (by omega) (Or.inl hx)) (kR (fun v_2 m_2 sz h_2 => ?_)) rfl
  obtain ⟨hc, rfl, rfl⟩ := h_2
  obtain ⟨hxe, hx⟩ := idx_of hc (by have := hI.1.nl5; omega)
  have h5 := hI.1.nl5
  have hln := hI.1.ln hx
  refine V.get (pc := 5) hB fk_Lake 3 wf_X9_98 dX9_hoursUntilThawed_5 (by decide) (hp_at (ca_Lake (by omega) (by omega) _)) rfl ?_
  refine V.if_ne (pc := 8) (tgt := 13) hB dX9_hoursUntilThawed_8 (by decide) (fun c_8 => ?_) (fun c_8 => ?_)
  · have hy1 : ¬ nLy _ 0 x.toNatClampNeg = 0 := fun z => c_8 (hln.zero.mpr z)
    refine V.aload_n (pc := 13) hB dX9_hoursUntilThawed_13 rfl ?_
    refine V.get (pc := 14) hB fk_Bells 1 wf_X9_16 dX9_hoursUntilThawed_14 (by decide) (hp_at (ca_Bells _)) rfl ?_
    refine V.aload_n (pc := 17) hB dX9_hoursUntilThawed_17 rfl ?_
    refine V.get (pc := 18) hB fk_Bells 0 wf_X9_12 dX9_hoursUntilThawed_18 (by decide) (hp_at (ca_Bells _)) rfl ?_
    refine V.cv (pc := 21) hB cw_X6_copyFrom wm_X9_149 wi_X6_copyFrom ws_X6_copyFrom dX9_hoursUntilThawed_21 (c_X6_copyFrom hG (i := 1) (i2 := 0) (by omega) (by omega) (by decide) hI.1) (hp_at (ca_Land (by omega) _)) fk_Land rfl (by omega) (by decide) rfl (by exact Nat.le_of_ble_eq_true rfl) (by omega) (by omega) kN (kV (fun m_21 sz h_21 => ?_)) rfl
    subst h_21
    refine V.iconst (pc := 24) (v := 1) hB dX9_hoursUntilThawed_24 rfl ?_
    refine V.istore_n (pc := 25) hB dX9_hoursUntilThawed_25 (by decide) rfl ?_
    exact loop _ hI hc hy1 0 (by omega) sz (fun p hp => absurd hp (Nat.not_lt_zero _))
  · have hy0 := hln.zero.mp c_8
    refine V.iconst (pc := 11) (v := 0) hB dX9_hoursUntilThawed_11 rfl ?_
    refine V.retI (pc := 12) hB dX9_hoursUntilThawed_12 rfl (rfl) (by omega) (by omega) ?_
    exact ⟨hc, Or.inl ⟨hy0, rfl, rfl⟩⟩
