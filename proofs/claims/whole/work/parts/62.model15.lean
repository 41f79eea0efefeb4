/-! the reference's reads -/
def akP (m : Mem) (c : Prop) (v0 : Int32) (v : Int32) (m2 : Mem) : Prop := (c ∧ v = v0 ∧ m2 = up m 363 15 0) ∨ (¬ c ∧ v = 0 ∧ m2 = up m 363 15 1)
theorem akP.imp {m m2 : Mem} {c : Prop} {v0 v1 v : Int32} (h : akP m c v0 v m2) (e : c → v0 = v1) : akP m c v1 v m2 := by
  rcases h with ⟨h1, h2, h3⟩ | h
  · exact Or.inl ⟨h1, h2.trans (e h1), h3⟩
  · exact Or.inr h
theorem th_row (m : Mem) (t : Int32) : (up m 363 15 t).1 364 = m.1 364 := up_cell _ _ _ (by decide)
theorem RM.c2 {R : Nat → Int32} {M : Mem} {i : Nat} (h : RM R M i) : R 2 = M.1 (LA i) 1 := h.1.1.1.trans ((congrArg nI h.2.2.1).trans h.2.1.nl.symm)
theorem RM.c3 {R : Nat → Int32} {M : Mem} {i : Nat} (h : RM R M i) : R 3 = M.1 (LA i + 2) 2 := h.1.2.2.1.1.trans ((congrArg nI h.2.2.2.2.2.1.1).trans h.2.1.wr.1.symm)
theorem RM.c4 {R : Nat → Int32} {M : Mem} {i : Nat} (h : RM R M i) : R 4 = M.1 (LA i + 5) 4 := h.1.2.2.2.1.trans ((congrArg nI h.2.2.2.2.2.2.1).trans h.2.1.pr.2.2.1.symm)
theorem RM.many' {R : Nat → Int32} {M : Mem} {i j : Nat} (h : RM R M i) (hj : j < nLk M i) : ofV R (nI j) 2 = M.1 (LK i j) 3 := (h.many hj).trans (h.2.1.ln hj).1.symm
theorem RM.crk' {R : Nat → Int32} {M : Mem} {i j : Nat} (h : RM R M i) (hj : j < nLk M i) : ofV R (nI j) 1 = M.1 (LK i j) 5 := by
  rw [ofV_j (by rw [h.2.2.1]; exact hj) h.1.1.2]
  rw [show 7 + 27 * j + 1 = 7 + 1 + 27 * j by omega]
  exact (h.2.2.2.2.1 j hj).2.1 1 (by omega)

set_option maxRecDepth 100000 in
set_option maxHeartbeats 1000000 in
theorem c_X10_lakeCount {g : xG} (hG : GK g) {m M : Mem} (hR : RM (m.1 364) M 0) : CC g yX10_lakeCount (.code yX10_lakeCount cX10_lakeCount 1 (some .int)) 1 0 0 [.ref (ad g 363)] m (rI (fun v m2 => v = M.1 (LA 0) 1 ∧ m2 = up m 363 15 0)) noX := by
  refine CC.mk hG RX10 rfl (by decide +kernel) rfl (Nat.le_of_ble_eq_true rfl) (fun sz B hB hX => ?_)
  show V g B 0 0 _ (hp g m) sz 0 [some (.ref (ad g 363))] []
  refine V.aload_n (pc := 0) hB dX10_lakeCount_0 rfl ?_
  refine V.iconst (pc := 1) (v := 0) hB dX10_lakeCount_1 rfl ?_
  refine V.p_Model_f15 (pc := 2) hB wf_X10_44 dX10_lakeCount_2 ?_
  refine V.aload_n (pc := 5) hB dX10_lakeCount_5 rfl ?_
  refine V.get (pc := 6) hB fk_Model 0 wf_X10_9 dX10_lakeCount_6 (by decide) (hp_at (ca_Model _)) rfl ?_
  refine V.iconst (pc := 9) (v := 2) hB dX10_lakeCount_9 rfl ?_
  refine V.ialdM (pc := 10) hB (ca_Now) dX10_lakeCount_10 (ix_nI (q := 2) (N := 218) (by decide) (by decide)) ?_
  refine V.retI (pc := 11) hB dX10_lakeCount_11 rfl (rfl) (by omega) (by omega) ?_
  exact ⟨(congrFun (th_row m 0) 2).trans (hR.c2), rfl⟩

set_option maxRecDepth 100000 in
set_option maxHeartbeats 1000000 in
theorem c_X10_air {g : xG} (hG : GK g) {m M : Mem} (hR : RM (m.1 364) M 0) : CC g yX10_air (.code yX10_air cX10_air 1 (some .int)) 1 0 0 [.ref (ad g 363)] m (rI (fun v m2 => v = M.1 (LA 0) 2 ∧ m2 = up m 363 15 0)) noX := by
  refine CC.mk hG RX10 rfl (by decide +kernel) rfl (Nat.le_of_ble_eq_true rfl) (fun sz B hB hX => ?_)
  show V g B 0 0 _ (hp g m) sz 0 [some (.ref (ad g 363))] []
  refine V.aload_n (pc := 0) hB dX10_air_0 rfl ?_
  refine V.iconst (pc := 1) (v := 0) hB dX10_air_1 rfl ?_
  refine V.p_Model_f15 (pc := 2) hB wf_X10_44 dX10_air_2 ?_
  refine V.aload_n (pc := 5) hB dX10_air_5 rfl ?_
  refine V.get (pc := 6) hB fk_Model 0 wf_X10_9 dX10_air_6 (by decide) (hp_at (ca_Model _)) rfl ?_
  refine V.iconst (pc := 9) (v := 1) hB dX10_air_9 rfl ?_
  refine V.ialdM (pc := 10) hB (ca_Now) dX10_air_10 (ix_nI (q := 1) (N := 218) (by decide) (by decide)) ?_
  refine V.retI (pc := 11) hB dX10_air_11 rfl (rfl) (by omega) (by omega) ?_
  exact ⟨(congrFun (th_row m 0) 1).trans (hR.2.2.2.1.2.1), rfl⟩

set_option maxRecDepth 100000 in
set_option maxHeartbeats 1000000 in
theorem c_X10_hour {g : xG} (hG : GK g) {m M : Mem} (hR : RM (m.1 364) M 0) : CC g yX10_hour (.code yX10_hour cX10_hour 1 (some .int)) 1 0 0 [.ref (ad g 363)] m (rI (fun v m2 => v = M.1 (LA 0) 3 ∧ m2 = up m 363 15 0)) noX := by
  refine CC.mk hG RX10 rfl (by decide +kernel) rfl (Nat.le_of_ble_eq_true rfl) (fun sz B hB hX => ?_)
  show V g B 0 0 _ (hp g m) sz 0 [some (.ref (ad g 363))] []
  refine V.aload_n (pc := 0) hB dX10_hour_0 rfl ?_
  refine V.iconst (pc := 1) (v := 0) hB dX10_hour_1 rfl ?_
  refine V.p_Model_f15 (pc := 2) hB wf_X10_44 dX10_hour_2 ?_
  refine V.aload_n (pc := 5) hB dX10_hour_5 rfl ?_
  refine V.get (pc := 6) hB fk_Model 0 wf_X10_9 dX10_hour_6 (by decide) (hp_at (ca_Model _)) rfl ?_
  refine V.iconst (pc := 9) (v := 0) hB dX10_hour_9 rfl ?_
  refine V.ialdM (pc := 10) hB (ca_Now) dX10_hour_10 (ix_nI (q := 0) (N := 218) (by decide) (by decide)) ?_
  refine V.retI (pc := 11) hB dX10_hour_11 rfl (rfl) (by omega) (by omega) ?_
  exact ⟨(congrFun (th_row m 0) 0).trans (hR.2.2.2.1.1), rfl⟩

set_option maxRecDepth 100000 in
set_option maxHeartbeats 1000000 in
theorem c_X10_windowCount {g : xG} (hG : GK g) {m M : Mem} (hR : RM (m.1 364) M 0) : CC g yX10_windowCount (.code yX10_windowCount cX10_windowCount 1 (some .int)) 1 0 0 [.ref (ad g 363)] m (rI (fun v m2 => v = M.1 (LA 0 + 2) 2 ∧ m2 = up m 363 15 0)) noX := by
  refine CC.mk hG RX10 rfl (by decide +kernel) rfl (Nat.le_of_ble_eq_true rfl) (fun sz B hB hX => ?_)
  show V g B 0 0 _ (hp g m) sz 0 [some (.ref (ad g 363))] []
  refine V.aload_n (pc := 0) hB dX10_windowCount_0 rfl ?_
  refine V.iconst (pc := 1) (v := 0) hB dX10_windowCount_1 rfl ?_
  refine V.p_Model_f15 (pc := 2) hB wf_X10_44 dX10_windowCount_2 ?_
  refine V.aload_n (pc := 5) hB dX10_windowCount_5 rfl ?_
  refine V.get (pc := 6) hB fk_Model 0 wf_X10_9 dX10_windowCount_6 (by decide) (hp_at (ca_Model _)) rfl ?_
  refine V.iconst (pc := 9) (v := 3) hB dX10_windowCount_9 rfl ?_
  refine V.ialdM (pc := 10) hB (ca_Now) dX10_windowCount_10 (ix_nI (q := 3) (N := 218) (by decide) (by decide)) ?_
  refine V.retI (pc := 11) hB dX10_windowCount_11 rfl (rfl) (by omega) (by omega) ?_
  exact ⟨(congrFun (th_row m 0) 3).trans (hR.c3), rfl⟩

set_option maxRecDepth 100000 in
set_option maxHeartbeats 1000000 in
theorem c_X10_pealCount {g : xG} (hG : GK g) {m M : Mem} (hR : RM (m.1 364) M 0) : CC g yX10_pealCount (.code yX10_pealCount cX10_pealCount 1 (some .int)) 1 0 0 [.ref (ad g 363)] m (rI (fun v m2 => v = M.1 (LA 0 + 5) 4 ∧ m2 = up m 363 15 0)) noX := by
  refine CC.mk hG RX10 rfl (by decide +kernel) rfl (Nat.le_of_ble_eq_true rfl) (fun sz B hB hX => ?_)
  show V g B 0 0 _ (hp g m) sz 0 [some (.ref (ad g 363))] []
  refine V.aload_n (pc := 0) hB dX10_pealCount_0 rfl ?_
  refine V.iconst (pc := 1) (v := 0) hB dX10_pealCount_1 rfl ?_
  refine V.p_Model_f15 (pc := 2) hB wf_X10_44 dX10_pealCount_2 ?_
  refine V.aload_n (pc := 5) hB dX10_pealCount_5 rfl ?_
  refine V.get (pc := 6) hB fk_Model 0 wf_X10_9 dX10_pealCount_6 (by decide) (hp_at (ca_Model _)) rfl ?_
  refine V.iconst (pc := 9) (v := 4) hB dX10_pealCount_9 rfl ?_
  refine V.ialdM (pc := 10) hB (ca_Now) dX10_pealCount_10 (ix_nI (q := 4) (N := 218) (by decide) (by decide)) ?_
  refine V.retI (pc := 11) hB dX10_pealCount_11 rfl (rfl) (by omega) (by omega) ?_
  exact ⟨(congrFun (th_row m 0) 4).trans (hR.c4), rfl⟩

set_option maxRecDepth 100000 in
set_option maxHeartbeats 1000000 in
theorem c_X10_frozenTotal {g : xG} (hG : GK g) {m M : Mem} (hR : RM (m.1 364) M 0) : CC g yX10_frozenTotal (.code yX10_frozenTotal cX10_frozenTotal 1 (some .int)) 1 0 0 [.ref (ad g 363)] m (rI (fun v m2 => v = M.1 (LA 0) 4 ∧ m2 = up m 363 15 0)) noX := by
  refine CC.mk hG RX10 rfl (by decide +kernel) rfl (Nat.le_of_ble_eq_true rfl) (fun sz B hB hX => ?_)
  show V g B 0 0 _ (hp g m) sz 0 [some (.ref (ad g 363))] []
  refine V.aload_n (pc := 0) hB dX10_frozenTotal_0 rfl ?_
  refine V.iconst (pc := 1) (v := 0) hB dX10_frozenTotal_1 rfl ?_
  refine V.p_Model_f15 (pc := 2) hB wf_X10_44 dX10_frozenTotal_2 ?_
  refine V.aload_n (pc := 5) hB dX10_frozenTotal_5 rfl ?_
  refine V.get (pc := 6) hB fk_Model 0 wf_X10_9 dX10_frozenTotal_6 (by decide) (hp_at (ca_Model _)) rfl ?_
  refine V.iconst (pc := 9) (v := 5) hB dX10_frozenTotal_9 rfl ?_
  refine V.ialdM (pc := 10) hB (ca_Now) dX10_frozenTotal_10 (ix_nI (q := 5) (N := 218) (by decide) (by decide)) ?_
  refine V.retI (pc := 11) hB dX10_frozenTotal_11 rfl (rfl) (by omega) (by omega) ?_
  exact ⟨(congrFun (th_row m 0) 5).trans (hR.2.2.2.1.2.2.1), rfl⟩

set_option maxRecDepth 100000 in
set_option maxHeartbeats 1000000 in
theorem c_X10_thawedTotal {g : xG} (hG : GK g) {m M : Mem} (hR : RM (m.1 364) M 0) : CC g yX10_thawedTotal (.code yX10_thawedTotal cX10_thawedTotal 1 (some .int)) 1 0 0 [.ref (ad g 363)] m (rI (fun v m2 => v = M.1 (LA 0) 5 ∧ m2 = up m 363 15 0)) noX := by
  refine CC.mk hG RX10 rfl (by decide +kernel) rfl (Nat.le_of_ble_eq_true rfl) (fun sz B hB hX => ?_)
  show V g B 0 0 _ (hp g m) sz 0 [some (.ref (ad g 363))] []
  refine V.aload_n (pc := 0) hB dX10_thawedTotal_0 rfl ?_
  refine V.iconst (pc := 1) (v := 0) hB dX10_thawedTotal_1 rfl ?_
  refine V.p_Model_f15 (pc := 2) hB wf_X10_44 dX10_thawedTotal_2 ?_
  refine V.aload_n (pc := 5) hB dX10_thawedTotal_5 rfl ?_
  refine V.get (pc := 6) hB fk_Model 0 wf_X10_9 dX10_thawedTotal_6 (by decide) (hp_at (ca_Model _)) rfl ?_
  refine V.bipush (pc := 9) (v := 6) hB dX10_thawedTotal_9 rfl ?_
  refine V.ialdM (pc := 11) hB (ca_Now) dX10_thawedTotal_11 (ix_nI (q := 6) (N := 218) (by decide) (by decide)) ?_
  refine V.retI (pc := 12) hB dX10_thawedTotal_12 rfl (rfl) (by omega) (by omega) ?_
  exact ⟨(congrFun (th_row m 0) 6).trans (hR.2.2.2.1.2.2.2), rfl⟩

set_option maxRecDepth 100000 in
set_option maxHeartbeats 1000000 in
theorem c_X10_asks {g : xG} (hG : GK g) {m M : Mem} (hR : RM (m.1 364) M 0) {x xk : Int32} {k : Nat} (hk : k ≤ 2) (hxk : xk = nI k) : CC g yX10_asks (.code yX10_asks cX10_asks 3 (some .int)) 4 0 0 [.ref (ad g 363), .int x, .int xk] m (rI (akP m (inL M x) (ofV (m.1 364) x k))) noX := by
  obtain ⟨a, ha⟩ : ∃ a, a = islB (m.1 364) x := ⟨_, rfl⟩
  have hai : a = true ↔ inL M x := by rw [ha]; exact hR.isl x
  refine CC.mk hG RX10 rfl (by decide +kernel) rfl (Nat.le_of_ble_eq_true rfl) (fun sz B hB hX => ?_)
  show V g B 0 0 _ (hp g m) sz 0 [some (.ref (ad g 363)), some (.int x), some (.int xk)] []
  refine V.aload_n (pc := 0) hB dX10_asks_0 rfl ?_
  refine V.aload_n (pc := 1) hB dX10_asks_1 rfl ?_
  refine V.iload_n (pc := 2) hB dX10_asks_2 rfl ?_
  refine V.cv (pc := 3) hB cw_X10_isLake wm_X10_73 wi_X10_isLake ws_X10_isLake dX10_asks_3 (c_X10_isLake hG hR.1) (hp_at (ca_Model _)) fk_Model rfl (by omega) (by decide) rfl (by exact Nat.le_of_ble_eq_true rfl) (by omega) (by omega) kN (kI (fun v_3 m_3 sz h_3 => ?_)) rfl
  obtain ⟨rfl, hm_3⟩ := h_3
  obtain rfl := hm_3.symm
  rw [← ha]
  refine V.cv (pc := 6) hB cw_X10_goes wm_X10_61 wi_X10_goes ws_X10_goes dX10_asks_6 (c_X10_goes hG) (hp_at (ca_Model _)) fk_Model rfl (by omega) (by decide) rfl (by exact Nat.le_of_ble_eq_true rfl) (by omega) (by omega) kN (kI (fun v_6 m_6 sz h_6 => ?_)) rfl
  obtain ⟨rfl, hm_6⟩ := h_6
  subst hm_6
  rw [thrV_b1]
  refine V.if_eq (pc := 9) (tgt := 21) hB dX10_asks_9 (by decide) (fun c_9 => ?_) (fun c_9 => ?_)
  · have ha0 : a = false := by
      cases a
      · rfl
      · exact absurd c_9 (by decide)
    rw [ha0, show (if false = false then (1 : Int32) else 0) = 1 from rfl]
    refine V.iconst (pc := 21) (v := 0) hB dX10_asks_21 rfl ?_
    refine V.retI (pc := 22) hB dX10_asks_22 rfl (rfl) (by omega) (by omega) ?_
    first | exact Or.inl ⟨hai.mp ha1, rfl, rfl⟩ | exact Or.inr ⟨fun z => by rw [hai.mpr z] at ha0; exact absurd ha0 (by decide), rfl, rfl⟩
  · have ha1 : a = true := by
      cases a
      · exact absurd rfl c_9
      · rfl
    rw [ha1, show (if true = false then (1 : Int32) else 0) = 0 from rfl]
    refine V.aload_n (pc := 12) hB dX10_asks_12 rfl ?_
    refine V.iload_n (pc := 13) hB dX10_asks_13 rfl ?_
    refine V.iload_n (pc := 14) hB dX10_asks_14 rfl ?_
    refine V.cv (pc := 15) hB cw_X10_of wm_X10_77 wi_X10_of ws_X10_of dX10_asks_15 (c_X10_of hG (m := up m 363 15 0) (by rw [th_row]; exact hR.1) hk hxk) (hp_at (ca_Model _)) fk_Model rfl (by omega) (by decide) rfl (by exact Nat.le_of_ble_eq_true rfl) (by omega) (by omega) kN (kI (fun v_15 m_15 sz h_15 => ?_)) rfl
    obtain ⟨rfl, hm_15⟩ := h_15
    obtain rfl := hm_15.symm
    rw [th_row]
    refine V.goto (pc := 18) (tgt := 22) hB dX10_asks_18 (by decide) ?_
    refine V.retI (pc := 22) hB dX10_asks_22 rfl (rfl) (by omega) (by omega) ?_
    first | exact Or.inl ⟨hai.mp ha1, rfl, rfl⟩ | exact Or.inr ⟨fun z => by rw [hai.mpr z] at ha0; exact absurd ha0 (by decide), rfl, rfl⟩

set_option maxRecDepth 100000 in
set_option maxHeartbeats 1000000 in
theorem c_X10_depth {g : xG} (hG : GK g) {m M : Mem} (hR : RM (m.1 364) M 0) {x : Int32} : CC g yX10_depth (.code yX10_depth cX10_depth 2 (some .int)) 5 0 0 [.ref (ad g 363), .int x] m (rI (akP m (inL M x) (M.1 (LK 0 x.toNatClampNeg) 4))) noX := by
  refine CC.mk hG RX10 rfl (by decide +kernel) rfl (Nat.le_of_ble_eq_true rfl) (fun sz B hB hX => ?_)
  show V g B 0 0 _ (hp g m) sz 0 [some (.ref (ad g 363)), some (.int x)] []
  refine V.aload_n (pc := 0) hB dX10_depth_0 rfl ?_
  refine V.iload_n (pc := 1) hB dX10_depth_1 rfl ?_
  refine V.iconst (pc := 2) (v := 0) hB dX10_depth_2 rfl ?_
  refine V.cv (pc := 3) hB cw_X10_asks wm_X10_161 wi_X10_asks ws_X10_asks dX10_depth_3 (c_X10_asks hG hR (k := 0) (by decide) rfl) (hp_at (ca_Model _)) fk_Model rfl (by omega) (by decide) rfl (by exact Nat.le_of_ble_eq_true rfl) (by omega) (by omega) kN (kI (fun v_3 m_3 sz h_3 => ?_)) rfl
  refine V.retI (pc := 6) hB dX10_depth_6 rfl (rfl) (by omega) (by omega) ?_
  exact h_3.imp (fun h => by
    obtain ⟨j, hxe, hj, hjc⟩ := idx_j h (by have := hR.2.1.nl5; omega)
    rw [hjc, hxe]
    exact hR.dep hj)

set_option maxRecDepth 100000 in
set_option maxHeartbeats 1000000 in
theorem c_X10_layerCount {g : xG} (hG : GK g) {m M : Mem} (hR : RM (m.1 364) M 0) {x : Int32} : CC g yX10_layerCount (.code yX10_layerCount cX10_layerCount 2 (some .int)) 5 0 0 [.ref (ad g 363), .int x] m (rI (akP m (inL M x) (M.1 (LK 0 x.toNatClampNeg) 3))) noX := by
  refine CC.mk hG RX10 rfl (by decide +kernel) rfl (Nat.le_of_ble_eq_true rfl) (fun sz B hB hX => ?_)
  show V g B 0 0 _ (hp g m) sz 0 [some (.ref (ad g 363)), some (.int x)] []
  refine V.aload_n (pc := 0) hB dX10_layerCount_0 rfl ?_
  refine V.iload_n (pc := 1) hB dX10_layerCount_1 rfl ?_
  refine V.iconst (pc := 2) (v := 2) hB dX10_layerCount_2 rfl ?_
  refine V.cv (pc := 3) hB cw_X10_asks wm_X10_161 wi_X10_asks ws_X10_asks dX10_layerCount_3 (c_X10_asks hG hR (k := 2) (by decide) rfl) (hp_at (ca_Model _)) fk_Model rfl (by omega) (by decide) rfl (by exact Nat.le_of_ble_eq_true rfl) (by omega) (by omega) kN (kI (fun v_3 m_3 sz h_3 => ?_)) rfl
  refine V.retI (pc := 6) hB dX10_layerCount_6 rfl (rfl) (by omega) (by omega) ?_
  exact h_3.imp (fun h => by
    obtain ⟨j, hxe, hj, hjc⟩ := idx_j h (by have := hR.2.1.nl5; omega)
    rw [hjc, hxe]
    exact hR.many' hj)

set_option maxRecDepth 100000 in
set_option maxHeartbeats 1000000 in
theorem c_X10_cracksOf {g : xG} (hG : GK g) {m M : Mem} (hR : RM (m.1 364) M 0) {x : Int32} : CC g yX10_cracksOf (.code yX10_cracksOf cX10_cracksOf 2 (some .int)) 5 0 0 [.ref (ad g 363), .int x] m (rI (akP m (inL M x) (M.1 (LK 0 x.toNatClampNeg) 5))) noX := by
  refine CC.mk hG RX10 rfl (by decide +kernel) rfl (Nat.le_of_ble_eq_true rfl) (fun sz B hB hX => ?_)
  show V g B 0 0 _ (hp g m) sz 0 [some (.ref (ad g 363)), some (.int x)] []
  refine V.aload_n (pc := 0) hB dX10_cracksOf_0 rfl ?_
  refine V.iload_n (pc := 1) hB dX10_cracksOf_1 rfl ?_
  refine V.iconst (pc := 2) (v := 1) hB dX10_cracksOf_2 rfl ?_
  refine V.cv (pc := 3) hB cw_X10_asks wm_X10_161 wi_X10_asks ws_X10_asks dX10_cracksOf_3 (c_X10_asks hG hR (k := 1) (by decide) rfl) (hp_at (ca_Model _)) fk_Model rfl (by omega) (by decide) rfl (by exact Nat.le_of_ble_eq_true rfl) (by omega) (by omega) kN (kI (fun v_3 m_3 sz h_3 => ?_)) rfl
  refine V.retI (pc := 6) hB dX10_cracksOf_6 rfl (rfl) (by omega) (by omega) ?_
  exact h_3.imp (fun h => by
    obtain ⟨j, hxe, hj, hjc⟩ := idx_j h (by have := hR.2.1.nl5; omega)
    rw [hjc, hxe]
    exact hR.crk' hj)

set_option maxRecDepth 100000 in
set_option maxHeartbeats 1000000 in
theorem c_X10_asksLayer {g : xG} (hG : GK g) {m M : Mem} (hR : RM (m.1 364) M 0) {x y xk : Int32} {k : Nat} (hk : k ≤ 2) (hxk : xk = nI k) : CC g yX10_asksLayer (.code yX10_asksLayer cX10_asksLayer 4 (some .int)) 6 0 0 [.ref (ad g 363), .int x, .int y, .int xk] m (rI (akP m (inY M x y) (M.1 (LK 0 x.toNatClampNeg + 1 + k) y.toNatClampNeg))) noX := by
  obtain ⟨a, ha⟩ : ∃ a, a = isyB (m.1 364) x y := ⟨_, rfl⟩
  have hai : a = true ↔ inY M x y := by rw [ha]; exact hR.isy x y
  refine CC.mk hG RX10 rfl (by decide +kernel) rfl (Nat.le_of_ble_eq_true rfl) (fun sz B hB hX => ?_)
  show V g B 0 0 _ (hp g m) sz 0 [some (.ref (ad g 363)), some (.int x), some (.int y), some (.int xk)] []
  refine V.aload_n (pc := 0) hB dX10_asksLayer_0 rfl ?_
  refine V.aload_n (pc := 1) hB dX10_asksLayer_1 rfl ?_
  refine V.iload_n (pc := 2) hB dX10_asksLayer_2 rfl ?_
  refine V.iload_n (pc := 3) hB dX10_asksLayer_3 rfl ?_
  refine V.cv (pc := 4) hB cw_X10_isLayer wm_X10_81 wi_X10_isLayer ws_X10_isLayer dX10_asksLayer_4 (c_X10_isLayer hG hR.1) (hp_at (ca_Model _)) fk_Model rfl (by omega) (by decide) rfl (by exact Nat.le_of_ble_eq_true rfl) (by omega) (by omega) kN (kI (fun v_4 m_4 sz h_4 => ?_)) rfl
  obtain ⟨rfl, hm_4⟩ := h_4
  obtain rfl := hm_4.symm
  rw [← ha]
  refine V.cv (pc := 7) hB cw_X10_goes wm_X10_61 wi_X10_goes ws_X10_goes dX10_asksLayer_7 (c_X10_goes hG) (hp_at (ca_Model _)) fk_Model rfl (by omega) (by decide) rfl (by exact Nat.le_of_ble_eq_true rfl) (by omega) (by omega) kN (kI (fun v_7 m_7 sz h_7 => ?_)) rfl
  obtain ⟨rfl, hm_7⟩ := h_7
  subst hm_7
  rw [thrV_b1]
  refine V.if_eq (pc := 10) (tgt := 23) hB dX10_asksLayer_10 (by decide) (fun c_10 => ?_) (fun c_10 => ?_)
  · have ha0 : a = false := by
      cases a
      · rfl
      · exact absurd c_10 (by decide)
    rw [ha0, show (if false = false then (1 : Int32) else 0) = 1 from rfl]
    refine V.iconst (pc := 23) (v := 0) hB dX10_asksLayer_23 rfl ?_
    refine V.retI (pc := 24) hB dX10_asksLayer_24 rfl (rfl) (by omega) (by omega) ?_
    first | exact Or.inl ⟨hai.mp ha1, rfl, rfl⟩ | exact Or.inr ⟨fun z => by rw [hai.mpr z] at ha0; exact absurd ha0 (by decide), rfl, rfl⟩
  · have ha1 : a = true := by
      cases a
      · exact absurd rfl c_10
      · rfl
    rw [ha1, show (if true = false then (1 : Int32) else 0) = 0 from rfl]
    have hin := hai.mp ha1
    obtain ⟨j, hxe, hj, hjc⟩ := idx_j hin.1 (by have := hR.2.1.nl5; omega)
    have h2 := hin.2
    have h8 := (hR.2.1.ln hj).2
    rw [hjc] at h2
    obtain ⟨q, hye, hq, hqc⟩ := idx_j h2 (by omega)
    have hol : olV (m.1 364) x y k = M.1 (LK 0 x.toNatClampNeg + 1 + k) y.toNatClampNeg := by
      rw [hjc, hqc, hxe, hye]
      exact hR.ol hj hq (by omega)
    refine V.aload_n (pc := 13) hB dX10_asksLayer_13 rfl ?_
    refine V.iload_n (pc := 14) hB dX10_asksLayer_14 rfl ?_
    refine V.iload_n (pc := 15) hB dX10_asksLayer_15 rfl ?_
    refine V.iload_n (pc := 16) hB dX10_asksLayer_16 rfl ?_
    refine V.cv (pc := 17) hB cw_X10_ofLayer wm_X10_88 wi_X10_ofLayer ws_X10_ofLayer dX10_asksLayer_17 (c_X10_ofLayer hG (m := up m 363 15 0) (by rw [th_row]; exact hR.1) hk hxk) (hp_at (ca_Model _)) fk_Model rfl (by omega) (by decide) rfl (by exact Nat.le_of_ble_eq_true rfl) (by omega) (by omega) kN (kI (fun v_17 m_17 sz h_17 => ?_)) rfl
    obtain ⟨rfl, hm_17⟩ := h_17
    obtain rfl := hm_17.symm
    rw [th_row, hol]
    refine V.goto (pc := 20) (tgt := 24) hB dX10_asksLayer_20 (by decide) ?_
    refine V.retI (pc := 24) hB dX10_asksLayer_24 rfl (rfl) (by omega) (by omega) ?_
    first | exact Or.inl ⟨hai.mp ha1, rfl, rfl⟩ | exact Or.inr ⟨fun z => by rw [hai.mpr z] at ha0; exact absurd ha0 (by decide), rfl, rfl⟩

set_option maxRecDepth 100000 in
set_option maxHeartbeats 1000000 in
theorem c_X10_thickness {g : xG} (hG : GK g) {m M : Mem} (hR : RM (m.1 364) M 0) {x y : Int32} : CC g yX10_thickness (.code yX10_thickness cX10_thickness 3 (some .int)) 7 0 0 [.ref (ad g 363), .int x, .int y] m (rI (akP m (inY M x y) (M.1 (LK 0 x.toNatClampNeg + 1) y.toNatClampNeg))) noX := by
  refine CC.mk hG RX10 rfl (by decide +kernel) rfl (Nat.le_of_ble_eq_true rfl) (fun sz B hB hX => ?_)
  show V g B 0 0 _ (hp g m) sz 0 [some (.ref (ad g 363)), some (.int x), some (.int y)] []
  refine V.aload_n (pc := 0) hB dX10_thickness_0 rfl ?_
  refine V.iload_n (pc := 1) hB dX10_thickness_1 rfl ?_
  refine V.iload_n (pc := 2) hB dX10_thickness_2 rfl ?_
  refine V.iconst (pc := 3) (v := 0) hB dX10_thickness_3 rfl ?_
  refine V.cv (pc := 4) hB cw_X10_asksLayer wm_X10_164 wi_X10_asksLayer ws_X10_asksLayer dX10_thickness_4 (c_X10_asksLayer hG hR (k := 0) (by decide) rfl) (hp_at (ca_Model _)) fk_Model rfl (by omega) (by decide) rfl (by exact Nat.le_of_ble_eq_true rfl) (by omega) (by omega) kN (kI (fun v_4 m_4 sz h_4 => ?_)) rfl
  refine V.retI (pc := 7) hB dX10_thickness_7 rfl (rfl) (by omega) (by omega) ?_
  exact h_4

set_option maxRecDepth 100000 in
set_option maxHeartbeats 1000000 in
theorem c_X10_temperature {g : xG} (hG : GK g) {m M : Mem} (hR : RM (m.1 364) M 0) {x y : Int32} : CC g yX10_temperature (.code yX10_temperature cX10_temperature 3 (some .int)) 7 0 0 [.ref (ad g 363), .int x, .int y] m (rI (akP m (inY M x y) (M.1 (LK 0 x.toNatClampNeg + 2) y.toNatClampNeg))) noX := by
  refine CC.mk hG RX10 rfl (by decide +kernel) rfl (Nat.le_of_ble_eq_true rfl) (fun sz B hB hX => ?_)
  show V g B 0 0 _ (hp g m) sz 0 [some (.ref (ad g 363)), some (.int x), some (.int y)] []
  refine V.aload_n (pc := 0) hB dX10_temperature_0 rfl ?_
  refine V.iload_n (pc := 1) hB dX10_temperature_1 rfl ?_
  refine V.iload_n (pc := 2) hB dX10_temperature_2 rfl ?_
  refine V.iconst (pc := 3) (v := 1) hB dX10_temperature_3 rfl ?_
  refine V.cv (pc := 4) hB cw_X10_asksLayer wm_X10_164 wi_X10_asksLayer ws_X10_asksLayer dX10_temperature_4 (c_X10_asksLayer hG hR (k := 1) (by decide) rfl) (hp_at (ca_Model _)) fk_Model rfl (by omega) (by decide) rfl (by exact Nat.le_of_ble_eq_true rfl) (by omega) (by omega) kN (kI (fun v_4 m_4 sz h_4 => ?_)) rfl
  refine V.retI (pc := 7) hB dX10_temperature_7 rfl (rfl) (by omega) (by omega) ?_
  exact h_4

set_option maxRecDepth 100000 in
set_option maxHeartbeats 1000000 in
theorem c_X10_strain {g : xG} (hG : GK g) {m M : Mem} (hR : RM (m.1 364) M 0) {x y : Int32} : CC g yX10_strain (.code yX10_strain cX10_strain 3 (some .int)) 7 0 0 [.ref (ad g 363), .int x, .int y] m (rI (akP m (inY M x y) (M.1 (LK 0 x.toNatClampNeg + 3) y.toNatClampNeg))) noX := by
  refine CC.mk hG RX10 rfl (by decide +kernel) rfl (Nat.le_of_ble_eq_true rfl) (fun sz B hB hX => ?_)
  show V g B 0 0 _ (hp g m) sz 0 [some (.ref (ad g 363)), some (.int x), some (.int y)] []
  refine V.aload_n (pc := 0) hB dX10_strain_0 rfl ?_
  refine V.iload_n (pc := 1) hB dX10_strain_1 rfl ?_
  refine V.iload_n (pc := 2) hB dX10_strain_2 rfl ?_
  refine V.iconst (pc := 3) (v := 2) hB dX10_strain_3 rfl ?_
  refine V.cv (pc := 4) hB cw_X10_asksLayer wm_X10_164 wi_X10_asksLayer ws_X10_asksLayer dX10_strain_4 (c_X10_asksLayer hG hR (k := 2) (by decide) rfl) (hp_at (ca_Model _)) fk_Model rfl (by omega) (by decide) rfl (by exact Nat.le_of_ble_eq_true rfl) (by omega) (by omega) kN (kI (fun v_4 m_4 sz h_4 => ?_)) rfl
  refine V.retI (pc := 7) hB dX10_strain_7 rfl (rfl) (by omega) (by omega) ?_
  exact h_4

set_option maxRecDepth 100000 in
set_option maxHeartbeats 1000000 in
theorem c_X10_iceThickness {g : xG} (hG : GK g) {m M : Mem} (hR : RM (m.1 364) M 0) {x : Int32} : CC g yX10_iceThickness (.code yX10_iceThickness cX10_iceThickness 2 (some .int)) 7 0 0 [.ref (ad g 363), .int x] m (rI (akP m (inL M x) (iceV M 0 x.toNatClampNeg))) noX := by
  obtain ⟨a, ha⟩ : ∃ a, a = islB (m.1 364) x := ⟨_, rfl⟩
  have hai : a = true ↔ inL M x := by rw [ha]; exact hR.isl x
  refine CC.mk hG RX10 rfl (by decide +kernel) rfl (Nat.le_of_ble_eq_true rfl) (fun sz B hB hX => ?_)
  show V g B 0 0 _ (hp g m) sz 0 [some (.ref (ad g 363)), some (.int x)] []
  refine V.aload_n (pc := 0) hB dX10_iceThickness_0 rfl ?_
  refine V.aload_n (pc := 1) hB dX10_iceThickness_1 rfl ?_
  refine V.iload_n (pc := 2) hB dX10_iceThickness_2 rfl ?_
  refine V.cv (pc := 3) hB cw_X10_isLake wm_X10_73 wi_X10_isLake ws_X10_isLake dX10_iceThickness_3 (c_X10_isLake hG hR.1) (hp_at (ca_Model _)) fk_Model rfl (by omega) (by decide) rfl (by exact Nat.le_of_ble_eq_true rfl) (by omega) (by omega) kN (kI (fun v_3 m_3 sz h_3 => ?_)) rfl
  obtain ⟨rfl, hm_3⟩ := h_3
  obtain rfl := hm_3.symm
  rw [← ha]
  refine V.cv (pc := 6) hB cw_X10_goes wm_X10_61 wi_X10_goes ws_X10_goes dX10_iceThickness_6 (c_X10_goes hG) (hp_at (ca_Model _)) fk_Model rfl (by omega) (by decide) rfl (by exact Nat.le_of_ble_eq_true rfl) (by omega) (by omega) kN (kI (fun v_6 m_6 sz h_6 => ?_)) rfl
  obtain ⟨rfl, hm_6⟩ := h_6
  subst hm_6
  rw [thrV_b1]
  refine V.if_eq (pc := 9) (tgt := 20) hB dX10_iceThickness_9 (by decide) (fun c_9 => ?_) (fun c_9 => ?_)
  · have ha0 : a = false := by
      cases a
      · rfl
      · exact absurd c_9 (by decide)
    rw [ha0, show (if false = false then (1 : Int32) else 0) = 1 from rfl]
    refine V.iconst (pc := 20) (v := 0) hB dX10_iceThickness_20 rfl ?_
    refine V.retI (pc := 21) hB dX10_iceThickness_21 rfl (rfl) (by omega) (by omega) ?_
    first | exact Or.inl ⟨hai.mp ha1, rfl, rfl⟩ | exact Or.inr ⟨fun z => by rw [hai.mpr z] at ha0; exact absurd ha0 (by decide), rfl, rfl⟩
  · have ha1 : a = true := by
      cases a
      · exact absurd rfl c_9
      · rfl
    rw [ha1, show (if true = false then (1 : Int32) else 0) = 0 from rfl]
    have hol : iceR (m.1 364) x = iceV M 0 x.toNatClampNeg := by
      obtain ⟨j, hxe, hj, hjc⟩ := idx_j (hai.mp ha1) (by have := hR.2.1.nl5; omega)
      rw [hjc, hxe]
      exact hR.ice hj
    refine V.aload_n (pc := 12) hB dX10_iceThickness_12 rfl ?_
    refine V.iload_n (pc := 13) hB dX10_iceThickness_13 rfl ?_
    refine V.cv (pc := 14) hB cw_X10_iceOf wm_X10_107 wi_X10_iceOf ws_X10_iceOf dX10_iceThickness_14 (c_X10_iceOf hG (m := up m 363 15 0) (by rw [th_row]; exact hR.1)) (hp_at (ca_Model _)) fk_Model rfl (by omega) (by decide) rfl (by exact Nat.le_of_ble_eq_true rfl) (by omega) (by omega) kN (kI (fun v_14 m_14 sz h_14 => ?_)) rfl
    obtain ⟨rfl, hm_14⟩ := h_14
    obtain rfl := hm_14.symm
    rw [th_row, hol]
    refine V.goto (pc := 17) (tgt := 21) hB dX10_iceThickness_17 (by decide) ?_
    refine V.retI (pc := 21) hB dX10_iceThickness_21 rfl (rfl) (by omega) (by omega) ?_
    first | exact Or.inl ⟨hai.mp ha1, rfl, rfl⟩ | exact Or.inr ⟨fun z => by rw [hai.mpr z] at ha0; exact absurd ha0 (by decide), rfl, rfl⟩

set_option maxRecDepth 100000 in
set_option maxHeartbeats 1000000 in
theorem c_X10_iceThicknessByHalves {g : xG} (hG : GK g) {m M : Mem} (hR : RM (m.1 364) M 0) {x : Int32} : CC g yX10_iceThicknessByHalves (.code yX10_iceThicknessByHalves cX10_iceThicknessByHalves 2 (some .int)) 7 0 0 [.ref (ad g 363), .int x] m (rI (akP m (inL M x) (iceV M 0 x.toNatClampNeg))) noX := by
  obtain ⟨a, ha⟩ : ∃ a, a = islB (m.1 364) x := ⟨_, rfl⟩
  have hai : a = true ↔ inL M x := by rw [ha]; exact hR.isl x
  refine CC.mk hG RX10 rfl (by decide +kernel) rfl (Nat.le_of_ble_eq_true rfl) (fun sz B hB hX => ?_)
  show V g B 0 0 _ (hp g m) sz 0 [some (.ref (ad g 363)), some (.int x)] []
  refine V.aload_n (pc := 0) hB dX10_iceThicknessByHalves_0 rfl ?_
  refine V.aload_n (pc := 1) hB dX10_iceThicknessByHalves_1 rfl ?_
  refine V.iload_n (pc := 2) hB dX10_iceThicknessByHalves_2 rfl ?_
  refine V.cv (pc := 3) hB cw_X10_isLake wm_X10_73 wi_X10_isLake ws_X10_isLake dX10_iceThicknessByHalves_3 (c_X10_isLake hG hR.1) (hp_at (ca_Model _)) fk_Model rfl (by omega) (by decide) rfl (by exact Nat.le_of_ble_eq_true rfl) (by omega) (by omega) kN (kI (fun v_3 m_3 sz h_3 => ?_)) rfl
  obtain ⟨rfl, hm_3⟩ := h_3
  obtain rfl := hm_3.symm
  rw [← ha]
  refine V.cv (pc := 6) hB cw_X10_goes wm_X10_61 wi_X10_goes ws_X10_goes dX10_iceThicknessByHalves_6 (c_X10_goes hG) (hp_at (ca_Model _)) fk_Model rfl (by omega) (by decide) rfl (by exact Nat.le_of_ble_eq_true rfl) (by omega) (by omega) kN (kI (fun v_6 m_6 sz h_6 => ?_)) rfl
  obtain ⟨rfl, hm_6⟩ := h_6
  subst hm_6
  rw [thrV_b1]
  refine V.if_eq (pc := 9) (tgt := 20) hB dX10_iceThicknessByHalves_9 (by decide) (fun c_9 => ?_) (fun c_9 => ?_)
  · have ha0 : a = false := by
      cases a
      · rfl
      · exact absurd c_9 (by decide)
    rw [ha0, show (if false = false then (1 : Int32) else 0) = 1 from rfl]
    refine V.iconst (pc := 20) (v := 0) hB dX10_iceThicknessByHalves_20 rfl ?_
    refine V.retI (pc := 21) hB dX10_iceThicknessByHalves_21 rfl (rfl) (by omega) (by omega) ?_
    first | exact Or.inl ⟨hai.mp ha1, rfl, rfl⟩ | exact Or.inr ⟨fun z => by rw [hai.mpr z] at ha0; exact absurd ha0 (by decide), rfl, rfl⟩
  · have ha1 : a = true := by
      cases a
      · exact absurd rfl c_9
      · rfl
    rw [ha1, show (if true = false then (1 : Int32) else 0) = 0 from rfl]
    have hol : iceR (m.1 364) x = iceV M 0 x.toNatClampNeg := by
      obtain ⟨j, hxe, hj, hjc⟩ := idx_j (hai.mp ha1) (by have := hR.2.1.nl5; omega)
      rw [hjc, hxe]
      exact hR.ice hj
    refine V.aload_n (pc := 12) hB dX10_iceThicknessByHalves_12 rfl ?_
    refine V.iload_n (pc := 13) hB dX10_iceThicknessByHalves_13 rfl ?_
    refine V.cv (pc := 14) hB cw_X10_iceOf wm_X10_107 wi_X10_iceOf ws_X10_iceOf dX10_iceThicknessByHalves_14 (c_X10_iceOf hG (m := up m 363 15 0) (by rw [th_row]; exact hR.1)) (hp_at (ca_Model _)) fk_Model rfl (by omega) (by decide) rfl (by exact Nat.le_of_ble_eq_true rfl) (by omega) (by omega) kN (kI (fun v_14 m_14 sz h_14 => ?_)) rfl
    obtain ⟨rfl, hm_14⟩ := h_14
    obtain rfl := hm_14.symm
    rw [th_row, hol]
    refine V.goto (pc := 17) (tgt := 21) hB dX10_iceThicknessByHalves_17 (by decide) ?_
    refine V.retI (pc := 21) hB dX10_iceThicknessByHalves_21 rfl (rfl) (by omega) (by omega) ?_
    first | exact Or.inl ⟨hai.mp ha1, rfl, rfl⟩ | exact Or.inr ⟨fun z => by rw [hai.mpr z] at ha0; exact absurd ha0 (by decide), rfl, rfl⟩

set_option maxRecDepth 100000 in
set_option maxHeartbeats 1000000 in
theorem c_X10_ofWindow {g : xG} (hG : GK g) {m M : Mem} (hR : RM (m.1 364) M 0) {x xk : Int32} {k : Nat} (hk : k < 2) (hxk : xk = nI k) : CC g yX10_ofWindow (.code yX10_ofWindow cX10_ofWindow 3 (some .int)) 3 0 0 [.ref (ad g 363), .int x, .int xk] m (rI (akP m (0 ≤ x ∧ x < nI (nWn M 0)) (M.1 (LA 0 + 3 + k) x.toNatClampNeg))) noX := by
  have hmax : nWn M 0 ≤ 6 := hR.2.1.wr.2
  have hc : m.1 364 3 = nI (nWn M 0) := hR.1.2.2.1.1.trans (congrArg nI hR.2.2.2.2.2.1.1)
  obtain ⟨a, ha⟩ : ∃ a, a = (decide (0 ≤ x) && decide (x ≤ nI (nWn M 0) - 1)) := ⟨_, rfl⟩
  have hai : a = true ↔ (0 ≤ x ∧ x < nI (nWn M 0)) := by
    rw [ha, Bool.and_eq_true, decide_eq_true_eq, decide_eq_true_eq, le_sub1 (by omega)]
  refine CC.mk hG RX10 rfl (by decide +kernel) rfl (Nat.le_of_ble_eq_true rfl) (fun sz B hB hX => ?_)
  show V g B 0 0 _ (hp g m) sz 0 [some (.ref (ad g 363)), some (.int x), some (.int xk)] []
  refine V.aload_n (pc := 0) hB dX10_ofWindow_0 rfl ?_
  refine V.iload_n (pc := 1) hB dX10_ofWindow_1 rfl ?_
  refine V.iconst (pc := 2) (v := 0) hB dX10_ofWindow_2 rfl ?_
  refine V.aload_n (pc := 3) hB dX10_ofWindow_3 rfl ?_
  refine V.get (pc := 4) hB fk_Model 0 wf_X10_9 dX10_ofWindow_4 (by decide) (hp_at (ca_Model _)) rfl ?_
  refine V.iconst (pc := 7) (v := 3) hB dX10_ofWindow_7 rfl ?_
  refine V.ialdM (pc := 8) hB (ca_Now) dX10_ofWindow_8 (ix_nI (q := 3) (N := 218) (by decide) (by decide)) ?_
  rw [hc]
  refine V.iconst (pc := 9) (v := 1) hB dX10_ofWindow_9 rfl ?_
  refine V.isub (pc := 10) hB dX10_ofWindow_10 ?_
  refine V.cs (pc := 11) hB cw_X10_isIn wm_X10_69 wst_X10_isIn dX10_ofWindow_11 (c_X10_isIn hG) (by omega) (by decide) rfl (by exact Nat.le_of_ble_eq_true rfl) (by omega) (by omega) kN (kI (fun v_11 m_11 sz h_11 => ?_)) rfl
  obtain ⟨rfl, hm_11⟩ := h_11
  obtain rfl := hm_11.symm
  rw [← ha]
  refine V.cv (pc := 14) hB cw_X10_goes wm_X10_61 wi_X10_goes ws_X10_goes dX10_ofWindow_14 (c_X10_goes hG) (hp_at (ca_Model _)) fk_Model rfl (by omega) (by decide) rfl (by exact Nat.le_of_ble_eq_true rfl) (by omega) (by omega) kN (kI (fun v_14 m_14 sz h_14 => ?_)) rfl
  obtain ⟨rfl, hm_14⟩ := h_14
  subst hm_14
  rw [thrV_b1]
  refine V.if_eq (pc := 17) (tgt := 37) hB dX10_ofWindow_17 (by decide) (fun c_17 => ?_) (fun c_17 => ?_)
  · have ha0 : a = false := by
      cases a
      · rfl
      · exact absurd c_17 (by decide)
    rw [ha0, show (if false = false then (1 : Int32) else 0) = 1 from rfl]
    refine V.iconst (pc := 37) (v := 0) hB dX10_ofWindow_37 rfl ?_
    refine V.retI (pc := 38) hB dX10_ofWindow_38 rfl (rfl) (by omega) (by omega) ?_
    first | exact Or.inl ⟨hai.mp ha1, rfl, rfl⟩ | exact Or.inr ⟨fun z => by rw [hai.mpr z] at ha0; exact absurd ha0 (by decide), rfl, rfl⟩
  · have ha1 : a = true := by
      cases a
      · exact absurd rfl c_17
      · rfl
    rw [ha1, show (if true = false then (1 : Int32) else 0) = 0 from rfl]
    obtain ⟨j, hxe, hj, hjc⟩ := idx_j (hai.mp ha1) (by omega)
    refine V.aload_n (pc := 20) hB dX10_ofWindow_20 rfl ?_
    refine V.get (pc := 21) hB fk_Model 0 wf_X10_9 dX10_ofWindow_21 (by decide) (hp_at (ca_Model _)) rfl ?_
    refine V.sipush (pc := 24) (v := 142) hB dX10_ofWindow_24 rfl ?_
    refine V.iconst (pc := 27) (v := 2) hB dX10_ofWindow_27 rfl ?_
    refine V.iload_n (pc := 28) hB dX10_ofWindow_28 rfl ?_
    refine V.imul (pc := 29) hB dX10_ofWindow_29 ?_
    refine V.iadd (pc := 30) hB dX10_ofWindow_30 ?_
    refine V.iload_n (pc := 31) hB dX10_ofWindow_31 rfl ?_
    refine V.iadd (pc := 32) hB dX10_ofWindow_32 ?_
    rw [show (142 : Int32) + 2 * x + xk = nI (142 + 2 * j + k) by rw [hxe, hxk, show (2 : Int32) = nI 2 from rfl, nI_mulN, show (142 : Int32) = nI 142 from rfl, nI_add, nI_add]]
    refine V.ialdM (pc := 33) hB (ca_Now) dX10_ofWindow_33 (ix_nI (by omega) (by decide)) ?_
    rw [th_row, show m.1 364 (142 + 2 * j + k) = M.1 (LA 0 + 3 + k) x.toNatClampNeg by rw [hjc]; exact hR.2.2.2.2.2.1.2 j hj k hk]
    refine V.goto (pc := 34) (tgt := 38) hB dX10_ofWindow_34 (by decide) ?_
    refine V.retI (pc := 38) hB dX10_ofWindow_38 rfl (rfl) (by omega) (by omega) ?_
    first | exact Or.inl ⟨hai.mp ha1, rfl, rfl⟩ | exact Or.inr ⟨fun z => by rw [hai.mpr z] at ha0; exact absurd ha0 (by decide), rfl, rfl⟩

set_option maxRecDepth 100000 in
set_option maxHeartbeats 1000000 in
theorem c_X10_ofPeal {g : xG} (hG : GK g) {m M : Mem} (hR : RM (m.1 364) M 0) {x xk : Int32} {k : Nat} (hk : k < 4) (hxk : xk = nI k) : CC g yX10_ofPeal (.code yX10_ofPeal cX10_ofPeal 3 (some .int)) 3 0 0 [.ref (ad g 363), .int x, .int xk] m (rI (akP m (0 ≤ x ∧ x < nI (cOf M 0)) (M.1 (LA 0 + 6 + k) ((wOf M 0 + 15 - x.toNatClampNeg) % 16)))) noX := by
  have hmax : cOf M 0 ≤ 16 := hR.2.1.pr.2.2.2
  have hc : m.1 364 4 = nI (cOf M 0) := hR.1.2.2.2.1.trans (congrArg nI hR.2.2.2.2.2.2.1)
  obtain ⟨a, ha⟩ : ∃ a, a = (decide (0 ≤ x) && decide (x ≤ nI (cOf M 0) - 1)) := ⟨_, rfl⟩
  have hai : a = true ↔ (0 ≤ x ∧ x < nI (cOf M 0)) := by
    rw [ha, Bool.and_eq_true, decide_eq_true_eq, decide_eq_true_eq, le_sub1 (by omega)]
  refine CC.mk hG RX10 rfl (by decide +kernel) rfl (Nat.le_of_ble_eq_true rfl) (fun sz B hB hX => ?_)
  show V g B 0 0 _ (hp g m) sz 0 [some (.ref (ad g 363)), some (.int x), some (.int xk)] []
  refine V.aload_n (pc := 0) hB dX10_ofPeal_0 rfl ?_
  refine V.iload_n (pc := 1) hB dX10_ofPeal_1 rfl ?_
  refine V.iconst (pc := 2) (v := 0) hB dX10_ofPeal_2 rfl ?_
  refine V.aload_n (pc := 3) hB dX10_ofPeal_3 rfl ?_
  refine V.get (pc := 4) hB fk_Model 0 wf_X10_9 dX10_ofPeal_4 (by decide) (hp_at (ca_Model _)) rfl ?_
  refine V.iconst (pc := 7) (v := 4) hB dX10_ofPeal_7 rfl ?_
  refine V.ialdM (pc := 8) hB (ca_Now) dX10_ofPeal_8 (ix_nI (q := 4) (N := 218) (by decide) (by decide)) ?_
  rw [hc]
  refine V.iconst (pc := 9) (v := 1) hB dX10_ofPeal_9 rfl ?_
  refine V.isub (pc := 10) hB dX10_ofPeal_10 ?_
  refine V.cs (pc := 11) hB cw_X10_isIn wm_X10_69 wst_X10_isIn dX10_ofPeal_11 (c_X10_isIn hG) (by omega) (by decide) rfl (by exact Nat.le_of_ble_eq_true rfl) (by omega) (by omega) kN (kI (fun v_11 m_11 sz h_11 => ?_)) rfl
  obtain ⟨rfl, hm_11⟩ := h_11
  obtain rfl := hm_11.symm
  rw [← ha]
  refine V.cv (pc := 14) hB cw_X10_goes wm_X10_61 wi_X10_goes ws_X10_goes dX10_ofPeal_14 (c_X10_goes hG) (hp_at (ca_Model _)) fk_Model rfl (by omega) (by decide) rfl (by exact Nat.le_of_ble_eq_true rfl) (by omega) (by omega) kN (kI (fun v_14 m_14 sz h_14 => ?_)) rfl
  obtain ⟨rfl, hm_14⟩ := h_14
  subst hm_14
  rw [thrV_b1]
  refine V.if_eq (pc := 17) (tgt := 37) hB dX10_ofPeal_17 (by decide) (fun c_17 => ?_) (fun c_17 => ?_)
  · have ha0 : a = false := by
      cases a
      · rfl
      · exact absurd c_17 (by decide)
    rw [ha0, show (if false = false then (1 : Int32) else 0) = 1 from rfl]
    refine V.iconst (pc := 37) (v := 0) hB dX10_ofPeal_37 rfl ?_
    refine V.retI (pc := 38) hB dX10_ofPeal_38 rfl (rfl) (by omega) (by omega) ?_
    first | exact Or.inl ⟨hai.mp ha1, rfl, rfl⟩ | exact Or.inr ⟨fun z => by rw [hai.mpr z] at ha0; exact absurd ha0 (by decide), rfl, rfl⟩
  · have ha1 : a = true := by
      cases a
      · exact absurd rfl c_17
      · rfl
    rw [ha1, show (if true = false then (1 : Int32) else 0) = 0 from rfl]
    obtain ⟨j, hxe, hj, hjc⟩ := idx_j (hai.mp ha1) (by omega)
    refine V.aload_n (pc := 20) hB dX10_ofPeal_20 rfl ?_
    refine V.get (pc := 21) hB fk_Model 0 wf_X10_9 dX10_ofPeal_21 (by decide) (hp_at (ca_Model _)) rfl ?_
    refine V.sipush (pc := 24) (v := 154) hB dX10_ofPeal_24 rfl ?_
    refine V.iconst (pc := 27) (v := 4) hB dX10_ofPeal_27 rfl ?_
    refine V.iload_n (pc := 28) hB dX10_ofPeal_28 rfl ?_
    refine V.imul (pc := 29) hB dX10_ofPeal_29 ?_
    refine V.iadd (pc := 30) hB dX10_ofPeal_30 ?_
    refine V.iload_n (pc := 31) hB dX10_ofPeal_31 rfl ?_
    refine V.iadd (pc := 32) hB dX10_ofPeal_32 ?_
    rw [show (154 : Int32) + 4 * x + xk = nI (154 + 4 * j + k) by rw [hxe, hxk, show (4 : Int32) = nI 4 from rfl, nI_mulN, show (154 : Int32) = nI 154 from rfl, nI_add, nI_add]]
    refine V.ialdM (pc := 33) hB (ca_Now) dX10_ofPeal_33 (ix_nI (by omega) (by decide)) ?_
    rw [th_row, show m.1 364 (154 + 4 * j + k) = M.1 (LA 0 + 6 + k) ((wOf M 0 + 15 - x.toNatClampNeg) % 16) by rw [hjc]; exact hR.2.2.2.2.2.2.2 j hj k hk]
    refine V.goto (pc := 34) (tgt := 38) hB dX10_ofPeal_34 (by decide) ?_
    refine V.retI (pc := 38) hB dX10_ofPeal_38 rfl (rfl) (by omega) (by omega) ?_
    first | exact Or.inl ⟨hai.mp ha1, rfl, rfl⟩ | exact Or.inr ⟨fun z => by rw [hai.mpr z] at ha0; exact absurd ha0 (by decide), rfl, rfl⟩

set_option maxRecDepth 100000 in
set_option maxHeartbeats 1000000 in
theorem c_X10_windowFirst {g : xG} (hG : GK g) {m M : Mem} (hR : RM (m.1 364) M 0) {x : Int32} : CC g yX10_windowFirst (.code yX10_windowFirst cX10_windowFirst 2 (some .int)) 4 0 0 [.ref (ad g 363), .int x] m (rI (akP m (0 ≤ x ∧ x < nI (nWn M 0)) (M.1 (LA 0 + 3) x.toNatClampNeg))) noX := by
  refine CC.mk hG RX10 rfl (by decide +kernel) rfl (Nat.le_of_ble_eq_true rfl) (fun sz B hB hX => ?_)
  show V g B 0 0 _ (hp g m) sz 0 [some (.ref (ad g 363)), some (.int x)] []
  refine V.aload_n (pc := 0) hB dX10_windowFirst_0 rfl ?_
  refine V.iload_n (pc := 1) hB dX10_windowFirst_1 rfl ?_
  refine V.iconst (pc := 2) (v := 0) hB dX10_windowFirst_2 rfl ?_
  refine V.cv (pc := 3) hB cw_X10_ofWindow wm_X10_167 wi_X10_ofWindow ws_X10_ofWindow dX10_windowFirst_3 (c_X10_ofWindow hG hR (k := 0) (by decide) rfl) (hp_at (ca_Model _)) fk_Model rfl (by omega) (by decide) rfl (by exact Nat.le_of_ble_eq_true rfl) (by omega) (by omega) kN (kI (fun v_3 m_3 sz h_3 => ?_)) rfl
  refine V.retI (pc := 6) hB dX10_windowFirst_6 rfl (rfl) (by omega) (by omega) ?_
  exact h_3

set_option maxRecDepth 100000 in
set_option maxHeartbeats 1000000 in
theorem c_X10_windowLast {g : xG} (hG : GK g) {m M : Mem} (hR : RM (m.1 364) M 0) {x : Int32} : CC g yX10_windowLast (.code yX10_windowLast cX10_windowLast 2 (some .int)) 4 0 0 [.ref (ad g 363), .int x] m (rI (akP m (0 ≤ x ∧ x < nI (nWn M 0)) (M.1 (LA 0 + 4) x.toNatClampNeg))) noX := by
  refine CC.mk hG RX10 rfl (by decide +kernel) rfl (Nat.le_of_ble_eq_true rfl) (fun sz B hB hX => ?_)
  show V g B 0 0 _ (hp g m) sz 0 [some (.ref (ad g 363)), some (.int x)] []
  refine V.aload_n (pc := 0) hB dX10_windowLast_0 rfl ?_
  refine V.iload_n (pc := 1) hB dX10_windowLast_1 rfl ?_
  refine V.iconst (pc := 2) (v := 1) hB dX10_windowLast_2 rfl ?_
  refine V.cv (pc := 3) hB cw_X10_ofWindow wm_X10_167 wi_X10_ofWindow ws_X10_ofWindow dX10_windowLast_3 (c_X10_ofWindow hG hR (k := 1) (by decide) rfl) (hp_at (ca_Model _)) fk_Model rfl (by omega) (by decide) rfl (by exact Nat.le_of_ble_eq_true rfl) (by omega) (by omega) kN (kI (fun v_3 m_3 sz h_3 => ?_)) rfl
  refine V.retI (pc := 6) hB dX10_windowLast_6 rfl (rfl) (by omega) (by omega) ?_
  exact h_3

set_option maxRecDepth 100000 in
set_option maxHeartbeats 1000000 in
theorem c_X10_pealLake {g : xG} (hG : GK g) {m M : Mem} (hR : RM (m.1 364) M 0) {x : Int32} : CC g yX10_pealLake (.code yX10_pealLake cX10_pealLake 2 (some .int)) 4 0 0 [.ref (ad g 363), .int x] m (rI (akP m (inP M x) (M.1 (LA 0 + 7) ((wOf M 0 + 15 - x.toNatClampNeg) % 16)))) noX := by
  refine CC.mk hG RX10 rfl (by decide +kernel) rfl (Nat.le_of_ble_eq_true rfl) (fun sz B hB hX => ?_)
  show V g B 0 0 _ (hp g m) sz 0 [some (.ref (ad g 363)), some (.int x)] []
  refine V.aload_n (pc := 0) hB dX10_pealLake_0 rfl ?_
  refine V.iload_n (pc := 1) hB dX10_pealLake_1 rfl ?_
  refine V.iconst (pc := 2) (v := 1) hB dX10_pealLake_2 rfl ?_
  refine V.cv (pc := 3) hB cw_X10_ofPeal wm_X10_170 wi_X10_ofPeal ws_X10_ofPeal dX10_pealLake_3 (c_X10_ofPeal hG hR (k := 1) (by decide) rfl) (hp_at (ca_Model _)) fk_Model rfl (by omega) (by decide) rfl (by exact Nat.le_of_ble_eq_true rfl) (by omega) (by omega) kN (kI (fun v_3 m_3 sz h_3 => ?_)) rfl
  refine V.retI (pc := 6) hB dX10_pealLake_6 rfl (rfl) (by omega) (by omega) ?_
  exact h_3

set_option maxRecDepth 100000 in
set_option maxHeartbeats 1000000 in
theorem c_X10_pealPitch {g : xG} (hG : GK g) {m M : Mem} (hR : RM (m.1 364) M 0) {x : Int32} : CC g yX10_pealPitch (.code yX10_pealPitch cX10_pealPitch 2 (some .int)) 4 0 0 [.ref (ad g 363), .int x] m (rI (akP m (inP M x) (M.1 (LA 0 + 8) ((wOf M 0 + 15 - x.toNatClampNeg) % 16)))) noX := by
  refine CC.mk hG RX10 rfl (by decide +kernel) rfl (Nat.le_of_ble_eq_true rfl) (fun sz B hB hX => ?_)
  show V g B 0 0 _ (hp g m) sz 0 [some (.ref (ad g 363)), some (.int x)] []
  refine V.aload_n (pc := 0) hB dX10_pealPitch_0 rfl ?_
  refine V.iload_n (pc := 1) hB dX10_pealPitch_1 rfl ?_
  refine V.iconst (pc := 2) (v := 2) hB dX10_pealPitch_2 rfl ?_
  refine V.cv (pc := 3) hB cw_X10_ofPeal wm_X10_170 wi_X10_ofPeal ws_X10_ofPeal dX10_pealPitch_3 (c_X10_ofPeal hG hR (k := 2) (by decide) rfl) (hp_at (ca_Model _)) fk_Model rfl (by omega) (by decide) rfl (by exact Nat.le_of_ble_eq_true rfl) (by omega) (by omega) kN (kI (fun v_3 m_3 sz h_3 => ?_)) rfl
  refine V.retI (pc := 6) hB dX10_pealPitch_6 rfl (rfl) (by omega) (by omega) ?_
  exact h_3

set_option maxRecDepth 100000 in
set_option maxHeartbeats 1000000 in
theorem c_X10_pealHour {g : xG} (hG : GK g) {m M : Mem} (hR : RM (m.1 364) M 0) {x : Int32} : CC g yX10_pealHour (.code yX10_pealHour cX10_pealHour 2 (some .int)) 4 0 0 [.ref (ad g 363), .int x] m (rI (akP m (inP M x) (M.1 (LA 0 + 9) ((wOf M 0 + 15 - x.toNatClampNeg) % 16)))) noX := by
  refine CC.mk hG RX10 rfl (by decide +kernel) rfl (Nat.le_of_ble_eq_true rfl) (fun sz B hB hX => ?_)
  show V g B 0 0 _ (hp g m) sz 0 [some (.ref (ad g 363)), some (.int x)] []
  refine V.aload_n (pc := 0) hB dX10_pealHour_0 rfl ?_
  refine V.iload_n (pc := 1) hB dX10_pealHour_1 rfl ?_
  refine V.iconst (pc := 2) (v := 3) hB dX10_pealHour_2 rfl ?_
  refine V.cv (pc := 3) hB cw_X10_ofPeal wm_X10_170 wi_X10_ofPeal ws_X10_ofPeal dX10_pealHour_3 (c_X10_ofPeal hG hR (k := 3) (by decide) rfl) (hp_at (ca_Model _)) fk_Model rfl (by omega) (by decide) rfl (by exact Nat.le_of_ble_eq_true rfl) (by omega) (by omega) kN (kI (fun v_3 m_3 sz h_3 => ?_)) rfl
  refine V.retI (pc := 6) hB dX10_pealHour_6 rfl (rfl) (by omega) (by omega) ?_
  exact h_3

set_option maxRecDepth 100000 in
set_option maxHeartbeats 1000000 in
theorem c_X10_isInWindow {g : xG} (hG : GK g) {m M : Mem} (hR : RM (m.1 364) M 0) {x : Int32} : CC g yX10_isInWindow (.code yX10_isInWindow cX10_isInWindow 2 (some .boolean)) 3 0 0 [.ref (ad g 363), .int x] m (rI (fun v m2 => v = (if meetB (M.1 (LA 0 + 3)) (M.1 (LA 0 + 4)) x x (nWn M 0) = true then 1 else 0) ∧ m2 = up m 363 15 0)) noX := by
  refine CC.mk hG RX10 rfl (by decide +kernel) rfl (Nat.le_of_ble_eq_true rfl) (fun sz B hB hX => ?_)
  show V g B 0 0 _ (hp g m) sz 0 [some (.ref (ad g 363)), some (.int x)] []
  refine V.aload_n (pc := 0) hB dX10_isInWindow_0 rfl ?_
  refine V.iconst (pc := 1) (v := 0) hB dX10_isInWindow_1 rfl ?_
  refine V.p_Model_f15 (pc := 2) hB wf_X10_44 dX10_isInWindow_2 ?_
  refine V.aload_n (pc := 5) hB dX10_isInWindow_5 rfl ?_
  refine V.iload_n (pc := 6) hB dX10_isInWindow_6 rfl ?_
  refine V.cv (pc := 7) hB cw_X10_isOpened wm_X10_138 wi_X10_isOpened ws_X10_isOpened dX10_isInWindow_7 (c_X10_isOpened hG (m := up m 363 15 0) (by rw [th_row]; exact hR.1)) (hp_at (ca_Model _)) fk_Model rfl (by omega) (by decide) rfl (by exact Nat.le_of_ble_eq_true rfl) (by omega) (by omega) kN (kI (fun v_7 m_7 sz h_7 => ?_)) rfl
  obtain ⟨rfl, hm_7⟩ := h_7
  obtain rfl := hm_7.symm
  rw [th_row, hR.op]
  refine V.retI (pc := 10) hB dX10_isInWindow_10 rfl (by split <;> rfl) (by omega) (by omega) ?_
  exact ⟨rfl, rfl⟩
