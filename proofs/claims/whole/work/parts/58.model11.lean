/-! the reference's changes, whole: begun, done, ended -/
theorem JS.mid6 {m M M2 ma : Mem} {f v0 x : Int32} {C : Int32 → Int32 → Prop} (h : JS m M) (hmid : (f = 45 ∧ x = v0 ∧ MFr (up (begM m) 363 15 0) ma ∧ RM (ma.1 364) M2 0) ∨ (∃ t, (C f t ∧ ¬ t = 0) ∧ ma = up (begM m) 363 15 t)) : ma.1 363 6 = nI (hc M) := by
  rw [← h.2.2.1]
  rcases hmid with ⟨_, _, hF, _⟩ | ⟨t, _, hma⟩
  · rw [hF.2 363 (by decide) (by decide), up_slot _ _ _ (by decide), begM_k _ (by decide)]
  · rw [hma, up_slot _ _ _ (by decide), begM_k _ (by decide)]
theorem JS.r0 {m M : Mem} (h : JS m M) : RM ((begM m).1 364) (rem M) 0 := by
  rw [begM_k _ (by decide)]
  exact h.1.1.sm ((rem_agr h.2.1.1 (by omega)).sm h.2.1.1.nl5)
theorem JS.x0 {m M : Mem} (h : JS m M) : XL (rem M) 0 := h.1.2.sm h.2.1.1 ((rem_agr h.2.1.1 (by omega)).sm h.2.1.1.nl5)
theorem winF_ok2 {M : Mem} {i : Nat} (hL : LW M i) {x z : Int32} (h : winF M i x z = 45) : x ≤ z ∧ nWn M i < 6 ∧ meetB (M.1 (LA i + 3)) (M.1 (LA i + 4)) x z (nWn M i) = false := by
  rw [winF_b hL.wr.2 hL.wr.1] at h
  split at h
  · exact absurd h (by decide)
  · rename_i h1
    split at h
    · exact absurd h (by decide)
    · rename_i h2
      split at h
      · exact absurd h (by decide)
      · rename_i h3
        have a1 : (decide (x ≤ z) && decide (x ≤ 9999)) = true := by
          cases hb : (decide (x ≤ z) && decide (x ≤ 9999))
          · exact absurd hb h1
          · rfl
        have a2 : (decide (nWn M i < 6) && decide (M.1 (LA i) 3 < x)) = true := by
          cases hb : (decide (nWn M i < 6) && decide (M.1 (LA i) 3 < x))
          · exact absurd hb h2
          · rfl
        rw [Bool.and_eq_true] at a1 a2
        refine ⟨of_decide_eq_true a1.1, of_decide_eq_true a2.1, ?_⟩
        cases hm : meetB (M.1 (LA i + 3)) (M.1 (LA i + 4)) x z (nWn M i)
        · rfl
        · rw [hm] at h3; exact absurd rfl h3
def c97 (f t : Int32) : Prop := f = 97 ∧ t = 1
def c98 (f t : Int32) : Prop := f = 98 ∧ t = 1
def cAdd (f t : Int32) : Prop := (f = 97 ∧ t = 1) ∨ (f = 115 ∧ t = 2)
def cStr (f t : Int32) : Prop := (f = 98 ∧ t = 1) ∨ (f = 117 ∧ t = 2)
def cWin (f t : Int32) : Prop := (f = 97 ∧ t = 1) ∨ (f = 115 ∧ t = 2) ∨ (f = 117 ∧ t = 3)
def cGro (f t : Int32) : Prop := (f = 98 ∧ t = 1) ∨ (f = 97 ∧ t = 2) ∨ (f = 115 ∧ t = 3) ∨ (f = 117 ∧ t = 4)

set_option maxRecDepth 100000 in
set_option maxHeartbeats 1000000 in
theorem c_X10_addLake {g : xG} (hG : GK g) {m M : Mem} (hJ : JS m M) {x : Int32} : CC g yX10_addLake (.code yX10_addLake cX10_addLake 2 (some .int)) 5 0 0 [.ref (ad g 363), .int x] m (rI (chP m M (placeM 0 x (rem M)) (placeF M 0 x) (nI (nLk (rem M) 0)) cAdd)) noX := by
  have hI := hJ.2.1
  have ha : Agr M (rem M) 0 := rem_agr hI.1 (by omega)
  have h0L := (rem_LW hI.1).1
  have hR0 := hJ.r0
  have hX0 := hJ.x0
  have hla : LA 0 = 1 := rfl
  refine CC.mk hG RX10 rfl (by decide +kernel) rfl (Nat.le_of_ble_eq_true rfl) (fun sz B hB hX => ?_)
  show V g B 0 0 _ (hp g m) sz 0 [some (.ref (ad g 363)), some (.int x)] []
  refine V.aload_n (pc := 0) hB dX10_addLake_0 rfl ?_
  refine V.cv (pc := 1) hB cw_X10_begins wm_X10_97 wi_X10_begins ws_X10_begins dX10_addLake_1 (c_X10_begins hG) (hp_at (ca_Model _)) fk_Model rfl (by omega) (by decide) rfl (by exact Nat.le_of_ble_eq_true rfl) (by omega) (by omega) kN (kV (fun m_1 sz h_1 => ?_)) rfl
  subst h_1
  refine V.mem (m2 := begM m) rfl ?_
  refine V.aload_n (pc := 4) hB dX10_addLake_4 rfl ?_
  refine V.aload_n (pc := 5) hB dX10_addLake_5 rfl ?_
  refine V.iload_n (pc := 6) hB dX10_addLake_6 rfl ?_
  refine V.cv (pc := 7) hB cw_X10_adds wm_X10_100 wi_X10_adds ws_X10_adds dX10_addLake_7 (c_X10_adds hG hR0) (hp_at (ca_Model _)) fk_Model rfl (by omega) (by decide) rfl (by exact Nat.le_of_ble_eq_true rfl) (by omega) (by omega) kN (kI (fun v_7 m_7 sz h_7 => ?_)) rfl
  have hmid : (placeF M 0 x = 45 ∧ v_7 = (nI (nLk (rem M) 0)) ∧ MFr (up (begM m) 363 15 0) m_7 ∧ RM (m_7.1 364) (placeM 0 x (rem M)) 0) ∨ (∃ t9, (cAdd (placeF M 0 x) t9 ∧ ¬ t9 = 0) ∧ m_7 = up (begM m) 363 15 t9) := by
    rw [ha.fPlace x] at h_7
    rcases h_7 with h | ⟨_, t9, hc, hm⟩
    · exact Or.inl h
    · exact Or.inr ⟨t9, ⟨hc, by rcases hc with ⟨_, rfl⟩ | ⟨_, rfl⟩ <;> decide⟩, hm⟩
  refine V.cv (pc := 10) hB cw_X10_ends wm_X10_104 wi_X10_ends ws_X10_ends dX10_addLake_10 (c_X10_ends hG (n := hc M) (hJ.mid6 hmid) hI.2.1.2.2.2) (hp_at (ca_Model _)) fk_Model rfl (by omega) (by decide) rfl (by exact Nat.le_of_ble_eq_true rfl) (by omega) (by omega) kN (kI (fun v_10 m_10 sz h_10 => ?_)) rfl
  refine V.retI (pc := 13) hB dX10_addLake_13 rfl (rfl) (by omega) (by omega) ?_
  exact hJ.fin hmid (fun hf => by
    have h := placeF_ok hI.1 hf
    exact hX0.place h0L (by rw [ha.nl]; exact h.1) ⟨Int32.not_lt.mp (fun z => h.2 (Or.inl z)), Int32.not_lt.mp (fun z => h.2 (Or.inr z))⟩) (fun hf k hk => by
    have h := (placeF_ok hI.1 hf).1
    have hn := ha.nl
    have hlk : LK 0 (nLk (rem M) 0) = LA 0 + 10 + 4 * nLk (rem M) 0 := rfl
    exact placeM_cell (by omega) (by omega)) h_10

set_option maxRecDepth 100000 in
set_option maxHeartbeats 1000000 in
theorem c_X10_freeze {g : xG} (hG : GK g) {m M : Mem} (hJ : JS m M) {x t te : Int32} : CC g yX10_freeze (.code yX10_freeze cX10_freeze 4 (some .int)) 10 0 0 [.ref (ad g 363), .int x, .int t, .int te] m (rI (chP m M (growM 0 x.toNatClampNeg t te (rem M)) (growF M 0 x t te) (nI (nLy (rem M) 0 x.toNatClampNeg + 1)) cGro)) noX := by
  have hI := hJ.2.1
  have ha : Agr M (rem M) 0 := rem_agr hI.1 (by omega)
  have h0L := (rem_LW hI.1).1
  have hR0 := hJ.r0
  have hX0 := hJ.x0
  have hla : LA 0 = 1 := rfl
  refine CC.mk hG RX10 rfl (by decide +kernel) rfl (Nat.le_of_ble_eq_true rfl) (fun sz B hB hX => ?_)
  show V g B 0 0 _ (hp g m) sz 0 [some (.ref (ad g 363)), some (.int x), some (.int t), some (.int te)] []
  refine V.aload_n (pc := 0) hB dX10_freeze_0 rfl ?_
  refine V.cv (pc := 1) hB cw_X10_begins wm_X10_97 wi_X10_begins ws_X10_begins dX10_freeze_1 (c_X10_begins hG) (hp_at (ca_Model _)) fk_Model rfl (by omega) (by decide) rfl (by exact Nat.le_of_ble_eq_true rfl) (by omega) (by omega) kN (kV (fun m_1 sz h_1 => ?_)) rfl
  subst h_1
  refine V.mem (m2 := begM m) rfl ?_
  refine V.aload_n (pc := 4) hB dX10_freeze_4 rfl ?_
  refine V.aload_n (pc := 5) hB dX10_freeze_5 rfl ?_
  refine V.iload_n (pc := 6) hB dX10_freeze_6 rfl ?_
  refine V.iload_n (pc := 7) hB dX10_freeze_7 rfl ?_
  refine V.iload_n (pc := 8) hB dX10_freeze_8 rfl ?_
  refine V.cv (pc := 9) hB cw_X10_freezes wm_X10_110 wi_X10_freezes ws_X10_freezes dX10_freeze_9 (c_X10_freezes hG hR0) (hp_at (ca_Model _)) fk_Model rfl (by omega) (by decide) rfl (by exact Nat.le_of_ble_eq_true rfl) (by omega) (by omega) kN (kI (fun v_9 m_9 sz h_9 => ?_)) rfl
  have hmid : (growF M 0 x t te = 45 ∧ v_9 = (nI (nLy (rem M) 0 x.toNatClampNeg + 1)) ∧ MFr (up (begM m) 363 15 0) m_9 ∧ RM (m_9.1 364) (growM 0 x.toNatClampNeg t te (rem M)) 0) ∨ (∃ t9, (cGro (growF M 0 x t te) t9 ∧ ¬ t9 = 0) ∧ m_9 = up (begM m) 363 15 t9) := by
    rw [ha.fGrow hI.1.nl5 x t te] at h_9
    rcases h_9 with h | ⟨_, t9, hc, hm⟩
    · exact Or.inl h
    · exact Or.inr ⟨t9, ⟨hc, by rcases hc with ⟨_, rfl⟩ | ⟨_, rfl⟩ | ⟨_, rfl⟩ | ⟨_, rfl⟩ <;> decide⟩, hm⟩
  refine V.cv (pc := 12) hB cw_X10_ends wm_X10_104 wi_X10_ends ws_X10_ends dX10_freeze_12 (c_X10_ends hG (n := hc M) (hJ.mid6 hmid) hI.2.1.2.2.2) (hp_at (ca_Model _)) fk_Model rfl (by omega) (by decide) rfl (by exact Nat.le_of_ble_eq_true rfl) (by omega) (by omega) kN (kI (fun v_12 m_12 sz h_12 => ?_)) rfl
  refine V.retI (pc := 15) hB dX10_freeze_15 rfl (rfl) (by omega) (by omega) ?_
  exact hJ.fin hmid (fun hf => by
    have h := growF_ok h0L (by rw [ha.fGrow hI.1.nl5]; exact hf)
    obtain ⟨j, hxe, hj, hjc⟩ := idx_j h.1 (by have := h0L.nl5; omega)
    rw [hjc] at h ⊢
    exact hX0.grow h0L hj h.2.2.1 ⟨Int32.not_lt.mp (fun z => h.2.1 (Or.inl z)), Int32.not_lt.mp (fun z => h.2.1 (Or.inr (Or.inl z)))⟩ ⟨Int32.not_lt.mp (fun z => h.2.1 (Or.inr (Or.inr (Or.inl z)))), Int32.not_lt.mp (fun z => h.2.1 (Or.inr (Or.inr (Or.inr z))))⟩ (Int32.not_lt.mp h.2.2.2)) (fun hf k hk => by
    have h := growF_ok h0L (by rw [ha.fGrow hI.1.nl5]; exact hf)
    obtain ⟨j, hxe, hj, hjc⟩ := idx_j h.1 (by have := h0L.nl5; omega)
    rw [hjc]
    have h5 := h0L.nl5
    have hlk : LK 0 j = LA 0 + 10 + 4 * j := rfl
    exact growM_cell (by omega) (by omega)) h_12

set_option maxRecDepth 100000 in
set_option maxHeartbeats 1000000 in
theorem c_X10_setAir {g : xG} (hG : GK g) {m M : Mem} (hJ : JS m M) {x : Int32} : CC g yX10_setAir (.code yX10_setAir cX10_setAir 2 (some .int)) 5 0 0 [.ref (ad g 363), .int x] m (rI (chP m M (up (rem M) (LA 0) 2 x) (airF x) ((rem M).1 (LA 0) 2) c97)) noX := by
  have hI := hJ.2.1
  have ha : Agr M (rem M) 0 := rem_agr hI.1 (by omega)
  have h0L := (rem_LW hI.1).1
  have hR0 := hJ.r0
  have hX0 := hJ.x0
  have hla : LA 0 = 1 := rfl
  refine CC.mk hG RX10 rfl (by decide +kernel) rfl (Nat.le_of_ble_eq_true rfl) (fun sz B hB hX => ?_)
  show V g B 0 0 _ (hp g m) sz 0 [some (.ref (ad g 363)), some (.int x)] []
  refine V.aload_n (pc := 0) hB dX10_setAir_0 rfl ?_
  refine V.cv (pc := 1) hB cw_X10_begins wm_X10_97 wi_X10_begins ws_X10_begins dX10_setAir_1 (c_X10_begins hG) (hp_at (ca_Model _)) fk_Model rfl (by omega) (by decide) rfl (by exact Nat.le_of_ble_eq_true rfl) (by omega) (by omega) kN (kV (fun m_1 sz h_1 => ?_)) rfl
  subst h_1
  refine V.mem (m2 := begM m) rfl ?_
  refine V.aload_n (pc := 4) hB dX10_setAir_4 rfl ?_
  refine V.aload_n (pc := 5) hB dX10_setAir_5 rfl ?_
  refine V.iload_n (pc := 6) hB dX10_setAir_6 rfl ?_
  refine V.cv (pc := 7) hB cw_X10_airs wm_X10_113 wi_X10_airs ws_X10_airs dX10_setAir_7 (c_X10_airs hG hR0) (hp_at (ca_Model _)) fk_Model rfl (by omega) (by decide) rfl (by exact Nat.le_of_ble_eq_true rfl) (by omega) (by omega) kN (kI (fun v_7 m_7 sz h_7 => ?_)) rfl
  have hmid : (airF x = 45 ∧ v_7 = ((rem M).1 (LA 0) 2) ∧ MFr (up (begM m) 363 15 0) m_7 ∧ RM (m_7.1 364) (up (rem M) (LA 0) 2 x) 0) ∨ (∃ t9, (c97 (airF x) t9 ∧ ¬ t9 = 0) ∧ m_7 = up (begM m) 363 15 t9) := by
    obtain ⟨hv, h | ⟨hc, hm⟩⟩ := h_7
    · exact Or.inl ⟨h.1, hv, h.2⟩
    · exact Or.inr ⟨1, ⟨⟨hc, rfl⟩, by decide⟩, hm⟩
  refine V.cv (pc := 10) hB cw_X10_ends wm_X10_104 wi_X10_ends ws_X10_ends dX10_setAir_10 (c_X10_ends hG (n := hc M) (hJ.mid6 hmid) hI.2.1.2.2.2) (hp_at (ca_Model _)) fk_Model rfl (by omega) (by decide) rfl (by exact Nat.le_of_ble_eq_true rfl) (by omega) (by omega) kN (kI (fun v_10 m_10 sz h_10 => ?_)) rfl
  refine V.retI (pc := 13) hB dX10_setAir_13 rfl (rfl) (by omega) (by omega) ?_
  exact hJ.fin hmid (fun hf => by
    have h : ¬ (x < -40 ∨ 20 < x) := by
      intro z
      unfold airF at hf
      rw [if_pos z] at hf
      exact absurd hf (by decide)
    exact hX0.air h0L.nl5 ⟨Int32.not_lt.mp (fun z => h (Or.inl z)), Int32.not_lt.mp (fun z => h (Or.inr z))⟩) (fun hf k hk => by
    exact up_cell _ _ _ (by omega)) h_10

set_option maxRecDepth 100000 in
set_option maxHeartbeats 1000000 in
theorem c_X10_addWindow {g : xG} (hG : GK g) {m M : Mem} (hJ : JS m M) {x z : Int32} : CC g yX10_addWindow (.code yX10_addWindow cX10_addWindow 3 (some .int)) 5 0 0 [.ref (ad g 363), .int x, .int z] m (rI (chP m M (insM 0 (nWn (rem M) 0) x z (rem M)) (winF M 0 x z) (nI (nWn (rem M) 0 + 1)) cWin)) noX := by
  have hI := hJ.2.1
  have ha : Agr M (rem M) 0 := rem_agr hI.1 (by omega)
  have h0L := (rem_LW hI.1).1
  have hR0 := hJ.r0
  have hX0 := hJ.x0
  have hla : LA 0 = 1 := rfl
  refine CC.mk hG RX10 rfl (by decide +kernel) rfl (Nat.le_of_ble_eq_true rfl) (fun sz B hB hX => ?_)
  show V g B 0 0 _ (hp g m) sz 0 [some (.ref (ad g 363)), some (.int x), some (.int z)] []
  refine V.aload_n (pc := 0) hB dX10_addWindow_0 rfl ?_
  refine V.cv (pc := 1) hB cw_X10_begins wm_X10_97 wi_X10_begins ws_X10_begins dX10_addWindow_1 (c_X10_begins hG) (hp_at (ca_Model _)) fk_Model rfl (by omega) (by decide) rfl (by exact Nat.le_of_ble_eq_true rfl) (by omega) (by omega) kN (kV (fun m_1 sz h_1 => ?_)) rfl
  subst h_1
  refine V.mem (m2 := begM m) rfl ?_
  refine V.aload_n (pc := 4) hB dX10_addWindow_4 rfl ?_
  refine V.aload_n (pc := 5) hB dX10_addWindow_5 rfl ?_
  refine V.iload_n (pc := 6) hB dX10_addWindow_6 rfl ?_
  refine V.iload_n (pc := 7) hB dX10_addWindow_7 rfl ?_
  refine V.cv (pc := 8) hB cw_X10_opens wm_X10_116 wi_X10_opens ws_X10_opens dX10_addWindow_8 (c_X10_opens hG hR0 hX0.2.1) (hp_at (ca_Model _)) fk_Model rfl (by omega) (by decide) rfl (by exact Nat.le_of_ble_eq_true rfl) (by omega) (by omega) kN (kI (fun v_8 m_8 sz h_8 => ?_)) rfl
  have hmid : (winF M 0 x z = 45 ∧ v_8 = (nI (nWn (rem M) 0 + 1)) ∧ MFr (up (begM m) 363 15 0) m_8 ∧ RM (m_8.1 364) (insM 0 (nWn (rem M) 0) x z (rem M)) 0) ∨ (∃ t9, (cWin (winF M 0 x z) t9 ∧ ¬ t9 = 0) ∧ m_8 = up (begM m) 363 15 t9) := by
    rw [ha.fWin x z] at h_8
    rcases h_8 with h | ⟨_, t9, hc, hm⟩
    · exact Or.inl h
    · exact Or.inr ⟨t9, ⟨hc, by rcases hc with ⟨_, rfl⟩ | ⟨_, rfl⟩ | ⟨_, rfl⟩ <;> decide⟩, hm⟩
  refine V.cv (pc := 11) hB cw_X10_ends wm_X10_104 wi_X10_ends ws_X10_ends dX10_addWindow_11 (c_X10_ends hG (n := hc M) (hJ.mid6 hmid) hI.2.1.2.2.2) (hp_at (ca_Model _)) fk_Model rfl (by omega) (by decide) rfl (by exact Nat.le_of_ble_eq_true rfl) (by omega) (by omega) kN (kI (fun v_11 m_11 sz h_11 => ?_)) rfl
  refine V.retI (pc := 14) hB dX10_addWindow_14 rfl (rfl) (by omega) (by omega) ?_
  exact hJ.fin hmid (fun hf => by
    have h := winF_ok2 h0L (x := x) (z := z) (by rw [ha.fWin]; exact hf)
    exact hX0.ins h0L rfl h.2.1 h.1 h.2.2) (fun hf k hk => by
    exact insM_cell (by omega)) h_11

set_option maxRecDepth 100000 in
set_option maxHeartbeats 1000000 in
theorem c_X10_removeWindow {g : xG} (hG : GK g) {m M : Mem} (hJ : JS m M) {x : Int32} : CC g yX10_removeWindow (.code yX10_removeWindow cX10_removeWindow 2 (some .int)) 5 0 0 [.ref (ad g 363), .int x] m (rI (chP m M (rmM 0 (nWn (rem M) 0) x.toNatClampNeg (rem M)) (openF M 0 x) (nI (nWn (rem M) 0 - 1)) c98)) noX := by
  have hI := hJ.2.1
  have ha : Agr M (rem M) 0 := rem_agr hI.1 (by omega)
  have h0L := (rem_LW hI.1).1
  have hR0 := hJ.r0
  have hX0 := hJ.x0
  have hla : LA 0 = 1 := rfl
  refine CC.mk hG RX10 rfl (by decide +kernel) rfl (Nat.le_of_ble_eq_true rfl) (fun sz B hB hX => ?_)
  show V g B 0 0 _ (hp g m) sz 0 [some (.ref (ad g 363)), some (.int x)] []
  refine V.aload_n (pc := 0) hB dX10_removeWindow_0 rfl ?_
  refine V.cv (pc := 1) hB cw_X10_begins wm_X10_97 wi_X10_begins ws_X10_begins dX10_removeWindow_1 (c_X10_begins hG) (hp_at (ca_Model _)) fk_Model rfl (by omega) (by decide) rfl (by exact Nat.le_of_ble_eq_true rfl) (by omega) (by omega) kN (kV (fun m_1 sz h_1 => ?_)) rfl
  subst h_1
  refine V.mem (m2 := begM m) rfl ?_
  refine V.aload_n (pc := 4) hB dX10_removeWindow_4 rfl ?_
  refine V.aload_n (pc := 5) hB dX10_removeWindow_5 rfl ?_
  refine V.iload_n (pc := 6) hB dX10_removeWindow_6 rfl ?_
  refine V.cv (pc := 7) hB cw_X10_shuts wm_X10_119 wi_X10_shuts ws_X10_shuts dX10_removeWindow_7 (c_X10_shuts hG hR0) (hp_at (ca_Model _)) fk_Model rfl (by omega) (by decide) rfl (by exact Nat.le_of_ble_eq_true rfl) (by omega) (by omega) kN (kI (fun v_7 m_7 sz h_7 => ?_)) rfl
  have hmid : (openF M 0 x = 45 ∧ v_7 = (nI (nWn (rem M) 0 - 1)) ∧ MFr (up (begM m) 363 15 0) m_7 ∧ RM (m_7.1 364) (rmM 0 (nWn (rem M) 0) x.toNatClampNeg (rem M)) 0) ∨ (∃ t9, (c98 (openF M 0 x) t9 ∧ ¬ t9 = 0) ∧ m_7 = up (begM m) 363 15 t9) := by
    rw [ha.wopF x] at h_7
    rcases h_7 with h | ⟨_, hc, hm⟩
    · exact Or.inl h
    · exact Or.inr ⟨1, ⟨⟨hc, rfl⟩, by decide⟩, hm⟩
  refine V.cv (pc := 10) hB cw_X10_ends wm_X10_104 wi_X10_ends ws_X10_ends dX10_removeWindow_10 (c_X10_ends hG (n := hc M) (hJ.mid6 hmid) hI.2.1.2.2.2) (hp_at (ca_Model _)) fk_Model rfl (by omega) (by decide) rfl (by exact Nat.le_of_ble_eq_true rfl) (by omega) (by omega) kN (kI (fun v_10 m_10 sz h_10 => ?_)) rfl
  refine V.retI (pc := 13) hB dX10_removeWindow_13 rfl (rfl) (by omega) (by omega) ?_
  exact hJ.fin hmid (fun hf => by
    have h := openF_ok hf
    obtain ⟨j, hxe, hj, hjc⟩ := idx_j h (by have := hI.1.wr.2; omega)
    exact hX0.rm h0L rfl (by rw [ha.nw, hjc]; exact hj)) (fun hf k hk => by
    exact rmM_cell (by omega)) h_10

set_option maxRecDepth 100000 in
set_option maxHeartbeats 1000000 in
theorem c_X10_strike {g : xG} (hG : GK g) {m M : Mem} (hJ : JS m M) {x y : Int32} : CC g yX10_strike (.code yX10_strike cX10_strike 3 (some .int)) 9 0 0 [.ref (ad g 363), .int x, .int y] m (rI (chP m M (ringM 0 x.toNatClampNeg y.toNatClampNeg (rem M)) (ringF M 0 x y) (pitchV ((rem M).1 (LK 0 x.toNatClampNeg + 1)) ((rem M).1 (LK 0 x.toNatClampNeg + 2)) y.toNatClampNeg) cStr)) noX := by
  have hI := hJ.2.1
  have ha : Agr M (rem M) 0 := rem_agr hI.1 (by omega)
  have h0L := (rem_LW hI.1).1
  have hR0 := hJ.r0
  have hX0 := hJ.x0
  have hla : LA 0 = 1 := rfl
  refine CC.mk hG RX10 rfl (by decide +kernel) rfl (Nat.le_of_ble_eq_true rfl) (fun sz B hB hX => ?_)
  show V g B 0 0 _ (hp g m) sz 0 [some (.ref (ad g 363)), some (.int x), some (.int y)] []
  refine V.aload_n (pc := 0) hB dX10_strike_0 rfl ?_
  refine V.cv (pc := 1) hB cw_X10_begins wm_X10_97 wi_X10_begins ws_X10_begins dX10_strike_1 (c_X10_begins hG) (hp_at (ca_Model _)) fk_Model rfl (by omega) (by decide) rfl (by exact Nat.le_of_ble_eq_true rfl) (by omega) (by omega) kN (kV (fun m_1 sz h_1 => ?_)) rfl
  subst h_1
  refine V.mem (m2 := begM m) rfl ?_
  refine V.aload_n (pc := 4) hB dX10_strike_4 rfl ?_
  refine V.aload_n (pc := 5) hB dX10_strike_5 rfl ?_
  refine V.iload_n (pc := 6) hB dX10_strike_6 rfl ?_
  refine V.iload_n (pc := 7) hB dX10_strike_7 rfl ?_
  refine V.cv (pc := 8) hB cw_X10_strikes wm_X10_129 wi_X10_strikes ws_X10_strikes dX10_strike_8 (c_X10_strikes hG hR0 hX0.1) (hp_at (ca_Model _)) fk_Model rfl (by omega) (by decide) rfl (by exact Nat.le_of_ble_eq_true rfl) (by omega) (by omega) kN (kI (fun v_8 m_8 sz h_8 => ?_)) rfl
  have hmid : (ringF M 0 x y = 45 ∧ v_8 = (pitchV ((rem M).1 (LK 0 x.toNatClampNeg + 1)) ((rem M).1 (LK 0 x.toNatClampNeg + 2)) y.toNatClampNeg) ∧ MFr (up (begM m) 363 15 0) m_8 ∧ RM (m_8.1 364) (ringM 0 x.toNatClampNeg y.toNatClampNeg (rem M)) 0) ∨ (∃ t9, (cStr (ringF M 0 x y) t9 ∧ ¬ t9 = 0) ∧ m_8 = up (begM m) 363 15 t9) := by
    rw [ha.fRing hI.1.nl5 x y] at h_8
    rcases h_8 with h | ⟨_, t9, hc, hm⟩
    · exact Or.inl h
    · exact Or.inr ⟨t9, ⟨hc, by rcases hc with ⟨_, rfl⟩ | ⟨_, rfl⟩ <;> decide⟩, hm⟩
  refine V.cv (pc := 11) hB cw_X10_ends wm_X10_104 wi_X10_ends ws_X10_ends dX10_strike_11 (c_X10_ends hG (n := hc M) (hJ.mid6 hmid) hI.2.1.2.2.2) (hp_at (ca_Model _)) fk_Model rfl (by omega) (by decide) rfl (by exact Nat.le_of_ble_eq_true rfl) (by omega) (by omega) kN (kI (fun v_11 m_11 sz h_11 => ?_)) rfl
  refine V.retI (pc := 14) hB dX10_strike_14 rfl (rfl) (by omega) (by omega) ?_
  exact hJ.fin hmid (fun hf => by
    have h := (ringF_ok (m := rem M) (i := 0) (x := x) (y := y) (by rw [ha.fRing hI.1.nl5]; exact hf)).1
    obtain ⟨j, hxe, hj, hjc⟩ := idx_j h.1 (by have := h0L.nl5; omega)
    have h2 := h.2
    rw [hjc] at h2 ⊢
    obtain ⟨q, hye, hq, hqc⟩ := idx_j h2 (by have := (h0L.ln hj).2; omega)
    rw [hqc]
    exact hX0.ring h0L hj hq) (fun hf k hk => by
    exact recM_cell (by omega)) h_11

set_option maxRecDepth 100000 in
set_option maxHeartbeats 1000000 in
theorem c_X10_pass {g : xG} (hG : GK g) {m M : Mem} (hJ : JS m M) {x : Int32} : CC g yX10_pass (.code yX10_pass cX10_pass 2 (some .int)) 11 0 0 [.ref (ad g 363), .int x] m (rI (chP m M (hoursM 0 (rem M) x.toNatClampNeg) (passF x) (nI (hoursN 0 (rem M) x.toNatClampNeg)) c97)) noX := by
  have hI := hJ.2.1
  have ha : Agr M (rem M) 0 := rem_agr hI.1 (by omega)
  have h0L := (rem_LW hI.1).1
  have hR0 := hJ.r0
  have hX0 := hJ.x0
  have hla : LA 0 = 1 := rfl
  refine CC.mk hG RX10 rfl (by decide +kernel) rfl (Nat.le_of_ble_eq_true rfl) (fun sz B hB hX => ?_)
  show V g B 0 0 _ (hp g m) sz 0 [some (.ref (ad g 363)), some (.int x)] []
  refine V.aload_n (pc := 0) hB dX10_pass_0 rfl ?_
  refine V.cv (pc := 1) hB cw_X10_begins wm_X10_97 wi_X10_begins ws_X10_begins dX10_pass_1 (c_X10_begins hG) (hp_at (ca_Model _)) fk_Model rfl (by omega) (by decide) rfl (by exact Nat.le_of_ble_eq_true rfl) (by omega) (by omega) kN (kV (fun m_1 sz h_1 => ?_)) rfl
  subst h_1
  refine V.mem (m2 := begM m) rfl ?_
  refine V.aload_n (pc := 4) hB dX10_pass_4 rfl ?_
  refine V.aload_n (pc := 5) hB dX10_pass_5 rfl ?_
  refine V.iload_n (pc := 6) hB dX10_pass_6 rfl ?_
  refine V.cv (pc := 7) hB cw_X10_waits wm_X10_158 wi_X10_waits ws_X10_waits dX10_pass_7 (c_X10_waits hG hR0 hX0.1) (hp_at (ca_Model _)) fk_Model rfl (by omega) (by decide) rfl (by exact Nat.le_of_ble_eq_true rfl) (by omega) (by omega) kN (kI (fun v_7 m_7 sz h_7 => ?_)) rfl
  have hmid : (passF x = 45 ∧ v_7 = (nI (hoursN 0 (rem M) x.toNatClampNeg)) ∧ MFr (up (begM m) 363 15 0) m_7 ∧ RM (m_7.1 364) (hoursM 0 (rem M) x.toNatClampNeg) 0) ∨ (∃ t9, (c97 (passF x) t9 ∧ ¬ t9 = 0) ∧ m_7 = up (begM m) 363 15 t9) := by
    rcases h_7 with ⟨hc, _, hm⟩ | h
    · exact Or.inr ⟨1, ⟨⟨hc, rfl⟩, by decide⟩, hm⟩
    · exact Or.inl h
  refine V.cv (pc := 10) hB cw_X10_ends wm_X10_104 wi_X10_ends ws_X10_ends dX10_pass_10 (c_X10_ends hG (n := hc M) (hJ.mid6 hmid) hI.2.1.2.2.2) (hp_at (ca_Model _)) fk_Model rfl (by omega) (by decide) rfl (by exact Nat.le_of_ble_eq_true rfl) (by omega) (by omega) kN (kI (fun v_10 m_10 sz h_10 => ?_)) rfl
  refine V.retI (pc := 13) hB dX10_pass_13 rfl (rfl) (by omega) (by omega) ?_
  exact hJ.fin hmid (fun hf => by
    exact hX0.hours h0L _) (fun hf k hk => by
    exact hoursM_cell h0L (by omega) _) h_10
