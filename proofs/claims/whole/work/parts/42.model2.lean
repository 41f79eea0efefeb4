/-! the reference: layers, ice, windows, what is remembered -/
theorem ofV_2 {R : Nat → Int32} (h : MW R) (x : Int32) : ofV R x 2 = nI (mY R (lkI R x)) := by
  unfold ofV
  rw [show 7 + 27 * lkI R x + 2 = 9 + 27 * lkI R x by omega]
  exact (h.2.1 _ (lkI_5 h x)).1
theorem mY_8 {R : Nat → Int32} (h : MW R) (x : Int32) : mY R (lkI R x) ≤ 8 := (h.2.1 _ (lkI_5 h x)).2
theorem isyB_in {R : Nat → Int32} {x y : Int32} (hM : MW R) (h : isyB R x y = true) : ∃ j z, x = nI j ∧ y = nI z ∧ j < mL R ∧ z < mY R j ∧ x.toNatClampNeg = j ∧ y.toNatClampNeg = z := by
  simp only [isyB, Bool.and_eq_true, decide_eq_true_eq] at h
  obtain ⟨h1, h2⟩ := h
  obtain ⟨j, hxe, hj, hjc⟩ := idx_j (islB_in h1) (by have := hM.1.2; omega)
  have hlk : lkI R x = j := (if_pos h1).trans hjc
  rw [hlk] at h2
  obtain ⟨z, hye, hz, hzc⟩ := idx_j h2 (by have := (hM.2.1 j (by have := hM.1.2; omega)).2; omega)
  exact ⟨j, z, hxe, hye, hj, hz, hjc, hzc⟩
def opB (R : Nat → Int32) (h : Int32) : Nat → Bool
  | 0 => false
  | q + 1 => opB R h q || (decide (R (142 + 2 * q) ≤ h) && decide (h ≤ R (143 + 2 * q)))
theorem ixW (q k : Nat) : (142 : Int32) + 2 * nI q + nI k = nI (142 + 2 * q + k) := by
  rw [show (2 : Int32) = nI 2 from rfl, nI_mulN, show (142 : Int32) = nI 142 from rfl, nI_add, nI_add]

set_option maxRecDepth 100000 in
set_option maxHeartbeats 1000000 in
theorem c_X10_isLayer {g : xG} (hG : GK g) {m : Mem} (hM : MW (m.1 364)) {x y : Int32} : CC g yX10_isLayer (.code yX10_isLayer cX10_isLayer 3 (some .boolean)) 4 0 0 [.ref (ad g 363), .int x, .int y] m (rI (fun v m2 => v = (if isyB (m.1 364) x y = true then 1 else 0) ∧ m2 = m)) noX := by
  refine CC.mk hG RX10 rfl (by decide +kernel) rfl (Nat.le_of_ble_eq_true rfl) (fun sz B hB hX => ?_)
  show V g B 0 0 _ (hp g m) sz 0 [some (.ref (ad g 363)), some (.int x), some (.int y)] []
  refine V.aload_n (pc := 0) hB dX10_isLayer_0 rfl ?_
  refine V.iload_n (pc := 1) hB dX10_isLayer_1 rfl ?_
  refine V.cv (pc := 2) hB cw_X10_isLake wm_X10_73 wi_X10_isLake ws_X10_isLake dX10_isLayer_2 (c_X10_isLake hG hM) (hp_at (ca_Model _)) fk_Model rfl (by omega) (by decide) rfl (by exact Nat.le_of_ble_eq_true rfl) (by omega) (by omega) kN (kI (fun v_2 m_2 sz h_2 => ?_)) rfl
  obtain ⟨rfl, hm_2⟩ := h_2
  obtain rfl := hm_2.symm
  refine V.if_eq (pc := 5) (tgt := 28) hB dX10_isLayer_5 (by decide) (fun c_5 => ?_) (fun c_5 => ?_)
  · have hv : isyB (m.1 364) x y = false := by unfold isyB; rw [b00 c_5]; rfl
    refine V.iconst (pc := 28) (v := 0) hB dX10_isLayer_28 rfl ?_
    refine V.retI (pc := 29) hB dX10_isLayer_29 rfl (rfl) (by omega) (by omega) ?_
    exact ⟨by rw [hv]; rfl, rfl⟩
  · have hb := b01 c_5
    refine V.iload_n (pc := 8) hB dX10_isLayer_8 rfl ?_
    refine V.iconst (pc := 9) (v := 0) hB dX10_isLayer_9 rfl ?_
    refine V.aload_n (pc := 10) hB dX10_isLayer_10 rfl ?_
    refine V.iload_n (pc := 11) hB dX10_isLayer_11 rfl ?_
    refine V.iconst (pc := 12) (v := 2) hB dX10_isLayer_12 rfl ?_
    refine V.cv (pc := 13) hB cw_X10_of wm_X10_77 wi_X10_of ws_X10_of dX10_isLayer_13 (c_X10_of hG hM (k := 2) (by decide) rfl) (hp_at (ca_Model _)) fk_Model rfl (by omega) (by decide) rfl (by exact Nat.le_of_ble_eq_true rfl) (by omega) (by omega) kN (kI (fun v_13 m_13 sz h_13 => ?_)) rfl
    obtain ⟨rfl, hm_13⟩ := h_13
    obtain rfl := hm_13.symm
    rw [ofV_2 hM]
    refine V.iconst (pc := 16) (v := 1) hB dX10_isLayer_16 rfl ?_
    refine V.isub (pc := 17) hB dX10_isLayer_17 ?_
    refine V.cs (pc := 18) hB cw_X10_isIn wm_X10_69 wst_X10_isIn dX10_isLayer_18 (c_X10_isIn hG) (by omega) (by decide) rfl (by exact Nat.le_of_ble_eq_true rfl) (by omega) (by omega) kN (kI (fun v_18 m_18 sz h_18 => ?_)) rfl
    obtain ⟨rfl, hm_18⟩ := h_18
    obtain rfl := hm_18.symm
    rw [show decide (y ≤ nI (mY (m.1 364) (lkI (m.1 364) x)) - 1) = decide (y < nI (mY (m.1 364) (lkI (m.1 364) x))) from decide_eq_decide.mpr (le_sub1 (by have := mY_8 hM x; omega))]
    refine V.if_eq (pc := 21) (tgt := 28) hB dX10_isLayer_21 (by decide) (fun c_21 => ?_) (fun c_21 => ?_)
    · have hv : isyB (m.1 364) x y = false := by unfold isyB; rw [hb, b00 c_21]; rfl
      refine V.iconst (pc := 28) (v := 0) hB dX10_isLayer_28 rfl ?_
      refine V.retI (pc := 29) hB dX10_isLayer_29 rfl (rfl) (by omega) (by omega) ?_
      exact ⟨by rw [hv]; rfl, rfl⟩
    · have hv : isyB (m.1 364) x y = true := by unfold isyB; rw [hb, b01 c_21]; rfl
      refine V.iconst (pc := 24) (v := 1) hB dX10_isLayer_24 rfl ?_
      refine V.goto (pc := 25) (tgt := 29) hB dX10_isLayer_25 (by decide) ?_
      refine V.retI (pc := 29) hB dX10_isLayer_29 rfl (rfl) (by omega) (by omega) ?_
      exact ⟨by rw [hv]; rfl, rfl⟩

set_option maxRecDepth 100000 in
set_option maxHeartbeats 1000000 in
theorem c_X10_layerPlace {g : xG} (hG : GK g) {j y : Nat} {xj xy : Int32} (hxj : xj = nI j) (hxy : xy = nI y) {m : Mem} : CC g yX10_layerPlace (.code yX10_layerPlace cX10_layerPlace 2 (some .int)) 1 0 0 [.int xj, .int xy] m (rI (fun v m2 => v = nI (10 + 27 * j + 3 * y) ∧ m2 = m)) noX := by
  refine CC.mk hG RX10 rfl (by decide +kernel) rfl (Nat.le_of_ble_eq_true rfl) (fun sz B hB hX => ?_)
  show V g B 0 0 _ (hp g m) sz 0 [some (.int xj), some (.int xy)] []
  subst hxj
  subst hxy
  refine V.bipush (pc := 0) (v := 7) hB dX10_layerPlace_0 rfl ?_
  refine V.bipush (pc := 2) (v := 27) hB dX10_layerPlace_2 rfl ?_
  refine V.iload_n (pc := 4) hB dX10_layerPlace_4 rfl ?_
  refine V.imul (pc := 5) hB dX10_layerPlace_5 ?_
  refine V.iadd (pc := 6) hB dX10_layerPlace_6 ?_
  refine V.iconst (pc := 7) (v := 3) hB dX10_layerPlace_7 rfl ?_
  refine V.iadd (pc := 8) hB dX10_layerPlace_8 ?_
  refine V.iconst (pc := 9) (v := 3) hB dX10_layerPlace_9 rfl ?_
  refine V.iload_n (pc := 10) hB dX10_layerPlace_10 rfl ?_
  refine V.imul (pc := 11) hB dX10_layerPlace_11 ?_
  refine V.iadd (pc := 12) hB dX10_layerPlace_12 ?_
  rw [ixL]
  refine V.retI (pc := 13) hB dX10_layerPlace_13 rfl (rfl) (by omega) (by omega) ?_
  exact ⟨rfl, rfl⟩

set_option maxRecDepth 100000 in
set_option maxHeartbeats 1000000 in
theorem c_X10_ofLayer {g : xG} (hG : GK g) {m : Mem} (hM : MW (m.1 364)) {x y : Int32} {k : Nat} (hk : k ≤ 2) {xk : Int32} (hxk : xk = nI k) : CC g yX10_ofLayer (.code yX10_ofLayer cX10_ofLayer 4 (some .int)) 5 0 0 [.ref (ad g 363), .int x, .int y, .int xk] m (rI (fun v m2 => v = olV (m.1 364) x y k ∧ m2 = m)) noX := by
  have h5 := hM.1.2
  refine CC.mk hG RX10 rfl (by decide +kernel) rfl (Nat.le_of_ble_eq_true rfl) (fun sz B hB hX => ?_)
  show V g B 0 0 _ (hp g m) sz 0 [some (.ref (ad g 363)), some (.int x), some (.int y), some (.int xk)] []
  subst hxk
  refine V.aload_n (pc := 0) hB dX10_ofLayer_0 rfl ?_
  refine V.get (pc := 1) hB fk_Model 0 wf_X10_9 dX10_ofLayer_1 (by decide) (hp_at (ca_Model _)) rfl ?_
  refine V.aload_n (pc := 4) hB dX10_ofLayer_4 rfl ?_
  refine V.iload_n (pc := 5) hB dX10_ofLayer_5 rfl ?_
  refine V.iload_n (pc := 6) hB dX10_ofLayer_6 rfl ?_
  refine V.cv (pc := 7) hB cw_X10_isLayer wm_X10_81 wi_X10_isLayer ws_X10_isLayer dX10_ofLayer_7 (c_X10_isLayer hG hM) (hp_at (ca_Model _)) fk_Model rfl (by omega) (by decide) rfl (by exact Nat.le_of_ble_eq_true rfl) (by omega) (by omega) kN (kI (fun v_7 m_7 sz h_7 => ?_)) rfl
  obtain ⟨rfl, hm_7⟩ := h_7
  obtain rfl := hm_7.symm
  refine V.if_eq (pc := 10) (tgt := 21) hB dX10_ofLayer_10 (by decide) (fun c_10 => ?_) (fun c_10 => ?_)
  · have hb : ¬ isyB (m.1 364) x y = true := by rw [b00 c_10]; decide
    obtain ⟨l, hl, hl2⟩ : ∃ l, lpI (m.1 364) x y = l ∧ l ≤ 200 := ⟨10, if_neg hb, by decide⟩
    have hl0 : (10 : Nat) = l := (if_neg hb).symm.trans hl
    refine V.iconst (pc := 21) (v := 0) hB dX10_ofLayer_21 rfl ?_
    refine V.iconst (pc := 22) (v := 0) hB dX10_ofLayer_22 rfl ?_
    refine V.cs (pc := 23) hB cw_X10_layerPlace wm_X10_85 wst_X10_layerPlace dX10_ofLayer_23 (c_X10_layerPlace hG (j := 0) (y := 0) (xj := 0) (xy := 0) rfl rfl) (by omega) (by decide) rfl (by exact Nat.le_of_ble_eq_true rfl) (by omega) (by omega) kN (kI (fun v_23 m_23 sz h_23 => ?_)) rfl
    obtain ⟨rfl, hm_23⟩ := h_23
    obtain rfl := hm_23.symm
    rw [show 10 + 27 * 0 + 3 * 0 = l from hl0]
    refine V.iload_n (pc := 26) hB dX10_ofLayer_26 rfl ?_
    refine V.iadd (pc := 27) hB dX10_ofLayer_27 ?_
    rw [nI_add]
    refine V.ialdM (pc := 28) hB (ca_Now) dX10_ofLayer_28 (ix_nI (by omega) (by decide)) ?_
    refine V.retI (pc := 29) hB dX10_ofLayer_29 rfl (rfl) (by omega) (by omega) ?_
    unfold olV
    rw [hl]
    exact ⟨rfl, rfl⟩
  · have hb := b01 c_10
    obtain ⟨j, z, hxe, hye, hj, hz, hjc, hzc⟩ := isyB_in hM hb
    have h8 := (hM.2.1 j (by omega)).2
    obtain ⟨l, hl, hl2⟩ : ∃ l, lpI (m.1 364) x y = l ∧ l ≤ 200 := ⟨10 + 27 * j + 3 * z, by unfold lpI; rw [if_pos hb, hjc, hzc], by omega⟩
    have hl0 : 10 + 27 * j + 3 * z = l := by rw [← hl]; unfold lpI; rw [if_pos hb, hjc, hzc]
    refine V.iload_n (pc := 13) hB dX10_ofLayer_13 rfl ?_
    refine V.iload_n (pc := 14) hB dX10_ofLayer_14 rfl ?_
    refine V.cs (pc := 15) hB cw_X10_layerPlace wm_X10_85 wst_X10_layerPlace dX10_ofLayer_15 (c_X10_layerPlace hG (j := j) (y := z) hxe hye) (by omega) (by decide) rfl (by exact Nat.le_of_ble_eq_true rfl) (by omega) (by omega) kN (kI (fun v_15 m_15 sz h_15 => ?_)) rfl
    obtain ⟨rfl, hm_15⟩ := h_15
    obtain rfl := hm_15.symm
    rw [hl0]
    refine V.goto (pc := 18) (tgt := 26) hB dX10_ofLayer_18 (by decide) ?_
    refine V.iload_n (pc := 26) hB dX10_ofLayer_26 rfl ?_
    refine V.iadd (pc := 27) hB dX10_ofLayer_27 ?_
    rw [nI_add]
    refine V.ialdM (pc := 28) hB (ca_Now) dX10_ofLayer_28 (ix_nI (by omega) (by decide)) ?_
    refine V.retI (pc := 29) hB dX10_ofLayer_29 rfl (rfl) (by omega) (by omega) ?_
    unfold olV
    rw [hl]
    exact ⟨rfl, rfl⟩

set_option maxRecDepth 100000 in
set_option maxHeartbeats 1000000 in
theorem c_X10_iceOf {g : xG} (hG : GK g) {m : Mem} (hM : MW (m.1 364)) {x : Int32} : CC g yX10_iceOf (.code yX10_iceOf cX10_iceOf 4 (some .int)) 6 0 0 [.ref (ad g 363), .int x] m (rI (fun v m2 => v = iceR (m.1 364) x ∧ m2 = m)) noX := by
  have h8 := mY_8 hM x
  refine CC.mk hG RX10 rfl (by decide +kernel) rfl (Nat.le_of_ble_eq_true rfl) (fun sz B hB hX => ?_)
  show V g B 0 0 _ (hp g m) sz 0 [some (.ref (ad g 363)), some (.int x), none, none] []
  have loop : ∀ q : Nat, q ≤ mY (m.1 364) (lkI (m.1 364) x) → ∀ (sz : Nat), V g B 0 0 (QM g B 0 0 (rI (fun v m2 => v = iceR (m.1 364) x ∧ m2 = m)) noX) (hp g (m)) sz 4 [some (.ref (ad g 363)), some (.int x), some (.int (l_sum (fun y => olV (m.1 364) x (nI y) 0) q)), some (.int (nI q))] [] := by
    refine loop_up (fun q hq ih => ?_)
    intro sz
    refine V.iload_n (pc := 4) hB dX10_iceOf_4 rfl ?_
    refine V.aload_n (pc := 5) hB dX10_iceOf_5 rfl ?_
    refine V.iload_n (pc := 6) hB dX10_iceOf_6 rfl ?_
    refine V.iconst (pc := 7) (v := 2) hB dX10_iceOf_7 rfl ?_
    refine V.cv (pc := 8) hB cw_X10_of wm_X10_77 wi_X10_of ws_X10_of dX10_iceOf_8 (c_X10_of hG hM (k := 2) (by decide) rfl) (hp_at (ca_Model _)) fk_Model rfl (by omega) (by decide) rfl (by exact Nat.le_of_ble_eq_true rfl) (by omega) (by omega) kN (kI (fun v_8 m_8 sz h_8 => ?_)) rfl
    obtain ⟨rfl, hm_8⟩ := h_8
    obtain rfl := hm_8.symm
    rw [ofV_2 hM]
    refine V.icmp_ge (pc := 11) (tgt := 30) hB dX10_iceOf_11 (by decide) (fun c_11 => ?_) (fun c_11 => ?_)
    · have hqN : q = mY (m.1 364) (lkI (m.1 364) x) := by have := (nI_leI (by omega) (by omega)).mp c_11; omega
      refine V.iload_n (pc := 30) hB dX10_iceOf_30 rfl ?_
      refine V.retI (pc := 31) hB dX10_iceOf_31 rfl (rfl) (by omega) (by omega) ?_
      refine ⟨?_, rfl⟩
      unfold iceR
      rw [← hqN]
    · have hlt : q < mY (m.1 364) (lkI (m.1 364) x) := Nat.not_le.mp (fun z => c_11 ((nI_leI (by omega) (by omega)).mpr z))
      refine V.iload_n (pc := 14) hB dX10_iceOf_14 rfl ?_
      refine V.aload_n (pc := 15) hB dX10_iceOf_15 rfl ?_
      refine V.iload_n (pc := 16) hB dX10_iceOf_16 rfl ?_
      refine V.iload_n (pc := 17) hB dX10_iceOf_17 rfl ?_
      refine V.iconst (pc := 18) (v := 0) hB dX10_iceOf_18 rfl ?_
      refine V.cv (pc := 19) hB cw_X10_ofLayer wm_X10_88 wi_X10_ofLayer ws_X10_ofLayer dX10_iceOf_19 (c_X10_ofLayer hG hM (k := 0) (by decide) rfl) (hp_at (ca_Model _)) fk_Model rfl (by omega) (by decide) rfl (by exact Nat.le_of_ble_eq_true rfl) (by omega) (by omega) kN (kI (fun v_19 m_19 sz h_19 => ?_)) rfl
      obtain ⟨rfl, hm_19⟩ := h_19
      obtain rfl := hm_19.symm
      refine V.iadd (pc := 22) hB dX10_iceOf_22 ?_
      refine V.istore_n (pc := 23) hB dX10_iceOf_23 (by decide) rfl ?_
      refine V.iinc (pc := 24) (v := nI (q + 1)) hB dX10_iceOf_24 rfl (nI_1 _) (by decide) rfl ?_
      refine V.goto (pc := 27) (tgt := 4) hB dX10_iceOf_27 (by decide) ?_
      exact ih hlt sz
  refine V.iconst (pc := 0) (v := 0) hB dX10_iceOf_0 rfl ?_
  refine V.istore_n (pc := 1) hB dX10_iceOf_1 (by decide) rfl ?_
  refine V.iconst (pc := 2) (v := 0) hB dX10_iceOf_2 rfl ?_
  refine V.istore_n (pc := 3) hB dX10_iceOf_3 (by decide) rfl ?_
  exact loop 0 (by omega) sz

set_option maxRecDepth 100000 in
set_option maxHeartbeats 1000000 in
theorem c_X10_pitchOf {g : xG} (hG : GK g) {m : Mem} (hM : MW (m.1 364)) {x y : Int32} (hne : ¬ olV (m.1 364) x y 0 = 0) : CC g yX10_pitchOf (.code yX10_pitchOf cX10_pitchOf 3 (some .int)) 6 0 0 [.ref (ad g 363), .int x, .int y] m (rI (fun v m2 => v = 100 / olV (m.1 364) x y 0 - olV (m.1 364) x y 1 ∧ m2 = m)) noX := by
  refine CC.mk hG RX10 rfl (by decide +kernel) rfl (Nat.le_of_ble_eq_true rfl) (fun sz B hB hX => ?_)
  show V g B 0 0 _ (hp g m) sz 0 [some (.ref (ad g 363)), some (.int x), some (.int y)] []
  refine V.bipush (pc := 0) (v := 100) hB dX10_pitchOf_0 rfl ?_
  refine V.aload_n (pc := 2) hB dX10_pitchOf_2 rfl ?_
  refine V.iload_n (pc := 3) hB dX10_pitchOf_3 rfl ?_
  refine V.iload_n (pc := 4) hB dX10_pitchOf_4 rfl ?_
  refine V.iconst (pc := 5) (v := 0) hB dX10_pitchOf_5 rfl ?_
  refine V.cv (pc := 6) hB cw_X10_ofLayer wm_X10_88 wi_X10_ofLayer ws_X10_ofLayer dX10_pitchOf_6 (c_X10_ofLayer hG hM (k := 0) (by decide) rfl) (hp_at (ca_Model _)) fk_Model rfl (by omega) (by decide) rfl (by exact Nat.le_of_ble_eq_true rfl) (by omega) (by omega) kN (kI (fun v_6 m_6 sz h_6 => ?_)) rfl
  obtain ⟨rfl, hm_6⟩ := h_6
  obtain rfl := hm_6.symm
  refine V.idiv (pc := 9) hB dX10_pitchOf_9 (hne) ?_
  refine V.aload_n (pc := 10) hB dX10_pitchOf_10 rfl ?_
  refine V.iload_n (pc := 11) hB dX10_pitchOf_11 rfl ?_
  refine V.iload_n (pc := 12) hB dX10_pitchOf_12 rfl ?_
  refine V.iconst (pc := 13) (v := 1) hB dX10_pitchOf_13 rfl ?_
  refine V.cv (pc := 14) hB cw_X10_ofLayer wm_X10_88 wi_X10_ofLayer ws_X10_ofLayer dX10_pitchOf_14 (c_X10_ofLayer hG hM (k := 1) (by decide) rfl) (hp_at (ca_Model _)) fk_Model rfl (by omega) (by decide) rfl (by exact Nat.le_of_ble_eq_true rfl) (by omega) (by omega) kN (kI (fun v_14 m_14 sz h_14 => ?_)) rfl
  obtain ⟨rfl, hm_14⟩ := h_14
  obtain rfl := hm_14.symm
  refine V.isub (pc := 17) hB dX10_pitchOf_17 ?_
  refine V.retI (pc := 18) hB dX10_pitchOf_18 rfl (rfl) (by omega) (by omega) ?_
  exact ⟨rfl, rfl⟩

set_option maxRecDepth 100000 in
set_option maxHeartbeats 1000000 in
theorem c_X10_isOpened {g : xG} (hG : GK g) {m : Mem} (hM : MW (m.1 364)) {h : Int32} : CC g yX10_isOpened (.code yX10_isOpened cX10_isOpened 4 (some .boolean)) 2 0 0 [.ref (ad g 363), .int h] m (rI (fun v m2 => v = (if opB (m.1 364) h (mN (m.1 364)) = true then 1 else 0) ∧ m2 = m)) noX := by
  have h6 := hM.2.2.1.2
  refine CC.mk hG RX10 rfl (by decide +kernel) rfl (Nat.le_of_ble_eq_true rfl) (fun sz B hB hX => ?_)
  show V g B 0 0 _ (hp g m) sz 0 [some (.ref (ad g 363)), some (.int h), none, none] []
  have loop : ∀ q : Nat, q ≤ mN (m.1 364) → ∀ (sz : Nat), V g B 0 0 (QM g B 0 0 (rI (fun v m2 => v = (if opB (m.1 364) h (mN (m.1 364)) = true then 1 else 0) ∧ m2 = m)) noX) (hp g (m)) sz 4 [some (.ref (ad g 363)), some (.int h), some (.int (if opB (m.1 364) h q = true then 1 else 0)), some (.int (nI q))] [] := by
    refine loop_up (fun q hq ih => ?_)
    intro sz
    refine V.iload_n (pc := 4) hB dX10_isOpened_4 rfl ?_
    refine V.aload_n (pc := 5) hB dX10_isOpened_5 rfl ?_
    refine V.get (pc := 6) hB fk_Model 0 wf_X10_9 dX10_isOpened_6 (by decide) (hp_at (ca_Model _)) rfl ?_
    refine V.iconst (pc := 9) (v := 3) hB dX10_isOpened_9 rfl ?_
    refine V.ialdM (pc := 10) hB (ca_Now) dX10_isOpened_10 ((ix_nI (q := 3) (N := 218) (by decide) (by decide) : ix 3 3 218)) ?_
    rw [hM.2.2.1.1]
    refine V.icmp_ge (pc := 11) (tgt := 65) hB dX10_isOpened_11 (by decide) (fun c_11 => ?_) (fun c_11 => ?_)
    · have hqN : q = mN (m.1 364) := by have := (nI_leI (by omega) (by omega)).mp c_11; omega
      refine V.iload_n (pc := 65) hB dX10_isOpened_65 rfl ?_
      refine V.retI (pc := 66) hB dX10_isOpened_66 rfl (bnar _) (by omega) (by omega) ?_
      rw [← hqN]
      exact ⟨rfl, rfl⟩
    · have hlt : q < mN (m.1 364) := Nat.not_le.mp (fun z => c_11 ((nI_leI (by omega) (by omega)).mpr z))
      refine V.iload_n (pc := 14) hB dX10_isOpened_14 rfl ?_
      refine V.if_ne (pc := 15) (tgt := 53) hB dX10_isOpened_15 (by decide) (fun c_15 => ?_) (fun c_15 => ?_)
      · have hv : opB (m.1 364) h (q + 1) = true := by show (opB (m.1 364) h q || _) = true; rw [b01 c_15]; rfl
        refine V.iconst (pc := 53) (v := 1) hB dX10_isOpened_53 rfl ?_
        refine V.goto (pc := 54) (tgt := 58) hB dX10_isOpened_54 (by decide) ?_
        refine V.istore_n (pc := 58) hB dX10_isOpened_58 (by decide) rfl ?_
        refine V.iinc (pc := 59) (v := nI (q + 1)) hB dX10_isOpened_59 rfl (nI_1 _) (by decide) rfl ?_
        refine V.goto (pc := 62) (tgt := 4) hB dX10_isOpened_62 (by decide) ?_
        have ih2 := ih hlt sz
        rw [hv] at ih2
        exact ih2
      · have h0 := b00 c_15
        refine V.iload_n (pc := 18) hB dX10_isOpened_18 rfl ?_
        refine V.aload_n (pc := 19) hB dX10_isOpened_19 rfl ?_
        refine V.get (pc := 20) hB fk_Model 0 wf_X10_9 dX10_isOpened_20 (by decide) (hp_at (ca_Model _)) rfl ?_
        refine V.sipush (pc := 23) (v := 142) hB dX10_isOpened_23 rfl ?_
        refine V.iconst (pc := 26) (v := 2) hB dX10_isOpened_26 rfl ?_
        refine V.iload_n (pc := 27) hB dX10_isOpened_27 rfl ?_
        refine V.imul (pc := 28) hB dX10_isOpened_28 ?_
        refine V.iadd (pc := 29) hB dX10_isOpened_29 ?_
        refine V.iconst (pc := 30) (v := 0) hB dX10_isOpened_30 rfl ?_
        refine V.iadd (pc := 31) hB dX10_isOpened_31 ?_
        rw [show (142 : Int32) + 2 * nI q + 0 = nI (142 + 2 * q) from ixW q 0]
        refine V.ialdM (pc := 32) hB (ca_Now) dX10_isOpened_32 (ix_nI (by omega) (by decide)) ?_
        refine V.aload_n (pc := 33) hB dX10_isOpened_33 rfl ?_
        refine V.get (pc := 34) hB fk_Model 0 wf_X10_9 dX10_isOpened_34 (by decide) (hp_at (ca_Model _)) rfl ?_
        refine V.sipush (pc := 37) (v := 142) hB dX10_isOpened_37 rfl ?_
        refine V.iconst (pc := 40) (v := 2) hB dX10_isOpened_40 rfl ?_
        refine V.iload_n (pc := 41) hB dX10_isOpened_41 rfl ?_
        refine V.imul (pc := 42) hB dX10_isOpened_42 ?_
        refine V.iadd (pc := 43) hB dX10_isOpened_43 ?_
        refine V.iconst (pc := 44) (v := 1) hB dX10_isOpened_44 rfl ?_
        refine V.iadd (pc := 45) hB dX10_isOpened_45 ?_
        rw [show (142 : Int32) + 2 * nI q + 1 = nI (143 + 2 * q) from (ixW q 1).trans (by congr 1; omega)]
        refine V.ialdM (pc := 46) hB (ca_Now) dX10_isOpened_46 (ix_nI (by omega) (by decide)) ?_
        refine V.cs (pc := 47) hB cw_X10_isIn wm_X10_69 wst_X10_isIn dX10_isOpened_47 (c_X10_isIn hG) (by omega) (by decide) rfl (by exact Nat.le_of_ble_eq_true rfl) (by omega) (by omega) kN (kI (fun v_47 m_47 sz h_47 => ?_)) rfl
        obtain ⟨rfl, hm_47⟩ := h_47
        obtain rfl := hm_47.symm
        refine V.if_eq (pc := 50) (tgt := 57) hB dX10_isOpened_50 (by decide) (fun c_50 => ?_) (fun c_50 => ?_)
        · have hv : opB (m.1 364) h (q + 1) = false := by show (opB (m.1 364) h q || (decide ((m.1 364) (142 + 2 * q) ≤ h) && decide (h ≤ (m.1 364) (143 + 2 * q)))) = false; rw [h0, b00 c_50]; rfl
          refine V.iconst (pc := 57) (v := 0) hB dX10_isOpened_57 rfl ?_
          refine V.istore_n (pc := 58) hB dX10_isOpened_58 (by decide) rfl ?_
          refine V.iinc (pc := 59) (v := nI (q + 1)) hB dX10_isOpened_59 rfl (nI_1 _) (by decide) rfl ?_
          refine V.goto (pc := 62) (tgt := 4) hB dX10_isOpened_62 (by decide) ?_
          have ih2 := ih hlt sz
          rw [hv] at ih2
          exact ih2
        · have hv : opB (m.1 364) h (q + 1) = true := by show (opB (m.1 364) h q || (decide ((m.1 364) (142 + 2 * q) ≤ h) && decide (h ≤ (m.1 364) (143 + 2 * q)))) = true; rw [b01 c_50]; exact Bool.or_true _
          refine V.iconst (pc := 53) (v := 1) hB dX10_isOpened_53 rfl ?_
          refine V.goto (pc := 54) (tgt := 58) hB dX10_isOpened_54 (by decide) ?_
          refine V.istore_n (pc := 58) hB dX10_isOpened_58 (by decide) rfl ?_
          refine V.iinc (pc := 59) (v := nI (q + 1)) hB dX10_isOpened_59 rfl (nI_1 _) (by decide) rfl ?_
          refine V.goto (pc := 62) (tgt := 4) hB dX10_isOpened_62 (by decide) ?_
          have ih2 := ih hlt sz
          rw [hv] at ih2
          exact ih2
  refine V.iconst (pc := 0) (v := 0) hB dX10_isOpened_0 rfl ?_
  refine V.istore_n (pc := 1) hB dX10_isOpened_1 (by decide) rfl ?_
  refine V.iconst (pc := 2) (v := 0) hB dX10_isOpened_2 rfl ?_
  refine V.istore_n (pc := 3) hB dX10_isOpened_3 (by decide) rfl ?_
  exact loop 0 (by omega) sz

/-- the history behind a remembering: n rows stand in it -/
def hiRow (Hr B : Nat → Int32) (n : Nat) : Nat → Int32 := if n = 8 then cpRow B (fun y => if y < 1526 then Hr (y + 218) else Hr y) 0 1526 else cpRow B Hr 0 (n * 218)
def reMM (n : Nat) (m : Mem) : Mem := up (setRow m 368 (hiRow (m.1 368) (m.1 365) n)) 363 6 (nI (min (n + 1) 8))
theorem shRow_part {f : Nat → Int32} {q : Nat} : upd (fun y => if y < q then f (y + 218) else f y) q (f (q + 218)) = fun y => if y < q + 1 then f (y + 218) else f y := by
  funext y
  unfold upd
  dsimp only
  by_cases h : y = q
  · subst h; rw [if_pos rfl, if_pos (by omega)]
  · rw [if_neg h]
    by_cases h2 : y < q
    · rw [if_pos h2, if_pos (by omega)]
    · rw [if_neg h2, if_neg (by omega)]

set_option maxRecDepth 100000 in
set_option maxHeartbeats 1000000 in
theorem c_X10_remembers {g : xG} (hG : GK g) {m : Mem} {n : Nat} (hn : m.1 363 6 = nI n) (hn8 : n ≤ 8) : CC g yX10_remembers (.code yX10_remembers cX10_remembers 2 none) 2 0 0 [.ref (ad g 363)] m (rV (fun m2 => m2 = reMM n m)) noX := by
  refine CC.mk hG RX10 rfl (by decide +kernel) rfl (Nat.le_of_ble_eq_true rfl) (fun sz B hB hX => ?_)
  show V g B 0 0 _ (hp g m) sz 0 [some (.ref (ad g 363)), none] []
  have tail : ∀ (sz : Nat) (x1 : Option Value) (M : Mem) (q : Nat), q < 8 → M.1 363 6 = nI q → (∀ M2, M2 = setRow M 368 (cpRow (M.1 365) (M.1 368) 0 (q * 218)) → up M2 363 6 (nI (q + 1)) = reMM n m) → V g B 0 0 (QM g B 0 0 (rV (fun m2 => m2 = reMM n m)) noX) (hp g (M)) sz 50 [some (.ref (ad g 363)), x1] [] := by
    intro sz x1 M q hq8 hq hmm
    refine V.aload_n (pc := 50) hB dX10_remembers_50 rfl ?_
    refine V.get (pc := 51) hB fk_Model 1 wf_X10_13 dX10_remembers_51 (by decide) (hp_at (ca_Model _)) rfl ?_
    refine V.iconst (pc := 54) (v := 0) hB dX10_remembers_54 rfl ?_
    refine V.aload_n (pc := 55) hB dX10_remembers_55 rfl ?_
    refine V.get (pc := 56) hB fk_Model 4 wf_X10_22 dX10_remembers_56 (by decide) (hp_at (ca_Model _)) rfl ?_
    refine V.aload_n (pc := 59) hB dX10_remembers_59 rfl ?_
    refine V.get (pc := 60) hB fk_Model 6 wf_X10_55 dX10_remembers_60 (by decide) (hp_at (ca_Model _)) rfl ?_
    rw [hq]
    refine V.sipush (pc := 63) (v := 218) hB dX10_remembers_63 rfl ?_
    refine V.imul (pc := 66) hB dX10_remembers_66 ?_
    rw [show nI q * 218 = nI (q * 218) from nI_mulN q 218]
    refine V.cs (pc := 67) hB cw_X10_copies wm_X10_51 wst_X10_copies dX10_remembers_67 (c_X10_copies hG (k0 := 365) (k1 := 368) (a := 0) (b := q * 218) (by decide) (by decide) ca_Before ca_Hrow (by decide) (by omega) (by decide) (xa := 0) rfl rfl) (by omega) (by decide) rfl (by exact Nat.le_of_ble_eq_true rfl) (by omega) (by omega) kN (kV (fun m_67 sz h_67 => ?_)) rfl
    subst h_67
    refine V.aload_n (pc := 70) hB dX10_remembers_70 rfl ?_
    refine V.dup (pc := 71) hB dX10_remembers_71 rfl ?_
    refine V.get (pc := 72) hB fk_Model 6 wf_X10_55 dX10_remembers_72 (by decide) (hp_at (ca_Model _)) rfl ?_
    rw [setRow_cell _ _ (by decide), hq]
    refine V.iconst (pc := 75) (v := 1) hB dX10_remembers_75 rfl ?_
    refine V.iadd (pc := 76) hB dX10_remembers_76 ?_
    rw [nI1]
    refine V.p_Model_f6 (pc := 77) hB wf_X10_55 dX10_remembers_77 ?_
    refine V.retV (pc := 80) hB dX10_remembers_80 rfl (by omega) (by omega) ?_
    exact hmm _ rfl
  have loop : ∀ q : Nat, q ≤ 1526 → n = 8 → ∀ (sz : Nat), V g B 0 0 (QM g B 0 0 (rV (fun m2 => m2 = reMM n m)) noX) (hp g (setRow m 368 (fun y => if y < q then m.1 368 (y + 218) else m.1 368 y))) sz 11 [some (.ref (ad g 363)), some (.int (nI q))] [] := by
    refine loop_up (fun q hq ih => ?_)
    intro h8 sz
    refine V.iload_n (pc := 11) hB dX10_remembers_11 rfl ?_
    refine V.sipush (pc := 12) (v := 1526) hB dX10_remembers_12 rfl ?_
    refine V.icmp_ge (pc := 15) (tgt := 40) hB dX10_remembers_15 (by decide) (fun c_15 => ?_) (fun c_15 => ?_)
    · have hq2 : q = 1526 := by have := (nI_leI (a := 1526) (by decide) (by omega)).mp c_15; omega
      subst hq2
      refine V.aload_n (pc := 40) hB dX10_remembers_40 rfl ?_
      refine V.dup (pc := 41) hB dX10_remembers_41 rfl ?_
      refine V.get (pc := 42) hB fk_Model 6 wf_X10_55 dX10_remembers_42 (by decide) (hp_at (ca_Model _)) rfl ?_
      rw [setRow_cell _ _ (by decide), hn, show nI n = nI 8 by rw [h8]]
      refine V.iconst (pc := 45) (v := 1) hB dX10_remembers_45 rfl ?_
      refine V.isub (pc := 46) hB dX10_remembers_46 ?_
      rw [show nI 8 - 1 = nI 7 by decide]
      refine V.p_Model_f6 (pc := 47) hB wf_X10_55 dX10_remembers_47 ?_
      refine tail sz _ _ 7 (by decide) (up_same _ _ _ _) (fun M2 e => ?_)
      rw [e]
      unfold reMM hiRow
      rw [if_pos h8, h8]
      refine Prod.ext ?_ rfl
      funext k f
      by_cases k3 : k = 363
      · subst k3
        by_cases f6 : f = 6
        · subst f6; rw [up_same, up_same]; rfl
        · rw [up_slot _ _ _ f6, up_slot _ _ _ f6, setRow_cell _ _ (by decide), setRow_cell _ _ (by decide), up_slot _ _ _ f6, setRow_cell _ _ (by decide)]
      · rw [up_cell _ _ _ k3, up_cell _ _ _ k3]
        by_cases k8 : k = 368
        · subst k8
          rw [setRow_same, setRow_same, up_cell _ _ _ (by decide), setRow_cell _ _ (by decide), up_cell _ _ _ (by decide), setRow_same]
        · rw [setRow_cell _ _ k8, setRow_cell _ _ k8, up_cell _ _ _ k3, setRow_cell _ _ k8]
    · have hlt : q < 1526 := Nat.not_le.mp (fun z => c_15 ((nI_leI (a := 1526) (by decide) (by omega)).mpr z))
      refine V.aload_n (pc := 18) hB dX10_remembers_18 rfl ?_
      refine V.get (pc := 19) hB fk_Model 4 wf_X10_22 dX10_remembers_19 (by decide) (hp_at (ca_Model _)) rfl ?_
      refine V.iload_n (pc := 22) hB dX10_remembers_22 rfl ?_
      refine V.aload_n (pc := 23) hB dX10_remembers_23 rfl ?_
      refine V.get (pc := 24) hB fk_Model 4 wf_X10_22 dX10_remembers_24 (by decide) (hp_at (ca_Model _)) rfl ?_
      refine V.iload_n (pc := 27) hB dX10_remembers_27 rfl ?_
      refine V.sipush (pc := 28) (v := 218) hB dX10_remembers_28 rfl ?_
      refine V.iadd (pc := 31) hB dX10_remembers_31 ?_
      rw [show nI q + 218 = nI (q + 218) from nI_add q 218]
      refine V.ialdM (pc := 32) hB (ca_Hrow) dX10_remembers_32 (ix_nI (by omega) (by decide)) ?_
      rw [setRow_same]
      rw [if_neg (show ¬ q + 218 < q by omega)]
      refine V.iastM (pc := 33) hB (ca_Hrow) dX10_remembers_33 (ix_nI (by omega) (by decide)) (by decide) ?_
      rw [up_eq, setRow_same, setRow_set, shRow_part]
      refine V.iinc (pc := 34) (v := nI (q + 1)) hB dX10_remembers_34 rfl (nI_1 _) (by decide) rfl ?_
      refine V.goto (pc := 37) (tgt := 11) hB dX10_remembers_37 (by decide) ?_
      exact ih hlt h8 sz
  refine V.aload_n (pc := 0) hB dX10_remembers_0 rfl ?_
  refine V.get (pc := 1) hB fk_Model 6 wf_X10_55 dX10_remembers_1 (by decide) (hp_at (ca_Model _)) rfl ?_
  refine V.bipush (pc := 4) (v := 8) hB dX10_remembers_4 rfl ?_
  rw [hn]
  refine V.icmp_ne (pc := 6) (tgt := 50) hB dX10_remembers_6 (by decide) (fun c_6 => ?_) (fun c_6 => ?_)
  · have hne : n ≠ 8 := fun z => c_6 (by rw [z]; rfl)
    have hrow : hiRow (m.1 368) (m.1 365) n = cpRow (m.1 365) (m.1 368) 0 (n * 218) := if_neg hne
    obtain ⟨q, hq, hq8⟩ : ∃ q, q = n ∧ q < 8 := ⟨n, rfl, by omega⟩
    have hq0 : m.1 363 6 = nI q := by rw [hq]; exact hn
    have hmm : ∀ M, M = setRow m 368 (cpRow (m.1 365) (m.1 368) 0 (q * 218)) → up M 363 6 (nI (q + 1)) = reMM n m := fun M e => by rw [e]; unfold reMM; rw [hrow, hq, show min (n + 1) 8 = n + 1 by omega]
    exact tail sz none m q hq8 hq0 hmm
  · have h8 : n = 8 := (nI_eq (b := 8) (by omega) (by decide)).mp c_6
    refine V.iconst (pc := 9) (v := 0) hB dX10_remembers_9 rfl ?_
    refine V.istore_n (pc := 10) hB dX10_remembers_10 (by decide) rfl ?_
    refine V.mem (m2 := setRow m 368 (fun y => if y < 0 then m.1 368 (y + 218) else m.1 368 y)) ?_ (loop 0 (by omega) h8 sz)
    rw [show (fun y => if y < 0 then m.1 368 (y + 218) else m.1 368 y) = m.1 368 from funext (fun y => if_neg (by omega)), setRow_id]

set_option maxRecDepth 100000 in
set_option maxHeartbeats 1000000 in
theorem c_X10_ends {g : xG} (hG : GK g) {m : Mem} {n : Nat} (hn : m.1 363 6 = nI n) (hn8 : n ≤ 8) {x : Int32} : CC g yX10_ends (.code yX10_ends cX10_ends 2 (some .int)) 3 0 0 [.ref (ad g 363), .int x] m (rI (fun v m2 => (m.1 363 15 = 0 ∧ v = x ∧ m2 = reMM n m) ∨ (¬ m.1 363 15 = 0 ∧ v = 0 ∧ m2 = setRow m 364 (cpRow (m.1 365) (m.1 364) 0 0)))) noX := by
  refine CC.mk hG RX10 rfl (by decide +kernel) rfl (Nat.le_of_ble_eq_true rfl) (fun sz B hB hX => ?_)
  show V g B 0 0 _ (hp g m) sz 0 [some (.ref (ad g 363)), some (.int x)] []
  refine V.aload_n (pc := 0) hB dX10_ends_0 rfl ?_
  refine V.get (pc := 1) hB fk_Model 15 wf_X10_44 dX10_ends_1 (by decide) (hp_at (ca_Model _)) rfl ?_
  refine V.if_eq (pc := 4) (tgt := 22) hB dX10_ends_4 (by decide) (fun c_4 => ?_) (fun c_4 => ?_)
  · refine V.aload_n (pc := 22) hB dX10_ends_22 rfl ?_
    refine V.cv (pc := 23) hB cw_X10_remembers wm_X10_58 wi_X10_remembers ws_X10_remembers dX10_ends_23 (c_X10_remembers hG hn hn8) (hp_at (ca_Model _)) fk_Model rfl (by omega) (by decide) rfl (by exact Nat.le_of_ble_eq_true rfl) (by omega) (by omega) kN (kV (fun m_23 sz h_23 => ?_)) rfl
    subst h_23
    refine V.iload_n (pc := 26) hB dX10_ends_26 rfl ?_
    refine V.retI (pc := 27) hB dX10_ends_27 rfl (rfl) (by omega) (by omega) ?_
    exact Or.inl ⟨c_4, rfl, rfl⟩
  · refine V.aload_n (pc := 7) hB dX10_ends_7 rfl ?_
    refine V.get (pc := 8) hB fk_Model 1 wf_X10_13 dX10_ends_8 (by decide) (hp_at (ca_Model _)) rfl ?_
    refine V.iconst (pc := 11) (v := 0) hB dX10_ends_11 rfl ?_
    refine V.aload_n (pc := 12) hB dX10_ends_12 rfl ?_
    refine V.get (pc := 13) hB fk_Model 0 wf_X10_9 dX10_ends_13 (by decide) (hp_at (ca_Model _)) rfl ?_
    refine V.iconst (pc := 16) (v := 0) hB dX10_ends_16 rfl ?_
    refine V.cs (pc := 17) hB cw_X10_copies wm_X10_51 wst_X10_copies dX10_ends_17 (c_X10_copies hG (k0 := 365) (k1 := 364) (a := 0) (b := 0) (by decide) (by decide) ca_Before ca_Now (by decide) (by decide) (by decide) (xa := 0) (xb := 0) rfl rfl) (by omega) (by decide) rfl (by exact Nat.le_of_ble_eq_true rfl) (by omega) (by omega) kN (kV (fun m_17 sz h_17 => ?_)) rfl
    subst h_17
    refine V.iconst (pc := 20) (v := 0) hB dX10_ends_20 rfl ?_
    refine V.retI (pc := 21) hB dX10_ends_21 rfl (rfl) (by omega) (by omega) ?_
    exact Or.inr ⟨c_4, rfl, rfl⟩
