/-! the reference's degrees -/
theorem rdP_60 {T : Nat → Int32} {N p : Nat} {lo hi w : Int32} (hN : N ≤ 60) (hp : p ≤ 60) : rdP T N p lo hi w ≤ 60 := by
  unfold rdP
  split
  · rename_i h
    have h2 := h.2
    unfold rdB at h2
    rw [Bool.and_eq_true] at h2
    have := of_decide_eq_true h2.1
    omega
  · exact hp
abbrev dgB (T : Nat → Int32) (N p : Nat) : Prop := (if p < N then T p else -1) = 45
def dgV (T : Nat → Int32) (N p : Nat) (w : Int32) : Int32 := if dgB T N p then -(nbV T N (rdP T N p 45 45 w) (rdW T N p 45 45 w)) else nbV T N p w
def dgP (T : Nat → Int32) (N p : Nat) (w : Int32) : Nat := if dgB T N p then nbP T N (rdP T N p 45 45 w) (rdW T N p 45 45 w) else nbP T N p w
def dgW (T : Nat → Int32) (N p : Nat) (w : Int32) : Int32 := if dgB T N p then nbW T N (rdP T N p 45 45 w) (rdW T N p 45 45 w) else nbW T N p w

set_option maxRecDepth 100000 in
set_option maxHeartbeats 1000000 in
theorem c_X10_degrees {g : xG} (hG : GK g) {m : Mem} {N p : Nat} {w : Int32} (h16 : m.1 363 16 = nI N) (hN : N ≤ 60) (hp60 : p ≤ 60) : CC g yX10_degrees (.code yX10_degrees cX10_degrees 2 (some .int)) 6 0 0 [.ref (ad g 363)] (rdM m p w) (rI (fun v m2 => v = dgV (m.1 370) N p w ∧ m2 = rdM m (dgP (m.1 370) N p w) (dgW (m.1 370) N p w))) noX := by
  refine CC.mk hG RX10 rfl (by decide +kernel) rfl (Nat.le_of_ble_eq_true rfl) (fun sz B hB hX => ?_)
  show V g B 0 0 _ (hp g (rdM m p w)) sz 0 [some (.ref (ad g 363)), none] []
  refine V.aload_n (pc := 0) hB dX10_degrees_0 rfl ?_
  refine V.cv (pc := 1) hB cw_X10_letterHere wm_X10_200 wi_X10_letterHere ws_X10_letterHere dX10_degrees_1 (c_X10_letterHere hG (rdM_RS h16 hN hp60)) (hp_at (ca_Model _)) fk_Model rfl (by omega) (by decide) rfl (by exact Nat.le_of_ble_eq_true rfl) (by omega) (by omega) kN (kI (fun v_1 m_1 sz h_1 => ?_)) rfl
  obtain ⟨rfl, hm_1⟩ := h_1
  obtain rfl := hm_1.symm
  rw [rdM_k m p w (show 370 ≠ 363 by decide)]
  refine V.bipush (pc := 4) (v := 45) hB dX10_degrees_4 rfl ?_
  refine V.icmp_eq (pc := 6) (tgt := 14) hB dX10_degrees_6 (by decide) (fun c_6 => ?_) (fun c_6 => ?_)
  · have hb : dgB (m.1 370) N p := c_6
    refine V.aload_n (pc := 14) hB dX10_degrees_14 rfl ?_
    refine V.bipush (pc := 15) (v := 45) hB dX10_degrees_15 rfl ?_
    refine V.bipush (pc := 17) (v := 45) hB dX10_degrees_17 rfl ?_
    refine V.cv (pc := 19) hB cw_X10_reads wm_X10_203 wi_X10_reads ws_X10_reads dX10_degrees_19 (c_X10_reads hG (rdM_RS h16 hN hp60) (by decide)) (hp_at (ca_Model _)) fk_Model rfl (by omega) (by decide) rfl (by exact Nat.le_of_ble_eq_true rfl) (by omega) (by omega) kN (kI (fun v_19 m_19 sz h_19 => ?_)) rfl
    obtain ⟨rfl, hm_19⟩ := rd_post h_19
    subst hm_19
    refine V.istore_n (pc := 22) hB dX10_degrees_22 (by decide) rfl ?_
    refine V.aload_n (pc := 23) hB dX10_degrees_23 rfl ?_
    refine V.cv (pc := 24) hB cw_X10_number wm_X10_209 wi_X10_number ws_X10_number dX10_degrees_24 (c_X10_number hG h16 hN (rdP_60 hN hp60)) (hp_at (ca_Model _)) fk_Model rfl (by omega) (by decide) rfl (by exact Nat.le_of_ble_eq_true rfl) (by omega) (by omega) kN (kI (fun v_24 m_24 sz h_24 => ?_)) rfl
    refine V.ineg (pc := 27) hB dX10_degrees_27 ?_
    refine V.retI (pc := 28) hB dX10_degrees_28 rfl (rfl) (by omega) (by omega) ?_
    unfold dgV dgP dgW
    rw [if_pos hb, if_pos hb, if_pos hb, ← h_24.1]
    exact ⟨rfl, h_24.2⟩
  · have hb : ¬ dgB (m.1 370) N p := c_6
    refine V.aload_n (pc := 9) hB dX10_degrees_9 rfl ?_
    refine V.cv (pc := 10) hB cw_X10_number wm_X10_209 wi_X10_number ws_X10_number dX10_degrees_10 (c_X10_number hG h16 hN hp60) (hp_at (ca_Model _)) fk_Model rfl (by omega) (by decide) rfl (by exact Nat.le_of_ble_eq_true rfl) (by omega) (by omega) kN (kI (fun v_10 m_10 sz h_10 => ?_)) rfl
    refine V.retI (pc := 13) hB dX10_degrees_13 rfl (rfl) (by omega) (by omega) ?_
    unfold dgV dgP dgW
    rw [if_neg hb, if_neg hb, if_neg hb]
    exact h_10
