/-! the reference: an hour, hours -/
theorem lkStep_zero {M : Mem} {i j : Nat} {rest : Bool} (h : nLy M i j = 0) : lkStep i j rest M = M ∧ lkN i j rest M = 0 := by
  have e2 : lk2 i j rest M = M := by
    unfold lk2 stM mvM
    rw [h]
    split
    · simp only [upto_zero, setRow_id]
    · simp only [upto_zero, setRow_id]
  have e3 : lk3 i j rest M = M := by
    unfold lk3 ckEnd
    rw [e2, h]
    exact up_id (Int32.add_zero _).symm
  refine ⟨?_, ?_⟩
  · unfold lkStep
    rw [e3, h]
    exact thaw_no (Or.inl rfl)
  · unfold lkN
    rw [h]
    rfl
theorem lk3_VB {M : Mem} {i j : Nat} {rest : Bool} (h : VB (M.1 (LK i j + 1)) (M.1 (LK i j + 2)) (nLy M i j)) (hA : -40 ≤ M.1 (LA i) 2 ∧ M.1 (LA i) 2 ≤ 20) : VB ((lk3 i j rest M).1 (LK i j + 1)) ((lk3 i j rest M).1 (LK i j + 2)) (nLy M i j) := by
  have hg := LK_ge i j
  have hv := lk2_VB (rest := rest) h hA
  unfold lk3
  rw [ckEnd_cell (by omega) (by omega), ckEnd_cell (by omega) (by omega)]
  exact hv

set_option maxRecDepth 100000 in
set_option maxHeartbeats 1000000 in
theorem c_X10_passes {g : xG} (hG : GK g) {m M : Mem} {i : Nat} (hR : RM (m.1 364) M i) (hV : VL M i) : CC g yX10_passes (.code yX10_passes cX10_passes 4 (some .int)) 8 0 0 [.ref (ad g 363)] m (rI (fun v m2 => v = nI (hourN i M) ∧ MFr m m2 ∧ RM (m2.1 364) (hourM i M) i)) noX := by
  have h5 := hR.2.1.nl5
  obtain ⟨h0L, hn0⟩ := hour0_LW hR.2.1
  refine CC.mk hG RX10 rfl (by decide +kernel) rfl (Nat.le_of_ble_eq_true rfl) (fun sz B hB hX => ?_)
  show V g B 0 0 _ (hp g m) sz 0 [some (.ref (ad g 363)), none, none, none] []
  have loop : ∀ q : Nat, q ≤ nLk M i → ∀ (sz : Nat) (mm : Mem), MFr m mm → RM (mm.1 364) (lksM i (restB i (hourM0 i M)) (hourM0 i M) q) i → V g B 0 0 (QM g B 0 0 (rI (fun v m2 => v = nI (hourN i M) ∧ MFr m m2 ∧ RM (m2.1 364) (hourM i M) i)) noX) (hp g (mm)) sz 25 [some (.ref (ad g 363)), some (.int (if (restB i (hourM0 i M)) = true then 1 else 0)), some (.int (nI (lksN i (restB i (hourM0 i M)) (hourM0 i M) q))), some (.int (nI q))] [] := by
    refine loop_up (fun q hq ih => ?_)
    intro sz mm hF hRq
    have hqn := (lks_LW (rest := (restB i (hourM0 i M))) h0L q (by omega)).2.trans hn0
    have hVq := lks_VL (rest := (restB i (hourM0 i M))) (hour0_VL hV) h0L q (by omega)
    refine V.iload_n (pc := 25) hB dX10_passes_25 rfl ?_
    refine V.aload_n (pc := 26) hB dX10_passes_26 rfl ?_
    refine V.get (pc := 27) hB fk_Model 0 wf_X10_9 dX10_passes_27 (by decide) (hp_at (ca_Model _)) rfl ?_
    refine V.iconst (pc := 30) (v := 2) hB dX10_passes_30 rfl ?_
    refine V.ialdM (pc := 31) hB (ca_Now) dX10_passes_31 (ix_nI (q := 2) (N := 218) (by decide) (by decide)) ?_
    rw [show mm.1 364 2 = nI (nLk M i) from hRq.1.1.1.trans (congrArg nI (hRq.2.2.1.trans hqn))]
    refine V.icmp_ge (pc := 32) (tgt := 77) hB dX10_passes_32 (by decide) (fun c_32 => ?_) (fun c_32 => ?_)
    · have hqN : q = nLk M i := by have := (nI_leI (by omega) (by omega)).mp c_32; omega
      refine V.iload_n (pc := 77) hB dX10_passes_77 rfl ?_
      refine V.retI (pc := 78) hB dX10_passes_78 rfl (rfl) (by omega) (by omega) ?_
      rw [hqN] at hRq ⊢
      exact ⟨rfl, hF, hRq⟩
    · have hlt : q < nLk M i := Nat.not_le.mp (fun z => c_32 ((nI_leI (by omega) (by omega)).mpr z))
      have hst : (lksM i (restB i (hourM0 i M)) (hourM0 i M) (q + 1)) = lkStep i q (restB i (hourM0 i M)) (lksM i (restB i (hourM0 i M)) (hourM0 i M) q) := rfl
      have hsn : (lksN i (restB i (hourM0 i M)) (hourM0 i M) (q + 1)) = (lksN i (restB i (hourM0 i M)) (hourM0 i M) q) + lkN i q (restB i (hourM0 i M)) (lksM i (restB i (hourM0 i M)) (hourM0 i M) q) := rfl
      obtain ⟨Mq, hMq⟩ : ∃ x, x = (lksM i (restB i (hourM0 i M)) (hourM0 i M) q) := ⟨_, rfl⟩
      rw [← hMq] at hRq hVq hqn hst hsn
      have hjq : q < nLk Mq i := by rw [hqn]; exact hlt
      have h8 := (hRq.2.1.ln hjq).2
      have hg := LK_ge i q
      have hvq := hVq.1 q hjq
      refine V.aload_n (pc := 35) hB dX10_passes_35 rfl ?_
      refine V.iload_n (pc := 36) hB dX10_passes_36 rfl ?_
      refine V.iconst (pc := 37) (v := 2) hB dX10_passes_37 rfl ?_
      refine V.cv (pc := 38) hB cw_X10_of wm_X10_77 wi_X10_of ws_X10_of dX10_passes_38 (c_X10_of hG hRq.1 (k := 2) (by decide) rfl) (hp_at (ca_Model _)) fk_Model rfl (by omega) (by decide) rfl (by exact Nat.le_of_ble_eq_true rfl) (by omega) (by omega) kN (kI (fun v_38 m_38 sz h_38 => ?_)) rfl
      obtain ⟨rfl, hm_38⟩ := h_38
      obtain rfl := hm_38.symm
      rw [hRq.many hjq]
      refine V.if_le (pc := 41) (tgt := 71) hB dX10_passes_41 (by decide) (fun c_41 => ?_) (fun c_41 => ?_)
      · have hz : nLy Mq i q = 0 := by have := (nI_leI (b := 0) (by omega) (by decide)).mp c_41; omega
        have nxt := ih hlt sz mm hF (by rw [hst, (lkStep_zero hz).1]; exact hRq)
        rw [hsn, (lkStep_zero hz).2, Nat.add_zero] at nxt
        refine V.iinc (pc := 71) (v := nI (q + 1)) hB dX10_passes_71 rfl (nI_1 _) (by decide) rfl ?_
        refine V.goto (pc := 74) (tgt := 25) hB dX10_passes_74 (by decide) ?_
        exact nxt
      · have h0 : 0 < nLy Mq i q := Nat.pos_of_ne_zero (fun z => c_41 (by rw [z]; decide))
        refine V.aload_n (pc := 44) hB dX10_passes_44 rfl ?_
        refine V.iload_n (pc := 45) hB dX10_passes_45 rfl ?_
        refine V.cv (pc := 46) hB cw_X10_warms wm_X10_141 wi_X10_warms ws_X10_warms dX10_passes_46 (c_X10_warms hG hRq hjq) (hp_at (ca_Model _)) fk_Model rfl (by omega) (by decide) rfl (by exact Nat.le_of_ble_eq_true rfl) (by omega) (by omega) kN (kV (fun m_46 sz h_46 => ?_)) rfl
        obtain ⟨hF1, hR1⟩ := h_46
        have hn1 : nLk (mvM i q (nLy Mq i q) (Mq.1 (LA i) 2) Mq) i = nLk Mq i := nLk_row (c := 2)
        have hN1 : nLy (mvM i q (nLy Mq i q) (Mq.1 (LA i) 2) Mq) i q = nLy Mq i q := nLy_row (c := 2) (by omega) (by omega)
        refine V.iload_n (pc := 49) hB dX10_passes_49 rfl ?_
        refine V.if_ne (pc := 50) (tgt := 58) hB dX10_passes_50 (by decide) (fun c_50 => ?_) (fun c_50 => ?_)
        · have hb : (restB i (hourM0 i M)) = true := by
            rcases Bool.eq_false_or_eq_true (restB i (hourM0 i M)) with e | e
            · exact e
            · exact absurd (by rw [e]; rfl) c_50
          have hF2 : MFr m m_46 := hF.trans hF1
          have hR2 : RM (m_46.1 364) (lk2 i q (restB i (hourM0 i M)) Mq) i := by
            unfold lk2
            rw [if_pos hb]
            exact hR1
          have h2c : (lk2 i q (restB i (hourM0 i M)) Mq).1 (LA i) = Mq.1 (LA i) := lk2_cell (by omega)
          have hn2 : nLk (lk2 i q (restB i (hourM0 i M)) Mq) i = nLk Mq i := by unfold nLk; rw [h2c]
          have hN2 : nLy (lk2 i q (restB i (hourM0 i M)) Mq) i q = nLy Mq i q := by unfold nLy; rw [lk2_cell (by omega)]
          have hv2 := lk2_VB (rest := (restB i (hourM0 i M))) hvq hVq.2
          refine V.iload_n (pc := 58) hB dX10_passes_58 rfl ?_
          refine V.aload_n (pc := 59) hB dX10_passes_59 rfl ?_
          refine V.iload_n (pc := 60) hB dX10_passes_60 rfl ?_
          refine V.cv (pc := 61) hB cw_X10_cracks wm_X10_148 wi_X10_cracks ws_X10_cracks dX10_passes_61 (c_X10_cracks hG hR2 (by rw [hn2]; exact hjq) (fun y hy => by rw [hN2] at hy; exact (hv2 y hy).1.1)) (hp_at (ca_Model _)) fk_Model rfl (by omega) (by decide) rfl (by exact Nat.le_of_ble_eq_true rfl) (by omega) (by omega) kN (kI (fun v_61 m_61 sz h_61 => ?_)) rfl
          obtain ⟨rfl, hF3, hR3b⟩ := h_61
          have hv3 : ckN (nI q) ((lk2 i q (restB i (hourM0 i M)) Mq).1 (LA i) 3) i q (nLy (lk2 i q (restB i (hourM0 i M)) Mq) i q) (lk2 i q (restB i (hourM0 i M)) Mq) (nLy (lk2 i q (restB i (hourM0 i M)) Mq) i q) = lkN i q (restB i (hourM0 i M)) Mq := by unfold lkN; rw [hN2, h2c]
          rw [hv3]
          have hR3 : RM (m_61.1 364) (lk3 i q (restB i (hourM0 i M)) Mq) i := by
            unfold lk3
            rw [hN2, h2c] at hR3b
            exact hR3b
          have h3c : (lk3 i q (restB i (hourM0 i M)) Mq).1 (LA i) = Mq.1 (LA i) := lk3_cell (by omega) (by omega)
          have hn3 : nLk (lk3 i q (restB i (hourM0 i M)) Mq) i = nLk Mq i := by unfold nLk; rw [h3c]
          have hN3 : nLy (lk3 i q (restB i (hourM0 i M)) Mq) i q = nLy Mq i q := by unfold nLy; rw [lk3_slot (by decide)]
          have hw3 := lk3_VB (rest := (restB i (hourM0 i M))) hvq hVq.2
          refine V.iadd (pc := 64) hB dX10_passes_64 ?_
          rw [nI_add, ← hsn]
          refine V.istore_n (pc := 65) hB dX10_passes_65 (by decide) rfl ?_
          refine V.aload_n (pc := 66) hB dX10_passes_66 rfl ?_
          refine V.iload_n (pc := 67) hB dX10_passes_67 rfl ?_
          refine V.cv (pc := 68) hB cw_X10_thaws wm_X10_151 wi_X10_thaws ws_X10_thaws dX10_passes_68 (c_X10_thaws hG hR3 (by rw [hn3]; exact hjq) (by rw [hN3]; exact h0) (fun y hy => by rw [hN3] at hy; exact (hw3 y hy).1.1)) (hp_at (ca_Model _)) fk_Model rfl (by omega) (by decide) rfl (by exact Nat.le_of_ble_eq_true rfl) (by omega) (by omega) kN (kV (fun m_68 sz h_68 => ?_)) rfl
          obtain ⟨hF4, hR4⟩ := h_68
          have nxt := ih hlt sz _ ((hF2.trans hF3).trans hF4) (by
            rw [hst]
            unfold lkStep
            rw [hN3, h3c] at hR4
            exact hR4)
          refine V.iinc (pc := 71) (v := nI (q + 1)) hB dX10_passes_71 rfl (nI_1 _) (by decide) rfl ?_
          refine V.goto (pc := 74) (tgt := 25) hB dX10_passes_74 (by decide) ?_
          exact nxt
        · have hb : ¬ (restB i (hourM0 i M)) = true := fun e => absurd (c_50.symm.trans (if_pos e)) (by decide)
          refine V.aload_n (pc := 53) hB dX10_passes_53 rfl ?_
          refine V.iload_n (pc := 54) hB dX10_passes_54 rfl ?_
          refine V.cv (pc := 55) hB cw_X10_strains wm_X10_145 wi_X10_strains ws_X10_strains dX10_passes_55 (c_X10_strains hG hR1 (by rw [hn1]; exact hjq)) (hp_at (ca_Model _)) fk_Model rfl (by omega) (by decide) rfl (by exact Nat.le_of_ble_eq_true rfl) (by omega) (by omega) kN (kV (fun m_55 sz h_55 => ?_)) rfl
          obtain ⟨hF2b, hR2b⟩ := h_55
          have hF2 : MFr m m_55 := (hF.trans hF1).trans hF2b
          have hR2 : RM (m_55.1 364) (lk2 i q (restB i (hourM0 i M)) Mq) i := by
            unfold lk2
            rw [if_neg hb]
            rw [hN1] at hR2b
            exact hR2b
          have h2c : (lk2 i q (restB i (hourM0 i M)) Mq).1 (LA i) = Mq.1 (LA i) := lk2_cell (by omega)
          have hn2 : nLk (lk2 i q (restB i (hourM0 i M)) Mq) i = nLk Mq i := by unfold nLk; rw [h2c]
          have hN2 : nLy (lk2 i q (restB i (hourM0 i M)) Mq) i q = nLy Mq i q := by unfold nLy; rw [lk2_cell (by omega)]
          have hv2 := lk2_VB (rest := (restB i (hourM0 i M))) hvq hVq.2
          refine V.iload_n (pc := 58) hB dX10_passes_58 rfl ?_
          refine V.aload_n (pc := 59) hB dX10_passes_59 rfl ?_
          refine V.iload_n (pc := 60) hB dX10_passes_60 rfl ?_
          refine V.cv (pc := 61) hB cw_X10_cracks wm_X10_148 wi_X10_cracks ws_X10_cracks dX10_passes_61 (c_X10_cracks hG hR2 (by rw [hn2]; exact hjq) (fun y hy => by rw [hN2] at hy; exact (hv2 y hy).1.1)) (hp_at (ca_Model _)) fk_Model rfl (by omega) (by decide) rfl (by exact Nat.le_of_ble_eq_true rfl) (by omega) (by omega) kN (kI (fun v_61 m_61 sz h_61 => ?_)) rfl
          obtain ⟨rfl, hF3, hR3b⟩ := h_61
          have hv3 : ckN (nI q) ((lk2 i q (restB i (hourM0 i M)) Mq).1 (LA i) 3) i q (nLy (lk2 i q (restB i (hourM0 i M)) Mq) i q) (lk2 i q (restB i (hourM0 i M)) Mq) (nLy (lk2 i q (restB i (hourM0 i M)) Mq) i q) = lkN i q (restB i (hourM0 i M)) Mq := by unfold lkN; rw [hN2, h2c]
          rw [hv3]
          have hR3 : RM (m_61.1 364) (lk3 i q (restB i (hourM0 i M)) Mq) i := by
            unfold lk3
            rw [hN2, h2c] at hR3b
            exact hR3b
          have h3c : (lk3 i q (restB i (hourM0 i M)) Mq).1 (LA i) = Mq.1 (LA i) := lk3_cell (by omega) (by omega)
          have hn3 : nLk (lk3 i q (restB i (hourM0 i M)) Mq) i = nLk Mq i := by unfold nLk; rw [h3c]
          have hN3 : nLy (lk3 i q (restB i (hourM0 i M)) Mq) i q = nLy Mq i q := by unfold nLy; rw [lk3_slot (by decide)]
          have hw3 := lk3_VB (rest := (restB i (hourM0 i M))) hvq hVq.2
          refine V.iadd (pc := 64) hB dX10_passes_64 ?_
          rw [nI_add, ← hsn]
          refine V.istore_n (pc := 65) hB dX10_passes_65 (by decide) rfl ?_
          refine V.aload_n (pc := 66) hB dX10_passes_66 rfl ?_
          refine V.iload_n (pc := 67) hB dX10_passes_67 rfl ?_
          refine V.cv (pc := 68) hB cw_X10_thaws wm_X10_151 wi_X10_thaws ws_X10_thaws dX10_passes_68 (c_X10_thaws hG hR3 (by rw [hn3]; exact hjq) (by rw [hN3]; exact h0) (fun y hy => by rw [hN3] at hy; exact (hw3 y hy).1.1)) (hp_at (ca_Model _)) fk_Model rfl (by omega) (by decide) rfl (by exact Nat.le_of_ble_eq_true rfl) (by omega) (by omega) kN (kV (fun m_68 sz h_68 => ?_)) rfl
          obtain ⟨hF4, hR4⟩ := h_68
          have nxt := ih hlt sz _ ((hF2.trans hF3).trans hF4) (by
            rw [hst]
            unfold lkStep
            rw [hN3, h3c] at hR4
            exact hR4)
          refine V.iinc (pc := 71) (v := nI (q + 1)) hB dX10_passes_71 rfl (nI_1 _) (by decide) rfl ?_
          refine V.goto (pc := 74) (tgt := 25) hB dX10_passes_74 (by decide) ?_
          exact nxt
  refine V.aload_n (pc := 0) hB dX10_passes_0 rfl ?_
  refine V.get (pc := 1) hB fk_Model 0 wf_X10_9 dX10_passes_1 (by decide) (hp_at (ca_Model _)) rfl ?_
  refine V.iconst (pc := 4) (v := 0) hB dX10_passes_4 rfl ?_
  refine V.dup2 (pc := 5) hB dX10_passes_5 rfl rfl ?_
  refine V.ialdM (pc := 6) hB (ca_Now) dX10_passes_6 (ix_nI (q := 0) (N := 218) (by decide) (by decide)) ?_
  refine V.iconst (pc := 7) (v := 1) hB dX10_passes_7 rfl ?_
  refine V.iadd (pc := 8) hB dX10_passes_8 ?_
  refine V.iastM (pc := 9) hB (ca_Now) dX10_passes_9 (ix_nI (q := 0) (N := 218) (by decide) (by decide)) (by decide) ?_
  have hR0 : RM ((up m 364 0 (m.1 364 0 + 1)).1 364) (hourM0 i M) i := by
    rw [up_row]
    unfold hourM0
    rw [← hR.2.2.2.1.1]
    exact hR.fld (a := 0) (f := 3) (by omega)
  have hF0 : MFr m (up m 364 0 (m.1 364 0 + 1)) := MFr.up _ _ _
  obtain ⟨mm0, hmm0⟩ : ∃ x, x = up m 364 0 (m.1 364 0 + 1) := ⟨_, rfl⟩
  rw [← hmm0] at hR0 hF0 ⊢
  refine V.aload_n (pc := 10) hB dX10_passes_10 rfl ?_
  refine V.aload_n (pc := 11) hB dX10_passes_11 rfl ?_
  refine V.get (pc := 12) hB fk_Model 0 wf_X10_9 dX10_passes_12 (by decide) (hp_at (ca_Model _)) rfl ?_
  refine V.iconst (pc := 15) (v := 0) hB dX10_passes_15 rfl ?_
  refine V.ialdM (pc := 16) hB (ca_Now) dX10_passes_16 (ix_nI (q := 0) (N := 218) (by decide) (by decide)) ?_
  refine V.cv (pc := 17) hB cw_X10_isOpened wm_X10_138 wi_X10_isOpened ws_X10_isOpened dX10_passes_17 (c_X10_isOpened hG hR0.1) (hp_at (ca_Model _)) fk_Model rfl (by omega) (by decide) rfl (by exact Nat.le_of_ble_eq_true rfl) (by omega) (by omega) kN (kI (fun v_17 m_17 sz h_17 => ?_)) rfl
  obtain ⟨rfl, hm_17⟩ := h_17
  obtain rfl := hm_17.symm
  have hob : opB (mm0.1 364) (mm0.1 364 0) (mN (mm0.1 364)) = (restB i (hourM0 i M)) := by
    rw [hR0.op, hR0.2.2.2.1.1]
    rfl
  rw [hob]
  refine V.istore_n (pc := 20) hB dX10_passes_20 (by decide) rfl ?_
  refine V.iconst (pc := 21) (v := 0) hB dX10_passes_21 rfl ?_
  refine V.istore_n (pc := 22) hB dX10_passes_22 (by decide) rfl ?_
  refine V.iconst (pc := 23) (v := 0) hB dX10_passes_23 rfl ?_
  refine V.istore_n (pc := 24) hB dX10_passes_24 (by decide) rfl ?_
  exact loop 0 (by omega) sz mm0 hF0 hR0

theorem in48 {x : Int32} (h : (decide (1 ≤ x) && decide (x ≤ 48)) = true) : ∃ n, n ≤ 48 ∧ x = nI n ∧ x.toNatClampNeg = n ∧ passF x = 45 := by
  rw [Bool.and_eq_true] at h
  have h1 := of_decide_eq_true h.1
  have h2 := of_decide_eq_true h.2
  obtain ⟨n, hn, e⟩ := nI_of (x := x) (Int32.not_lt.mpr (Int32.le_trans (show (0 : Int32) ≤ 1 by decide) h1))
  have hn48 : n ≤ 48 := by
    subst e
    exact (nI_leI (b := 48) (by omega) (by decide)).mp h2
  refine ⟨n, hn48, e, by rw [e, nI_clamp (by omega)], ?_⟩
  unfold passF
  rw [if_neg]
  rintro (z | z)
  · exact absurd h1 (Int32.not_le.mpr z)
  · exact absurd h2 (Int32.not_le.mpr z)
theorem out48 {x : Int32} (h : ¬ (decide (1 ≤ x) && decide (x ≤ 48)) = true) : passF x = 97 := by
  unfold passF
  rw [if_pos]
  rw [Bool.and_eq_true, decide_eq_true_eq, decide_eq_true_eq] at h
  by_cases h1 : 1 ≤ x
  · exact Or.inr (Int32.not_le.mp (fun z => h ⟨h1, z⟩))
  · exact Or.inl (Int32.not_le.mp h1)
theorem hoursN_le {i : Nat} {m : Mem} (hL : LW m i) : ∀ q, hoursN i m q ≤ 40 * q
  | 0 => Nat.le_refl 0
  | q + 1 => by
    have h1 := hoursN_le hL q
    have h2 := hourN_le (hours_LW hL q).1
    show hoursN i m q + hourN i (hoursM i m q) ≤ _
    omega

set_option maxRecDepth 100000 in
set_option maxHeartbeats 1000000 in
theorem c_X10_waits {g : xG} (hG : GK g) {m M : Mem} {i : Nat} (hR : RM (m.1 364) M i) (hV : VL M i) {x : Int32} : CC g yX10_waits (.code yX10_waits cX10_waits 4 (some .int)) 9 0 0 [.ref (ad g 363), .int x] m (rI (fun v m2 => (passF x = 97 ∧ v = 0 ∧ m2 = up m 363 15 1) ∨ (passF x = 45 ∧ v = nI (hoursN i M x.toNatClampNeg) ∧ MFr (up m 363 15 0) m2 ∧ RM (m2.1 364) (hoursM i M x.toNatClampNeg) i))) noX := by
  refine CC.mk hG RX10 rfl (by decide +kernel) rfl (Nat.le_of_ble_eq_true rfl) (fun sz B hB hX => ?_)
  show V g B 0 0 _ (hp g m) sz 0 [some (.ref (ad g 363)), some (.int x), none, none] []
  have loop : ∀ n : Nat, n ≤ 48 → x = nI n → x.toNatClampNeg = n → passF x = 45 → RM ((up m 363 15 0).1 364) M i → ∀ q : Nat, q ≤ n → ∀ (sz : Nat) (mm : Mem), MFr (up m 363 15 0) mm → RM (mm.1 364) (hoursM i M q) i → V g B 0 0 (QM g B 0 0 (rI (fun v m2 => (passF x = 97 ∧ v = 0 ∧ m2 = up m 363 15 1) ∨ (passF x = 45 ∧ v = nI (hoursN i M x.toNatClampNeg) ∧ MFr (up m 363 15 0) m2 ∧ RM (m2.1 364) (hoursM i M x.toNatClampNeg) i))) noX) (hp g (mm)) sz 20 [some (.ref (ad g 363)), some (.int x), some (.int (nI (hoursN i M q))), some (.int (nI q))] [] := by
    intro n hn hxe hxn hp h0R
    refine loop_up (fun q hq ih => ?_)
    intro sz mm hF hRq
    refine V.iload_n (pc := 20) hB dX10_waits_20 rfl ?_
    refine V.iload_n (pc := 21) hB dX10_waits_21 rfl ?_
    refine V.icmp_ge (pc := 22) (tgt := 38) hB dX10_waits_22 (by decide) (fun c_22 => ?_) (fun c_22 => ?_)
    · rw [hxe] at c_22
      have hqn : q = n := by have := (nI_leI (by omega) (by omega)).mp c_22; omega
      refine V.iload_n (pc := 38) hB dX10_waits_38 rfl ?_
      refine V.retI (pc := 39) hB dX10_waits_39 rfl (rfl) (by omega) (by omega) ?_
      rw [hqn] at hRq ⊢
      exact Or.inr ⟨hp, by rw [hxn], hF, by rw [hxn]; exact hRq⟩
    · rw [hxe] at c_22
      have hlt : q < n := Nat.not_le.mp (fun z => c_22 ((nI_leI (by omega) (by omega)).mpr z))
      refine V.iload_n (pc := 25) hB dX10_waits_25 rfl ?_
      refine V.aload_n (pc := 26) hB dX10_waits_26 rfl ?_
      refine V.cv (pc := 27) hB cw_X10_passes wm_X10_154 wi_X10_passes ws_X10_passes dX10_waits_27 (c_X10_passes hG hRq (hours_VL hV hR.2.1 q)) (hp_at (ca_Model _)) fk_Model rfl (by omega) (by decide) rfl (by exact Nat.le_of_ble_eq_true rfl) (by omega) (by omega) kN (kI (fun v_27 m_27 sz h_27 => ?_)) rfl
      obtain ⟨rfl, hF2, hR2⟩ := h_27
      have nxt := ih hlt sz m_27 (hF.trans hF2) hR2
      refine V.iadd (pc := 30) hB dX10_waits_30 ?_
      rw [nI_add]
      refine V.istore_n (pc := 31) hB dX10_waits_31 (by decide) rfl ?_
      refine V.iinc (pc := 32) (v := nI (q + 1)) hB dX10_waits_32 rfl (nI_1 _) (by decide) rfl ?_
      refine V.goto (pc := 35) (tgt := 20) hB dX10_waits_35 (by decide) ?_
      exact nxt
  refine V.aload_n (pc := 0) hB dX10_waits_0 rfl ?_
  refine V.iload_n (pc := 1) hB dX10_waits_1 rfl ?_
  refine V.iconst (pc := 2) (v := 1) hB dX10_waits_2 rfl ?_
  refine V.bipush (pc := 3) (v := 48) hB dX10_waits_3 rfl ?_
  refine V.cs (pc := 5) hB cw_X10_isIn wm_X10_69 wst_X10_isIn dX10_waits_5 (c_X10_isIn hG) (by omega) (by decide) rfl (by exact Nat.le_of_ble_eq_true rfl) (by omega) (by omega) kN (kI (fun v_5 m_5 sz h_5 => ?_)) rfl
  obtain ⟨rfl, hm_5⟩ := h_5
  obtain rfl := hm_5.symm
  refine V.cv (pc := 8) hB cw_X10_goes wm_X10_61 wi_X10_goes ws_X10_goes dX10_waits_8 (c_X10_goes hG) (hp_at (ca_Model _)) fk_Model rfl (by omega) (by decide) rfl (by exact Nat.le_of_ble_eq_true rfl) (by omega) (by omega) kN (kI (fun v_8 m_8 sz h_8 => ?_)) rfl
  obtain ⟨rfl, hm_8⟩ := h_8
  subst hm_8
  refine V.if_ne (pc := 11) (tgt := 16) hB dX10_waits_11 (by decide) (fun c_11 => ?_) (fun c_11 => ?_)
  · have hin : (decide (1 ≤ x) && decide (x ≤ 48)) = true := by
      by_cases e : (decide (1 ≤ x) && decide (x ≤ 48)) = true
      · exact e
      · exact absurd (by rw [if_neg e]; rfl) c_11
    rw [if_pos hin]
    obtain ⟨n, hn, hxe, hxn, hp⟩ := in48 hin
    have h0R : RM ((up m 363 15 0).1 364) M i := by rw [up_cell _ _ _ (by decide)]; exact hR
    rw [show thrV 1 1 1 1 = 0 from rfl]
    refine V.iconst (pc := 16) (v := 0) hB dX10_waits_16 rfl ?_
    refine V.istore_n (pc := 17) hB dX10_waits_17 (by decide) rfl ?_
    refine V.iconst (pc := 18) (v := 0) hB dX10_waits_18 rfl ?_
    refine V.istore_n (pc := 19) hB dX10_waits_19 (by decide) rfl ?_
    exact (loop n hn hxe hxn hp h0R) 0 (by omega) sz (up m 363 15 0) (MFr.refl _) h0R
  · have hno : ¬ (decide (1 ≤ x) && decide (x ≤ 48)) = true := fun e => absurd (show (if thrV (if (decide (1 ≤ x) && decide (x ≤ 48)) = true then 1 else 0) 1 1 1 = 0 then (1 : Int32) else 0) = 1 by rw [if_pos e]; rfl) (by rw [c_11]; decide)
    have hp := out48 hno
    refine V.iconst (pc := 14) (v := 0) hB dX10_waits_14 rfl ?_
    refine V.retI (pc := 15) hB dX10_waits_15 rfl (rfl) (by omega) (by omega) ?_
    exact Or.inl ⟨hp, rfl, by rw [if_neg hno]; rfl⟩
