/-! the reference: cracks, thaw, an hour -/
theorem mx0 (q : Nat) (hq : q ≤ 1000) : (if (0 : Int32) < nI q - 1 then nI q - 1 else 0) = nI (q - 1) := by
  cases q with
  | zero => decide
  | succ q =>
    rw [nI_pred, Nat.add_sub_cancel]
    by_cases h : 0 < q
    · rw [if_pos (show (0 : Int32) < nI q from nI_lt (a := 0) h (by omega))]
    · rw [show q = 0 by omega]; rfl
theorem ck_pitch {M : Mem} {i j q : Nat} (hK : 1 ≤ M.1 (LK i j + 1) q) (hT : ¬ M.1 (LK i j + 2) q = 0) : 100 / M.1 (LK i j + 1) q - M.1 (LK i j + 2) q = ckPitch M i j q := by
  unfold ckPitch
  rw [if_neg hT]
  unfold pitchV
  by_cases h : 1 < M.1 (LK i j + 1) q
  · rw [if_pos h]
  · rw [if_neg h, show M.1 (LK i j + 1) q = 1 from Int32.le_antisymm (Int32.not_lt.mp h) hK]
theorem ckM_facts {num hr : Int32} {i j N : Nat} {M : Mem} (q : Nat) : (ckM num hr i j N M q).1 (LK i j + 1) = M.1 (LK i j + 1) ∧ (ckM num hr i j N M q).1 (LK i j + 2) = M.1 (LK i j + 2) ∧ (ckM num hr i j N M q).1 (LA i) = M.1 (LA i) ∧ (ckM num hr i j N M q).1 (LK i j) = M.1 (LK i j) := by
  have hg := LK_ge i j
  exact ⟨ckM_cell (by omega) (by omega) q, ckM_cell (by omega) (by omega) q, ckM_cell (by omega) (by omega) q, ckM_cell (by omega) (by omega) q⟩

set_option maxRecDepth 100000 in
set_option maxHeartbeats 1000000 in
theorem c_X10_cracks {g : xG} (hG : GK g) {m M : Mem} {i j : Nat} (hR : RM (m.1 364) M i) (hj : j < nLk M i) (hK : ∀ y, y < nLy M i j → 1 ≤ M.1 (LK i j + 1) y) : CC g yX10_cracks (.code yX10_cracks cX10_cracks 6 (some .int)) 7 0 0 [.ref (ad g 363), .int (nI j)] m (rI (fun v m2 => v = nI (ckN (nI j) (M.1 (LA i) 3) i j (nLy M i j) M (nLy M i j)) ∧ MFr m m2 ∧ RM (m2.1 364) (ckEnd (nI j) (M.1 (LA i) 3) i j (nLy M i j) M) i)) noX := by
  have hM := hR.1
  have h5 := hR.2.1.nl5
  have h8 := (hR.2.1.ln hj).2
  have hg := LK_ge i j
  refine CC.mk hG RX10 rfl (by decide +kernel) rfl (Nat.le_of_ble_eq_true rfl) (fun sz B hB hX => ?_)
  show V g B 0 0 _ (hp g m) sz 0 [some (.ref (ad g 363)), some (.int (nI j)), none, none, none, none] []
  have loop : ∀ q : Nat, q ≤ (nLy M i j) → ∀ (sz : Nat) (x5 : Option Value) (mm : Mem), MFr m mm → RM (mm.1 364) (ckM (nI j) (M.1 (LA i) 3) i j (nLy M i j) M q) i → V g B 0 0 (QM g B 0 0 (rI (fun v m2 => v = nI (ckN (nI j) (M.1 (LA i) 3) i j (nLy M i j) M (nLy M i j)) ∧ MFr m m2 ∧ RM (m2.1 364) (ckEnd (nI j) (M.1 (LA i) 3) i j (nLy M i j) M) i)) noX) (hp g (mm)) sz 12 [some (.ref (ad g 363)), some (.int (nI j)), some (.int (nI (nLy M i j))), some (.int (nI (ckN (nI j) (M.1 (LA i) 3) i j (nLy M i j) M q))), some (.int (nI q)), x5] [] := by
    refine loop_up (fun q hq ih => ?_)
    intro sz x5 mm hF hRq
    have hMq := hRq.1
    obtain ⟨hf1, hf2, hf3, hf4⟩ := ckM_facts (num := nI j) (hr := (M.1 (LA i) 3)) (i := i) (j := j) (N := (nLy M i j)) (M := M) q
    have hnq : nLk (ckM (nI j) (M.1 (LA i) 3) i j (nLy M i j) M q) i = nLk M i := by unfold nLk; rw [hf3]
    have hjq : j < nLk (ckM (nI j) (M.1 (LA i) 3) i j (nLy M i j) M q) i := by rw [hnq]; exact hj
    have hNq : nLy (ckM (nI j) (M.1 (LA i) 3) i j (nLy M i j) M q) i j = (nLy M i j) := by show ((ckM (nI j) (M.1 (LA i) 3) i j (nLy M i j) M q).1 (LK i j) 3).toNatClampNeg = _; rw [hf4]; rfl
    refine V.iload (pc := 12) hB dX10_cracks_12 rfl ?_
    refine V.iload_n (pc := 14) hB dX10_cracks_14 rfl ?_
    refine V.icmp_ge (pc := 15) (tgt := 155) hB dX10_cracks_15 (by decide) (fun c_15 => ?_) (fun c_15 => ?_)
    · have hqN : q = (nLy M i j) := by have := (nI_leI (by omega) (by omega)).mp c_15; omega
      refine V.aload_n (pc := 155) hB dX10_cracks_155 rfl ?_
      refine V.get (pc := 156) hB fk_Model 0 wf_X10_9 dX10_cracks_156 (by decide) (hp_at (ca_Model _)) rfl ?_
      refine V.bipush (pc := 159) (v := 7) hB dX10_cracks_159 rfl ?_
      refine V.bipush (pc := 161) (v := 27) hB dX10_cracks_161 rfl ?_
      refine V.iload_n (pc := 163) hB dX10_cracks_163 rfl ?_
      refine V.imul (pc := 164) hB dX10_cracks_164 ?_
      refine V.iadd (pc := 165) hB dX10_cracks_165 ?_
      refine V.iconst (pc := 166) (v := 1) hB dX10_cracks_166 rfl ?_
      refine V.iadd (pc := 167) hB dX10_cracks_167 ?_
      rw [show (7 : Int32) + 27 * nI j + 1 = nI (7 + 27 * j + 1) from ix7 j 1]
      refine V.dup2 (pc := 168) hB dX10_cracks_168 rfl rfl ?_
      refine V.ialdM (pc := 169) hB (ca_Now) dX10_cracks_169 (ix_nI (by omega) (by decide)) ?_
      refine V.iload_n (pc := 170) hB dX10_cracks_170 rfl ?_
      refine V.iadd (pc := 171) hB dX10_cracks_171 ?_
      refine V.iastM (pc := 172) hB (ca_Now) dX10_cracks_172 (ix_nI (by omega) (by decide)) (by decide) ?_
      refine V.iload_n (pc := 173) hB dX10_cracks_173 rfl ?_
      refine V.retI (pc := 174) hB dX10_cracks_174 rfl (rfl) (by omega) (by omega) ?_
      rw [hqN] at hRq hf4 ⊢
      refine ⟨rfl, hF.trans (MFr.up _ _ _), ?_⟩
      rw [up_row]
      have hjN : j < nLk (ckM (nI j) (M.1 (LA i) 3) i j (nLy M i j) M (nLy M i j)) i := by rw [hqN] at hjq; exact hjq
      have hcr := (hRq.2.2.2.2.1 j hjN).2.1 1 (by omega)
      rw [show 7 + 27 * j + 1 = 8 + 27 * j by omega, show mm.1 364 (8 + 27 * j) = (ckM (nI j) (M.1 (LA i) 3) i j (nLy M i j) M (nLy M i j)).1 (LK i j) 5 from hcr]
      exact hRq.crk hjN
    · have hlt : q < (nLy M i j) := Nat.not_le.mp (fun z => c_15 ((nI_leI (by omega) (by omega)).mpr z))
      have hSq : mm.1 364 (9 + 3 + 27 * j + 3 * q) = (ckM (nI j) (M.1 (LA i) 3) i j (nLy M i j) M q).1 (LK i j + 3) q := (hRq.2.2.2.2.1 j hjq).2.2 q (by rw [hNq]; exact hlt) 3 (by omega) (by omega)
      refine V.iload_n (pc := 18) hB dX10_cracks_18 rfl ?_
      refine V.iload (pc := 19) hB dX10_cracks_19 rfl ?_
      refine V.cs (pc := 21) hB cw_X10_layerPlace wm_X10_85 wst_X10_layerPlace dX10_cracks_21 (c_X10_layerPlace hG (j := j) (y := q) rfl rfl) (by omega) (by decide) rfl (by exact Nat.le_of_ble_eq_true rfl) (by omega) (by omega) kN (kI (fun v_21 m_21 sz h_21 => ?_)) rfl
      obtain ⟨rfl, hm_21⟩ := h_21
      obtain rfl := hm_21.symm
      refine V.iconst (pc := 24) (v := 2) hB dX10_cracks_24 rfl ?_
      refine V.iadd (pc := 25) hB dX10_cracks_25 ?_
      rw [show nI (10 + 27 * j + 3 * q) + 2 = nI (9 + 3 + 27 * j + 3 * q) from (nI_add _ 2).trans (congrArg nI (by omega))]
      refine V.istore (pc := 26) hB dX10_cracks_26 (by decide) rfl ?_
      refine V.aload_n (pc := 28) hB dX10_cracks_28 rfl ?_
      refine V.get (pc := 29) hB fk_Model 0 wf_X10_9 dX10_cracks_29 (by decide) (hp_at (ca_Model _)) rfl ?_
      refine V.iload (pc := 32) hB dX10_cracks_32 rfl ?_
      refine V.ialdM (pc := 34) hB (ca_Now) dX10_cracks_34 (ix_nI (by omega) (by decide)) ?_
      rw [hSq]
      refine V.bipush (pc := 35) (v := 30) hB dX10_cracks_35 rfl ?_
      refine V.icmp_lt (pc := 37) (tgt := 149) hB dX10_cracks_37 (by decide) (fun c_37 => ?_) (fun c_37 => ?_)
      · have hno : ¬ 30 ≤ (ckM (nI j) (M.1 (LA i) 3) i j (nLy M i j) M q).1 (LK i j + 3) q := Int32.not_le.mpr c_37
        have hstep : (ckM (nI j) (M.1 (LA i) 3) i j (nLy M i j) M (q + 1)) = (ckM (nI j) (M.1 (LA i) 3) i j (nLy M i j) M q) := if_neg hno
        have hcnt : (ckN (nI j) (M.1 (LA i) 3) i j (nLy M i j) M (q + 1)) = (ckN (nI j) (M.1 (LA i) 3) i j (nLy M i j) M q) := by show (ckN (nI j) (M.1 (LA i) 3) i j (nLy M i j) M q) + _ = _; rw [if_neg hno]; rfl
        have nxt := ih hlt sz (some (.int (nI (9 + 3 + 27 * j + 3 * q)))) mm hF (by rw [hstep]; exact hRq)
        rw [hcnt] at nxt
        refine V.iinc (pc := 149) (v := nI (q + 1)) hB dX10_cracks_149 rfl (nI_1 _) (by decide) rfl ?_
        refine V.goto (pc := 152) (tgt := 12) hB dX10_cracks_152 (by decide) ?_
        exact nxt
      · have hyes : 30 ≤ (ckM (nI j) (M.1 (LA i) 3) i j (nLy M i j) M q).1 (LK i j + 3) q := Int32.not_lt.mp c_37
        have hstep : (ckM (nI j) (M.1 (LA i) 3) i j (nLy M i j) M (q + 1)) = pushM i j (nLy M i j) (nI (q + 1)) (pushM i j (nLy M i j) (nI q - 1) (up (recM i (wOf (ckM (nI j) (M.1 (LA i) 3) i j (nLy M i j) M q) i) (cOf (ckM (nI j) (M.1 (LA i) 3) i j (nLy M i j) M q) i) 99 (nI j) (ckPitch (ckM (nI j) (M.1 (LA i) 3) i j (nLy M i j) M q) i j q) (M.1 (LA i) 3) (ckM (nI j) (M.1 (LA i) 3) i j (nLy M i j) M q)) (LK i j + 3) q 0)) := if_pos hyes
        have hcnt : (ckN (nI j) (M.1 (LA i) 3) i j (nLy M i j) M (q + 1)) = (ckN (nI j) (M.1 (LA i) 3) i j (nLy M i j) M q) + 1 := by show (ckN (nI j) (M.1 (LA i) 3) i j (nLy M i j) M q) + _ = _; rw [if_pos hyes]
        refine V.aload_n (pc := 40) hB dX10_cracks_40 rfl ?_
        refine V.bipush (pc := 41) (v := 99) hB dX10_cracks_41 rfl ?_
        refine V.iload_n (pc := 43) hB dX10_cracks_43 rfl ?_
        refine V.aload_n (pc := 44) hB dX10_cracks_44 rfl ?_
        refine V.iload_n (pc := 45) hB dX10_cracks_45 rfl ?_
        refine V.iload (pc := 46) hB dX10_cracks_46 rfl ?_
        refine V.iconst (pc := 48) (v := 1) hB dX10_cracks_48 rfl ?_
        refine V.cv (pc := 49) hB cw_X10_ofLayer wm_X10_88 wi_X10_ofLayer ws_X10_ofLayer dX10_cracks_49 (c_X10_ofLayer hG hMq (k := 1) (by decide) rfl) (hp_at (ca_Model _)) fk_Model rfl (by omega) (by decide) rfl (by exact Nat.le_of_ble_eq_true rfl) (by omega) (by omega) kN (kI (fun v_49 m_49 sz h_49 => ?_)) rfl
        obtain ⟨rfl, hm_49⟩ := h_49
        obtain rfl := hm_49.symm
        rw [hRq.ol hjq (by rw [hNq]; exact hlt) (by omega), show LK i j + 1 + 1 = LK i j + 2 from rfl]
        refine V.if_ne (pc := 52) (tgt := 59) hB dX10_cracks_52 (by decide) (fun c_52 => ?_) (fun c_52 => ?_)
        · refine V.aload_n (pc := 59) hB dX10_cracks_59 rfl ?_
          refine V.iload_n (pc := 60) hB dX10_cracks_60 rfl ?_
          refine V.iload (pc := 61) hB dX10_cracks_61 rfl ?_
          refine V.cv (pc := 63) hB cw_X10_pitchOf wm_X10_122 wi_X10_pitchOf ws_X10_pitchOf dX10_cracks_63 (c_X10_pitchOf hG hMq (by rw [hRq.ol hjq (by rw [hNq]; exact hlt) (by omega), Nat.add_zero, hf1]; intro z; have := hK q hlt; rw [z] at this; exact absurd this (by decide))) (hp_at (ca_Model _)) fk_Model rfl (by omega) (by decide) rfl (by exact Nat.le_of_ble_eq_true rfl) (by omega) (by omega) kN (kI (fun v_63 m_63 sz h_63 => ?_)) rfl
          obtain ⟨rfl, hm_63⟩ := h_63
          obtain rfl := hm_63.symm
          rw [hRq.ol hjq (by rw [hNq]; exact hlt) (by omega), hRq.ol hjq (by rw [hNq]; exact hlt) (by omega), show LK i j + 1 + 0 = LK i j + 1 from rfl, show LK i j + 1 + 1 = LK i j + 2 from rfl]
          have hpt := ck_pitch (M := (ckM (nI j) (M.1 (LA i) 3) i j (nLy M i j) M q)) (i := i) (j := j) (q := q) (by rw [hf1]; exact hK q hlt) c_52
          rw [hpt]
          refine V.cv (pc := 66) hB cw_X10_rings wm_X10_125 wi_X10_rings ws_X10_rings dX10_cracks_66 (c_X10_rings hG hMq) (hp_at (ca_Model _)) fk_Model rfl (by omega) (by decide) rfl (by exact Nat.le_of_ble_eq_true rfl) (by omega) (by omega) kN (kV (fun m_66 sz h_66 => ?_)) rfl
          subst h_66
          have hR1 : RM (ringR (mm.1 364) 99 (nI j) (ckPitch (ckM (nI j) (M.1 (LA i) 3) i j (nLy M i j) M q) i j q) (mm.1 364 0)) (recM i (wOf (ckM (nI j) (M.1 (LA i) 3) i j (nLy M i j) M q) i) (cOf (ckM (nI j) (M.1 (LA i) 3) i j (nLy M i j) M q) i) 99 (nI j) (ckPitch (ckM (nI j) (M.1 (LA i) 3) i j (nLy M i j) M q) i j q) (M.1 (LA i) 3) (ckM (nI j) (M.1 (LA i) 3) i j (nLy M i j) M q)) i := by
            have hh := hRq.rec (kd := 99) (lk := nI j) (pt := ckPitch (ckM (nI j) (M.1 (LA i) 3) i j (nLy M i j) M q) i j q) (hr := mm.1 364 0) (by decide)
            rw [hRq.2.2.2.1.1, hf3] at hh ⊢
            exact hh
          obtain ⟨R1, hR1e⟩ : ∃ R1, R1 = (ringR (mm.1 364) 99 (nI j) (ckPitch (ckM (nI j) (M.1 (LA i) 3) i j (nLy M i j) M q) i j q) (mm.1 364 0)) := ⟨_, rfl⟩
          obtain ⟨M1, hM1e⟩ : ∃ M1, M1 = recM i (wOf (ckM (nI j) (M.1 (LA i) 3) i j (nLy M i j) M q) i) (cOf (ckM (nI j) (M.1 (LA i) 3) i j (nLy M i j) M q) i) 99 (nI j) (ckPitch (ckM (nI j) (M.1 (LA i) 3) i j (nLy M i j) M q) i j q) (M.1 (LA i) 3) (ckM (nI j) (M.1 (LA i) 3) i j (nLy M i j) M q) := ⟨_, rfl⟩
          rw [← hR1e] at hR1 ⊢
          rw [← hM1e] at hR1 hstep
          have hn1 : nLk M1 i = nLk M i := by rw [hM1e]; exact (rec_LW hRq.2.1 (by decide)).2.trans hnq
          have hN1 : nLy M1 i j = (nLy M i j) := by rw [hM1e]; show ((recM _ _ _ _ _ _ _ _).1 (LK i j) 3).toNatClampNeg = _; rw [recM_cell (by omega)]; exact hNq
          refine V.aload_n (pc := 69) hB dX10_cracks_69 rfl ?_
          refine V.get (pc := 70) hB fk_Model 0 wf_X10_9 dX10_cracks_70 (by decide) (hp_at (ca_Model _)) rfl ?_
          refine V.iload (pc := 73) hB dX10_cracks_73 rfl ?_
          refine V.iconst (pc := 75) (v := 0) hB dX10_cracks_75 rfl ?_
          refine V.iastM (pc := 76) hB (ca_Now) dX10_cracks_76 (ix_nI (by omega) (by decide)) (by decide) ?_
          rw [up_eq, setRow_same, setRow_set]
          have hR2 := hR1.lay (v := 0) (c := 3) (y := q) (by rw [hn1]; exact hj) (by omega) (by omega) (by omega)
          obtain ⟨R2, hR2e⟩ : ∃ R2, R2 = upd R1 (9 + 3 + 27 * j + 3 * q) 0 := ⟨_, rfl⟩
          obtain ⟨M2, hM2e⟩ : ∃ M2, M2 = up M1 (LK i j + 3) q 0 := ⟨_, rfl⟩
          rw [← hR2e] at hR2 ⊢
          rw [← hM2e] at hR2 hstep
          have hn2 : nLk M2 i = nLk M i := by rw [hM2e]; show ((up M1 (LK i j + 3) q 0).1 (LA i) 1).toNatClampNeg = _; rw [up_cell _ _ _ (by omega)]; exact hn1
          have hN2 : nLy M2 i j = (nLy M i j) := by rw [hM2e]; show ((up M1 (LK i j + 3) q 0).1 (LK i j) 3).toNatClampNeg = _; rw [up_cell _ _ _ (by omega)]; exact hN1
          refine V.aload_n (pc := 77) hB dX10_cracks_77 rfl ?_
          refine V.get (pc := 78) hB fk_Model 0 wf_X10_9 dX10_cracks_78 (by decide) (hp_at (ca_Model _)) rfl ?_
          refine V.iload_n (pc := 81) hB dX10_cracks_81 rfl ?_
          refine V.iconst (pc := 82) (v := 0) hB dX10_cracks_82 rfl ?_
          refine V.iload (pc := 83) hB dX10_cracks_83 rfl ?_
          refine V.iconst (pc := 85) (v := 1) hB dX10_cracks_85 rfl ?_
          refine V.isub (pc := 86) hB dX10_cracks_86 ?_
          refine V.cs (pc := 87) hB cw_J9_max_7cf53 wm_X10_135 wst_J9_max_7cf53 dX10_cracks_87 (c_J9_max_7cf53 hG) (by omega) (by decide) rfl (by exact Nat.le_of_ble_eq_true rfl) (by omega) (by omega) kN (kI (fun v_87 m_87 sz h_87 => ?_)) rfl
          obtain ⟨rfl, hm_87⟩ := h_87
          obtain rfl := hm_87.symm
          rw [mx0 q (by omega)]
          refine V.cs (pc := 90) hB cw_X10_layerPlace wm_X10_85 wst_X10_layerPlace dX10_cracks_90 (c_X10_layerPlace hG (j := j) (y := q - 1) rfl rfl) (by omega) (by decide) rfl (by exact Nat.le_of_ble_eq_true rfl) (by omega) (by omega) kN (kI (fun v_90 m_90 sz h_90 => ?_)) rfl
          obtain ⟨rfl, hm_90⟩ := h_90
          obtain rfl := hm_90.symm
          refine V.iconst (pc := 93) (v := 2) hB dX10_cracks_93 rfl ?_
          refine V.iadd (pc := 94) hB dX10_cracks_94 ?_
          rw [show nI (10 + 27 * j + 3 * (q - 1)) + 2 = nI (9 + 3 + 27 * j + 3 * (q - 1)) from (nI_add _ 2).trans (congrArg nI (by omega))]
          refine V.dup2 (pc := 95) hB dX10_cracks_95 rfl rfl ?_
          refine V.ialdM (pc := 96) hB (ca_Now) dX10_cracks_96 (ix_nI (by omega) (by decide)) ?_
          rw [setRow_same]
          refine V.iload (pc := 97) hB dX10_cracks_97 rfl ?_
          refine V.if_le (pc := 99) (tgt := 106) hB dX10_cracks_99 (by decide) (fun c_99 => ?_) (fun c_99 => ?_)
          · have hq0 : q = 0 := by have := (nI_leI (b := 0) (by omega) (by decide)).mp c_99; omega
            have hR3 : RM (upd R2 (9 + 3 + 27 * j + 3 * (q - 1)) (R2 (9 + 3 + 27 * j + 3 * (q - 1)) + 0)) (pushM i j (nLy M i j) (nI q - 1) M2) i := by
              rw [upd_self, pushM_no (by rw [hq0]; exact fun z => absurd z.1 (by decide))]
              exact hR2
            refine V.iconst (pc := 106) (v := 0) hB dX10_cracks_106 rfl ?_
            refine V.iadd (pc := 107) hB dX10_cracks_107 ?_
            refine V.iastM (pc := 108) hB (ca_Now) dX10_cracks_108 (ix_nI (by omega) (by decide)) (by decide) ?_
            rw [up_eq, setRow_same, setRow_set]
            obtain ⟨R3, hR3e⟩ : ∃ R3, R3 = upd R2 (9 + 3 + 27 * j + 3 * (q - 1)) (R2 (9 + 3 + 27 * j + 3 * (q - 1)) + 0) := ⟨_, rfl⟩
            obtain ⟨M3, hM3e⟩ : ∃ M3, M3 = pushM i j (nLy M i j) (nI q - 1) M2 := ⟨_, rfl⟩
            rw [← hR3e] at hR3 ⊢
            rw [← hM3e] at hR3 hstep
            have hn3 : nLk M3 i = nLk M i := by rw [hM3e]; show ((pushM i j (nLy M i j) (nI q - 1) M2).1 (LA i) 1).toNatClampNeg = _; rw [pushM_cell (by omega)]; exact hn2
            have hN3 : nLy M3 i j = (nLy M i j) := by rw [hM3e]; show ((pushM i j (nLy M i j) (nI q - 1) M2).1 (LK i j) 3).toNatClampNeg = _; rw [pushM_cell (by omega)]; exact hN2
            refine V.aload_n (pc := 109) hB dX10_cracks_109 rfl ?_
            refine V.get (pc := 110) hB fk_Model 0 wf_X10_9 dX10_cracks_110 (by decide) (hp_at (ca_Model _)) rfl ?_
            refine V.iload_n (pc := 113) hB dX10_cracks_113 rfl ?_
            refine V.iload_n (pc := 114) hB dX10_cracks_114 rfl ?_
            refine V.iconst (pc := 115) (v := 1) hB dX10_cracks_115 rfl ?_
            refine V.isub (pc := 116) hB dX10_cracks_116 ?_
            rw [show nI (nLy M i j) - 1 = nI ((nLy M i j) - 1) from nI_subN (b := 1) (by omega)]
            refine V.iload (pc := 117) hB dX10_cracks_117 rfl ?_
            refine V.iconst (pc := 119) (v := 1) hB dX10_cracks_119 rfl ?_
            refine V.iadd (pc := 120) hB dX10_cracks_120 ?_
            rw [nI1]
            refine V.cs (pc := 121) hB cw_J9_min_7cf53 wm_X10_92 wst_J9_min_7cf53 dX10_cracks_121 (c_J9_min_7cf53 hG) (by omega) (by decide) rfl (by exact Nat.le_of_ble_eq_true rfl) (by omega) (by omega) kN (kI (fun v_121 m_121 sz h_121 => ?_)) rfl
            obtain ⟨rfl, hm_121⟩ := h_121
            obtain rfl := hm_121.symm
            rw [minN (a := (nLy M i j) - 1) (b := q + 1) (by omega) (by omega)]
            refine V.cs (pc := 124) hB cw_X10_layerPlace wm_X10_85 wst_X10_layerPlace dX10_cracks_124 (c_X10_layerPlace hG (j := j) (y := min ((nLy M i j) - 1) (q + 1)) rfl rfl) (by omega) (by decide) rfl (by exact Nat.le_of_ble_eq_true rfl) (by omega) (by omega) kN (kI (fun v_124 m_124 sz h_124 => ?_)) rfl
            obtain ⟨rfl, hm_124⟩ := h_124
            obtain rfl := hm_124.symm
            refine V.iconst (pc := 127) (v := 2) hB dX10_cracks_127 rfl ?_
            refine V.iadd (pc := 128) hB dX10_cracks_128 ?_
            obtain ⟨z, hz⟩ : ∃ z, z = min ((nLy M i j) - 1) (q + 1) := ⟨_, rfl⟩
            rw [← hz]
            rw [show nI (10 + 27 * j + 3 * z) + 2 = nI (9 + 3 + 27 * j + 3 * z) from (nI_add _ 2).trans (congrArg nI (by omega))]
            refine V.dup2 (pc := 129) hB dX10_cracks_129 rfl rfl ?_
            refine V.ialdM (pc := 130) hB (ca_Now) dX10_cracks_130 (ix_nI (by omega) (by decide)) ?_
            rw [setRow_same]
            refine V.iload (pc := 131) hB dX10_cracks_131 rfl ?_
            refine V.iconst (pc := 133) (v := 1) hB dX10_cracks_133 rfl ?_
            refine V.iadd (pc := 134) hB dX10_cracks_134 ?_
            rw [nI1]
            refine V.iload_n (pc := 135) hB dX10_cracks_135 rfl ?_
            refine V.icmp_ge (pc := 136) (tgt := 143) hB dX10_cracks_136 (by decide) (fun c_136 => ?_) (fun c_136 => ?_)
            · have hge := (nI_leI (by omega) (by omega)).mp c_136
              have hR4 : RM (upd R3 (9 + 3 + 27 * j + 3 * z) (R3 (9 + 3 + 27 * j + 3 * z) + 0)) (pushM i j (nLy M i j) (nI (q + 1)) M3) i := by
                rw [upd_self, pushM_no (fun w => absurd w.2 (nI_nlt hge (by omega)))]
                exact hR3
              refine V.iconst (pc := 143) (v := 0) hB dX10_cracks_143 rfl ?_
              refine V.iadd (pc := 144) hB dX10_cracks_144 ?_
              refine V.iastM (pc := 145) hB (ca_Now) dX10_cracks_145 (ix_nI (by omega) (by decide)) (by decide) ?_
              rw [up_eq, setRow_same, setRow_set]
              rw [← hstep] at hR4
              have nxt := ih hlt sz (some (.int (nI (9 + 3 + 27 * j + 3 * q)))) _ (hF.trans (MFr.row mm _)) (by rw [setRow_same]; exact hR4)
              rw [hcnt] at nxt
              refine V.iinc (pc := 146) (v := nI ((ckN (nI j) (M.1 (LA i) 3) i j (nLy M i j) M q) + 1)) hB dX10_cracks_146 rfl (nI_1 _) (by decide) rfl ?_
              refine V.iinc (pc := 149) (v := nI (q + 1)) hB dX10_cracks_149 rfl (nI_1 _) (by decide) rfl ?_
              refine V.goto (pc := 152) (tgt := 12) hB dX10_cracks_152 (by decide) ?_
              exact nxt
            · have hlt2 : q + 1 < (nLy M i j) := Nat.not_le.mp (fun w => c_136 ((nI_leI (by omega) (by omega)).mpr w))
              have hz2 : z = q + 1 := by omega
              have hR4 : RM (upd R3 (9 + 3 + 27 * j + 3 * z) (R3 (9 + 3 + 27 * j + 3 * z) + 5)) (pushM i j (nLy M i j) (nI (q + 1)) M3) i := by
                rw [hz2, ← hN3]
                exact hR3.push (by rw [hn3]; exact hj) (by rw [hN3]; exact hlt2)
              refine V.iconst (pc := 139) (v := 5) hB dX10_cracks_139 rfl ?_
              refine V.goto (pc := 140) (tgt := 144) hB dX10_cracks_140 (by decide) ?_
              refine V.iadd (pc := 144) hB dX10_cracks_144 ?_
              refine V.iastM (pc := 145) hB (ca_Now) dX10_cracks_145 (ix_nI (by omega) (by decide)) (by decide) ?_
              rw [up_eq, setRow_same, setRow_set]
              rw [← hstep] at hR4
              have nxt := ih hlt sz (some (.int (nI (9 + 3 + 27 * j + 3 * q)))) _ (hF.trans (MFr.row mm _)) (by rw [setRow_same]; exact hR4)
              rw [hcnt] at nxt
              refine V.iinc (pc := 146) (v := nI ((ckN (nI j) (M.1 (LA i) 3) i j (nLy M i j) M q) + 1)) hB dX10_cracks_146 rfl (nI_1 _) (by decide) rfl ?_
              refine V.iinc (pc := 149) (v := nI (q + 1)) hB dX10_cracks_149 rfl (nI_1 _) (by decide) rfl ?_
              refine V.goto (pc := 152) (tgt := 12) hB dX10_cracks_152 (by decide) ?_
              exact nxt
          · have hq0 : 0 < q := Nat.pos_of_ne_zero (fun z => c_99 (by rw [z]; decide))
            have hR3 : RM (upd R2 (9 + 3 + 27 * j + 3 * (q - 1)) (R2 (9 + 3 + 27 * j + 3 * (q - 1)) + 5)) (pushM i j (nLy M i j) (nI q - 1) M2) i := by
              rw [show nI q - 1 = nI (q - 1) from nI_subN (b := 1) (by omega), ← hN2]
              exact hR2.push (by rw [hn2]; exact hj) (by rw [hN2]; omega)
            refine V.iconst (pc := 102) (v := 5) hB dX10_cracks_102 rfl ?_
            refine V.goto (pc := 103) (tgt := 107) hB dX10_cracks_103 (by decide) ?_
            refine V.iadd (pc := 107) hB dX10_cracks_107 ?_
            refine V.iastM (pc := 108) hB (ca_Now) dX10_cracks_108 (ix_nI (by omega) (by decide)) (by decide) ?_
            rw [up_eq, setRow_same, setRow_set]
            obtain ⟨R3, hR3e⟩ : ∃ R3, R3 = upd R2 (9 + 3 + 27 * j + 3 * (q - 1)) (R2 (9 + 3 + 27 * j + 3 * (q - 1)) + 5) := ⟨_, rfl⟩
            obtain ⟨M3, hM3e⟩ : ∃ M3, M3 = pushM i j (nLy M i j) (nI q - 1) M2 := ⟨_, rfl⟩
            rw [← hR3e] at hR3 ⊢
            rw [← hM3e] at hR3 hstep
            have hn3 : nLk M3 i = nLk M i := by rw [hM3e]; show ((pushM i j (nLy M i j) (nI q - 1) M2).1 (LA i) 1).toNatClampNeg = _; rw [pushM_cell (by omega)]; exact hn2
            have hN3 : nLy M3 i j = (nLy M i j) := by rw [hM3e]; show ((pushM i j (nLy M i j) (nI q - 1) M2).1 (LK i j) 3).toNatClampNeg = _; rw [pushM_cell (by omega)]; exact hN2
            refine V.aload_n (pc := 109) hB dX10_cracks_109 rfl ?_
            refine V.get (pc := 110) hB fk_Model 0 wf_X10_9 dX10_cracks_110 (by decide) (hp_at (ca_Model _)) rfl ?_
            refine V.iload_n (pc := 113) hB dX10_cracks_113 rfl ?_
            refine V.iload_n (pc := 114) hB dX10_cracks_114 rfl ?_
            refine V.iconst (pc := 115) (v := 1) hB dX10_cracks_115 rfl ?_
            refine V.isub (pc := 116) hB dX10_cracks_116 ?_
            rw [show nI (nLy M i j) - 1 = nI ((nLy M i j) - 1) from nI_subN (b := 1) (by omega)]
            refine V.iload (pc := 117) hB dX10_cracks_117 rfl ?_
            refine V.iconst (pc := 119) (v := 1) hB dX10_cracks_119 rfl ?_
            refine V.iadd (pc := 120) hB dX10_cracks_120 ?_
            rw [nI1]
            refine V.cs (pc := 121) hB cw_J9_min_7cf53 wm_X10_92 wst_J9_min_7cf53 dX10_cracks_121 (c_J9_min_7cf53 hG) (by omega) (by decide) rfl (by exact Nat.le_of_ble_eq_true rfl) (by omega) (by omega) kN (kI (fun v_121 m_121 sz h_121 => ?_)) rfl
            obtain ⟨rfl, hm_121⟩ := h_121
            obtain rfl := hm_121.symm
            rw [minN (a := (nLy M i j) - 1) (b := q + 1) (by omega) (by omega)]
            refine V.cs (pc := 124) hB cw_X10_layerPlace wm_X10_85 wst_X10_layerPlace dX10_cracks_124 (c_X10_layerPlace hG (j := j) (y := min ((nLy M i j) - 1) (q + 1)) rfl rfl) (by omega) (by decide) rfl (by exact Nat.le_of_ble_eq_true rfl) (by omega) (by omega) kN (kI (fun v_124 m_124 sz h_124 => ?_)) rfl
            obtain ⟨rfl, hm_124⟩ := h_124
            obtain rfl := hm_124.symm
            refine V.iconst (pc := 127) (v := 2) hB dX10_cracks_127 rfl ?_
            refine V.iadd (pc := 128) hB dX10_cracks_128 ?_
            obtain ⟨z, hz⟩ : ∃ z, z = min ((nLy M i j) - 1) (q + 1) := ⟨_, rfl⟩
            rw [← hz]
            rw [show nI (10 + 27 * j + 3 * z) + 2 = nI (9 + 3 + 27 * j + 3 * z) from (nI_add _ 2).trans (congrArg nI (by omega))]
            refine V.dup2 (pc := 129) hB dX10_cracks_129 rfl rfl ?_
            refine V.ialdM (pc := 130) hB (ca_Now) dX10_cracks_130 (ix_nI (by omega) (by decide)) ?_
            rw [setRow_same]
            refine V.iload (pc := 131) hB dX10_cracks_131 rfl ?_
            refine V.iconst (pc := 133) (v := 1) hB dX10_cracks_133 rfl ?_
            refine V.iadd (pc := 134) hB dX10_cracks_134 ?_
            rw [nI1]
            refine V.iload_n (pc := 135) hB dX10_cracks_135 rfl ?_
            refine V.icmp_ge (pc := 136) (tgt := 143) hB dX10_cracks_136 (by decide) (fun c_136 => ?_) (fun c_136 => ?_)
            · have hge := (nI_leI (by omega) (by omega)).mp c_136
              have hR4 : RM (upd R3 (9 + 3 + 27 * j + 3 * z) (R3 (9 + 3 + 27 * j + 3 * z) + 0)) (pushM i j (nLy M i j) (nI (q + 1)) M3) i := by
                rw [upd_self, pushM_no (fun w => absurd w.2 (nI_nlt hge (by omega)))]
                exact hR3
              refine V.iconst (pc := 143) (v := 0) hB dX10_cracks_143 rfl ?_
              refine V.iadd (pc := 144) hB dX10_cracks_144 ?_
              refine V.iastM (pc := 145) hB (ca_Now) dX10_cracks_145 (ix_nI (by omega) (by decide)) (by decide) ?_
              rw [up_eq, setRow_same, setRow_set]
              rw [← hstep] at hR4
              have nxt := ih hlt sz (some (.int (nI (9 + 3 + 27 * j + 3 * q)))) _ (hF.trans (MFr.row mm _)) (by rw [setRow_same]; exact hR4)
              rw [hcnt] at nxt
              refine V.iinc (pc := 146) (v := nI ((ckN (nI j) (M.1 (LA i) 3) i j (nLy M i j) M q) + 1)) hB dX10_cracks_146 rfl (nI_1 _) (by decide) rfl ?_
              refine V.iinc (pc := 149) (v := nI (q + 1)) hB dX10_cracks_149 rfl (nI_1 _) (by decide) rfl ?_
              refine V.goto (pc := 152) (tgt := 12) hB dX10_cracks_152 (by decide) ?_
              exact nxt
            · have hlt2 : q + 1 < (nLy M i j) := Nat.not_le.mp (fun w => c_136 ((nI_leI (by omega) (by omega)).mpr w))
              have hz2 : z = q + 1 := by omega
              have hR4 : RM (upd R3 (9 + 3 + 27 * j + 3 * z) (R3 (9 + 3 + 27 * j + 3 * z) + 5)) (pushM i j (nLy M i j) (nI (q + 1)) M3) i := by
                rw [hz2, ← hN3]
                exact hR3.push (by rw [hn3]; exact hj) (by rw [hN3]; exact hlt2)
              refine V.iconst (pc := 139) (v := 5) hB dX10_cracks_139 rfl ?_
              refine V.goto (pc := 140) (tgt := 144) hB dX10_cracks_140 (by decide) ?_
              refine V.iadd (pc := 144) hB dX10_cracks_144 ?_
              refine V.iastM (pc := 145) hB (ca_Now) dX10_cracks_145 (ix_nI (by omega) (by decide)) (by decide) ?_
              rw [up_eq, setRow_same, setRow_set]
              rw [← hstep] at hR4
              have nxt := ih hlt sz (some (.int (nI (9 + 3 + 27 * j + 3 * q)))) _ (hF.trans (MFr.row mm _)) (by rw [setRow_same]; exact hR4)
              rw [hcnt] at nxt
              refine V.iinc (pc := 146) (v := nI ((ckN (nI j) (M.1 (LA i) 3) i j (nLy M i j) M q) + 1)) hB dX10_cracks_146 rfl (nI_1 _) (by decide) rfl ?_
              refine V.iinc (pc := 149) (v := nI (q + 1)) hB dX10_cracks_149 rfl (nI_1 _) (by decide) rfl ?_
              refine V.goto (pc := 152) (tgt := 12) hB dX10_cracks_152 (by decide) ?_
              exact nxt
        · have hpt : (0 : Int32) = ckPitch (ckM (nI j) (M.1 (LA i) 3) i j (nLy M i j) M q) i j q := (if_pos c_52).symm
          refine V.iconst (pc := 55) (v := 0) hB dX10_cracks_55 rfl ?_
          refine V.goto (pc := 56) (tgt := 66) hB dX10_cracks_56 (by decide) ?_
          rw [hpt]
          refine V.cv (pc := 66) hB cw_X10_rings wm_X10_125 wi_X10_rings ws_X10_rings dX10_cracks_66 (c_X10_rings hG hMq) (hp_at (ca_Model _)) fk_Model rfl (by omega) (by decide) rfl (by exact Nat.le_of_ble_eq_true rfl) (by omega) (by omega) kN (kV (fun m_66 sz h_66 => ?_)) rfl
          subst h_66
          have hR1 : RM (ringR (mm.1 364) 99 (nI j) (ckPitch (ckM (nI j) (M.1 (LA i) 3) i j (nLy M i j) M q) i j q) (mm.1 364 0)) (recM i (wOf (ckM (nI j) (M.1 (LA i) 3) i j (nLy M i j) M q) i) (cOf (ckM (nI j) (M.1 (LA i) 3) i j (nLy M i j) M q) i) 99 (nI j) (ckPitch (ckM (nI j) (M.1 (LA i) 3) i j (nLy M i j) M q) i j q) (M.1 (LA i) 3) (ckM (nI j) (M.1 (LA i) 3) i j (nLy M i j) M q)) i := by
            have hh := hRq.rec (kd := 99) (lk := nI j) (pt := ckPitch (ckM (nI j) (M.1 (LA i) 3) i j (nLy M i j) M q) i j q) (hr := mm.1 364 0) (by decide)
            rw [hRq.2.2.2.1.1, hf3] at hh ⊢
            exact hh
          obtain ⟨R1, hR1e⟩ : ∃ R1, R1 = (ringR (mm.1 364) 99 (nI j) (ckPitch (ckM (nI j) (M.1 (LA i) 3) i j (nLy M i j) M q) i j q) (mm.1 364 0)) := ⟨_, rfl⟩
          obtain ⟨M1, hM1e⟩ : ∃ M1, M1 = recM i (wOf (ckM (nI j) (M.1 (LA i) 3) i j (nLy M i j) M q) i) (cOf (ckM (nI j) (M.1 (LA i) 3) i j (nLy M i j) M q) i) 99 (nI j) (ckPitch (ckM (nI j) (M.1 (LA i) 3) i j (nLy M i j) M q) i j q) (M.1 (LA i) 3) (ckM (nI j) (M.1 (LA i) 3) i j (nLy M i j) M q) := ⟨_, rfl⟩
          rw [← hR1e] at hR1 ⊢
          rw [← hM1e] at hR1 hstep
          have hn1 : nLk M1 i = nLk M i := by rw [hM1e]; exact (rec_LW hRq.2.1 (by decide)).2.trans hnq
          have hN1 : nLy M1 i j = (nLy M i j) := by rw [hM1e]; show ((recM _ _ _ _ _ _ _ _).1 (LK i j) 3).toNatClampNeg = _; rw [recM_cell (by omega)]; exact hNq
          refine V.aload_n (pc := 69) hB dX10_cracks_69 rfl ?_
          refine V.get (pc := 70) hB fk_Model 0 wf_X10_9 dX10_cracks_70 (by decide) (hp_at (ca_Model _)) rfl ?_
          refine V.iload (pc := 73) hB dX10_cracks_73 rfl ?_
          refine V.iconst (pc := 75) (v := 0) hB dX10_cracks_75 rfl ?_
          refine V.iastM (pc := 76) hB (ca_Now) dX10_cracks_76 (ix_nI (by omega) (by decide)) (by decide) ?_
          rw [up_eq, setRow_same, setRow_set]
          have hR2 := hR1.lay (v := 0) (c := 3) (y := q) (by rw [hn1]; exact hj) (by omega) (by omega) (by omega)
          obtain ⟨R2, hR2e⟩ : ∃ R2, R2 = upd R1 (9 + 3 + 27 * j + 3 * q) 0 := ⟨_, rfl⟩
          obtain ⟨M2, hM2e⟩ : ∃ M2, M2 = up M1 (LK i j + 3) q 0 := ⟨_, rfl⟩
          rw [← hR2e] at hR2 ⊢
          rw [← hM2e] at hR2 hstep
          have hn2 : nLk M2 i = nLk M i := by rw [hM2e]; show ((up M1 (LK i j + 3) q 0).1 (LA i) 1).toNatClampNeg = _; rw [up_cell _ _ _ (by omega)]; exact hn1
          have hN2 : nLy M2 i j = (nLy M i j) := by rw [hM2e]; show ((up M1 (LK i j + 3) q 0).1 (LK i j) 3).toNatClampNeg = _; rw [up_cell _ _ _ (by omega)]; exact hN1
          refine V.aload_n (pc := 77) hB dX10_cracks_77 rfl ?_
          refine V.get (pc := 78) hB fk_Model 0 wf_X10_9 dX10_cracks_78 (by decide) (hp_at (ca_Model _)) rfl ?_
          refine V.iload_n (pc := 81) hB dX10_cracks_81 rfl ?_
          refine V.iconst (pc := 82) (v := 0) hB dX10_cracks_82 rfl ?_
          refine V.iload (pc := 83) hB dX10_cracks_83 rfl ?_
          refine V.iconst (pc := 85) (v := 1) hB dX10_cracks_85 rfl ?_
          refine V.isub (pc := 86) hB dX10_cracks_86 ?_
          refine V.cs (pc := 87) hB cw_J9_max_7cf53 wm_X10_135 wst_J9_max_7cf53 dX10_cracks_87 (c_J9_max_7cf53 hG) (by omega) (by decide) rfl (by exact Nat.le_of_ble_eq_true rfl) (by omega) (by omega) kN (kI (fun v_87 m_87 sz h_87 => ?_)) rfl
          obtain ⟨rfl, hm_87⟩ := h_87
          obtain rfl := hm_87.symm
          rw [mx0 q (by omega)]
          refine V.cs (pc := 90) hB cw_X10_layerPlace wm_X10_85 wst_X10_layerPlace dX10_cracks_90 (c_X10_layerPlace hG (j := j) (y := q - 1) rfl rfl) (by omega) (by decide) rfl (by exact Nat.le_of_ble_eq_true rfl) (by omega) (by omega) kN (kI (fun v_90 m_90 sz h_90 => ?_)) rfl
          obtain ⟨rfl, hm_90⟩ := h_90
          obtain rfl := hm_90.symm
          refine V.iconst (pc := 93) (v := 2) hB dX10_cracks_93 rfl ?_
          refine V.iadd (pc := 94) hB dX10_cracks_94 ?_
          rw [show nI (10 + 27 * j + 3 * (q - 1)) + 2 = nI (9 + 3 + 27 * j + 3 * (q - 1)) from (nI_add _ 2).trans (congrArg nI (by omega))]
          refine V.dup2 (pc := 95) hB dX10_cracks_95 rfl rfl ?_
          refine V.ialdM (pc := 96) hB (ca_Now) dX10_cracks_96 (ix_nI (by omega) (by decide)) ?_
          rw [setRow_same]
          refine V.iload (pc := 97) hB dX10_cracks_97 rfl ?_
          refine V.if_le (pc := 99) (tgt := 106) hB dX10_cracks_99 (by decide) (fun c_99 => ?_) (fun c_99 => ?_)
          · have hq0 : q = 0 := by have := (nI_leI (b := 0) (by omega) (by decide)).mp c_99; omega
            have hR3 : RM (upd R2 (9 + 3 + 27 * j + 3 * (q - 1)) (R2 (9 + 3 + 27 * j + 3 * (q - 1)) + 0)) (pushM i j (nLy M i j) (nI q - 1) M2) i := by
              rw [upd_self, pushM_no (by rw [hq0]; exact fun z => absurd z.1 (by decide))]
              exact hR2
            refine V.iconst (pc := 106) (v := 0) hB dX10_cracks_106 rfl ?_
            refine V.iadd (pc := 107) hB dX10_cracks_107 ?_
            refine V.iastM (pc := 108) hB (ca_Now) dX10_cracks_108 (ix_nI (by omega) (by decide)) (by decide) ?_
            rw [up_eq, setRow_same, setRow_set]
            obtain ⟨R3, hR3e⟩ : ∃ R3, R3 = upd R2 (9 + 3 + 27 * j + 3 * (q - 1)) (R2 (9 + 3 + 27 * j + 3 * (q - 1)) + 0) := ⟨_, rfl⟩
            obtain ⟨M3, hM3e⟩ : ∃ M3, M3 = pushM i j (nLy M i j) (nI q - 1) M2 := ⟨_, rfl⟩
            rw [← hR3e] at hR3 ⊢
            rw [← hM3e] at hR3 hstep
            have hn3 : nLk M3 i = nLk M i := by rw [hM3e]; show ((pushM i j (nLy M i j) (nI q - 1) M2).1 (LA i) 1).toNatClampNeg = _; rw [pushM_cell (by omega)]; exact hn2
            have hN3 : nLy M3 i j = (nLy M i j) := by rw [hM3e]; show ((pushM i j (nLy M i j) (nI q - 1) M2).1 (LK i j) 3).toNatClampNeg = _; rw [pushM_cell (by omega)]; exact hN2
            refine V.aload_n (pc := 109) hB dX10_cracks_109 rfl ?_
            refine V.get (pc := 110) hB fk_Model 0 wf_X10_9 dX10_cracks_110 (by decide) (hp_at (ca_Model _)) rfl ?_
            refine V.iload_n (pc := 113) hB dX10_cracks_113 rfl ?_
            refine V.iload_n (pc := 114) hB dX10_cracks_114 rfl ?_
            refine V.iconst (pc := 115) (v := 1) hB dX10_cracks_115 rfl ?_
            refine V.isub (pc := 116) hB dX10_cracks_116 ?_
            rw [show nI (nLy M i j) - 1 = nI ((nLy M i j) - 1) from nI_subN (b := 1) (by omega)]
            refine V.iload (pc := 117) hB dX10_cracks_117 rfl ?_
            refine V.iconst (pc := 119) (v := 1) hB dX10_cracks_119 rfl ?_
            refine V.iadd (pc := 120) hB dX10_cracks_120 ?_
            rw [nI1]
            refine V.cs (pc := 121) hB cw_J9_min_7cf53 wm_X10_92 wst_J9_min_7cf53 dX10_cracks_121 (c_J9_min_7cf53 hG) (by omega) (by decide) rfl (by exact Nat.le_of_ble_eq_true rfl) (by omega) (by omega) kN (kI (fun v_121 m_121 sz h_121 => ?_)) rfl
            obtain ⟨rfl, hm_121⟩ := h_121
            obtain rfl := hm_121.symm
            rw [minN (a := (nLy M i j) - 1) (b := q + 1) (by omega) (by omega)]
            refine V.cs (pc := 124) hB cw_X10_layerPlace wm_X10_85 wst_X10_layerPlace dX10_cracks_124 (c_X10_layerPlace hG (j := j) (y := min ((nLy M i j) - 1) (q + 1)) rfl rfl) (by omega) (by decide) rfl (by exact Nat.le_of_ble_eq_true rfl) (by omega) (by omega) kN (kI (fun v_124 m_124 sz h_124 => ?_)) rfl
            obtain ⟨rfl, hm_124⟩ := h_124
            obtain rfl := hm_124.symm
            refine V.iconst (pc := 127) (v := 2) hB dX10_cracks_127 rfl ?_
            refine V.iadd (pc := 128) hB dX10_cracks_128 ?_
            obtain ⟨z, hz⟩ : ∃ z, z = min ((nLy M i j) - 1) (q + 1) := ⟨_, rfl⟩
            rw [← hz]
            rw [show nI (10 + 27 * j + 3 * z) + 2 = nI (9 + 3 + 27 * j + 3 * z) from (nI_add _ 2).trans (congrArg nI (by omega))]
            refine V.dup2 (pc := 129) hB dX10_cracks_129 rfl rfl ?_
            refine V.ialdM (pc := 130) hB (ca_Now) dX10_cracks_130 (ix_nI (by omega) (by decide)) ?_
            rw [setRow_same]
            refine V.iload (pc := 131) hB dX10_cracks_131 rfl ?_
            refine V.iconst (pc := 133) (v := 1) hB dX10_cracks_133 rfl ?_
            refine V.iadd (pc := 134) hB dX10_cracks_134 ?_
            rw [nI1]
            refine V.iload_n (pc := 135) hB dX10_cracks_135 rfl ?_
            refine V.icmp_ge (pc := 136) (tgt := 143) hB dX10_cracks_136 (by decide) (fun c_136 => ?_) (fun c_136 => ?_)
            · have hge := (nI_leI (by omega) (by omega)).mp c_136
              have hR4 : RM (upd R3 (9 + 3 + 27 * j + 3 * z) (R3 (9 + 3 + 27 * j + 3 * z) + 0)) (pushM i j (nLy M i j) (nI (q + 1)) M3) i := by
                rw [upd_self, pushM_no (fun w => absurd w.2 (nI_nlt hge (by omega)))]
                exact hR3
              refine V.iconst (pc := 143) (v := 0) hB dX10_cracks_143 rfl ?_
              refine V.iadd (pc := 144) hB dX10_cracks_144 ?_
              refine V.iastM (pc := 145) hB (ca_Now) dX10_cracks_145 (ix_nI (by omega) (by decide)) (by decide) ?_
              rw [up_eq, setRow_same, setRow_set]
              rw [← hstep] at hR4
              have nxt := ih hlt sz (some (.int (nI (9 + 3 + 27 * j + 3 * q)))) _ (hF.trans (MFr.row mm _)) (by rw [setRow_same]; exact hR4)
              rw [hcnt] at nxt
              refine V.iinc (pc := 146) (v := nI ((ckN (nI j) (M.1 (LA i) 3) i j (nLy M i j) M q) + 1)) hB dX10_cracks_146 rfl (nI_1 _) (by decide) rfl ?_
              refine V.iinc (pc := 149) (v := nI (q + 1)) hB dX10_cracks_149 rfl (nI_1 _) (by decide) rfl ?_
              refine V.goto (pc := 152) (tgt := 12) hB dX10_cracks_152 (by decide) ?_
              exact nxt
            · have hlt2 : q + 1 < (nLy M i j) := Nat.not_le.mp (fun w => c_136 ((nI_leI (by omega) (by omega)).mpr w))
              have hz2 : z = q + 1 := by omega
              have hR4 : RM (upd R3 (9 + 3 + 27 * j + 3 * z) (R3 (9 + 3 + 27 * j + 3 * z) + 5)) (pushM i j (nLy M i j) (nI (q + 1)) M3) i := by
                rw [hz2, ← hN3]
                exact hR3.push (by rw [hn3]; exact hj) (by rw [hN3]; exact hlt2)
              refine V.iconst (pc := 139) (v := 5) hB dX10_cracks_139 rfl ?_
              refine V.goto (pc := 140) (tgt := 144) hB dX10_cracks_140 (by decide) ?_
              refine V.iadd (pc := 144) hB dX10_cracks_144 ?_
              refine V.iastM (pc := 145) hB (ca_Now) dX10_cracks_145 (ix_nI (by omega) (by decide)) (by decide) ?_
              rw [up_eq, setRow_same, setRow_set]
              rw [← hstep] at hR4
              have nxt := ih hlt sz (some (.int (nI (9 + 3 + 27 * j + 3 * q)))) _ (hF.trans (MFr.row mm _)) (by rw [setRow_same]; exact hR4)
              rw [hcnt] at nxt
              refine V.iinc (pc := 146) (v := nI ((ckN (nI j) (M.1 (LA i) 3) i j (nLy M i j) M q) + 1)) hB dX10_cracks_146 rfl (nI_1 _) (by decide) rfl ?_
              refine V.iinc (pc := 149) (v := nI (q + 1)) hB dX10_cracks_149 rfl (nI_1 _) (by decide) rfl ?_
              refine V.goto (pc := 152) (tgt := 12) hB dX10_cracks_152 (by decide) ?_
              exact nxt
          · have hq0 : 0 < q := Nat.pos_of_ne_zero (fun z => c_99 (by rw [z]; decide))
            have hR3 : RM (upd R2 (9 + 3 + 27 * j + 3 * (q - 1)) (R2 (9 + 3 + 27 * j + 3 * (q - 1)) + 5)) (pushM i j (nLy M i j) (nI q - 1) M2) i := by
              rw [show nI q - 1 = nI (q - 1) from nI_subN (b := 1) (by omega), ← hN2]
              exact hR2.push (by rw [hn2]; exact hj) (by rw [hN2]; omega)
            refine V.iconst (pc := 102) (v := 5) hB dX10_cracks_102 rfl ?_
            refine V.goto (pc := 103) (tgt := 107) hB dX10_cracks_103 (by decide) ?_
            refine V.iadd (pc := 107) hB dX10_cracks_107 ?_
            refine V.iastM (pc := 108) hB (ca_Now) dX10_cracks_108 (ix_nI (by omega) (by decide)) (by decide) ?_
            rw [up_eq, setRow_same, setRow_set]
            obtain ⟨R3, hR3e⟩ : ∃ R3, R3 = upd R2 (9 + 3 + 27 * j + 3 * (q - 1)) (R2 (9 + 3 + 27 * j + 3 * (q - 1)) + 5) := ⟨_, rfl⟩
            obtain ⟨M3, hM3e⟩ : ∃ M3, M3 = pushM i j (nLy M i j) (nI q - 1) M2 := ⟨_, rfl⟩
            rw [← hR3e] at hR3 ⊢
            rw [← hM3e] at hR3 hstep
            have hn3 : nLk M3 i = nLk M i := by rw [hM3e]; show ((pushM i j (nLy M i j) (nI q - 1) M2).1 (LA i) 1).toNatClampNeg = _; rw [pushM_cell (by omega)]; exact hn2
            have hN3 : nLy M3 i j = (nLy M i j) := by rw [hM3e]; show ((pushM i j (nLy M i j) (nI q - 1) M2).1 (LK i j) 3).toNatClampNeg = _; rw [pushM_cell (by omega)]; exact hN2
            refine V.aload_n (pc := 109) hB dX10_cracks_109 rfl ?_
            refine V.get (pc := 110) hB fk_Model 0 wf_X10_9 dX10_cracks_110 (by decide) (hp_at (ca_Model _)) rfl ?_
            refine V.iload_n (pc := 113) hB dX10_cracks_113 rfl ?_
            refine V.iload_n (pc := 114) hB dX10_cracks_114 rfl ?_
            refine V.iconst (pc := 115) (v := 1) hB dX10_cracks_115 rfl ?_
            refine V.isub (pc := 116) hB dX10_cracks_116 ?_
            rw [show nI (nLy M i j) - 1 = nI ((nLy M i j) - 1) from nI_subN (b := 1) (by omega)]
            refine V.iload (pc := 117) hB dX10_cracks_117 rfl ?_
            refine V.iconst (pc := 119) (v := 1) hB dX10_cracks_119 rfl ?_
            refine V.iadd (pc := 120) hB dX10_cracks_120 ?_
            rw [nI1]
            refine V.cs (pc := 121) hB cw_J9_min_7cf53 wm_X10_92 wst_J9_min_7cf53 dX10_cracks_121 (c_J9_min_7cf53 hG) (by omega) (by decide) rfl (by exact Nat.le_of_ble_eq_true rfl) (by omega) (by omega) kN (kI (fun v_121 m_121 sz h_121 => ?_)) rfl
            obtain ⟨rfl, hm_121⟩ := h_121
            obtain rfl := hm_121.symm
            rw [minN (a := (nLy M i j) - 1) (b := q + 1) (by omega) (by omega)]
            refine V.cs (pc := 124) hB cw_X10_layerPlace wm_X10_85 wst_X10_layerPlace dX10_cracks_124 (c_X10_layerPlace hG (j := j) (y := min ((nLy M i j) - 1) (q + 1)) rfl rfl) (by omega) (by decide) rfl (by exact Nat.le_of_ble_eq_true rfl) (by omega) (by omega) kN (kI (fun v_124 m_124 sz h_124 => ?_)) rfl
            obtain ⟨rfl, hm_124⟩ := h_124
            obtain rfl := hm_124.symm
            refine V.iconst (pc := 127) (v := 2) hB dX10_cracks_127 rfl ?_
            refine V.iadd (pc := 128) hB dX10_cracks_128 ?_
            obtain ⟨z, hz⟩ : ∃ z, z = min ((nLy M i j) - 1) (q + 1) := ⟨_, rfl⟩
            rw [← hz]
            rw [show nI (10 + 27 * j + 3 * z) + 2 = nI (9 + 3 + 27 * j + 3 * z) from (nI_add _ 2).trans (congrArg nI (by omega))]
            refine V.dup2 (pc := 129) hB dX10_cracks_129 rfl rfl ?_
            refine V.ialdM (pc := 130) hB (ca_Now) dX10_cracks_130 (ix_nI (by omega) (by decide)) ?_
            rw [setRow_same]
            refine V.iload (pc := 131) hB dX10_cracks_131 rfl ?_
            refine V.iconst (pc := 133) (v := 1) hB dX10_cracks_133 rfl ?_
            refine V.iadd (pc := 134) hB dX10_cracks_134 ?_
            rw [nI1]
            refine V.iload_n (pc := 135) hB dX10_cracks_135 rfl ?_
            refine V.icmp_ge (pc := 136) (tgt := 143) hB dX10_cracks_136 (by decide) (fun c_136 => ?_) (fun c_136 => ?_)
            · have hge := (nI_leI (by omega) (by omega)).mp c_136
              have hR4 : RM (upd R3 (9 + 3 + 27 * j + 3 * z) (R3 (9 + 3 + 27 * j + 3 * z) + 0)) (pushM i j (nLy M i j) (nI (q + 1)) M3) i := by
                rw [upd_self, pushM_no (fun w => absurd w.2 (nI_nlt hge (by omega)))]
                exact hR3
              refine V.iconst (pc := 143) (v := 0) hB dX10_cracks_143 rfl ?_
              refine V.iadd (pc := 144) hB dX10_cracks_144 ?_
              refine V.iastM (pc := 145) hB (ca_Now) dX10_cracks_145 (ix_nI (by omega) (by decide)) (by decide) ?_
              rw [up_eq, setRow_same, setRow_set]
              rw [← hstep] at hR4
              have nxt := ih hlt sz (some (.int (nI (9 + 3 + 27 * j + 3 * q)))) _ (hF.trans (MFr.row mm _)) (by rw [setRow_same]; exact hR4)
              rw [hcnt] at nxt
              refine V.iinc (pc := 146) (v := nI ((ckN (nI j) (M.1 (LA i) 3) i j (nLy M i j) M q) + 1)) hB dX10_cracks_146 rfl (nI_1 _) (by decide) rfl ?_
              refine V.iinc (pc := 149) (v := nI (q + 1)) hB dX10_cracks_149 rfl (nI_1 _) (by decide) rfl ?_
              refine V.goto (pc := 152) (tgt := 12) hB dX10_cracks_152 (by decide) ?_
              exact nxt
            · have hlt2 : q + 1 < (nLy M i j) := Nat.not_le.mp (fun w => c_136 ((nI_leI (by omega) (by omega)).mpr w))
              have hz2 : z = q + 1 := by omega
              have hR4 : RM (upd R3 (9 + 3 + 27 * j + 3 * z) (R3 (9 + 3 + 27 * j + 3 * z) + 5)) (pushM i j (nLy M i j) (nI (q + 1)) M3) i := by
                rw [hz2, ← hN3]
                exact hR3.push (by rw [hn3]; exact hj) (by rw [hN3]; exact hlt2)
              refine V.iconst (pc := 139) (v := 5) hB dX10_cracks_139 rfl ?_
              refine V.goto (pc := 140) (tgt := 144) hB dX10_cracks_140 (by decide) ?_
              refine V.iadd (pc := 144) hB dX10_cracks_144 ?_
              refine V.iastM (pc := 145) hB (ca_Now) dX10_cracks_145 (ix_nI (by omega) (by decide)) (by decide) ?_
              rw [up_eq, setRow_same, setRow_set]
              rw [← hstep] at hR4
              have nxt := ih hlt sz (some (.int (nI (9 + 3 + 27 * j + 3 * q)))) _ (hF.trans (MFr.row mm _)) (by rw [setRow_same]; exact hR4)
              rw [hcnt] at nxt
              refine V.iinc (pc := 146) (v := nI ((ckN (nI j) (M.1 (LA i) 3) i j (nLy M i j) M q) + 1)) hB dX10_cracks_146 rfl (nI_1 _) (by decide) rfl ?_
              refine V.iinc (pc := 149) (v := nI (q + 1)) hB dX10_cracks_149 rfl (nI_1 _) (by decide) rfl ?_
              refine V.goto (pc := 152) (tgt := 12) hB dX10_cracks_152 (by decide) ?_
              exact nxt
  refine V.aload_n (pc := 0) hB dX10_cracks_0 rfl ?_
  refine V.iload_n (pc := 1) hB dX10_cracks_1 rfl ?_
  refine V.iconst (pc := 2) (v := 2) hB dX10_cracks_2 rfl ?_
  refine V.cv (pc := 3) hB cw_X10_of wm_X10_77 wi_X10_of ws_X10_of dX10_cracks_3 (c_X10_of hG hM (k := 2) (by decide) rfl) (hp_at (ca_Model _)) fk_Model rfl (by omega) (by decide) rfl (by exact Nat.le_of_ble_eq_true rfl) (by omega) (by omega) kN (kI (fun v_3 m_3 sz h_3 => ?_)) rfl
  obtain ⟨rfl, hm_3⟩ := h_3
  obtain rfl := hm_3.symm
  rw [hR.many hj]
  refine V.istore_n (pc := 6) hB dX10_cracks_6 (by decide) rfl ?_
  refine V.iconst (pc := 7) (v := 0) hB dX10_cracks_7 rfl ?_
  refine V.istore_n (pc := 8) hB dX10_cracks_8 (by decide) rfl ?_
  refine V.iconst (pc := 9) (v := 0) hB dX10_cracks_9 rfl ?_
  refine V.istore (pc := 10) hB dX10_cracks_10 (by decide) rfl ?_
  exact loop 0 (by omega) sz _ m (MFr.refl m) hR
