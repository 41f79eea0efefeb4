/-! the law's check of the hours ahead -/
set_option maxRecDepth 100000 in
set_option maxHeartbeats 4000000 in
theorem c_L_areHoursRight {g : xG} (hG : GK g) {K : Nat} {m : Mem} (hV : IV g K m) {z : Nat} (hz5 : z < 5) : CC g yL_areHoursRight (.code yL_areHoursRight cL_areHoursRight 10 (some .boolean)) 10 1000 6000 [.ref (ad g 0), .int (nI z)] m (rI (fun v m2 => v = 1 ∧ IV g K m2)) noX := by
  have hL := hV.lw
  have h5 := hL.nl5
  obtain ⟨c96, hc96⟩ : ∃ c, c = hrF (-2004) (fC m) 96 := ⟨_, rfl⟩
  obtain ⟨d96, hd96⟩ : ∃ c, c = hrF (t0T m z) (fT m z) 96 := ⟨_, rfl⟩
  refine CC.mk hG RL rfl (by decide +kernel) rfl (Nat.le_of_ble_eq_true rfl) (fun sz B hB hX => ?_)
  show V g B 0 0 _ (hp g m) sz 0 [some (.ref (ad g 0)), some (.int (nI z)), none, none, none, none, none, none, none, none] []
  have k136 : ∀ q : Nat, q < 96 → (∀ (sz : Nat) (M : Mem) (x5 : Int32) (x9 : Option Value), HQ g K m (q + 1) M → V g B (406 + 2 * q) (2436 + 12 * q) (QM g B 1000 6000 (rI (fun v m2 => v = 1 ∧ IV g K m2)) noX) (hp g M) sz 75 [some (.ref (ad g 0)), some (.int (nI z)), some (.int (lkV m)), some (.int c96), some (.int d96), some (.int x5), some (.int (hrF (-2004) (fC m) (q + 1))), some (.int (hrF (t0T m z) (fT m z) (q + 1))), some (.int (nI (q + 1 + 1))), x9] []) → ∀ (sz : Nat) (M : Mem) (x5 x7 w : Int32) (x9 : Option Value), HQ g K m (q + 1) M → w = hrF (t0T m z) (fT m z) (q + 1) → V g B (406 + 2 * q) (2436 + 12 * q) (QM g B 1000 6000 (rI (fun v m2 => v = 1 ∧ IV g K m2)) noX) (hp g M) sz 136 [some (.ref (ad g 0)), some (.int (nI z)), some (.int (lkV m)), some (.int c96), some (.int d96), some (.int x5), some (.int (hrF (-2004) (fC m) (q + 1))), some (.int x7), some (.int (nI (q + 1))), x9] [.int w] := by
    intro q hq kk sz M x5 x7 w x9 hM hw
    refine V.istore (pc := 136) hB dL_areHoursRight_136 (by decide) rfl ?_
    subst hw
    refine V.iinc (pc := 138) (v := nI ((q + 1) + 1)) hB dL_areHoursRight_138 rfl (nI_1 _) (by decide) rfl ?_
    refine V.goto (pc := 141) (tgt := 75) hB dL_areHoursRight_141 (by decide) ?_
    exact kk _ _ _ _ hM
  have k108 : ∀ q : Nat, q < 96 → (∀ (sz : Nat) (M : Mem) (x5 : Int32) (x9 : Option Value), HQ g K m (q + 1) M → V g B (406 + 2 * q) (2436 + 12 * q) (QM g B 1000 6000 (rI (fun v m2 => v = 1 ∧ IV g K m2)) noX) (hp g M) sz 75 [some (.ref (ad g 0)), some (.int (nI z)), some (.int (lkV m)), some (.int c96), some (.int d96), some (.int x5), some (.int (hrF (-2004) (fC m) (q + 1))), some (.int (hrF (t0T m z) (fT m z) (q + 1))), some (.int (nI (q + 1 + 1))), x9] []) → ∀ (sz : Nat) (M : Mem) (x5 x6 w : Int32) (x9 : Option Value), HQ g K m (q + 1) M → w = hrF (-2004) (fC m) (q + 1) → V g B (405 + 2 * q) (2430 + 12 * q) (QM g B 1000 6000 (rI (fun v m2 => v = 1 ∧ IV g K m2)) noX) (hp g M) sz 106 [some (.ref (ad g 0)), some (.int (nI z)), some (.int (lkV m)), some (.int c96), some (.int d96), some (.int x5), some (.int x6), some (.int (hrF (t0T m z) (fT m z) (q))), some (.int (nI (q + 1))), x9] [.int w] := by
    intro q hq kk sz M x5 x6 w x9 hM hw
    have hnl : nLk M 0 = nLk m 0 := by rw [hM.2.1.nl, (hours_LW hL _).2]
    refine V.istore (pc := 106) hB dL_areHoursRight_106 (by decide) rfl ?_
    subst hw
    refine V.iload (pc := 108) hB dL_areHoursRight_108 rfl ?_
    refine V.if_ge (pc := 110) (tgt := 134) hB dL_areHoursRight_110 (by decide) (fun c_110 => ?_) (fun c_110 => ?_)
    · have hs1 : hrF (t0T m z) (fT m z) (q + 1) = if hrF (t0T m z) (fT m z) q < 0 ∧ fT m z q = true then nI (q + 1) else hrF (t0T m z) (fT m z) q := rfl
      have hw2 : hrF (t0T m z) (fT m z) q = hrF (t0T m z) (fT m z) (q + 1) := by rw [hs1, if_neg (fun y => absurd y.1 (Int32.not_lt.mpr c_110))]
      refine V.iload (pc := 134) hB dL_areHoursRight_134 rfl ?_
      exact V.wid (by omega) (by omega) (k136 q hq kk _ _ _ _ _ _ hM hw2)
    · have hs1 : hrF (t0T m z) (fT m z) (q + 1) = if hrF (t0T m z) (fT m z) q < 0 ∧ fT m z q = true then nI (q + 1) else hrF (t0T m z) (fT m z) q := rfl
      have hlt : hrF (t0T m z) (fT m z) q < 0 := Int32.not_le.mp c_110
      refine V.iload_n (pc := 113) hB dL_areHoursRight_113 rfl ?_
      refine V.aload_n (pc := 114) hB dL_areHoursRight_114 rfl ?_
      refine V.cv (pc := 115) hB cw_X9_lakeCount wm_L_107 wi_X9_lakeCount ws_X9_lakeCount dL_areHoursRight_115 (c_X9_lakeCount hG) (hp_at (ca_Bells _)) fk_Bells rfl (by omega) (by decide) rfl (by exact Nat.le_of_ble_eq_true rfl) (by omega) (by omega) kN (kI (fun v_115 m_115 sz h_115 => ?_)) rfl
      obtain ⟨rfl, hm_115⟩ := h_115
      rw [hm_115]
      rw [hM.1.lw.nl, hnl]
      refine V.icmp_ge (pc := 118) (tgt := 134) hB dL_areHoursRight_118 (by decide) (fun c_118 => ?_) (fun c_118 => ?_)
      · have hz : ¬ z < nLk m 0 := Nat.not_lt.mpr ((nI_leI (by omega) (by omega)).mp c_118)
        have hw2 : hrF (t0T m z) (fT m z) q = hrF (t0T m z) (fT m z) (q + 1) := by rw [hs1, if_neg (fun y => hz (of_decide_eq_true y.2).1)]
        refine V.iload (pc := 134) hB dL_areHoursRight_134 rfl ?_
        exact V.wid (by omega) (by omega) (k136 q hq kk _ _ _ _ _ _ hM hw2)
      · have hz : z < nLk m 0 := Nat.not_le.mp (fun y => c_118 ((nI_leI (by omega) (by omega)).mpr y))
        refine V.aload_n (pc := 121) hB dL_areHoursRight_121 rfl ?_
        refine V.iload_n (pc := 122) hB dL_areHoursRight_122 rfl ?_
        refine V.cv (pc := 123) hB cw_X9_layerCount wm_L_133 wi_X9_layerCount ws_X9_layerCount dL_areHoursRight_123 (r_layers hG hM.1.ci (show z < nLk M 0 by omega)) (hp_at (ca_Bells _)) fk_Bells rfl (by omega) (by decide) rfl (by exact Nat.le_of_ble_eq_true rfl) (by omega) (by omega) kN (kI (fun v_123 m_123 sz h_123 => ?_)) rfl
        obtain ⟨rfl, hm_123⟩ := h_123
        rw [hm_123]
        rw [hM.2.1.ny (by rw [(hours_LW hL _).2]; exact hz)]
        have h8 : nLy (hoursM 0 m (q + 1)) 0 z ≤ 8 := ((hours_LW hL (q + 1)).1.ln (by rw [(hours_LW hL _).2]; exact hz)).2
        refine V.if_ne (pc := 126) (tgt := 134) hB dL_areHoursRight_126 (by decide) (fun c_126 => ?_) (fun c_126 => ?_)
        · have hw2 : hrF (t0T m z) (fT m z) q = hrF (t0T m z) (fT m z) (q + 1) := by rw [hs1, if_neg (fun y => c_126 (by rw [(of_decide_eq_true y.2).2]; rfl))]
          refine V.iload (pc := 134) hB dL_areHoursRight_134 rfl ?_
          exact V.wid (by omega) (by omega) (k136 q hq kk _ _ _ _ _ _ hM hw2)
        · have hw2 : nI (q + 1) = hrF (t0T m z) (fT m z) (q + 1) := by rw [hs1, if_pos ⟨hlt, decide_eq_true ⟨hz, (nI_inj' (b := 0) (by omega) (by decide)).mp c_126⟩⟩]
          refine V.iload (pc := 129) hB dL_areHoursRight_129 rfl ?_
          refine V.goto (pc := 131) (tgt := 136) hB dL_areHoursRight_131 (by decide) ?_
          exact V.wid (by omega) (by omega) (k136 q hq kk _ _ _ _ _ _ hM hw2)
  have lp : ∀ p q : Nat, q + p = 96 → ∀ (sz : Nat) (M : Mem) (x5 : Int32) (x9 : Option Value), HQ g K m q M → V g B (404 + 2 * q) (2424 + 12 * q) (QM g B 1000 6000 (rI (fun v m2 => v = 1 ∧ IV g K m2)) noX) (hp g M) sz 75 [some (.ref (ad g 0)), some (.int (nI z)), some (.int (lkV m)), some (.int c96), some (.int d96), some (.int x5), some (.int (hrF (-2004) (fC m) (q))), some (.int (hrF (t0T m z) (fT m z) (q))), some (.int (nI (q + 1))), x9] [] := by
    refine loop_dn (fun p ih q hqp sz M x5 x9 hM => ?_)
    refine V.iload (pc := 75) hB dL_areHoursRight_75 rfl ?_
    refine V.bipush (pc := 77) (v := 96) hB dL_areHoursRight_77 rfl ?_
    refine V.icmp_gt (pc := 79) (tgt := 144) hB dL_areHoursRight_79 (by decide) (fun c_79 => ?_) (fun c_79 => ?_)
    · have h96 : q = 96 := by have := (nI_lt' (a := 96) (by decide) (by omega)).mp c_79; omega
      have e6 : hrF (-2004) (fC m) q = c96 := by rw [h96]; exact hc96.symm
      have e7 : hrF (t0T m z) (fT m z) q = d96 := by rw [h96]; exact hd96.symm
      rw [e6, e7]
      refine V.aload_n (pc := 144) hB dL_areHoursRight_144 rfl ?_
      refine V.cv (pc := 145) hB cw_X9_restore wm_L_246 wi_X9_restore ws_X9_restore dL_areHoursRight_145 (r_restore hG hM.1.ci hM.2.2.2) (hp_at (ca_Bells _)) fk_Bells rfl (by omega) (by decide) rfl (by exact Nat.le_of_ble_eq_true rfl) (by omega) (by omega) kN (kI (fun v_145 m_145 sz h_145 => ?_)) rfl
      have hb := HQ.back hV hM
      rw [← h_145] at hb
      refine V.istore (pc := 148) hB dL_areHoursRight_148 (by decide) rfl ?_
      refine V.iload_n (pc := 150) hB dL_areHoursRight_150 rfl ?_
      refine V.iload (pc := 151) hB dL_areHoursRight_151 rfl ?_
      refine V.icmp_ne (pc := 153) (tgt := 175) hB dL_areHoursRight_153 (by decide) (fun c_153 => ?_) (fun c_153 => ?_)
      · exact absurd rfl c_153
      · refine V.iload (pc := 156) hB dL_areHoursRight_156 rfl ?_
        refine V.iload (pc := 158) hB dL_areHoursRight_158 rfl ?_
        refine V.icmp_ne (pc := 160) (tgt := 175) hB dL_areHoursRight_160 (by decide) (fun c_160 => ?_) (fun c_160 => ?_)
        · exact absurd rfl c_160
        · refine V.aload_n (pc := 163) hB dL_areHoursRight_163 rfl ?_
          refine V.cs (pc := 164) hB cw_L_looks wm_L_239 wst_L_looks dL_areHoursRight_164 (c_L_looks hG hb.1.ci) (by omega) (by decide) rfl (by exact Nat.le_of_ble_eq_true rfl) (by omega) (by omega) kN (kI (fun v_164 m_164 sz h_164 => ?_)) rfl
          obtain ⟨hv_164, hm_164⟩ := h_164
          rw [sm_lkV hb.2 hL] at hv_164
          obtain rfl := hv_164
          rw [hm_164]
          refine V.iload_n (pc := 167) hB dL_areHoursRight_167 rfl ?_
          refine V.icmp_ne (pc := 168) (tgt := 175) hB dL_areHoursRight_168 (by decide) (fun c_168 => ?_) (fun c_168 => ?_)
          · exact absurd rfl c_168
          · refine V.iconst (pc := 171) (v := 1) hB dL_areHoursRight_171 rfl ?_
            refine V.goto (pc := 172) (tgt := 176) hB dL_areHoursRight_172 (by decide) ?_
            refine V.retI (pc := 176) hB dL_areHoursRight_176 rfl (rfl) (by omega) (by omega) ?_
            exact ⟨rfl, hb.1⟩
    · have hq : q < 96 := Nat.not_le.mp (fun y => c_79 ((nI_lt' (a := 96) (by decide) (by omega)).mpr (by omega)))
      have hkk := fun (sz : Nat) (M : Mem) (x5 : Int32) (x9 : Option Value) (hM : HQ g K m (q + 1) M) => ih (95 - q) (by omega) (q + 1) (by omega) sz M x5 x9 hM
      have hc40 : hourN 0 (hoursM 0 m q) ≤ 40 := hourN_le (hours_LW hL q).1
      refine V.aload_n (pc := 82) hB dL_areHoursRight_82 rfl ?_
      refine V.iconst (pc := 83) (v := 1) hB dL_areHoursRight_83 rfl ?_
      refine V.cv (pc := 84) hB cw_X9_pass wm_L_28 wi_X9_pass ws_X9_pass dL_areHoursRight_84 (r_pass1 hG hL hM) (hp_at (ca_Bells _)) fk_Bells rfl (by omega) (by decide) rfl (by exact Nat.le_of_ble_eq_true rfl) (by omega) (by omega) kN (kI (fun v_84 m_84 sz h_84 => ?_)) rfl
      obtain ⟨rfl, hM2⟩ := h_84
      refine V.istore (pc := 87) hB dL_areHoursRight_87 (by decide) rfl ?_
      refine V.iload (pc := 89) hB dL_areHoursRight_89 rfl ?_
      refine V.if_ge (pc := 91) (tgt := 104) hB dL_areHoursRight_91 (by decide) (fun c_91 => ?_) (fun c_91 => ?_)
      · have hs1 : hrF (-2004) (fC m) (q + 1) = if hrF (-2004) (fC m) q < 0 ∧ fC m q = true then nI (q + 1) else hrF (-2004) (fC m) q := rfl
        have hw1 : hrF (-2004) (fC m) q = hrF (-2004) (fC m) (q + 1) := by rw [hs1, if_neg (fun y => absurd y.1 (Int32.not_lt.mpr c_91))]
        refine V.iload (pc := 104) hB dL_areHoursRight_104 rfl ?_
        exact V.wid (by omega) (by omega) (k108 q hq (fun sz M x5 x9 hM => V.wid (by omega) (by omega) (hkk sz M x5 x9 hM)) _ _ _ _ _ _ hM2 hw1)
      · have hs1 : hrF (-2004) (fC m) (q + 1) = if hrF (-2004) (fC m) q < 0 ∧ fC m q = true then nI (q + 1) else hrF (-2004) (fC m) q := rfl
        have hlt : hrF (-2004) (fC m) q < 0 := Int32.not_le.mp c_91
        refine V.iload (pc := 94) hB dL_areHoursRight_94 rfl ?_
        refine V.if_le (pc := 96) (tgt := 104) hB dL_areHoursRight_96 (by decide) (fun c_96 => ?_) (fun c_96 => ?_)
        · have hw1 : hrF (-2004) (fC m) q = hrF (-2004) (fC m) (q + 1) := by rw [hs1, if_neg (fun y => absurd (of_decide_eq_true y.2) (by have := (nI_leI (b := 0) (by omega) (by decide)).mp c_96; omega))]
          refine V.iload (pc := 104) hB dL_areHoursRight_104 rfl ?_
          exact V.wid (by omega) (by omega) (k108 q hq (fun sz M x5 x9 hM => V.wid (by omega) (by omega) (hkk sz M x5 x9 hM)) _ _ _ _ _ _ hM2 hw1)
        · have hw1 : nI (q + 1) = hrF (-2004) (fC m) (q + 1) := by rw [hs1, if_pos ⟨hlt, decide_eq_true (Nat.pos_of_ne_zero (fun y => c_96 (by rw [y]; decide)))⟩]
          refine V.iload (pc := 99) hB dL_areHoursRight_99 rfl ?_
          refine V.goto (pc := 101) (tgt := 106) hB dL_areHoursRight_101 (by decide) ?_
          exact V.wid (by omega) (by omega) (k108 q hq (fun sz M x5 x9 hM => V.wid (by omega) (by omega) (hkk sz M x5 x9 hM)) _ _ _ _ _ _ hM2 hw1)
  have k70 : ∀ (sz : Nat) (M : Mem) (x5 w : Int32), HQ g K m 0 M → w = t0T m z → V g B (404) (2424) (QM g B 1000 6000 (rI (fun v m2 => v = 1 ∧ IV g K m2)) noX) (hp g M) sz 70 [some (.ref (ad g 0)), some (.int (nI z)), some (.int (lkV m)), some (.int c96), some (.int d96), some (.int x5), some (.int (-2004)), none, none, none] [.int w] := by
    intro sz M x5 w hM hw
    refine V.istore (pc := 70) hB dL_areHoursRight_70 (by decide) rfl ?_
    subst hw
    refine V.iconst (pc := 72) (v := 1) hB dL_areHoursRight_72 rfl ?_
    refine V.istore (pc := 73) hB dL_areHoursRight_73 (by decide) rfl ?_
    exact V.wid (k' := 404 + 2 * 0) (n' := 2424 + 12 * 0) (by omega) (by omega) (lp 96 0 (by omega) _ _ _ _ hM)
  have k36 : ∀ (sz : Nat) (M : Mem) (w : Int32), TR1 m M → w = d96 → V g B (403) (2418) (QM g B 1000 6000 (rI (fun v m2 => v = 1 ∧ IV g K m2)) noX) (hp g M) sz 34 [some (.ref (ad g 0)), some (.int (nI z)), some (.int (lkV m)), some (.int c96), none, none, none, none, none, none] [.int w] := by
    intro sz M w hT hw
    refine V.istore (pc := 34) hB dL_areHoursRight_34 (by decide) rfl ?_
    subst hw
    refine V.aload_n (pc := 36) hB dL_areHoursRight_36 rfl ?_
    refine V.cv (pc := 37) hB cw_X9_save wm_L_243 wi_X9_save ws_X9_save dL_areHoursRight_37 (c_X9_save hG (hT.iv hV).ci) (hp_at (ca_Bells _)) fk_Bells rfl (by omega) (by decide) rfl (by exact Nat.le_of_ble_eq_true rfl) (by omega) (by omega) kN (kI (fun v_37 m_37 sz h_37 => ?_)) rfl
    obtain ⟨-, rfl⟩ := h_37
    have hS : HQ g K m 0 (up (cpLand 2 0 M) 0 3 1) := HQ.start hV hT
    have hnl : nLk (up (cpLand 2 0 M) 0 3 1) 0 = nLk m 0 := hS.2.1.nl
    refine V.istore (pc := 40) hB dL_areHoursRight_40 (by decide) rfl ?_
    refine V.sipush (pc := 42) (v := (-2004)) hB dL_areHoursRight_42 rfl ?_
    refine V.istore (pc := 45) hB dL_areHoursRight_45 (by decide) rfl ?_
    refine V.iload_n (pc := 47) hB dL_areHoursRight_47 rfl ?_
    refine V.aload_n (pc := 48) hB dL_areHoursRight_48 rfl ?_
    refine V.cv (pc := 49) hB cw_X9_lakeCount wm_L_107 wi_X9_lakeCount ws_X9_lakeCount dL_areHoursRight_49 (c_X9_lakeCount hG) (hp_at (ca_Bells _)) fk_Bells rfl (by omega) (by decide) rfl (by exact Nat.le_of_ble_eq_true rfl) (by omega) (by omega) kN (kI (fun v_49 m_49 sz h_49 => ?_)) rfl
    obtain ⟨rfl, hm_49⟩ := h_49
    rw [hm_49]
    rw [hS.1.lw.nl, hnl]
    refine V.icmp_ge (pc := 52) (tgt := 67) hB dL_areHoursRight_52 (by decide) (fun c_52 => ?_) (fun c_52 => ?_)
    · have hz : ¬ z < nLk m 0 := Nat.not_lt.mpr ((nI_leI (by omega) (by omega)).mp c_52)
      have hw7 : (-2004 : Int32) = t0T m z := (if_neg (fun y => hz y.1)).symm
      refine V.sipush (pc := 67) (v := (-2004)) hB dL_areHoursRight_67 rfl ?_
      exact V.wid (by omega) (by omega) (k70 _ _ _ _ hS hw7)
    · have hz : z < nLk m 0 := Nat.not_le.mp (fun y => c_52 ((nI_leI (by omega) (by omega)).mpr y))
      have h8 : nLy m 0 z ≤ 8 := (hL.ln hz).2
      refine V.aload_n (pc := 55) hB dL_areHoursRight_55 rfl ?_
      refine V.iload_n (pc := 56) hB dL_areHoursRight_56 rfl ?_
      refine V.cv (pc := 57) hB cw_X9_layerCount wm_L_133 wi_X9_layerCount ws_X9_layerCount dL_areHoursRight_57 (r_layers hG hS.1.ci (show z < nLk _ 0 by omega)) (hp_at (ca_Bells _)) fk_Bells rfl (by omega) (by decide) rfl (by exact Nat.le_of_ble_eq_true rfl) (by omega) (by omega) kN (kI (fun v_57 m_57 sz h_57 => ?_)) rfl
      obtain ⟨rfl, hm_57⟩ := h_57
      rw [hm_57]
      rw [show nLy (up (cpLand 2 0 M) 0 3 1) 0 z = nLy m 0 z from hS.2.1.ny hz]
      refine V.if_ne (pc := 60) (tgt := 67) hB dL_areHoursRight_60 (by decide) (fun c_60 => ?_) (fun c_60 => ?_)
      · have hw7 : (-2004 : Int32) = t0T m z := (if_neg (fun y => c_60 (by rw [y.2]; rfl))).symm
        refine V.sipush (pc := 67) (v := (-2004)) hB dL_areHoursRight_67 rfl ?_
        exact V.wid (by omega) (by omega) (k70 _ _ _ _ hS hw7)
      · have hw7 : (0 : Int32) = t0T m z := (if_pos ⟨hz, (nI_inj' (b := 0) (by omega) (by decide)).mp c_60⟩).symm
        refine V.iconst (pc := 63) (v := 0) hB dL_areHoursRight_63 rfl ?_
        refine V.goto (pc := 64) (tgt := 70) hB dL_areHoursRight_64 (by decide) ?_
        exact V.wid (by omega) (by omega) (k70 _ _ _ _ hS hw7)
  refine V.aload_n (pc := 0) hB dL_areHoursRight_0 rfl ?_
  refine V.cs (pc := 1) hB cw_L_looks wm_L_239 wst_L_looks dL_areHoursRight_1 (c_L_looks hG hV.ci) (by omega) (by decide) rfl (by exact Nat.le_of_ble_eq_true rfl) (by omega) (by omega) kN (kI (fun v_1 m_1 sz h_1 => ?_)) rfl
  obtain ⟨rfl, hm_1⟩ := h_1
  rw [hm_1]
  refine V.istore_n (pc := 4) hB dL_areHoursRight_4 (by decide) rfl ?_
  refine V.aload_n (pc := 5) hB dL_areHoursRight_5 rfl ?_
  refine V.iconst (pc := 6) (v := 3) hB dL_areHoursRight_6 rfl ?_
  refine V.iconst (pc := 7) (v := 0) hB dL_areHoursRight_7 rfl ?_
  refine V.iconst (pc := 8) (v := 0) hB dL_areHoursRight_8 rfl ?_
  refine V.csW (pc := 9) hB cwx_L_ask wm_L_160 wst_L_ask dL_areHoursRight_9 (a3 hG hV.ci) (by omega) (by decide) rfl (by exact Nat.le_of_ble_eq_true rfl) (by omega) (by omega) (kI (fun v_9 m_9 sz h_9 => ?_)) rfl
  obtain ⟨h9a, hT⟩ := crack_told hL h_9
  rw [← hc96] at h9a
  subst h9a
  refine V.istore_n (pc := 12) hB dL_areHoursRight_12 (by decide) rfl ?_
  refine V.iload_n (pc := 13) hB dL_areHoursRight_13 rfl ?_
  refine V.aload_n (pc := 14) hB dL_areHoursRight_14 rfl ?_
  refine V.cv (pc := 15) hB cw_X9_lakeCount wm_L_107 wi_X9_lakeCount ws_X9_lakeCount dL_areHoursRight_15 (c_X9_lakeCount hG) (hp_at (ca_Bells _)) fk_Bells rfl (by omega) (by decide) rfl (by exact Nat.le_of_ble_eq_true rfl) (by omega) (by omega) kN (kI (fun v_15 m_15 sz h_15 => ?_)) rfl
  obtain ⟨rfl, hm_15⟩ := h_15
  rw [hm_15]
  have hsT := hT.sm hL
  rw [(hT.iv hV).lw.nl, hsT.nl]
  refine V.icmp_ge (pc := 18) (tgt := 31) hB dL_areHoursRight_18 (by decide) (fun c_18 => ?_) (fun c_18 => ?_)
  · have hz : ¬ z < nLk m 0 := Nat.not_lt.mpr ((nI_leI (by omega) (by omega)).mp c_18)
    refine V.sipush (pc := 31) (v := -2004) hB dL_areHoursRight_31 rfl ?_
    exact V.wid (by omega) (by omega) (k36 _ _ _ hT ((thaw_out hz).symm.trans hd96.symm))
  · have hz : z < nLk m 0 := Nat.not_le.mp (fun y => c_18 ((nI_leI (by omega) (by omega)).mpr y))
    refine V.aload_n (pc := 21) hB dL_areHoursRight_21 rfl ?_
    refine V.iconst (pc := 22) (v := 4) hB dL_areHoursRight_22 rfl ?_
    refine V.iload_n (pc := 23) hB dL_areHoursRight_23 rfl ?_
    refine V.iconst (pc := 24) (v := 0) hB dL_areHoursRight_24 rfl ?_
    refine V.csW (pc := 25) hB cwx_L_ask wm_L_160 wst_L_ask dL_areHoursRight_25 (a4_in hG (hT.iv hV).ci (a := nI z) (b := 0) (by rw [show inL m_9 (nI z) = (0 ≤ nI z ∧ nI z < nI (nLk m_9 0)) from rfl, hsT.nl]; exact in_nI hz (by omega))) (by omega) (by decide) rfl (by exact Nat.le_of_ble_eq_true rfl) (by omega) (by omega) (kI (fun v_25 m_25 sz h_25 => ?_)) rfl
    rw [nI_clamp (n := z) (by omega)] at h_25
    obtain ⟨hv4, hT2⟩ := thaw_told hL hT hz h_25
    rw [← hd96] at hv4
    refine V.goto (pc := 28) (tgt := 34) hB dL_areHoursRight_28 (by decide) ?_
    exact V.wid (by omega) (by omega) (k36 _ _ _ hT2 hv4)

