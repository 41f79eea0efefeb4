/-! the law's check of the windows -/
set_option maxRecDepth 100000 in
set_option maxHeartbeats 4000000 in
theorem c_L_areWindowsRight {g : xG} (hG : GK g) {K : Nat} {m : Mem} (hV : IV g K m) {x : Int32} : CC g yL_areWindowsRight (.code yL_areWindowsRight cL_areWindowsRight 6 (some .boolean)) 8 40 240 [.ref (ad g 0), .int x] m (rI (fun v m2 => v = 1 ∧ m2 = m)) noX := by
  have hI := hV.ci
  have hW := hV.xl.2.1
  have hQ := hV.wq
  have h6 := hI.1.wr.2
  refine CC.mk hG RL rfl (by decide +kernel) rfl (Nat.le_of_ble_eq_true rfl) (fun sz B hB hX => ?_)
  show V g B 0 0 _ (hp g m) sz 0 [some (.ref (ad g 0)), some (.int x), none, none, none, none] []
  have k85 : ∀ q : Nat, q < nWn m 0 → (∀ sz : Nat, V g B (8 + 6 * q) (48 + 36 * q) (QM g B 40 240 (rI (fun v m2 => v = 1 ∧ m2 = m)) noX) (hp g m) sz 49 [some (.ref (ad g 0)), some (.int x), some (.int (nI (nWn m 0))), some (.int (if meetB (m.1 (LA 0 + 3)) (m.1 (LA 0 + 4)) x x (q + 1) = true then (1 : Int32) else 0)), some (.int 1), some (.int (nI (q + 1)))] []) → ∀ (sz : Nat) (w : Int32), w = (if meetB (m.1 (LA 0 + 3)) (m.1 (LA 0 + 4)) x x (q + 1) = true then (1 : Int32) else 0) → ∀ (_ : Unit), V g B (4 + 6 * q) (24 + 36 * q) (QM g B 40 240 (rI (fun v m2 => v = 1 ∧ m2 = m)) noX) (hp g m) sz 85 [some (.ref (ad g 0)), some (.int x), some (.int (nI (nWn m 0))), some (.int w), some (.int 1), some (.int (nI q))] [] := by
    intro q hlt kk sz w hw _
    subst hw
    refine V.iload (pc := 85) hB dL_areWindowsRight_85 rfl ?_
    refine V.if_eq (pc := 87) (tgt := 131) hB dL_areWindowsRight_87 (by decide) (fun c_87 => ?_) (fun c_87 => ?_)
    · exact absurd c_87 (by decide)
    · refine V.aload_n (pc := 90) hB dL_areWindowsRight_90 rfl ?_
      refine V.iload (pc := 91) hB dL_areWindowsRight_91 rfl ?_
      refine V.cv (pc := 93) hB cw_X9_windowFirst wm_L_72 wi_X9_windowFirst ws_X9_windowFirst dL_areWindowsRight_93 (r_wFirst hG hI hlt) (hp_at (ca_Bells _)) fk_Bells rfl (by omega) (by decide) rfl (by exact Nat.le_of_ble_eq_true rfl) (by omega) (by omega) kN (kI (fun v_93 m_93 sz h_93 => ?_)) rfl
      obtain ⟨rfl, hm_93⟩ := h_93
      rw [hm_93]
      refine V.aload_n (pc := 96) hB dL_areWindowsRight_96 rfl ?_
      refine V.iload (pc := 97) hB dL_areWindowsRight_97 rfl ?_
      refine V.cv (pc := 99) hB cw_X9_windowLast wm_L_142 wi_X9_windowLast ws_X9_windowLast dL_areWindowsRight_99 (r_wLast hG hI hlt) (hp_at (ca_Bells _)) fk_Bells rfl (by omega) (by decide) rfl (by exact Nat.le_of_ble_eq_true rfl) (by omega) (by omega) kN (kI (fun v_99 m_99 sz h_99 => ?_)) rfl
      obtain ⟨rfl, hm_99⟩ := h_99
      rw [hm_99]
      refine V.icmp_gt (pc := 102) (tgt := 131) hB dL_areWindowsRight_102 (by decide) (fun c_102 => ?_) (fun c_102 => ?_)
      · exact absurd (hW.1 q hlt) (Int32.not_le.mpr c_102)
      · refine V.iload (pc := 105) hB dL_areWindowsRight_105 rfl ?_
        refine V.if_eq (pc := 107) (tgt := 127) hB dL_areWindowsRight_107 (by decide) (fun c_107 => ?_) (fun c_107 => ?_)
        · refine V.iconst (pc := 127) (v := 1) hB dL_areWindowsRight_127 rfl ?_
          refine V.goto (pc := 128) (tgt := 132) hB dL_areWindowsRight_128 (by decide) ?_
          refine V.istore (pc := 132) hB dL_areWindowsRight_132 (by decide) rfl ?_
          refine V.iinc (pc := 134) (v := nI (q + 1)) hB dL_areWindowsRight_134 rfl (nI_1 _) (by decide) rfl ?_
          refine V.goto (pc := 137) (tgt := 49) hB dL_areWindowsRight_137 (by decide) ?_
          exact V.wid (by omega) (by omega) (kk _)
        · have hq0 : 0 < q := Nat.pos_of_ne_zero (fun z => c_107 (by rw [z]; rfl))
          refine V.aload_n (pc := 110) hB dL_areWindowsRight_110 rfl ?_
          refine V.iload (pc := 111) hB dL_areWindowsRight_111 rfl ?_
          refine V.iconst (pc := 113) (v := 1) hB dL_areWindowsRight_113 rfl ?_
          refine V.isub (pc := 114) hB dL_areWindowsRight_114 ?_
          rw [show nI q - 1 = nI (q - 1) from nI_subN (b := 1) (by omega)]
          refine V.cv (pc := 115) hB cw_X9_windowLast wm_L_142 wi_X9_windowLast ws_X9_windowLast dL_areWindowsRight_115 (r_wLast hG hI (show q - 1 < nWn _ 0 by omega)) (hp_at (ca_Bells _)) fk_Bells rfl (by omega) (by decide) rfl (by exact Nat.le_of_ble_eq_true rfl) (by omega) (by omega) kN (kI (fun v_115 m_115 sz h_115 => ?_)) rfl
          obtain ⟨rfl, hm_115⟩ := h_115
          rw [hm_115]
          refine V.aload_n (pc := 118) hB dL_areWindowsRight_118 rfl ?_
          refine V.iload (pc := 119) hB dL_areWindowsRight_119 rfl ?_
          refine V.cv (pc := 121) hB cw_X9_windowFirst wm_L_72 wi_X9_windowFirst ws_X9_windowFirst dL_areWindowsRight_121 (r_wFirst hG hI hlt) (hp_at (ca_Bells _)) fk_Bells rfl (by omega) (by decide) rfl (by exact Nat.le_of_ble_eq_true rfl) (by omega) (by omega) kN (kI (fun v_121 m_121 sz h_121 => ?_)) rfl
          obtain ⟨rfl, hm_121⟩ := h_121
          rw [hm_121]
          refine V.icmp_ge (pc := 124) (tgt := 131) hB dL_areWindowsRight_124 (by decide) (fun c_124 => ?_) (fun c_124 => ?_)
          · exact absurd (hQ (q - 1) q (by omega) hlt) (Int32.not_lt.mpr c_124)
          · refine V.iconst (pc := 127) (v := 1) hB dL_areWindowsRight_127 rfl ?_
            refine V.goto (pc := 128) (tgt := 132) hB dL_areWindowsRight_128 (by decide) ?_
            refine V.istore (pc := 132) hB dL_areWindowsRight_132 (by decide) rfl ?_
            refine V.iinc (pc := 134) (v := nI (q + 1)) hB dL_areWindowsRight_134 rfl (nI_1 _) (by decide) rfl ?_
            refine V.goto (pc := 137) (tgt := 49) hB dL_areWindowsRight_137 (by decide) ?_
            exact V.wid (by omega) (by omega) (kk _)
  have lp : ∀ p q : Nat, q + p = nWn m 0 → ∀ sz : Nat, V g B (2 + 6 * q) (12 + 36 * q) (QM g B 40 240 (rI (fun v m2 => v = 1 ∧ m2 = m)) noX) (hp g m) sz 49 [some (.ref (ad g 0)), some (.int x), some (.int (nI (nWn m 0))), some (.int (if meetB (m.1 (LA 0 + 3)) (m.1 (LA 0 + 4)) x x (q) = true then (1 : Int32) else 0)), some (.int 1), some (.int (nI q))] [] := by
    refine loop_dn (fun p ih q hq sz => ?_)
    have hb : meetB (m.1 (LA 0 + 3)) (m.1 (LA 0 + 4)) x x (q + 1) = (meetB (m.1 (LA 0 + 3)) (m.1 (LA 0 + 4)) x x q || (decide (x ≤ m.1 (LA 0 + 4) q) && decide (m.1 (LA 0 + 3) q ≤ x))) := rfl
    refine V.iload (pc := 49) hB dL_areWindowsRight_49 rfl ?_
    refine V.iload_n (pc := 51) hB dL_areWindowsRight_51 rfl ?_
    refine V.icmp_ge (pc := 52) (tgt := 140) hB dL_areWindowsRight_52 (by decide) (fun c_52 => ?_) (fun c_52 => ?_)
    · have hle := (nI_leI (by omega) (by omega)).mp c_52
      obtain rfl : q = nWn m 0 := by omega
      refine V.iload (pc := 140) hB dL_areWindowsRight_140 rfl ?_
      refine V.if_eq (pc := 142) (tgt := 158) hB dL_areWindowsRight_142 (by decide) (fun c_142 => ?_) (fun c_142 => ?_)
      · exact absurd c_142 (by decide)
      · refine V.aload_n (pc := 145) hB dL_areWindowsRight_145 rfl ?_
        refine V.iload_n (pc := 146) hB dL_areWindowsRight_146 rfl ?_
        refine V.cv (pc := 147) hB cw_X9_isInWindow wm_L_235 wi_X9_isInWindow ws_X9_isInWindow dL_areWindowsRight_147 (c_X9_isInWindow hG hI) (hp_at (ca_Bells _)) fk_Bells rfl (by omega) (by decide) rfl (by exact Nat.le_of_ble_eq_true rfl) (by omega) (by omega) kN (kI (fun v_147 m_147 sz h_147 => ?_)) rfl
        obtain ⟨rfl, hm_147⟩ := h_147
        rw [hm_147]
        refine V.iload_n (pc := 150) hB dL_areWindowsRight_150 rfl ?_
        refine V.icmp_ne (pc := 151) (tgt := 158) hB dL_areWindowsRight_151 (by decide) (fun c_151 => ?_) (fun c_151 => ?_)
        · exact absurd rfl c_151
        · refine V.iconst (pc := 154) (v := 1) hB dL_areWindowsRight_154 rfl ?_
          refine V.goto (pc := 155) (tgt := 159) hB dL_areWindowsRight_155 (by decide) ?_
          refine V.retI (pc := 159) hB dL_areWindowsRight_159 rfl (rfl) (by omega) (by omega) ?_
          exact ⟨rfl, rfl⟩
    · have hlt : q < nWn m 0 := Nat.not_le.mp (fun z => c_52 ((nI_leI (by omega) (by omega)).mpr z))
      refine V.iload_n (pc := 55) hB dL_areWindowsRight_55 rfl ?_
      refine V.if_ne (pc := 56) (tgt := 79) hB dL_areWindowsRight_56 (by decide) (fun c_56 => ?_) (fun c_56 => ?_)
      · have h1 : meetB (m.1 (LA 0 + 3)) (m.1 (LA 0 + 4)) x x q = true := b01 c_56
        have hv : (if meetB (m.1 (LA 0 + 3)) (m.1 (LA 0 + 4)) x x (q + 1) = true then (1 : Int32) else 0) = 1 := if_pos (by rw [hb, h1]; rfl)
        refine V.iconst (pc := 79) (v := 1) hB dL_areWindowsRight_79 rfl ?_
        refine V.goto (pc := 80) (tgt := 84) hB dL_areWindowsRight_80 (by decide) ?_
        refine V.istore_n (pc := 84) hB dL_areWindowsRight_84 (by decide) rfl ?_
        exact V.wid (by omega) (by omega) (k85 q hlt (fun sz => V.wid (by omega) (by omega) (ih (nWn m 0 - q - 1) (by omega) (q + 1) (by omega) sz)) _ _ hv.symm ())
      · have h1 : meetB (m.1 (LA 0 + 3)) (m.1 (LA 0 + 4)) x x q = false := b00 c_56
        refine V.iload_n (pc := 59) hB dL_areWindowsRight_59 rfl ?_
        refine V.aload_n (pc := 60) hB dL_areWindowsRight_60 rfl ?_
        refine V.iload (pc := 61) hB dL_areWindowsRight_61 rfl ?_
        refine V.cv (pc := 63) hB cw_X9_windowFirst wm_L_72 wi_X9_windowFirst ws_X9_windowFirst dL_areWindowsRight_63 (r_wFirst hG hI hlt) (hp_at (ca_Bells _)) fk_Bells rfl (by omega) (by decide) rfl (by exact Nat.le_of_ble_eq_true rfl) (by omega) (by omega) kN (kI (fun v_63 m_63 sz h_63 => ?_)) rfl
        obtain ⟨rfl, hm_63⟩ := h_63
        rw [hm_63]
        refine V.icmp_lt (pc := 66) (tgt := 83) hB dL_areWindowsRight_66 (by decide) (fun c_66 => ?_) (fun c_66 => ?_)
        · have hv : (if meetB (m.1 (LA 0 + 3)) (m.1 (LA 0 + 4)) x x (q + 1) = true then (1 : Int32) else 0) = 0 := if_neg (by rw [hb, h1, decide_eq_false (show ¬ m.1 (LA 0 + 3) q ≤ x from Int32.not_le.mpr c_66)]; simp)
          refine V.iconst (pc := 83) (v := 0) hB dL_areWindowsRight_83 rfl ?_
          refine V.istore_n (pc := 84) hB dL_areWindowsRight_84 (by decide) rfl ?_
          exact V.wid (by omega) (by omega) (k85 q hlt (fun sz => V.wid (by omega) (by omega) (ih (nWn m 0 - q - 1) (by omega) (q + 1) (by omega) sz)) _ _ hv.symm ())
        · refine V.iload_n (pc := 69) hB dL_areWindowsRight_69 rfl ?_
          refine V.aload_n (pc := 70) hB dL_areWindowsRight_70 rfl ?_
          refine V.iload (pc := 71) hB dL_areWindowsRight_71 rfl ?_
          refine V.cv (pc := 73) hB cw_X9_windowLast wm_L_142 wi_X9_windowLast ws_X9_windowLast dL_areWindowsRight_73 (r_wLast hG hI hlt) (hp_at (ca_Bells _)) fk_Bells rfl (by omega) (by decide) rfl (by exact Nat.le_of_ble_eq_true rfl) (by omega) (by omega) kN (kI (fun v_73 m_73 sz h_73 => ?_)) rfl
          obtain ⟨rfl, hm_73⟩ := h_73
          rw [hm_73]
          refine V.icmp_gt (pc := 76) (tgt := 83) hB dL_areWindowsRight_76 (by decide) (fun c_76 => ?_) (fun c_76 => ?_)
          · have hv : (if meetB (m.1 (LA 0 + 3)) (m.1 (LA 0 + 4)) x x (q + 1) = true then (1 : Int32) else 0) = 0 := if_neg (by rw [hb, h1, decide_eq_false (show ¬ x ≤ m.1 (LA 0 + 4) q from Int32.not_le.mpr c_76)]; simp)
            refine V.iconst (pc := 83) (v := 0) hB dL_areWindowsRight_83 rfl ?_
            refine V.istore_n (pc := 84) hB dL_areWindowsRight_84 (by decide) rfl ?_
            exact V.wid (by omega) (by omega) (k85 q hlt (fun sz => V.wid (by omega) (by omega) (ih (nWn m 0 - q - 1) (by omega) (q + 1) (by omega) sz)) _ _ hv.symm ())
          · have hv : (if meetB (m.1 (LA 0 + 3)) (m.1 (LA 0 + 4)) x x (q + 1) = true then (1 : Int32) else 0) = 1 := if_pos (by rw [hb, h1, decide_eq_true (show m.1 (LA 0 + 3) q ≤ x from Int32.not_lt.mp c_66), decide_eq_true (show x ≤ m.1 (LA 0 + 4) q from Int32.not_lt.mp c_76)]; rfl)
            refine V.iconst (pc := 79) (v := 1) hB dL_areWindowsRight_79 rfl ?_
            refine V.goto (pc := 80) (tgt := 84) hB dL_areWindowsRight_80 (by decide) ?_
            refine V.istore_n (pc := 84) hB dL_areWindowsRight_84 (by decide) rfl ?_
            exact V.wid (by omega) (by omega) (k85 q hlt (fun sz => V.wid (by omega) (by omega) (ih (nWn m 0 - q - 1) (by omega) (q + 1) (by omega) sz)) _ _ hv.symm ())
  refine V.aload_n (pc := 0) hB dL_areWindowsRight_0 rfl ?_
  refine V.cv (pc := 1) hB cw_X9_windowCount wm_L_118 wi_X9_windowCount ws_X9_windowCount dL_areWindowsRight_1 (c_X9_windowCount hG) (hp_at (ca_Bells _)) fk_Bells rfl (by omega) (by decide) rfl (by exact Nat.le_of_ble_eq_true rfl) (by omega) (by omega) kN (kI (fun v_1 m_1 sz h_1 => ?_)) rfl
  obtain ⟨rfl, hm_1⟩ := h_1
  rw [hm_1, hI.1.wr.1]
  refine V.istore_n (pc := 4) hB dL_areWindowsRight_4 (by decide) rfl ?_
  refine V.iconst (pc := 5) (v := 0) hB dL_areWindowsRight_5 rfl ?_
  refine V.istore_n (pc := 6) hB dL_areWindowsRight_6 (by decide) rfl ?_
  refine V.iload_n (pc := 7) hB dL_areWindowsRight_7 rfl ?_
  refine V.bipush (pc := 8) (v := 6) hB dL_areWindowsRight_8 rfl ?_
  refine V.icmp_gt (pc := 10) (tgt := 43) hB dL_areWindowsRight_10 (by decide) (fun c_10 => ?_) (fun c_10 => ?_)
  · exact absurd c_10 (by rw [Int32.not_lt]; exact (nI_leI (b := 6) (by omega) (by decide)).mpr h6)
  · refine V.aload_n (pc := 13) hB dL_areWindowsRight_13 rfl ?_
    refine V.iconst (pc := 14) (v := 5) hB dL_areWindowsRight_14 rfl ?_
    refine V.iload_n (pc := 15) hB dL_areWindowsRight_15 rfl ?_
    refine V.iconst (pc := 16) (v := 0) hB dL_areWindowsRight_16 rfl ?_
    refine V.csW (pc := 17) hB cwx_L_ask wm_L_160 wst_L_ask dL_areWindowsRight_17 (a5_out hG hI (a := nI (nWn m 0)) (b := 0) (by unfold openF; rw [if_neg (out_nI (by omega))]; decide)) (by omega) (by decide) rfl (by exact Nat.le_of_ble_eq_true rfl) (by omega) (by omega) (kI (fun v_17 m_17 sz h_17 => ?_)) rfl
    obtain ⟨rfl, hm_17⟩ := h_17
    rw [hm_17]
    refine V.sipush (pc := 20) (v := (-2002)) hB dL_areWindowsRight_20 rfl ?_
    refine V.icmp_ne (pc := 23) (tgt := 43) hB dL_areWindowsRight_23 (by decide) (fun c_23 => ?_) (fun c_23 => ?_)
    · exact absurd rfl c_23
    · refine V.aload_n (pc := 26) hB dL_areWindowsRight_26 rfl ?_
      refine V.iconst (pc := 27) (v := 5) hB dL_areWindowsRight_27 rfl ?_
      refine V.iconst (pc := 28) (v := (-1)) hB dL_areWindowsRight_28 rfl ?_
      refine V.iconst (pc := 29) (v := 0) hB dL_areWindowsRight_29 rfl ?_
      refine V.csW (pc := 30) hB cwx_L_ask wm_L_160 wst_L_ask dL_areWindowsRight_30 (a5_out hG hI (a := -1) (b := 0) (by unfold openF; rw [if_neg out_m1]; decide)) (by omega) (by decide) rfl (by exact Nat.le_of_ble_eq_true rfl) (by omega) (by omega) (kI (fun v_30 m_30 sz h_30 => ?_)) rfl
      obtain ⟨rfl, hm_30⟩ := h_30
      rw [hm_30]
      refine V.sipush (pc := 33) (v := (-2002)) hB dL_areWindowsRight_33 rfl ?_
      refine V.icmp_ne (pc := 36) (tgt := 43) hB dL_areWindowsRight_36 (by decide) (fun c_36 => ?_) (fun c_36 => ?_)
      · exact absurd rfl c_36
      · refine V.iconst (pc := 39) (v := 1) hB dL_areWindowsRight_39 rfl ?_
        refine V.goto (pc := 40) (tgt := 44) hB dL_areWindowsRight_40 (by decide) ?_
        refine V.istore (pc := 44) hB dL_areWindowsRight_44 (by decide) rfl ?_
        refine V.iconst (pc := 46) (v := 0) hB dL_areWindowsRight_46 rfl ?_
        refine V.istore (pc := 47) hB dL_areWindowsRight_47 (by decide) rfl ?_
        exact V.wid (by omega) (by omega) (lp (nWn m 0) 0 (by omega) _)

