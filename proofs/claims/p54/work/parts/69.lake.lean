/-! the law's check of one lake: its blocks -/
theorem a6_in {g : xG} (hG : GK g) {m : Mem} (hI : CI m) {q y : Nat} (hq : q < nLk m 0) (hy : y < nLy m 0 q) (hK : 1 ≤ m.1 (LK 0 q + 1) y) : CC g yL_ask (.codeWith yL_ask cL_ask 5 (some .int) [(0, 7, 8, 49), (0, 7, 14, 98), (0, 7, 20, 55)]) (4 + 1 + 1) 1 6 [.ref (ad g 0), .int 6, .int (nI q), .int (nI y)] m (rI (fun v m2 => ((m.1 (LK 0 q + 2) y = 0 ∧ v = -2001) ∨ (¬ m.1 (LK 0 q + 2) y = 0 ∧ v = 100 / m.1 (LK 0 q + 1) y - m.1 (LK 0 q + 2) y)) ∧ m2 = m)) noX := by
  have h5 := hI.1.nl5
  have h8 := (hI.1.ln hq).2
  refine (a6 hG hI).imp (fun r m' h => ?_) (fun _ _ h => h)
  obtain ⟨v, e, h1, h2⟩ := h
  have e1 : (nI q).toNatClampNeg = q := nI_clamp (by omega)
  have e2 : (nI y).toNatClampNeg = y := nI_clamp (by omega)
  have hR : ringF m 0 (nI q) (nI y) = if m.1 (LK 0 q + 2) y = 0 then 117 else 45 := by
    unfold ringF
    rw [e1, e2, if_pos ⟨in_nI hq (by omega), in_nI hy (by omega)⟩]
  refine ⟨v, e, ?_, h2⟩
  rw [hR, e1, e2, pit_K hK] at h1
  by_cases ht : m.1 (LK 0 q + 2) y = 0
  · rw [if_pos ht] at h1
    rcases h1 with ⟨c, h⟩ | ⟨c, h⟩ | ⟨c, h⟩
    · exact absurd c (by decide)
    · exact absurd c (by decide)
    · exact Or.inl ⟨ht, h⟩
  · rw [if_neg ht] at h1
    rcases h1 with ⟨c, h⟩ | ⟨c, h⟩ | ⟨c, h⟩
    · exact Or.inr ⟨ht, h⟩
    · exact absurd c (by decide)
    · exact absurd c (by decide)
theorem a6_out {g : xG} (hG : GK g) {m : Mem} (hI : CI m) {q : Nat} (hq : q < nLk m 0) : CC g yL_ask (.codeWith yL_ask cL_ask 5 (some .int) [(0, 7, 8, 49), (0, 7, 14, 98), (0, 7, 20, 55)]) (4 + 1 + 1) 1 6 [.ref (ad g 0), .int 6, .int (nI q), .int (nI (nLy m 0 q))] m (rI (fun v m2 => v = -2002 ∧ m2 = m)) noX := by
  have h5 := hI.1.nl5
  have h8 := (hI.1.ln hq).2
  refine (a6 hG hI).imp (fun r m' h => ?_) (fun _ _ h => h)
  obtain ⟨v, e, h1, h2⟩ := h
  have hR : ringF m 0 (nI q) (nI (nLy m 0 q)) = 98 := by
    unfold ringF
    rw [show (nI q).toNatClampNeg = q from nI_clamp (by omega)]
    exact if_neg (fun z => out_nI (by omega) z.2)
  refine ⟨v, e, ?_, h2⟩
  rw [hR] at h1
  rcases h1 with ⟨c, h⟩ | ⟨c, h⟩ | ⟨c, h⟩
  · exact absurd c (by decide)
  · exact h
  · exact absurd c (by decide)

set_option maxRecDepth 100000 in
set_option maxHeartbeats 4000000 in
theorem isl_a {g : xG} (hG : GK g) {z : xE} (hE : GE g z) {B : BT} {Q : State → Prop} {ret : Option FieldType} {mc ms k n : Nat} (hB : Bd g B cL_isLakeRight 10 RL ret 10 mc ms) {m : Mem} (hI : CI m) (hX : XL m 0) {q : Nat} (hq : q < nLk m 0) (hc : k + 8 ≤ mc) (hs : n + 48 ≤ ms) {sz : Nat} (kk : ∀ sz : Nat, V g B (k + 8) (n + 48) Q (hp g m) sz 81 [some (.ref (ad g 0)), some (.int (nI q)), some (.int (nI (nLy m 0 q))), some (.int 0), some (.int 0), some (.ref (z 10)), some (.int 1), none, none, none] []) : V g B k n Q (hp g m) sz 0 [some (.ref (ad g 0)), some (.int (nI q)), none, none, none, none, none, none, none, none] [] := by
  have h5 := hI.1.nl5
  have h8 := (hI.1.ln hq).2
  have hvb := hX.1.1 q hq
  have eq9 : (nI q).toNatClampNeg = q := nI_clamp (by omega)
  obtain ⟨tx0, hst0⟩ := hE.strR (i := 0) (by decide)
  refine V.aload_n (pc := 0) hB dL_isLakeRight_0 rfl ?_
  refine V.iload_n (pc := 1) hB dL_isLakeRight_1 rfl ?_
  refine V.cv (pc := 2) hB cw_X9_layerCount wm_L_133 wi_X9_layerCount ws_X9_layerCount dL_isLakeRight_2 (r_layers hG hI hq) (hp_at (ca_Bells _)) fk_Bells rfl (by omega) (by decide) rfl (by exact Nat.le_of_ble_eq_true rfl) (by omega) (by omega) kN (kI (fun v_2 m_2 sz h_2 => ?_)) rfl
  obtain ⟨rfl, hm_2⟩ := h_2
  rw [hm_2]
  refine V.istore_n (pc := 5) hB dL_isLakeRight_5 (by decide) rfl ?_
  refine V.iconst (pc := 6) (v := 0) hB dL_isLakeRight_6 rfl ?_
  refine V.istore_n (pc := 7) hB dL_isLakeRight_7 (by decide) rfl ?_
  refine V.iconst (pc := 8) (v := 0) hB dL_isLakeRight_8 rfl ?_
  refine V.istore (pc := 9) hB dL_isLakeRight_9 (by decide) rfl ?_
  refine V.ldcS (pc := 11) (idx := 158) (q := z 10) hB hst0 dL_isLakeRight_11 ?_
  refine V.astore (pc := 13) hB dL_isLakeRight_13 (by decide) rfl ?_
  refine V.iload_n (pc := 15) hB dL_isLakeRight_15 rfl ?_
  refine V.bipush (pc := 16) (v := 8) hB dL_isLakeRight_16 rfl ?_
  refine V.icmp_gt (pc := 18) (tgt := 78) hB dL_isLakeRight_18 (by decide) (fun c_18 => ?_) (fun c_18 => ?_)
  · exact absurd c_18 (by rw [Int32.not_lt]; exact (nI_leI (b := 8) (by omega) (by decide)).mpr h8)
  · refine V.aload_n (pc := 21) hB dL_isLakeRight_21 rfl ?_
    refine V.iconst (pc := 22) (v := 1) hB dL_isLakeRight_22 rfl ?_
    refine V.iload_n (pc := 23) hB dL_isLakeRight_23 rfl ?_
    refine V.iload_n (pc := 24) hB dL_isLakeRight_24 rfl ?_
    refine V.csW (pc := 25) hB cwx_L_ask wm_L_160 wst_L_ask dL_isLakeRight_25 (a1_out hG hI (a := nI q) (b := nI (nLy m 0 q)) (fun z9 => by have z8 := z9.2; rw [eq9] at z8; exact out_nI (by omega) z8)) (by omega) (by decide) rfl (by exact Nat.le_of_ble_eq_true rfl) (by omega) (by omega) (kI (fun v_25 m_25 sz h_25 => ?_)) rfl
    obtain ⟨rfl, hm_25⟩ := h_25
    rw [hm_25]
    refine V.sipush (pc := 28) (v := (-2002)) hB dL_isLakeRight_28 rfl ?_
    refine V.icmp_ne (pc := 31) (tgt := 78) hB dL_isLakeRight_31 (by decide) (fun c_31 => ?_) (fun c_31 => ?_)
    · exact absurd rfl c_31
    · refine V.aload_n (pc := 34) hB dL_isLakeRight_34 rfl ?_
      refine V.iconst (pc := 35) (v := 1) hB dL_isLakeRight_35 rfl ?_
      refine V.iload_n (pc := 36) hB dL_isLakeRight_36 rfl ?_
      refine V.iconst (pc := 37) (v := (-1)) hB dL_isLakeRight_37 rfl ?_
      refine V.csW (pc := 38) hB cwx_L_ask wm_L_160 wst_L_ask dL_isLakeRight_38 (a1_out hG hI (a := nI q) (b := -1) (fun z9 => out_m1 z9.2)) (by omega) (by decide) rfl (by exact Nat.le_of_ble_eq_true rfl) (by omega) (by omega) (kI (fun v_38 m_38 sz h_38 => ?_)) rfl
      obtain ⟨rfl, hm_38⟩ := h_38
      rw [hm_38]
      refine V.sipush (pc := 41) (v := (-2002)) hB dL_isLakeRight_41 rfl ?_
      refine V.icmp_ne (pc := 44) (tgt := 78) hB dL_isLakeRight_44 (by decide) (fun c_44 => ?_) (fun c_44 => ?_)
      · exact absurd rfl c_44
      · refine V.aload_n (pc := 47) hB dL_isLakeRight_47 rfl ?_
        refine V.iconst (pc := 48) (v := 2) hB dL_isLakeRight_48 rfl ?_
        refine V.iload_n (pc := 49) hB dL_isLakeRight_49 rfl ?_
        refine V.iconst (pc := 50) (v := (-1)) hB dL_isLakeRight_50 rfl ?_
        refine V.csW (pc := 51) hB cwx_L_ask wm_L_160 wst_L_ask dL_isLakeRight_51 (a2_no hG hI (a := nI q) (b := -1) (in_nI hq (by omega)) (if_pos (by decide))) (by omega) (by decide) rfl (by exact Nat.le_of_ble_eq_true rfl) (by omega) (by omega) (kI (fun v_51 m_51 sz h_51 => ?_)) rfl
        obtain ⟨rfl, hm_51⟩ := h_51
        rw [hm_51]
        refine V.sipush (pc := 54) (v := (-2004)) hB dL_isLakeRight_54 rfl ?_
        refine V.icmp_ne (pc := 57) (tgt := 78) hB dL_isLakeRight_57 (by decide) (fun c_57 => ?_) (fun c_57 => ?_)
        · exact absurd rfl c_57
        · refine V.aload_n (pc := 60) hB dL_isLakeRight_60 rfl ?_
          refine V.bipush (pc := 61) (v := 6) hB dL_isLakeRight_61 rfl ?_
          refine V.iload_n (pc := 63) hB dL_isLakeRight_63 rfl ?_
          refine V.iload_n (pc := 64) hB dL_isLakeRight_64 rfl ?_
          refine V.csW (pc := 65) hB cwx_L_ask wm_L_160 wst_L_ask dL_isLakeRight_65 (a6_out hG hI hq) (by omega) (by decide) rfl (by exact Nat.le_of_ble_eq_true rfl) (by omega) (by omega) (kI (fun v_65 m_65 sz h_65 => ?_)) rfl
          obtain ⟨rfl, hm_65⟩ := h_65
          rw [hm_65]
          refine V.sipush (pc := 68) (v := (-2002)) hB dL_isLakeRight_68 rfl ?_
          refine V.icmp_ne (pc := 71) (tgt := 78) hB dL_isLakeRight_71 (by decide) (fun c_71 => ?_) (fun c_71 => ?_)
          · exact absurd rfl c_71
          · refine V.iconst (pc := 74) (v := 1) hB dL_isLakeRight_74 rfl ?_
            refine V.goto (pc := 75) (tgt := 79) hB dL_isLakeRight_75 (by decide) ?_
            refine V.istore (pc := 79) hB dL_isLakeRight_79 (by decide) rfl ?_
            exact V.wid (by omega) (by omega) (kk _)

set_option maxRecDepth 100000 in
set_option maxHeartbeats 4000000 in
theorem isl_b {g : xG} (hG : GK g) {z : xE} (hE : GE g z) {B : BT} {Q : State → Prop} {ret : Option FieldType} {mc ms k n : Nat} (hB : Bd g B cL_isLakeRight 10 RL ret 10 mc ms) {m : Mem} (hI : CI m) (hX : XL m 0) {q : Nat} (hq : q < nLk m 0) (hSB : SB (m.1 (LK 0 q + 3)) (nLy m 0 q) 34) {y a : Nat} (hy : y < nLy m 0 q) {x8 x9 : Option Value} (hc : k + 11 ≤ mc) (hs : n + 66 ≤ ms) {sz : Nat} (kk : ∀ sz : Nat, V g B (k + 11) (n + 66) Q (hp g m) sz 210 [some (.ref (ad g 0)), some (.int (nI q)), some (.int (nI (nLy m 0 q))), some (.int (l_sum (m.1 (LK 0 q + 1)) y)), some (.int (l_sum (m.1 (LK 0 q + 2)) y)), some (.ref a), some (.int 1), some (.int (nI y)), some (.int (m.1 (LK 0 q + 1) y)), some (.int (m.1 (LK 0 q + 2) y))] []) : V g B k n Q (hp g m) sz 90 [some (.ref (ad g 0)), some (.int (nI q)), some (.int (nI (nLy m 0 q))), some (.int (l_sum (m.1 (LK 0 q + 1)) y)), some (.int (l_sum (m.1 (LK 0 q + 2)) y)), some (.ref a), some (.int 1), some (.int (nI y)), x8, x9] [] := by
  have h5 := hI.1.nl5
  have h8 := (hI.1.ln hq).2
  have hvb := hX.1.1 q hq
  have eq9 : (nI q).toNatClampNeg = q := nI_clamp (by omega)
  obtain ⟨s, a9, f1, f2, f3, f4, f5, f6, f7, f8⟩ := lay_facts hvb h8 hy
  obtain ⟨s9, hs8, hs9⟩ := hSB y hy
  refine V.aload_n (pc := 90) hB dL_isLakeRight_90 rfl ?_
  refine V.iload_n (pc := 91) hB dL_isLakeRight_91 rfl ?_
  refine V.iload (pc := 92) hB dL_isLakeRight_92 rfl ?_
  refine V.cv (pc := 94) hB cw_X9_thickness wm_L_136 wi_X9_thickness ws_X9_thickness dL_isLakeRight_94 (r_thick hG hI hq hy) (hp_at (ca_Bells _)) fk_Bells rfl (by omega) (by decide) rfl (by exact Nat.le_of_ble_eq_true rfl) (by omega) (by omega) kN (kI (fun v_94 m_94 sz h_94 => ?_)) rfl
  obtain ⟨rfl, hm_94⟩ := h_94
  rw [hm_94]
  refine V.istore (pc := 97) hB dL_isLakeRight_97 (by decide) rfl ?_
  refine V.aload_n (pc := 99) hB dL_isLakeRight_99 rfl ?_
  refine V.iload_n (pc := 100) hB dL_isLakeRight_100 rfl ?_
  refine V.iload (pc := 101) hB dL_isLakeRight_101 rfl ?_
  refine V.cv (pc := 103) hB cw_X9_temperature wm_L_60 wi_X9_temperature ws_X9_temperature dL_isLakeRight_103 (r_temp hG hI hq hy) (hp_at (ca_Bells _)) fk_Bells rfl (by omega) (by decide) rfl (by exact Nat.le_of_ble_eq_true rfl) (by omega) (by omega) kN (kI (fun v_103 m_103 sz h_103 => ?_)) rfl
  obtain ⟨rfl, hm_103⟩ := h_103
  rw [hm_103]
  refine V.istore (pc := 106) hB dL_isLakeRight_106 (by decide) rfl ?_
  refine V.iload (pc := 108) hB dL_isLakeRight_108 rfl ?_
  refine V.if_eq (pc := 110) (tgt := 164) hB dL_isLakeRight_110 (by decide) (fun c_110 => ?_) (fun c_110 => ?_)
  · exact absurd c_110 (by decide)
  · refine V.aload_n (pc := 113) hB dL_isLakeRight_113 rfl ?_
    refine V.iload_n (pc := 114) hB dL_isLakeRight_114 rfl ?_
    refine V.iload_n (pc := 115) hB dL_isLakeRight_115 rfl ?_
    refine V.cv (pc := 116) hB cw_X9_layerAt wm_L_63 wi_X9_layerAt ws_X9_layerAt dL_isLakeRight_116 (r_layerAt hG hI hq (y := y) (by rw [f1]; exact f6) (by omega)) (hp_at (ca_Bells _)) fk_Bells rfl (by omega) (by decide) rfl (by exact Nat.le_of_ble_eq_true rfl) (by omega) (by omega) kN (kI (fun v_116 m_116 sz h_116 => ?_)) rfl
    obtain ⟨rfl, hm_116⟩ := h_116
    rw [hm_116]
    refine V.iload (pc := 119) hB dL_isLakeRight_119 rfl ?_
    refine V.icmp_ne (pc := 121) (tgt := 164) hB dL_isLakeRight_121 (by decide) (fun c_121 => ?_) (fun c_121 => ?_)
    · exact absurd rfl c_121
    · refine V.aload_n (pc := 124) hB dL_isLakeRight_124 rfl ?_
      refine V.iload_n (pc := 125) hB dL_isLakeRight_125 rfl ?_
      refine V.iload_n (pc := 126) hB dL_isLakeRight_126 rfl ?_
      refine V.iload (pc := 127) hB dL_isLakeRight_127 rfl ?_
      refine V.iadd (pc := 129) hB dL_isLakeRight_129 ?_
      refine V.iconst (pc := 130) (v := 1) hB dL_isLakeRight_130 rfl ?_
      refine V.isub (pc := 131) hB dL_isLakeRight_131 ?_
      refine V.cv (pc := 132) hB cw_X9_layerAt wm_L_63 wi_X9_layerAt ws_X9_layerAt dL_isLakeRight_132 (r_layerAt hG hI hq (y := y) (by rw [f1, f2, nI_add, show nI (s + a9) - 1 = nI (s + a9 - 1) from nI_subN (b := 1) (by omega)]; exact f7) (by omega)) (hp_at (ca_Bells _)) fk_Bells rfl (by omega) (by decide) rfl (by exact Nat.le_of_ble_eq_true rfl) (by omega) (by omega) kN (kI (fun v_132 m_132 sz h_132 => ?_)) rfl
      obtain ⟨rfl, hm_132⟩ := h_132
      rw [hm_132]
      refine V.iload (pc := 135) hB dL_isLakeRight_135 rfl ?_
      refine V.icmp_ne (pc := 137) (tgt := 164) hB dL_isLakeRight_137 (by decide) (fun c_137 => ?_) (fun c_137 => ?_)
      · exact absurd rfl c_137
      · refine V.iload (pc := 140) hB dL_isLakeRight_140 rfl ?_
        refine V.if_le (pc := 142) (tgt := 164) hB dL_isLakeRight_142 (by decide) (fun c_142 => ?_) (fun c_142 => ?_)
        · exact absurd (Int32.le_trans (hvb y hy).1.1 c_142) (by decide)
        · refine V.iload (pc := 145) hB dL_isLakeRight_145 rfl ?_
          refine V.if_gt (pc := 147) (tgt := 164) hB dL_isLakeRight_147 (by decide) (fun c_147 => ?_) (fun c_147 => ?_)
          · exact absurd c_147 (Int32.not_lt.mpr (hvb y hy).2.2)
          · refine V.aload_n (pc := 150) hB dL_isLakeRight_150 rfl ?_
            refine V.iload_n (pc := 151) hB dL_isLakeRight_151 rfl ?_
            refine V.iload (pc := 152) hB dL_isLakeRight_152 rfl ?_
            refine V.cv (pc := 154) hB cw_X9_strain wm_L_139 wi_X9_strain ws_X9_strain dL_isLakeRight_154 (r_strain hG hI hq hy) (hp_at (ca_Bells _)) fk_Bells rfl (by omega) (by decide) rfl (by exact Nat.le_of_ble_eq_true rfl) (by omega) (by omega) kN (kI (fun v_154 m_154 sz h_154 => ?_)) rfl
            obtain ⟨rfl, hm_154⟩ := h_154
            rw [hm_154]
            refine V.if_lt (pc := 157) (tgt := 164) hB dL_isLakeRight_157 (by decide) (fun c_157 => ?_) (fun c_157 => ?_)
            · exact absurd c_157 (by rw [hs9]; exact nI_pos (by omega))
            · refine V.iconst (pc := 160) (v := 1) hB dL_isLakeRight_160 rfl ?_
              refine V.goto (pc := 161) (tgt := 165) hB dL_isLakeRight_161 (by decide) ?_
              refine V.istore (pc := 165) hB dL_isLakeRight_165 (by decide) rfl ?_
              refine V.iload (pc := 167) hB dL_isLakeRight_167 rfl ?_
              refine V.if_eq (pc := 169) (tgt := 207) hB dL_isLakeRight_169 (by decide) (fun c_169 => ?_) (fun c_169 => ?_)
              · exact absurd c_169 (by decide)
              · refine V.aload_n (pc := 172) hB dL_isLakeRight_172 rfl ?_
                refine V.bipush (pc := 173) (v := 6) hB dL_isLakeRight_173 rfl ?_
                refine V.iload_n (pc := 175) hB dL_isLakeRight_175 rfl ?_
                refine V.iload (pc := 176) hB dL_isLakeRight_176 rfl ?_
                refine V.csW (pc := 178) hB cwx_L_ask wm_L_160 wst_L_ask dL_isLakeRight_178 (a6_in hG hI hq hy (hvb y hy).1.1) (by omega) (by decide) rfl (by exact Nat.le_of_ble_eq_true rfl) (by omega) (by omega) (kI (fun v_178 m_178 sz h_178 => ?_)) rfl
                obtain ⟨hv_178, hm_178⟩ := h_178
                rw [hm_178]
                refine V.iload (pc := 181) hB dL_isLakeRight_181 rfl ?_
                refine V.if_ne (pc := 183) (tgt := 192) hB dL_isLakeRight_183 (by decide) (fun c_183 => ?_) (fun c_183 => ?_)
                · obtain rfl : v_178 = 100 / m.1 (LK 0 q + 1) y - m.1 (LK 0 q + 2) y := by
                    rcases hv_178 with ⟨c, h⟩ | ⟨c, h⟩
                    · exact absurd c c_183
                    · exact h
                  refine V.bipush (pc := 192) (v := 100) hB dL_isLakeRight_192 rfl ?_
                  refine V.iload (pc := 194) hB dL_isLakeRight_194 rfl ?_
                  refine V.idiv (pc := 196) hB dL_isLakeRight_196 (fun z9 => by have := (hvb y hy).1.1; rw [z9] at this; exact absurd this (by decide)) ?_
                  refine V.iload (pc := 197) hB dL_isLakeRight_197 rfl ?_
                  refine V.isub (pc := 199) hB dL_isLakeRight_199 ?_
                  refine V.icmp_ne (pc := 200) (tgt := 207) hB dL_isLakeRight_200 (by decide) (fun c_200 => ?_) (fun c_200 => ?_)
                  · exact absurd rfl c_200
                  · refine V.iconst (pc := 203) (v := 1) hB dL_isLakeRight_203 rfl ?_
                    refine V.goto (pc := 204) (tgt := 208) hB dL_isLakeRight_204 (by decide) ?_
                    refine V.istore (pc := 208) hB dL_isLakeRight_208 (by decide) rfl ?_
                    exact V.wid (by omega) (by omega) (kk _)
                · obtain rfl : v_178 = -2001 := by
                    rcases hv_178 with ⟨c, h⟩ | ⟨c, h⟩
                    · exact h
                    · exact absurd c_183 c
                  refine V.sipush (pc := 186) (v := (-2001)) hB dL_isLakeRight_186 rfl ?_
                  refine V.goto (pc := 189) (tgt := 200) hB dL_isLakeRight_189 (by decide) ?_
                  refine V.icmp_ne (pc := 200) (tgt := 207) hB dL_isLakeRight_200 (by decide) (fun c_200 => ?_) (fun c_200 => ?_)
                  · exact absurd rfl c_200
                  · refine V.iconst (pc := 203) (v := 1) hB dL_isLakeRight_203 rfl ?_
                    refine V.goto (pc := 204) (tgt := 208) hB dL_isLakeRight_204 (by decide) ?_
                    refine V.istore (pc := 208) hB dL_isLakeRight_208 (by decide) rfl ?_
                    exact V.wid (by omega) (by omega) (kk _)

