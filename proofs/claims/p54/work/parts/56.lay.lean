/-! the law's landscapes by the script, and its changes -/
set_option maxRecDepth 100000 in
set_option maxHeartbeats 4000000 in
theorem c_L_lay {g : xG} (hG : GK g) {b L : Nat} {xs : Nat → Int32} (hS : va_T .int b L (fun j => .int (xs j)) (xFree g) g.1 g.1.heap) (hL : L ≤ 260) {K : Nat} {m : Mem} (hI : IV g K m) : CC g yL_lay (.code yL_lay cL_lay 6 none) 10 64 384 [.ref (ad g 0), .ref b] m (rV (fun m2 => IV g (K + 25600) m2)) noX := by
  refine CC.mk hG RL rfl (by decide +kernel) rfl (Nat.le_of_ble_eq_true rfl) (fun sz B hB hX => ?_)
  show V g B 0 0 _ (hp g m) sz 0 [some (.ref (ad g 0)), some (.ref b), none, none, none, none] []
  have L3 : ∀ p q : Nat, q + p = 3 → ∀ (sz : Nat) (M : Mem) (w : Int32) (x3 : Int32) (x5 : Option Value), IV g (K + 24400 + 400 * q) M → V g B (61 + q) (366 + 6 * q) (QM g B 64 384 (rV (fun m2 => IV g (K + 25600) m2)) noX) (hp g M) sz 156 [some (.ref (ad g 0)), some (.ref b), some (.int w), some (.int x3), some (.int (nI q)), x5] [] := by
    refine loop_dn (fun p ih q hq sz M w x3 x5 h => ?_)
    refine V.iload (pc := 156) hB dL_lay_156 rfl ?_
    refine V.aload_n (pc := 158) hB dL_lay_158 rfl ?_
    refine V.iconst (pc := 159) (v := 2) hB dL_lay_159 rfl ?_
    refine V.iconst (pc := 160) (v := 4) hB dL_lay_160 rfl ?_
    refine V.cs (pc := 161) hB cw_L_pick wm_L_100 wst_L_pick dL_lay_161 (c_L_pick hG hS hL (q := 2) (n := 4) (by omega) (by omega) (by omega)) (by omega) (by decide) rfl (by exact Nat.le_of_ble_eq_true rfl) (by omega) (by omega) kN (kI (fun v_161 m_161 sz h_161 => ?_)) rfl
    obtain ⟨⟨r_161, hr_161, rfl⟩, rfl⟩ := h_161
    have hq3 : q < 4 ∧ r_161 < 4 := ⟨by omega, hr_161⟩
    refine V.icmp_ge (pc := 164) (tgt := 215) hB dL_lay_164 (by decide) (fun c_164 => ?_) (fun c_164 => ?_)
    · have hle := (nI_leI (by omega) (by omega)).mp c_164
      refine V.retV (pc := 215) hB dL_lay_215 rfl (by omega) (by omega) ?_
      exact h.mono (by omega)
    · have hlt : q < r_161 := Nat.not_le.mp (fun z => c_164 ((nI_leI (by omega) (by omega)).mpr z))
      refine V.iconst (pc := 167) (v := 1) hB dL_lay_167 rfl ?_
      refine V.aload_n (pc := 168) hB dL_lay_168 rfl ?_
      refine V.sipush (pc := 169) (v := 171) hB dL_lay_169 rfl ?_
      refine V.iload (pc := 172) hB dL_lay_172 rfl ?_
      refine V.iadd (pc := 174) hB dL_lay_174 ?_
      rw [show ((171 : Int32) + nI (q)) = nI (171 + (q)) from nI_add 171 (q)]
      refine V.bipush (pc := 175) (v := 40) hB dL_lay_175 rfl ?_
      refine V.cs (pc := 177) hB cw_L_pick wm_L_100 wst_L_pick dL_lay_177 (c_L_pick hG hS hL (q := 171 + q) (n := 40) (by omega) (by omega) (by omega)) (by omega) (by decide) rfl (by exact Nat.le_of_ble_eq_true rfl) (by omega) (by omega) kN (kI (fun v_177 m_177 sz h_177 => ?_)) rfl
      obtain ⟨⟨r_177, hr_177, rfl⟩, rfl⟩ := h_177
      refine V.iadd (pc := 180) hB dL_lay_180 ?_
      refine V.istore (pc := 181) hB dL_lay_181 (by decide) rfl ?_
      refine V.iload_n (pc := 183) hB dL_lay_183 rfl ?_
      refine V.aload_n (pc := 184) hB dL_lay_184 rfl ?_
      refine V.iconst (pc := 185) (v := 4) hB dL_lay_185 rfl ?_
      refine V.iload (pc := 186) hB dL_lay_186 rfl ?_
      refine V.iload (pc := 188) hB dL_lay_188 rfl ?_
      refine V.aload_n (pc := 190) hB dL_lay_190 rfl ?_
      refine V.sipush (pc := 191) (v := 181) hB dL_lay_191 rfl ?_
      refine V.iload (pc := 194) hB dL_lay_194 rfl ?_
      refine V.iadd (pc := 196) hB dL_lay_196 ?_
      rw [show ((181 : Int32) + nI (q)) = nI (181 + (q)) from nI_add 181 (q)]
      refine V.bipush (pc := 197) (v := 8) hB dL_lay_197 rfl ?_
      refine V.cs (pc := 199) hB cw_L_pick wm_L_100 wst_L_pick dL_lay_199 (c_L_pick hG hS hL (q := 181 + q) (n := 8) (by omega) (by omega) (by omega)) (by omega) (by decide) rfl (by exact Nat.le_of_ble_eq_true rfl) (by omega) (by omega) kN (kI (fun v_199 m_199 sz h_199 => ?_)) rfl
      obtain ⟨⟨r_199, hr_199, rfl⟩, rfl⟩ := h_199
      refine V.iadd (pc := 202) hB dL_lay_202 ?_
      refine V.iconst (pc := 203) (v := 0) hB dL_lay_203 rfl ?_
      refine V.csW (pc := 204) hB cwx_L_deed wm_L_104 wst_L_deed dL_lay_204 (d_4 hG h) (by omega) (by decide) rfl (by exact Nat.le_of_ble_eq_true rfl) (by omega) (by omega) (kI (fun v_204 m_204 sz h_204 => ?_)) rfl
      refine V.iadd (pc := 207) hB dL_lay_207 ?_
      refine V.istore_n (pc := 208) hB dL_lay_208 (by decide) rfl ?_
      refine V.iinc (pc := 209) (v := nI (q + 1)) hB dL_lay_209 rfl (nI_1 _) (by decide) rfl ?_
      refine V.goto (pc := 212) (tgt := 156) hB dL_lay_212 (by decide) ?_
      obtain ⟨p1, hp1⟩ : ∃ p1, p = p1 + 1 := ⟨p - 1, by omega⟩
      exact V.wid (by omega) (by omega) (ih p1 hp1 (q + 1) (by omega) _ _ _ _ _ (h_204.mono (by omega)))
  have L2 : ∀ n q : Nat, n ≤ 6 → q < n → (∀ (sz : Nat) (M : Mem) (w : Int32) (x5 : Option Value), IV g (K + 4400 + 4000 * q) M → V g B (11 + 10 * q) (66 + 60 * q) (QM g B 64 384 (rV (fun m2 => IV g (K + 25600) m2)) noX) (hp g M) sz 147 [some (.ref (ad g 0)), some (.ref b), some (.int w), some (.int (nI n)), some (.int (nI q)), x5] []) → ∀ p j : Nat, j + p = 9 → ∀ (sz : Nat) (M : Mem) (w : Int32), IV g (K + 800 + 4000 * q + 400 * j) M → V g B (2 + 10 * q + j) (12 + 60 * q + 6 * j) (QM g B 64 384 (rV (fun m2 => IV g (K + 25600) m2)) noX) (hp g M) sz 63 [some (.ref (ad g 0)), some (.ref b), some (.int w), some (.int (nI n)), some (.int (nI q)), some (.int (nI j))] [] := by
    intro n q hn hqn kk
    refine loop_dn (fun p ih j hj sz M w h => ?_)
    refine V.iload (pc := 63) hB dL_lay_63 rfl ?_
    refine V.aload_n (pc := 65) hB dL_lay_65 rfl ?_
    refine V.bipush (pc := 66) (v := 21) hB dL_lay_66 rfl ?_
    refine V.iload (pc := 68) hB dL_lay_68 rfl ?_
    refine V.iadd (pc := 70) hB dL_lay_70 ?_
    rw [show ((21 : Int32) + nI (q)) = nI (21 + (q)) from nI_add 21 (q)]
    refine V.bipush (pc := 71) (v := 10) hB dL_lay_71 rfl ?_
    refine V.cs (pc := 73) hB cw_L_pick wm_L_100 wst_L_pick dL_lay_73 (c_L_pick hG hS hL (q := 21 + q) (n := 10) (by omega) (by omega) (by omega)) (by omega) (by decide) rfl (by exact Nat.le_of_ble_eq_true rfl) (by omega) (by omega) kN (kI (fun v_73 m_73 sz h_73 => ?_)) rfl
    obtain ⟨⟨r_73, hr_73, rfl⟩, rfl⟩ := h_73
    refine V.icmp_ge (pc := 76) (tgt := 147) hB dL_lay_76 (by decide) (fun c_76 => ?_) (fun c_76 => ?_)
    · exact V.wid (by omega) (by omega) (kk _ _ _ _ (h.mono (by omega)))
    · have hlt : j < r_73 := Nat.not_le.mp (fun z => c_76 ((nI_leI (by omega) (by omega)).mpr z))
      refine V.iload_n (pc := 79) hB dL_lay_79 rfl ?_
      refine V.aload_n (pc := 80) hB dL_lay_80 rfl ?_
      refine V.iconst (pc := 81) (v := 1) hB dL_lay_81 rfl ?_
      refine V.iload (pc := 82) hB dL_lay_82 rfl ?_
      refine V.iconst (pc := 84) (v := 1) hB dL_lay_84 rfl ?_
      refine V.aload_n (pc := 85) hB dL_lay_85 rfl ?_
      refine V.bipush (pc := 86) (v := 31) hB dL_lay_86 rfl ?_
      refine V.bipush (pc := 88) (v := 9) hB dL_lay_88 rfl ?_
      refine V.iload (pc := 90) hB dL_lay_90 rfl ?_
      refine V.imul (pc := 92) hB dL_lay_92 ?_
      rw [show ((9 : Int32) * nI q) = nI (9 * q) from nI_mulN 9 q]
      refine V.iadd (pc := 93) hB dL_lay_93 ?_
      rw [show ((31 : Int32) + nI (9 * q)) = nI (31 + (9 * q)) from nI_add 31 (9 * q)]
      refine V.iload (pc := 94) hB dL_lay_94 rfl ?_
      refine V.iadd (pc := 96) hB dL_lay_96 ?_
      rw [show (nI (31 + 9 * q) + nI (j)) = nI (31 + 9 * q + (j)) from nI_add (31 + 9 * q) (j)]
      refine V.aload_n (pc := 97) hB dL_lay_97 rfl ?_
      refine V.sipush (pc := 98) (v := 201) hB dL_lay_98 rfl ?_
      refine V.iconst (pc := 101) (v := 2) hB dL_lay_101 rfl ?_
      refine V.cs (pc := 102) hB cw_L_pick wm_L_100 wst_L_pick dL_lay_102 (c_L_pick hG hS hL (q := 201) (n := 2) (by omega) (by omega) (by omega)) (by omega) (by decide) rfl (by exact Nat.le_of_ble_eq_true rfl) (by omega) (by omega) kN (kI (fun v_102 m_102 sz h_102 => ?_)) rfl
      obtain ⟨⟨r_102, hr_102, rfl⟩, rfl⟩ := h_102
      refine V.if_ne (pc := 105) (tgt := 112) hB dL_lay_105 (by decide) (fun c_105 => ?_) (fun c_105 => ?_)
      · refine V.bipush (pc := 112) (v := 30) hB dL_lay_112 rfl ?_
        refine V.cs (pc := 114) hB cw_L_pick wm_L_100 wst_L_pick dL_lay_114 (c_L_pick hG hS hL (q := 31 + 9 * q + j) (n := 30) (by omega) (by omega) (by omega)) (by omega) (by decide) rfl (by exact Nat.le_of_ble_eq_true rfl) (by omega) (by omega) kN (kI (fun v_114 m_114 sz h_114 => ?_)) rfl
        obtain ⟨⟨r_114, hr_114, rfl⟩, rfl⟩ := h_114
        refine V.iadd (pc := 117) hB dL_lay_117 ?_
        refine V.aload_n (pc := 118) hB dL_lay_118 rfl ?_
        refine V.bipush (pc := 119) (v := 101) hB dL_lay_119 rfl ?_
        refine V.bipush (pc := 121) (v := 9) hB dL_lay_121 rfl ?_
        refine V.iload (pc := 123) hB dL_lay_123 rfl ?_
        refine V.imul (pc := 125) hB dL_lay_125 ?_
        rw [show ((9 : Int32) * nI q) = nI (9 * q) from nI_mulN 9 q]
        refine V.iadd (pc := 126) hB dL_lay_126 ?_
        rw [show ((101 : Int32) + nI (9 * q)) = nI (101 + (9 * q)) from nI_add 101 (9 * q)]
        refine V.iload (pc := 127) hB dL_lay_127 rfl ?_
        refine V.iadd (pc := 129) hB dL_lay_129 ?_
        rw [show (nI (101 + 9 * q) + nI (j)) = nI (101 + 9 * q + (j)) from nI_add (101 + 9 * q) (j)]
        refine V.bipush (pc := 130) (v := 41) hB dL_lay_130 rfl ?_
        refine V.cs (pc := 132) hB cw_L_pick wm_L_100 wst_L_pick dL_lay_132 (c_L_pick hG hS hL (q := 101 + 9 * q + j) (n := 41) (by omega) (by omega) (by omega)) (by omega) (by decide) rfl (by exact Nat.le_of_ble_eq_true rfl) (by omega) (by omega) kN (kI (fun v_132 m_132 sz h_132 => ?_)) rfl
        obtain ⟨⟨r_132, hr_132, rfl⟩, rfl⟩ := h_132
        refine V.ineg (pc := 135) hB dL_lay_135 ?_
        refine V.csW (pc := 136) hB cwx_L_deed wm_L_104 wst_L_deed dL_lay_136 (d_1 hG h) (by omega) (by decide) rfl (by exact Nat.le_of_ble_eq_true rfl) (by omega) (by omega) (kI (fun v_136 m_136 sz h_136 => ?_)) rfl
        refine V.iadd (pc := 139) hB dL_lay_139 ?_
        refine V.istore_n (pc := 140) hB dL_lay_140 (by decide) rfl ?_
        refine V.iinc (pc := 141) (v := nI (j + 1)) hB dL_lay_141 rfl (nI_1 _) (by decide) rfl ?_
        refine V.goto (pc := 144) (tgt := 63) hB dL_lay_144 (by decide) ?_
        obtain ⟨p1, hp1⟩ : ∃ p1, p = p1 + 1 := ⟨p - 1, by omega⟩
        exact V.wid (by omega) (by omega) (ih p1 hp1 (j + 1) (by omega) _ _ _ (h_136.mono (by omega)))
      · refine V.iconst (pc := 108) (v := 5) hB dL_lay_108 rfl ?_
        refine V.goto (pc := 109) (tgt := 114) hB dL_lay_109 (by decide) ?_
        refine V.cs (pc := 114) hB cw_L_pick wm_L_100 wst_L_pick dL_lay_114 (c_L_pick hG hS hL (q := 31 + 9 * q + j) (n := 5) (by omega) (by omega) (by omega)) (by omega) (by decide) rfl (by exact Nat.le_of_ble_eq_true rfl) (by omega) (by omega) kN (kI (fun v_114 m_114 sz h_114 => ?_)) rfl
        obtain ⟨⟨r_114, hr_114, rfl⟩, rfl⟩ := h_114
        refine V.iadd (pc := 117) hB dL_lay_117 ?_
        refine V.aload_n (pc := 118) hB dL_lay_118 rfl ?_
        refine V.bipush (pc := 119) (v := 101) hB dL_lay_119 rfl ?_
        refine V.bipush (pc := 121) (v := 9) hB dL_lay_121 rfl ?_
        refine V.iload (pc := 123) hB dL_lay_123 rfl ?_
        refine V.imul (pc := 125) hB dL_lay_125 ?_
        rw [show ((9 : Int32) * nI q) = nI (9 * q) from nI_mulN 9 q]
        refine V.iadd (pc := 126) hB dL_lay_126 ?_
        rw [show ((101 : Int32) + nI (9 * q)) = nI (101 + (9 * q)) from nI_add 101 (9 * q)]
        refine V.iload (pc := 127) hB dL_lay_127 rfl ?_
        refine V.iadd (pc := 129) hB dL_lay_129 ?_
        rw [show (nI (101 + 9 * q) + nI (j)) = nI (101 + 9 * q + (j)) from nI_add (101 + 9 * q) (j)]
        refine V.bipush (pc := 130) (v := 41) hB dL_lay_130 rfl ?_
        refine V.cs (pc := 132) hB cw_L_pick wm_L_100 wst_L_pick dL_lay_132 (c_L_pick hG hS hL (q := 101 + 9 * q + j) (n := 41) (by omega) (by omega) (by omega)) (by omega) (by decide) rfl (by exact Nat.le_of_ble_eq_true rfl) (by omega) (by omega) kN (kI (fun v_132 m_132 sz h_132 => ?_)) rfl
        obtain ⟨⟨r_132, hr_132, rfl⟩, rfl⟩ := h_132
        refine V.ineg (pc := 135) hB dL_lay_135 ?_
        refine V.csW (pc := 136) hB cwx_L_deed wm_L_104 wst_L_deed dL_lay_136 (d_1 hG h) (by omega) (by decide) rfl (by exact Nat.le_of_ble_eq_true rfl) (by omega) (by omega) (kI (fun v_136 m_136 sz h_136 => ?_)) rfl
        refine V.iadd (pc := 139) hB dL_lay_139 ?_
        refine V.istore_n (pc := 140) hB dL_lay_140 (by decide) rfl ?_
        refine V.iinc (pc := 141) (v := nI (j + 1)) hB dL_lay_141 rfl (nI_1 _) (by decide) rfl ?_
        refine V.goto (pc := 144) (tgt := 63) hB dL_lay_144 (by decide) ?_
        obtain ⟨p1, hp1⟩ : ∃ p1, p = p1 + 1 := ⟨p - 1, by omega⟩
        exact V.wid (by omega) (by omega) (ih p1 hp1 (j + 1) (by omega) _ _ _ (h_136.mono (by omega)))
  have L1 : ∀ n : Nat, n ≤ 6 → ∀ p q : Nat, q + p = n → ∀ (sz : Nat) (M : Mem) (w : Int32) (x5 : Option Value), IV g (K + 400 + 4000 * q) M → V g B (1 + 10 * q) (6 + 60 * q) (QM g B 64 384 (rV (fun m2 => IV g (K + 25600) m2)) noX) (hp g M) sz 29 [some (.ref (ad g 0)), some (.ref b), some (.int w), some (.int (nI n)), some (.int (nI q)), x5] [] := by
    intro n hn
    refine loop_dn (fun p ih q hq sz M w x5 h => ?_)
    refine V.iload (pc := 29) hB dL_lay_29 rfl ?_
    refine V.iload_n (pc := 31) hB dL_lay_31 rfl ?_
    refine V.icmp_ge (pc := 32) (tgt := 153) hB dL_lay_32 (by decide) (fun c_32 => ?_) (fun c_32 => ?_)
    · have hle := (nI_leI (by omega) (by omega)).mp c_32
      refine V.iconst (pc := 153) (v := 0) hB dL_lay_153 rfl ?_
      refine V.istore (pc := 154) hB dL_lay_154 (by decide) rfl ?_
      exact V.wid (by omega) (by omega) (L3 3 0 rfl _ _ _ _ _ (h.mono (by omega)))
    · have hlt : q < n := Nat.not_le.mp (fun z => c_32 ((nI_leI (by omega) (by omega)).mpr z))
      refine V.iload_n (pc := 35) hB dL_lay_35 rfl ?_
      refine V.aload_n (pc := 36) hB dL_lay_36 rfl ?_
      refine V.iconst (pc := 37) (v := 0) hB dL_lay_37 rfl ?_
      refine V.bipush (pc := 38) (v := 20) hB dL_lay_38 rfl ?_
      refine V.aload_n (pc := 40) hB dL_lay_40 rfl ?_
      refine V.bipush (pc := 41) (v := 11) hB dL_lay_41 rfl ?_
      refine V.iload (pc := 43) hB dL_lay_43 rfl ?_
      refine V.iadd (pc := 45) hB dL_lay_45 ?_
      rw [show ((11 : Int32) + nI (q)) = nI (11 + (q)) from nI_add 11 (q)]
      refine V.sipush (pc := 46) (v := 381) hB dL_lay_46 rfl ?_
      refine V.cs (pc := 49) hB cw_L_pick wm_L_100 wst_L_pick dL_lay_49 (c_L_pick hG hS hL (q := 11 + q) (n := 381) (by omega) (by omega) (by omega)) (by omega) (by decide) rfl (by exact Nat.le_of_ble_eq_true rfl) (by omega) (by omega) kN (kI (fun v_49 m_49 sz h_49 => ?_)) rfl
      obtain ⟨⟨r_49, hr_49, rfl⟩, rfl⟩ := h_49
      refine V.iadd (pc := 52) hB dL_lay_52 ?_
      refine V.iconst (pc := 53) (v := 0) hB dL_lay_53 rfl ?_
      refine V.iconst (pc := 54) (v := 0) hB dL_lay_54 rfl ?_
      refine V.csW (pc := 55) hB cwx_L_deed wm_L_104 wst_L_deed dL_lay_55 (d_0 hG h) (by omega) (by decide) rfl (by exact Nat.le_of_ble_eq_true rfl) (by omega) (by omega) (kI (fun v_55 m_55 sz h_55 => ?_)) rfl
      refine V.iadd (pc := 58) hB dL_lay_58 ?_
      refine V.istore_n (pc := 59) hB dL_lay_59 (by decide) rfl ?_
      refine V.iconst (pc := 60) (v := 0) hB dL_lay_60 rfl ?_
      refine V.istore (pc := 61) hB dL_lay_61 (by decide) rfl ?_
      refine V.wid (k' := 2 + 10 * q + 0) (n' := 12 + 60 * q + 6 * 0) (by omega) (by omega) (L2 n q hn hlt (fun sz M w x5 hM => ?_) 9 0 rfl _ _ _ (h_55.mono (by omega)))
      refine V.iinc (pc := 147) (v := nI (q + 1)) hB dL_lay_147 rfl (nI_1 _) (by decide) rfl ?_
      refine V.goto (pc := 150) (tgt := 29) hB dL_lay_150 (by decide) ?_
      obtain ⟨p1, hp1⟩ : ∃ p1, p = p1 + 1 := ⟨p - 1, by omega⟩
      exact V.wid (by omega) (by omega) (ih p1 hp1 (q + 1) (by omega) _ _ _ _ (hM.mono (by omega)))
  refine V.aload_n (pc := 0) hB dL_lay_0 rfl ?_
  refine V.iconst (pc := 1) (v := 2) hB dL_lay_1 rfl ?_
  refine V.aload_n (pc := 2) hB dL_lay_2 rfl ?_
  refine V.iconst (pc := 3) (v := 0) hB dL_lay_3 rfl ?_
  refine V.bipush (pc := 4) (v := 61) hB dL_lay_4 rfl ?_
  refine V.cs (pc := 6) hB cw_L_pick wm_L_100 wst_L_pick dL_lay_6 (c_L_pick hG hS hL (q := 0) (n := 61) (by omega) (by omega) (by omega)) (by omega) (by decide) rfl (by exact Nat.le_of_ble_eq_true rfl) (by omega) (by omega) kN (kI (fun v_6 m_6 sz h_6 => ?_)) rfl
  obtain ⟨⟨r_6, hr_6, rfl⟩, rfl⟩ := h_6
  refine V.bipush (pc := 9) (v := 40) hB dL_lay_9 rfl ?_
  refine V.isub (pc := 11) hB dL_lay_11 ?_
  refine V.iconst (pc := 12) (v := 0) hB dL_lay_12 rfl ?_
  refine V.iconst (pc := 13) (v := 0) hB dL_lay_13 rfl ?_
  refine V.csW (pc := 14) hB cwx_L_deed wm_L_104 wst_L_deed dL_lay_14 (d_2 hG hI) (by omega) (by decide) rfl (by exact Nat.le_of_ble_eq_true rfl) (by omega) (by omega) (kI (fun v_14 m_14 sz h_14 => ?_)) rfl
  refine V.istore_n (pc := 17) hB dL_lay_17 (by decide) rfl ?_
  refine V.aload_n (pc := 18) hB dL_lay_18 rfl ?_
  refine V.iconst (pc := 19) (v := 1) hB dL_lay_19 rfl ?_
  refine V.bipush (pc := 20) (v := 7) hB dL_lay_20 rfl ?_
  refine V.cs (pc := 22) hB cw_L_pick wm_L_100 wst_L_pick dL_lay_22 (c_L_pick hG hS hL (q := 1) (n := 7) (by omega) (by omega) (by omega)) (by omega) (by decide) rfl (by exact Nat.le_of_ble_eq_true rfl) (by omega) (by omega) kN (kI (fun v_22 m_22 sz h_22 => ?_)) rfl
  obtain ⟨⟨r_22, hr_22, rfl⟩, rfl⟩ := h_22
  refine V.istore_n (pc := 25) hB dL_lay_25 (by decide) rfl ?_
  refine V.iconst (pc := 26) (v := 0) hB dL_lay_26 rfl ?_
  refine V.istore (pc := 27) hB dL_lay_27 (by decide) rfl ?_
  exact V.wid (by omega) (by omega) (L1 r_22 (by omega) r_22 0 (by omega) _ _ _ _ h_14)

