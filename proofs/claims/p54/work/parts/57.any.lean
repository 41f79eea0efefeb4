/-! the law's changes by the script -/
set_option maxRecDepth 100000 in
set_option maxHeartbeats 4000000 in
theorem c_L_any {g : xG} (hG : GK g) {b L : Nat} {xs : Nat → Int32} (hS : va_T .int b L (fun j => .int (xs j)) (xFree g) g.1 g.1.heap) (hL : L ≤ 260) {q : Nat} (hq : q ≤ 1000) {K : Nat} {m : Mem} (hI : IV g K m) : CC g yL_any (.code yL_any cL_any 4 (some .int)) 10 1 6 [.ref (ad g 0), .ref b, .int (nI q)] m (rI (fun _ m2 => IV g (K + 400) m2)) noX := by
  refine CC.mk hG RL rfl (by decide +kernel) rfl (Nat.le_of_ble_eq_true rfl) (fun sz B hB hX => ?_)
  show V g B 0 0 _ (hp g m) sz 0 [some (.ref (ad g 0)), some (.ref b), some (.int (nI q)), none] []
  have k88 : ∀ (M : Mem), IV g K M → ∀ (sz r3 : Nat), V g B 0 0 (QM g B 1 6 (rI (fun _ m2 => IV g (K + 400) m2)) noX) (hp g M) sz 88 [some (.ref (ad g 0)), some (.ref b), some (.int (nI q)), some (.int (nI r3))] [] := by
    intro M hI sz r3
    refine V.aload_n (pc := 88) hB dL_any_88 rfl ?_
    refine V.iconst (pc := 89) (v := 0) hB dL_any_89 rfl ?_
    refine V.bipush (pc := 90) (v := 20) hB dL_any_90 rfl ?_
    refine V.aload_n (pc := 92) hB dL_any_92 rfl ?_
    refine V.iload_n (pc := 93) hB dL_any_93 rfl ?_
    refine V.iconst (pc := 94) (v := 2) hB dL_any_94 rfl ?_
    refine V.iadd (pc := 95) hB dL_any_95 ?_
    rw [show (nI q + (2 : Int32)) = nI (q + 2) from nI_add q 2]
    refine V.sipush (pc := 96) (v := 381) hB dL_any_96 rfl ?_
    refine V.cs (pc := 99) hB cw_L_pick wm_L_100 wst_L_pick dL_any_99 (c_L_pick hG hS hL (q := q + 2) (n := 381) (by omega) (by omega) (by omega)) (by omega) (by decide) rfl (by exact Nat.le_of_ble_eq_true rfl) (by omega) (by omega) kN (kI (fun v_99 m_99 sz h_99 => ?_)) rfl
    obtain ⟨⟨r_99, hr_99, rfl⟩, rfl⟩ := h_99
    refine V.iadd (pc := 102) hB dL_any_102 ?_
    refine V.iconst (pc := 103) (v := 0) hB dL_any_103 rfl ?_
    refine V.iconst (pc := 104) (v := 0) hB dL_any_104 rfl ?_
    refine V.csW (pc := 105) hB cwx_L_deed wm_L_104 wst_L_deed dL_any_105 (d_0 hG hI) (by omega) (by decide) rfl (by exact Nat.le_of_ble_eq_true rfl) (by omega) (by omega) (kI (fun v_105 m_105 sz h_105 => ?_)) rfl
    refine V.retI (pc := 108) hB dL_any_108 rfl (rfl) (by omega) (by omega) ?_
    exact h_105
  have k109 : ∀ (M : Mem), IV g K M → ∀ (sz r3 : Nat), V g B 0 0 (QM g B 1 6 (rI (fun _ m2 => IV g (K + 400) m2)) noX) (hp g M) sz 109 [some (.ref (ad g 0)), some (.ref b), some (.int (nI q)), some (.int (nI r3))] [] := by
    intro M hI sz r3
    refine V.aload_n (pc := 109) hB dL_any_109 rfl ?_
    refine V.iconst (pc := 110) (v := 1) hB dL_any_110 rfl ?_
    refine V.iload_n (pc := 111) hB dL_any_111 rfl ?_
    refine V.iconst (pc := 112) (v := 1) hB dL_any_112 rfl ?_
    refine V.aload_n (pc := 113) hB dL_any_113 rfl ?_
    refine V.iload_n (pc := 114) hB dL_any_114 rfl ?_
    refine V.iconst (pc := 115) (v := 2) hB dL_any_115 rfl ?_
    refine V.iadd (pc := 116) hB dL_any_116 ?_
    rw [show (nI q + (2 : Int32)) = nI (q + 2) from nI_add q 2]
    refine V.bipush (pc := 117) (v := 20) hB dL_any_117 rfl ?_
    refine V.cs (pc := 119) hB cw_L_pick wm_L_100 wst_L_pick dL_any_119 (c_L_pick hG hS hL (q := q + 2) (n := 20) (by omega) (by omega) (by omega)) (by omega) (by decide) rfl (by exact Nat.le_of_ble_eq_true rfl) (by omega) (by omega) kN (kI (fun v_119 m_119 sz h_119 => ?_)) rfl
    obtain ⟨⟨r_119, hr_119, rfl⟩, rfl⟩ := h_119
    refine V.iadd (pc := 122) hB dL_any_122 ?_
    refine V.aload_n (pc := 123) hB dL_any_123 rfl ?_
    refine V.iload_n (pc := 124) hB dL_any_124 rfl ?_
    refine V.iconst (pc := 125) (v := 3) hB dL_any_125 rfl ?_
    refine V.iadd (pc := 126) hB dL_any_126 ?_
    rw [show (nI q + (3 : Int32)) = nI (q + 3) from nI_add q 3]
    refine V.bipush (pc := 127) (v := 41) hB dL_any_127 rfl ?_
    refine V.cs (pc := 129) hB cw_L_pick wm_L_100 wst_L_pick dL_any_129 (c_L_pick hG hS hL (q := q + 3) (n := 41) (by omega) (by omega) (by omega)) (by omega) (by decide) rfl (by exact Nat.le_of_ble_eq_true rfl) (by omega) (by omega) kN (kI (fun v_129 m_129 sz h_129 => ?_)) rfl
    obtain ⟨⟨r_129, hr_129, rfl⟩, rfl⟩ := h_129
    refine V.ineg (pc := 132) hB dL_any_132 ?_
    refine V.csW (pc := 133) hB cwx_L_deed wm_L_104 wst_L_deed dL_any_133 (d_1 hG hI) (by omega) (by decide) rfl (by exact Nat.le_of_ble_eq_true rfl) (by omega) (by omega) (kI (fun v_133 m_133 sz h_133 => ?_)) rfl
    refine V.retI (pc := 136) hB dL_any_136 rfl (rfl) (by omega) (by omega) ?_
    exact h_133
  have k137 : ∀ (M : Mem), IV g K M → ∀ (sz r3 : Nat), V g B 0 0 (QM g B 1 6 (rI (fun _ m2 => IV g (K + 400) m2)) noX) (hp g M) sz 137 [some (.ref (ad g 0)), some (.ref b), some (.int (nI q)), some (.int (nI r3))] [] := by
    intro M hI sz r3
    refine V.aload_n (pc := 137) hB dL_any_137 rfl ?_
    refine V.iconst (pc := 138) (v := 2) hB dL_any_138 rfl ?_
    refine V.aload_n (pc := 139) hB dL_any_139 rfl ?_
    refine V.iload_n (pc := 140) hB dL_any_140 rfl ?_
    refine V.iconst (pc := 141) (v := 2) hB dL_any_141 rfl ?_
    refine V.iadd (pc := 142) hB dL_any_142 ?_
    rw [show (nI q + (2 : Int32)) = nI (q + 2) from nI_add q 2]
    refine V.bipush (pc := 143) (v := 61) hB dL_any_143 rfl ?_
    refine V.cs (pc := 145) hB cw_L_pick wm_L_100 wst_L_pick dL_any_145 (c_L_pick hG hS hL (q := q + 2) (n := 61) (by omega) (by omega) (by omega)) (by omega) (by decide) rfl (by exact Nat.le_of_ble_eq_true rfl) (by omega) (by omega) kN (kI (fun v_145 m_145 sz h_145 => ?_)) rfl
    obtain ⟨⟨r_145, hr_145, rfl⟩, rfl⟩ := h_145
    refine V.bipush (pc := 148) (v := 40) hB dL_any_148 rfl ?_
    refine V.isub (pc := 150) hB dL_any_150 ?_
    refine V.iconst (pc := 151) (v := 0) hB dL_any_151 rfl ?_
    refine V.iconst (pc := 152) (v := 0) hB dL_any_152 rfl ?_
    refine V.csW (pc := 153) hB cwx_L_deed wm_L_104 wst_L_deed dL_any_153 (d_2 hG hI) (by omega) (by decide) rfl (by exact Nat.le_of_ble_eq_true rfl) (by omega) (by omega) (kI (fun v_153 m_153 sz h_153 => ?_)) rfl
    refine V.retI (pc := 156) hB dL_any_156 rfl (rfl) (by omega) (by omega) ?_
    exact h_153
  have k157 : ∀ (M : Mem), IV g K M → ∀ (sz r3 : Nat), V g B 0 0 (QM g B 1 6 (rI (fun _ m2 => IV g (K + 400) m2)) noX) (hp g M) sz 157 [some (.ref (ad g 0)), some (.ref b), some (.int (nI q)), some (.int (nI r3))] [] := by
    intro M hI sz r3
    refine V.aload_n (pc := 157) hB dL_any_157 rfl ?_
    refine V.iconst (pc := 158) (v := 4) hB dL_any_158 rfl ?_
    refine V.aload_n (pc := 159) hB dL_any_159 rfl ?_
    refine V.cv (pc := 160) hB cw_X9_hour wm_L_115 wi_X9_hour ws_X9_hour dL_any_160 (c_X9_hour hG) (hp_at (ca_Bells _)) fk_Bells rfl (by omega) (by decide) rfl (by exact Nat.le_of_ble_eq_true rfl) (by omega) (by omega) kN (kI (fun v_160 m_160 sz h_160 => ?_)) rfl
    obtain ⟨rfl, rfl⟩ := h_160
    refine V.aload_n (pc := 163) hB dL_any_163 rfl ?_
    refine V.iload_n (pc := 164) hB dL_any_164 rfl ?_
    refine V.iconst (pc := 165) (v := 2) hB dL_any_165 rfl ?_
    refine V.iadd (pc := 166) hB dL_any_166 ?_
    rw [show (nI q + (2 : Int32)) = nI (q + 2) from nI_add q 2]
    refine V.bipush (pc := 167) (v := 20) hB dL_any_167 rfl ?_
    refine V.cs (pc := 169) hB cw_L_pick wm_L_100 wst_L_pick dL_any_169 (c_L_pick hG hS hL (q := q + 2) (n := 20) (by omega) (by omega) (by omega)) (by omega) (by decide) rfl (by exact Nat.le_of_ble_eq_true rfl) (by omega) (by omega) kN (kI (fun v_169 m_169 sz h_169 => ?_)) rfl
    obtain ⟨⟨r_169, hr_169, rfl⟩, rfl⟩ := h_169
    refine V.iadd (pc := 172) hB dL_any_172 ?_
    refine V.aload_n (pc := 173) hB dL_any_173 rfl ?_
    refine V.cv (pc := 174) hB cw_X9_hour wm_L_115 wi_X9_hour ws_X9_hour dL_any_174 (c_X9_hour hG) (hp_at (ca_Bells _)) fk_Bells rfl (by omega) (by decide) rfl (by exact Nat.le_of_ble_eq_true rfl) (by omega) (by omega) kN (kI (fun v_174 m_174 sz h_174 => ?_)) rfl
    obtain ⟨rfl, rfl⟩ := h_174
    refine V.aload_n (pc := 177) hB dL_any_177 rfl ?_
    refine V.iload_n (pc := 178) hB dL_any_178 rfl ?_
    refine V.iconst (pc := 179) (v := 3) hB dL_any_179 rfl ?_
    refine V.iadd (pc := 180) hB dL_any_180 ?_
    rw [show (nI q + (3 : Int32)) = nI (q + 3) from nI_add q 3]
    refine V.bipush (pc := 181) (v := 30) hB dL_any_181 rfl ?_
    refine V.cs (pc := 183) hB cw_L_pick wm_L_100 wst_L_pick dL_any_183 (c_L_pick hG hS hL (q := q + 3) (n := 30) (by omega) (by omega) (by omega)) (by omega) (by decide) rfl (by exact Nat.le_of_ble_eq_true rfl) (by omega) (by omega) kN (kI (fun v_183 m_183 sz h_183 => ?_)) rfl
    obtain ⟨⟨r_183, hr_183, rfl⟩, rfl⟩ := h_183
    refine V.iadd (pc := 186) hB dL_any_186 ?_
    refine V.iconst (pc := 187) (v := 0) hB dL_any_187 rfl ?_
    refine V.csW (pc := 188) hB cwx_L_deed wm_L_104 wst_L_deed dL_any_188 (d_4 hG hI) (by omega) (by decide) rfl (by exact Nat.le_of_ble_eq_true rfl) (by omega) (by omega) (kI (fun v_188 m_188 sz h_188 => ?_)) rfl
    refine V.retI (pc := 191) hB dL_any_191 rfl (rfl) (by omega) (by omega) ?_
    exact h_188
  have k192 : ∀ (M : Mem), IV g K M → ∀ (sz r3 : Nat), V g B 0 0 (QM g B 1 6 (rI (fun _ m2 => IV g (K + 400) m2)) noX) (hp g M) sz 192 [some (.ref (ad g 0)), some (.ref b), some (.int (nI q)), some (.int (nI r3))] [] := by
    intro M hI sz r3
    refine V.aload_n (pc := 192) hB dL_any_192 rfl ?_
    refine V.iconst (pc := 193) (v := 5) hB dL_any_193 rfl ?_
    refine V.aload_n (pc := 194) hB dL_any_194 rfl ?_
    refine V.iload_n (pc := 195) hB dL_any_195 rfl ?_
    refine V.iconst (pc := 196) (v := 2) hB dL_any_196 rfl ?_
    refine V.iadd (pc := 197) hB dL_any_197 ?_
    rw [show (nI q + (2 : Int32)) = nI (q + 2) from nI_add q 2]
    refine V.iconst (pc := 198) (v := 1) hB dL_any_198 rfl ?_
    refine V.aload_n (pc := 199) hB dL_any_199 rfl ?_
    refine V.cv (pc := 200) hB cw_X9_windowCount wm_L_118 wi_X9_windowCount ws_X9_windowCount dL_any_200 (c_X9_windowCount hG) (hp_at (ca_Bells _)) fk_Bells rfl (by omega) (by decide) rfl (by exact Nat.le_of_ble_eq_true rfl) (by omega) (by omega) kN (kI (fun v_200 m_200 sz h_200 => ?_)) rfl
    obtain ⟨rfl, rfl⟩ := h_200
    have hnw := hI.lw.wr
    rw [hnw.1]
    have hnw6 := hnw.2
    refine V.cs (pc := 203) hB cw_J9_max_7cf53 wm_L_110 wst_J9_max_7cf53 dL_any_203 (c_J9_max_7cf53 hG) (by omega) (by decide) rfl (by exact Nat.le_of_ble_eq_true rfl) (by omega) (by omega) kN (kI (fun v_203 m_203 sz h_203 => ?_)) rfl
    obtain ⟨rfl, rfl⟩ := h_203
    rw [show (if (1 : Int32) < nI (nWn m_203 0) then nI (nWn m_203 0) else 1) = nI (max 1 (nWn m_203 0)) from maxN (a := 1) (b := nWn m_203 0) (by decide) (by omega)]
    refine V.cs (pc := 206) hB cw_L_pick wm_L_100 wst_L_pick dL_any_206 (c_L_pick hG hS hL (q := q + 2) (n := max 1 (nWn m_203 0)) (by omega) (by omega) (by omega)) (by omega) (by decide) rfl (by exact Nat.le_of_ble_eq_true rfl) (by omega) (by omega) kN (kI (fun v_206 m_206 sz h_206 => ?_)) rfl
    obtain ⟨⟨r_206, hr_206, rfl⟩, rfl⟩ := h_206
    refine V.iconst (pc := 209) (v := 0) hB dL_any_209 rfl ?_
    refine V.iconst (pc := 210) (v := 0) hB dL_any_210 rfl ?_
    refine V.csW (pc := 211) hB cwx_L_deed wm_L_104 wst_L_deed dL_any_211 (d_5 hG hI) (by omega) (by decide) rfl (by exact Nat.le_of_ble_eq_true rfl) (by omega) (by omega) (kI (fun v_211 m_211 sz h_211 => ?_)) rfl
    refine V.retI (pc := 214) hB dL_any_214 rfl (rfl) (by omega) (by omega) ?_
    exact h_211
  have k215 : ∀ (M : Mem), IV g K M → ∀ (sz r3 : Nat), V g B 0 0 (QM g B 1 6 (rI (fun _ m2 => IV g (K + 400) m2)) noX) (hp g M) sz 215 [some (.ref (ad g 0)), some (.ref b), some (.int (nI q)), some (.int (nI r3))] [] := by
    intro M hI sz r3
    refine V.aload_n (pc := 215) hB dL_any_215 rfl ?_
    refine V.bipush (pc := 216) (v := 6) hB dL_any_216 rfl ?_
    refine V.iload_n (pc := 218) hB dL_any_218 rfl ?_
    refine V.aload_n (pc := 219) hB dL_any_219 rfl ?_
    refine V.iload_n (pc := 220) hB dL_any_220 rfl ?_
    refine V.iconst (pc := 221) (v := 2) hB dL_any_221 rfl ?_
    refine V.iadd (pc := 222) hB dL_any_222 ?_
    rw [show (nI q + (2 : Int32)) = nI (q + 2) from nI_add q 2]
    refine V.bipush (pc := 223) (v := 8) hB dL_any_223 rfl ?_
    refine V.cs (pc := 225) hB cw_L_pick wm_L_100 wst_L_pick dL_any_225 (c_L_pick hG hS hL (q := q + 2) (n := 8) (by omega) (by omega) (by omega)) (by omega) (by decide) rfl (by exact Nat.le_of_ble_eq_true rfl) (by omega) (by omega) kN (kI (fun v_225 m_225 sz h_225 => ?_)) rfl
    obtain ⟨⟨r_225, hr_225, rfl⟩, rfl⟩ := h_225
    refine V.iconst (pc := 228) (v := 0) hB dL_any_228 rfl ?_
    refine V.csW (pc := 229) hB cwx_L_deed wm_L_104 wst_L_deed dL_any_229 (d_6 hG hI) (by omega) (by decide) rfl (by exact Nat.le_of_ble_eq_true rfl) (by omega) (by omega) (kI (fun v_229 m_229 sz h_229 => ?_)) rfl
    refine V.retI (pc := 232) hB dL_any_232 rfl (rfl) (by omega) (by omega) ?_
    exact h_229
  have k233 : ∀ (M : Mem), IV g K M → ∀ (sz r3 : Nat), V g B 0 0 (QM g B 1 6 (rI (fun _ m2 => IV g (K + 400) m2)) noX) (hp g M) sz 233 [some (.ref (ad g 0)), some (.ref b), some (.int (nI q)), some (.int (nI r3))] [] := by
    intro M hI sz r3
    refine V.aload_n (pc := 233) hB dL_any_233 rfl ?_
    refine V.iconst (pc := 234) (v := 3) hB dL_any_234 rfl ?_
    refine V.iconst (pc := 235) (v := 1) hB dL_any_235 rfl ?_
    refine V.aload_n (pc := 236) hB dL_any_236 rfl ?_
    refine V.iload_n (pc := 237) hB dL_any_237 rfl ?_
    refine V.iconst (pc := 238) (v := 2) hB dL_any_238 rfl ?_
    refine V.iadd (pc := 239) hB dL_any_239 ?_
    rw [show (nI q + (2 : Int32)) = nI (q + 2) from nI_add q 2]
    refine V.aload_n (pc := 240) hB dL_any_240 rfl ?_
    refine V.iload_n (pc := 241) hB dL_any_241 rfl ?_
    refine V.iconst (pc := 242) (v := 3) hB dL_any_242 rfl ?_
    refine V.iadd (pc := 243) hB dL_any_243 ?_
    rw [show (nI q + (3 : Int32)) = nI (q + 3) from nI_add q 3]
    refine V.iconst (pc := 244) (v := 2) hB dL_any_244 rfl ?_
    refine V.cs (pc := 245) hB cw_L_pick wm_L_100 wst_L_pick dL_any_245 (c_L_pick hG hS hL (q := q + 3) (n := 2) (by omega) (by omega) (by omega)) (by omega) (by decide) rfl (by exact Nat.le_of_ble_eq_true rfl) (by omega) (by omega) kN (kI (fun v_245 m_245 sz h_245 => ?_)) rfl
    obtain ⟨⟨r_245, hr_245, rfl⟩, rfl⟩ := h_245
    refine V.if_ne (pc := 248) (tgt := 255) hB dL_any_248 (by decide) (fun c_248 => ?_) (fun c_248 => ?_)
    · refine V.bipush (pc := 255) (v := 48) hB dL_any_255 rfl ?_
      refine V.cs (pc := 257) hB cw_L_pick wm_L_100 wst_L_pick dL_any_257 (c_L_pick hG hS hL (q := q + 2) (n := 48) (by omega) (by omega) (by omega)) (by omega) (by decide) rfl (by exact Nat.le_of_ble_eq_true rfl) (by omega) (by omega) kN (kI (fun v_257 m_257 sz h_257 => ?_)) rfl
      obtain ⟨⟨r_257, hr_257, rfl⟩, rfl⟩ := h_257
      refine V.iadd (pc := 260) hB dL_any_260 ?_
      refine V.iconst (pc := 261) (v := 0) hB dL_any_261 rfl ?_
      refine V.iconst (pc := 262) (v := 0) hB dL_any_262 rfl ?_
      refine V.csW (pc := 263) hB cwx_L_deed wm_L_104 wst_L_deed dL_any_263 (d_3 hG hI) (by omega) (by decide) rfl (by exact Nat.le_of_ble_eq_true rfl) (by omega) (by omega) (kI (fun v_263 m_263 sz h_263 => ?_)) rfl
      refine V.retI (pc := 266) hB dL_any_266 rfl (rfl) (by omega) (by omega) ?_
      exact h_263
    · refine V.iconst (pc := 251) (v := 4) hB dL_any_251 rfl ?_
      refine V.goto (pc := 252) (tgt := 257) hB dL_any_252 (by decide) ?_
      refine V.cs (pc := 257) hB cw_L_pick wm_L_100 wst_L_pick dL_any_257 (c_L_pick hG hS hL (q := q + 2) (n := 4) (by omega) (by omega) (by omega)) (by omega) (by decide) rfl (by exact Nat.le_of_ble_eq_true rfl) (by omega) (by omega) kN (kI (fun v_257 m_257 sz h_257 => ?_)) rfl
      obtain ⟨⟨r_257, hr_257, rfl⟩, rfl⟩ := h_257
      refine V.iadd (pc := 260) hB dL_any_260 ?_
      refine V.iconst (pc := 261) (v := 0) hB dL_any_261 rfl ?_
      refine V.iconst (pc := 262) (v := 0) hB dL_any_262 rfl ?_
      refine V.csW (pc := 263) hB cwx_L_deed wm_L_104 wst_L_deed dL_any_263 (d_3 hG hI) (by omega) (by decide) rfl (by exact Nat.le_of_ble_eq_true rfl) (by omega) (by omega) (kI (fun v_263 m_263 sz h_263 => ?_)) rfl
      refine V.retI (pc := 266) hB dL_any_266 rfl (rfl) (by omega) (by omega) ?_
      exact h_263
  refine V.aload_n (pc := 0) hB dL_any_0 rfl ?_
  refine V.iload_n (pc := 1) hB dL_any_1 rfl ?_
  refine V.iconst (pc := 2) (v := 1) hB dL_any_2 rfl ?_
  refine V.iadd (pc := 3) hB dL_any_3 ?_
  rw [show (nI q + (1 : Int32)) = nI (q + 1) from nI_add q 1]
  refine V.iconst (pc := 4) (v := 1) hB dL_any_4 rfl ?_
  refine V.aload_n (pc := 5) hB dL_any_5 rfl ?_
  refine V.cv (pc := 6) hB cw_X9_lakeCount wm_L_107 wi_X9_lakeCount ws_X9_lakeCount dL_any_6 (c_X9_lakeCount hG) (hp_at (ca_Bells _)) fk_Bells rfl (by omega) (by decide) rfl (by exact Nat.le_of_ble_eq_true rfl) (by omega) (by omega) kN (kI (fun v_6 m_6 sz h_6 => ?_)) rfl
  obtain ⟨rfl, rfl⟩ := h_6
  have hnl := hI.lw.nl
  rw [hnl]
  have hnl5 := hI.lw.nl5
  refine V.cs (pc := 9) hB cw_J9_max_7cf53 wm_L_110 wst_J9_max_7cf53 dL_any_9 (c_J9_max_7cf53 hG) (by omega) (by decide) rfl (by exact Nat.le_of_ble_eq_true rfl) (by omega) (by omega) kN (kI (fun v_9 m_9 sz h_9 => ?_)) rfl
  obtain ⟨rfl, rfl⟩ := h_9
  rw [show (if (1 : Int32) < nI (nLk m_9 0) then nI (nLk m_9 0) else 1) = nI (max 1 (nLk m_9 0)) from maxN (a := 1) (b := nLk m_9 0) (by decide) (by omega)]
  refine V.cs (pc := 12) hB cw_L_pick wm_L_100 wst_L_pick dL_any_12 (c_L_pick hG hS hL (q := q + 1) (n := max 1 (nLk m_9 0)) (by omega) (by omega) (by omega)) (by omega) (by decide) rfl (by exact Nat.le_of_ble_eq_true rfl) (by omega) (by omega) kN (kI (fun v_12 m_12 sz h_12 => ?_)) rfl
  obtain ⟨⟨r_12, hr_12, rfl⟩, rfl⟩ := h_12
  refine V.istore_n (pc := 15) hB dL_any_15 (by decide) rfl ?_
  refine V.aload_n (pc := 16) hB dL_any_16 rfl ?_
  refine V.iload_n (pc := 17) hB dL_any_17 rfl ?_
  refine V.bipush (pc := 18) (v := 20) hB dL_any_18 rfl ?_
  refine V.cs (pc := 20) hB cw_L_pick wm_L_100 wst_L_pick dL_any_20 (c_L_pick hG hS hL (q := q) (n := 20) (by omega) (by omega) (by omega)) (by omega) (by decide) rfl (by exact Nat.le_of_ble_eq_true rfl) (by omega) (by omega) kN (kI (fun v_20 m_20 sz h_20 => ?_)) rfl
  obtain ⟨⟨r_20, hr_20, rfl⟩, rfl⟩ := h_20
  have hcs : r_20 = 0 ∨ r_20 = 1 ∨ r_20 = 2 ∨ r_20 = 3 ∨ r_20 = 4 ∨ r_20 = 5 ∨ r_20 = 6 ∨ r_20 = 7 ∨ r_20 = 8 ∨ r_20 = 9 ∨ r_20 = 10 ∨ r_20 = 11 ∨ r_20 = 12 ∨ 13 ≤ r_20 := by omega
  rcases hcs with rfl | rfl | rfl | rfl | rfl | rfl | rfl | rfl | rfl | rfl | rfl | rfl | rfl | h13
  · exact V.tsw_in (pc := 23) (off := 65) (tgt := 88) hB dL_any_23 (by decide) (by decide) rfl rfl (k88 _ hI _ _)
  · exact V.tsw_in (pc := 23) (off := 86) (tgt := 109) hB dL_any_23 (by decide) (by decide) rfl rfl (k109 _ hI _ _)
  · exact V.tsw_in (pc := 23) (off := 86) (tgt := 109) hB dL_any_23 (by decide) (by decide) rfl rfl (k109 _ hI _ _)
  · exact V.tsw_in (pc := 23) (off := 86) (tgt := 109) hB dL_any_23 (by decide) (by decide) rfl rfl (k109 _ hI _ _)
  · exact V.tsw_in (pc := 23) (off := 86) (tgt := 109) hB dL_any_23 (by decide) (by decide) rfl rfl (k109 _ hI _ _)
  · exact V.tsw_in (pc := 23) (off := 114) (tgt := 137) hB dL_any_23 (by decide) (by decide) rfl rfl (k137 _ hI _ _)
  · exact V.tsw_in (pc := 23) (off := 114) (tgt := 137) hB dL_any_23 (by decide) (by decide) rfl rfl (k137 _ hI _ _)
  · exact V.tsw_in (pc := 23) (off := 114) (tgt := 137) hB dL_any_23 (by decide) (by decide) rfl rfl (k137 _ hI _ _)
  · exact V.tsw_in (pc := 23) (off := 134) (tgt := 157) hB dL_any_23 (by decide) (by decide) rfl rfl (k157 _ hI _ _)
  · exact V.tsw_in (pc := 23) (off := 134) (tgt := 157) hB dL_any_23 (by decide) (by decide) rfl rfl (k157 _ hI _ _)
  · exact V.tsw_in (pc := 23) (off := 169) (tgt := 192) hB dL_any_23 (by decide) (by decide) rfl rfl (k192 _ hI _ _)
  · exact V.tsw_in (pc := 23) (off := 192) (tgt := 215) hB dL_any_23 (by decide) (by decide) rfl rfl (k215 _ hI _ _)
  · exact V.tsw_in (pc := 23) (off := 192) (tgt := 215) hB dL_any_23 (by decide) (by decide) rfl rfl (k215 _ hI _ _)
  · exact V.tsw_out (pc := 23) (tgt := 233) hB dL_any_23 (Or.inr (by rw [nI_toI (by omega)]; omega)) rfl (k233 _ hI _ _)

