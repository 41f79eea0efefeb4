/-! the law's check of all lakes -/
theorem r_rank {g : xG} (hG : GK g) {m : Mem} (hI : CI m) {k r : Nat} (hr : firstI (rkP m (nI k)) (nLk m 0) = nI r) (hr9 : r < 1000) : CC g yX9_lakeAtRank (.code yX9_lakeAtRank cX9_lakeAtRank 3 (some .int)) 6 1 6 [.ref (ad g 0), .int (nI k)] m (rI (fun v m2 => v = nI r ∧ m2 = m)) noX := by
  refine (c_X9_lakeAtRank hG hI (x := nI k)).imp (fun r9 m' h => ?_) (fun E m' h => ?_)
  · obtain ⟨v, e, h1, -, h2⟩ := h
    exact ⟨v, e, h1.trans hr, h2⟩
  · have h2 := h.2.1
    have h3 : nI r = -1 := hr.symm.trans h2
    exact absurd (show nI r < 0 by rw [h3]; decide) (nI_pos (by omega))

set_option maxRecDepth 100000 in
set_option maxHeartbeats 4000000 in
theorem c_L_areLakesRight {g : xG} (hG : GK g) {z : xE} (hE : GE g z) (hx0 : ∀ a, ex g a = none) {K : Nat} {m : Mem} (hV : IV g K m) (hK : K ≤ 1000000) : CC g yL_areLakesRight (.code yL_areLakesRight cL_areLakesRight 10 (some .boolean)) 11 2100 121000 [.ref (ad g 0)] m (rI (fun v m2 => v = 1 ∧ IV g K m2)) noX := by
  have hI := hV.ci
  have h5 := hI.1.nl5
  obtain ⟨-, -, -, -, -, -, -, ho1, ho2⟩ := rank_all hI hV.xl hV.xc.1 hK
  refine CC.mk hG RL rfl (by decide +kernel) rfl (Nat.le_of_ble_eq_true rfl) (fun sz B hB hX => ?_)
  show V g B 0 0 _ (hp g m) sz 0 [some (.ref (ad g 0)), none, none, none, none, none, none, none, none, none] []
  have lp2 : ∀ (M : Mem) (ic cr : Int32) (S C R : Nat → Nat), IV g K M → nLk M 0 = nLk m 0 → ic = l_sum (iceV M 0) (nLk M 0) → cr = l_sum (fun y => M.1 (LK 0 y) 5) (nLk M 0) → (∀ y, y < nLk M 0 → iceV M 0 y = nI (S y) ∧ S y ≤ 400) → (∀ y, y < nLk M 0 → M.1 (LK 0 y) 5 = nI (C y) ∧ C y ≤ K) → (∀ k, k < nLk M 0 → R k < nLk M 0 ∧ firstI (rkP M (nI k)) (nLk M 0) = nI (R k)) → (∀ k, k + 1 < nLk M 0 → bfP S C (R k) (R (k + 1))) → ∀ p j : Nat, j + p = nLk m 0 → ∀ (sz : Nat) (x6 x7 x8 x9 : Option Value), V g B (2018 + 6 * j) (120108 + 36 * j) (QM g B 2100 121000 (rI (fun v m2 => v = 1 ∧ IV g K m2)) noX) (hp g M) sz 153 [some (.ref (ad g 0)), some (.int (nI (nLk m 0))), some (.int (ic)), some (.int (cr)), some (.int 1), some (.int (nI (j))), x6, x7, x8, x9] [] := by
    intro M ic cr S C R hV2 hN hic hcr hS hC hR hb
    have hI2 := hV2.ci
    refine loop_dn (fun p ih j hj sz x6 x7 x8 x9 => ?_)
    refine V.iload (pc := 153) hB dL_areLakesRight_153 rfl ?_
    refine V.iconst (pc := 155) (v := 1) hB dL_areLakesRight_155 rfl ?_
    refine V.iadd (pc := 156) hB dL_areLakesRight_156 ?_
    rw [show nI j + 1 = nI (j + 1) from nI_add j 1]
    refine V.iload_n (pc := 157) hB dL_areLakesRight_157 rfl ?_
    refine V.icmp_ge (pc := 158) (tgt := 254) hB dL_areLakesRight_158 (by decide) (fun c_158 => ?_) (fun c_158 => ?_)
    · refine V.iload (pc := 254) hB dL_areLakesRight_254 rfl ?_
      refine V.if_eq (pc := 256) (tgt := 291) hB dL_areLakesRight_256 (by decide) (fun c_256 => ?_) (fun c_256 => ?_)
      · exact absurd c_256 (by decide)
      · refine V.aload_n (pc := 259) hB dL_areLakesRight_259 rfl ?_
        refine V.cv (pc := 260) hB cw_X9_crackTotal wm_L_215 wi_X9_crackTotal ws_X9_crackTotal dL_areLakesRight_260 (c_X9_crackTotal hG hI2) (hp_at (ca_Bells _)) fk_Bells rfl (by omega) (by decide) rfl (by exact Nat.le_of_ble_eq_true rfl) (by omega) (by omega) kN (kI (fun v_260 m_260 sz h_260 => ?_)) rfl
        obtain ⟨rfl, hm_260⟩ := h_260
        rw [hm_260]
        refine V.iload_n (pc := 263) hB dL_areLakesRight_263 rfl ?_
        refine V.icmp_ne (pc := 264) (tgt := 291) hB dL_areLakesRight_264 (by decide) (fun c_264 => ?_) (fun c_264 => ?_)
        · exact absurd hcr.symm c_264
        · refine V.aload_n (pc := 267) hB dL_areLakesRight_267 rfl ?_
          refine V.cv (pc := 268) hB cw_X9_frozenTotal wm_L_124 wi_X9_frozenTotal ws_X9_frozenTotal dL_areLakesRight_268 (c_X9_frozenTotal hG) (hp_at (ca_Bells _)) fk_Bells rfl (by omega) (by decide) rfl (by exact Nat.le_of_ble_eq_true rfl) (by omega) (by omega) kN (kI (fun v_268 m_268 sz h_268 => ?_)) rfl
          obtain ⟨rfl, hm_268⟩ := h_268
          rw [hm_268]
          refine V.aload_n (pc := 271) hB dL_areLakesRight_271 rfl ?_
          refine V.cv (pc := 272) hB cw_X9_thawedTotal wm_L_127 wi_X9_thawedTotal ws_X9_thawedTotal dL_areLakesRight_272 (c_X9_thawedTotal hG) (hp_at (ca_Bells _)) fk_Bells rfl (by omega) (by decide) rfl (by exact Nat.le_of_ble_eq_true rfl) (by omega) (by omega) kN (kI (fun v_272 m_272 sz h_272 => ?_)) rfl
          obtain ⟨rfl, hm_272⟩ := h_272
          rw [hm_272]
          refine V.isub (pc := 275) hB dL_areLakesRight_275 ?_
          refine V.iload_n (pc := 276) hB dL_areLakesRight_276 rfl ?_
          refine V.icmp_ne (pc := 277) (tgt := 291) hB dL_areLakesRight_277 (by decide) (fun c_277 => ?_) (fun c_277 => ?_)
          · exact absurd (hV2.xl.2.2.1.trans hic.symm) c_277
          · refine V.aload_n (pc := 280) hB dL_areLakesRight_280 rfl ?_
            refine V.cv (pc := 281) hB cw_X9_isConsistent wm_L_218 wi_X9_isConsistent ws_X9_isConsistent dL_areLakesRight_281 (c_X9_isConsistent hG hI2) (hp_at (ca_Bells _)) fk_Bells rfl (by omega) (by decide) rfl (by exact Nat.le_of_ble_eq_true rfl) (by omega) (by omega) kN (kI (fun v_281 m_281 sz h_281 => ?_)) rfl
            obtain ⟨hv_281, hm_281⟩ := h_281
            obtain rfl : v_281 = 1 := by
              rcases hv_281 with ⟨_, h⟩ | ⟨hn, _⟩
              · exact h
              · exact absurd (csB_ok hV2.lw hV2.xl hV2.xc.2) hn
            refine V.if_eq (pc := 284) (tgt := 291) hB dL_areLakesRight_284 (by decide) (fun c_284 => ?_) (fun c_284 => ?_)
            · exact absurd c_284 (by decide)
            · refine V.iconst (pc := 287) (v := 1) hB dL_areLakesRight_287 rfl ?_
              refine V.goto (pc := 288) (tgt := 292) hB dL_areLakesRight_288 (by decide) ?_
              refine V.retI (pc := 292) hB dL_areLakesRight_292 rfl (rfl) (by omega) (by omega) ?_
              exact ⟨rfl, by rw [hm_281]; exact (TL.tly _ _).iv hV2⟩
    · have hlt : j + 1 < nLk m 0 := Nat.not_le.mp (fun z9 => c_158 ((nI_leI (by omega) (by omega)).mpr z9))
      obtain ⟨r1, f1⟩ := hR j (by omega)
      obtain ⟨r2, f2⟩ := hR (j + 1) (by omega)
      obtain ⟨i1, i2⟩ := hS _ r1
      obtain ⟨i3, i4⟩ := hS _ r2
      obtain ⟨d1, d2⟩ := hC _ r1
      obtain ⟨d3, d4⟩ := hC _ r2
      have hbj := hb j (by omega)
      unfold bfP at hbj
      refine V.aload_n (pc := 161) hB dL_areLakesRight_161 rfl ?_
      refine V.iload (pc := 162) hB dL_areLakesRight_162 rfl ?_
      refine V.cv (pc := 164) hB cw_X9_lakeAtRank wm_L_81 wi_X9_lakeAtRank ws_X9_lakeAtRank dL_areLakesRight_164 (r_rank hG hI2 f1 (by omega)) (hp_at (ca_Bells _)) fk_Bells rfl (by omega) (by decide) rfl (by exact Nat.le_of_ble_eq_true rfl) (by omega) (by omega) kN (kI (fun v_164 m_164 sz h_164 => ?_)) rfl
      obtain ⟨rfl, hm_164⟩ := h_164
      rw [hm_164]
      refine V.istore (pc := 167) hB dL_areLakesRight_167 (by decide) rfl ?_
      refine V.aload_n (pc := 169) hB dL_areLakesRight_169 rfl ?_
      refine V.iload (pc := 170) hB dL_areLakesRight_170 rfl ?_
      refine V.iconst (pc := 172) (v := 1) hB dL_areLakesRight_172 rfl ?_
      refine V.iadd (pc := 173) hB dL_areLakesRight_173 ?_
      rw [show nI j + 1 = nI (j + 1) from nI_add j 1]
      refine V.cv (pc := 174) hB cw_X9_lakeAtRank wm_L_81 wi_X9_lakeAtRank ws_X9_lakeAtRank dL_areLakesRight_174 (r_rank hG hI2 f2 (by omega)) (hp_at (ca_Bells _)) fk_Bells rfl (by omega) (by decide) rfl (by exact Nat.le_of_ble_eq_true rfl) (by omega) (by omega) kN (kI (fun v_174 m_174 sz h_174 => ?_)) rfl
      obtain ⟨rfl, hm_174⟩ := h_174
      rw [hm_174]
      refine V.istore (pc := 177) hB dL_areLakesRight_177 (by decide) rfl ?_
      refine V.aload_n (pc := 179) hB dL_areLakesRight_179 rfl ?_
      refine V.iload (pc := 180) hB dL_areLakesRight_180 rfl ?_
      refine V.cv (pc := 182) hB cw_X9_iceThickness wm_L_183 wi_X9_iceThickness ws_X9_iceThickness dL_areLakesRight_182 (r_ice hG hI2 r1) (hp_at (ca_Bells _)) fk_Bells rfl (by omega) (by decide) rfl (by exact Nat.le_of_ble_eq_true rfl) (by omega) (by omega) kN (kI (fun v_182 m_182 sz h_182 => ?_)) rfl
      obtain ⟨rfl, hm_182⟩ := h_182
      rw [hm_182]
      rw [i1]
      refine V.aload_n (pc := 185) hB dL_areLakesRight_185 rfl ?_
      refine V.iload (pc := 186) hB dL_areLakesRight_186 rfl ?_
      refine V.cv (pc := 188) hB cw_X9_iceThickness wm_L_183 wi_X9_iceThickness ws_X9_iceThickness dL_areLakesRight_188 (r_ice hG hI2 r2) (hp_at (ca_Bells _)) fk_Bells rfl (by omega) (by decide) rfl (by exact Nat.le_of_ble_eq_true rfl) (by omega) (by omega) kN (kI (fun v_188 m_188 sz h_188 => ?_)) rfl
      obtain ⟨rfl, hm_188⟩ := h_188
      rw [hm_188]
      rw [i3]
      refine V.isub (pc := 191) hB dL_areLakesRight_191 ?_
      refine V.istore (pc := 192) hB dL_areLakesRight_192 (by decide) rfl ?_
      refine V.aload_n (pc := 194) hB dL_areLakesRight_194 rfl ?_
      refine V.iload (pc := 195) hB dL_areLakesRight_195 rfl ?_
      refine V.cv (pc := 197) hB cw_X9_cracksOf wm_L_130 wi_X9_cracksOf ws_X9_cracksOf dL_areLakesRight_197 (r_cracks hG hI2 r1) (hp_at (ca_Bells _)) fk_Bells rfl (by omega) (by decide) rfl (by exact Nat.le_of_ble_eq_true rfl) (by omega) (by omega) kN (kI (fun v_197 m_197 sz h_197 => ?_)) rfl
      obtain ⟨rfl, hm_197⟩ := h_197
      rw [hm_197]
      rw [d1]
      refine V.aload_n (pc := 200) hB dL_areLakesRight_200 rfl ?_
      refine V.iload (pc := 201) hB dL_areLakesRight_201 rfl ?_
      refine V.cv (pc := 203) hB cw_X9_cracksOf wm_L_130 wi_X9_cracksOf ws_X9_cracksOf dL_areLakesRight_203 (r_cracks hG hI2 r2) (hp_at (ca_Bells _)) fk_Bells rfl (by omega) (by decide) rfl (by exact Nat.le_of_ble_eq_true rfl) (by omega) (by omega) kN (kI (fun v_203 m_203 sz h_203 => ?_)) rfl
      obtain ⟨rfl, hm_203⟩ := h_203
      rw [hm_203]
      rw [d3]
      refine V.isub (pc := 206) hB dL_areLakesRight_206 ?_
      refine V.istore (pc := 207) hB dL_areLakesRight_207 (by decide) rfl ?_
      refine V.iload (pc := 209) hB dL_areLakesRight_209 rfl ?_
      refine V.if_eq (pc := 211) (tgt := 245) hB dL_areLakesRight_211 (by decide) (fun c_211 => ?_) (fun c_211 => ?_)
      · exact absurd c_211 (by decide)
      · refine V.iload (pc := 214) hB dL_areLakesRight_214 rfl ?_
        refine V.if_gt (pc := 216) (tgt := 241) hB dL_areLakesRight_216 (by decide) (fun c_216 => ?_) (fun c_216 => ?_)
        · refine V.iconst (pc := 241) (v := 1) hB dL_areLakesRight_241 rfl ?_
          refine V.goto (pc := 242) (tgt := 246) hB dL_areLakesRight_242 (by decide) ?_
          refine V.istore (pc := 246) hB dL_areLakesRight_246 (by decide) rfl ?_
          refine V.iinc (pc := 248) (v := nI (j + 1)) hB dL_areLakesRight_248 rfl (nI_1 _) (by decide) rfl ?_
          refine V.goto (pc := 251) (tgt := 153) hB dL_areLakesRight_251 (by decide) ?_
          exact V.wid (by omega) (by omega) (ih (nLk m 0 - j - 1) (by omega) (j + 1) (by omega) _ _ _ _ _)
        · have g1 : ¬ S (R (j + 1)) < S (R j) := fun z9 => c_216 ((sub_gt (by omega) (by omega)).mpr z9)
          refine V.iload (pc := 219) hB dL_areLakesRight_219 rfl ?_
          refine V.if_ne (pc := 221) (tgt := 245) hB dL_areLakesRight_221 (by decide) (fun c_221 => ?_) (fun c_221 => ?_)
          · exact absurd ((sub_z (by omega) (by omega)).mpr (by omega)) c_221
          · refine V.iload (pc := 224) hB dL_areLakesRight_224 rfl ?_
            refine V.if_gt (pc := 226) (tgt := 241) hB dL_areLakesRight_226 (by decide) (fun c_226 => ?_) (fun c_226 => ?_)
            · refine V.iconst (pc := 241) (v := 1) hB dL_areLakesRight_241 rfl ?_
              refine V.goto (pc := 242) (tgt := 246) hB dL_areLakesRight_242 (by decide) ?_
              refine V.istore (pc := 246) hB dL_areLakesRight_246 (by decide) rfl ?_
              refine V.iinc (pc := 248) (v := nI (j + 1)) hB dL_areLakesRight_248 rfl (nI_1 _) (by decide) rfl ?_
              refine V.goto (pc := 251) (tgt := 153) hB dL_areLakesRight_251 (by decide) ?_
              exact V.wid (by omega) (by omega) (ih (nLk m 0 - j - 1) (by omega) (j + 1) (by omega) _ _ _ _ _)
            · have g2 : ¬ C (R (j + 1)) < C (R j) := fun z9 => c_226 ((sub_gt (by omega) (by omega)).mpr z9)
              refine V.iload (pc := 229) hB dL_areLakesRight_229 rfl ?_
              refine V.if_ne (pc := 231) (tgt := 245) hB dL_areLakesRight_231 (by decide) (fun c_231 => ?_) (fun c_231 => ?_)
              · exact absurd ((sub_z (by omega) (by omega)).mpr (by omega)) c_231
              · refine V.iload (pc := 234) hB dL_areLakesRight_234 rfl ?_
                refine V.iload (pc := 236) hB dL_areLakesRight_236 rfl ?_
                refine V.icmp_ge (pc := 238) (tgt := 245) hB dL_areLakesRight_238 (by decide) (fun c_238 => ?_) (fun c_238 => ?_)
                · exact absurd ((nI_leI (by omega) (by omega)).mp c_238) (by omega)
                · refine V.iconst (pc := 241) (v := 1) hB dL_areLakesRight_241 rfl ?_
                  refine V.goto (pc := 242) (tgt := 246) hB dL_areLakesRight_242 (by decide) ?_
                  refine V.istore (pc := 246) hB dL_areLakesRight_246 (by decide) rfl ?_
                  refine V.iinc (pc := 248) (v := nI (j + 1)) hB dL_areLakesRight_248 rfl (nI_1 _) (by decide) rfl ?_
                  refine V.goto (pc := 251) (tgt := 153) hB dL_areLakesRight_251 (by decide) ?_
                  exact V.wid (by omega) (by omega) (ih (nLk m 0 - j - 1) (by omega) (j + 1) (by omega) _ _ _ _ _)
  have lp1 : ∀ p j : Nat, j + p = nLk m 0 → ∀ (M : Mem) (sz : Nat), IV g K M → LF m M → V g B (8 + 402 * j) (48 + 24012 * j) (QM g B 2100 121000 (rI (fun v m2 => v = 1 ∧ IV g K m2)) noX) (hp g M) sz 99 [some (.ref (ad g 0)), some (.int (nI (nLk m 0))), some (.int (l_sum (iceV m 0) j)), some (.int (l_sum (fun y => m.1 (LK 0 y) 5) j)), some (.int 1), some (.int (nI (j))), none, none, none, none] [] := by
    refine loop_dn (fun p ih j hj M sz hV9 hF => ?_)
    refine V.iload (pc := 99) hB dL_areLakesRight_99 rfl ?_
    refine V.iload_n (pc := 101) hB dL_areLakesRight_101 rfl ?_
    refine V.icmp_ge (pc := 102) (tgt := 150) hB dL_areLakesRight_102 (by decide) (fun c_102 => ?_) (fun c_102 => ?_)
    · have hle := (nI_leI (by omega) (by omega)).mp c_102
      obtain rfl : j = nLk m 0 := by omega
      refine V.iconst (pc := 150) (v := 0) hB dL_areLakesRight_150 rfl ?_
      refine V.istore (pc := 151) hB dL_areLakesRight_151 (by decide) rfl ?_
      obtain ⟨S, C, R, hS, hC, hR, hb, -, -⟩ := rank_all hV9.ci hV9.xl hV9.xc.1 hK
      have hn9 := hF.nl
      exact V.wid (by omega) (by omega) (lp2 M _ _ S C R hV9 hn9 (by rw [hn9]; exact (l_sum_cg _ (fun y hy => hF.ice (by omega))).symm) (by rw [hn9]; exact l_sum_cg _ (fun y hy => by rw [show M.1 (LK 0 y) = m.1 (LK 0 y) from hF.lk (o := 0) (by omega) (by omega)])) hS hC hR hb (nLk m 0) 0 (by omega) _ _ _ _ _)
    · have hlt : j < nLk m 0 := Nat.not_le.mp (fun z9 => c_102 ((nI_leI (by omega) (by omega)).mpr z9))
      have hq9 : j < nLk M 0 := by rw [hF.nl]; exact hlt
      refine V.iload_n (pc := 105) hB dL_areLakesRight_105 rfl ?_
      refine V.aload_n (pc := 106) hB dL_areLakesRight_106 rfl ?_
      refine V.iload (pc := 107) hB dL_areLakesRight_107 rfl ?_
      refine V.cv (pc := 109) hB cw_X9_iceThickness wm_L_183 wi_X9_iceThickness ws_X9_iceThickness dL_areLakesRight_109 (r_ice hG hV9.ci hq9) (hp_at (ca_Bells _)) fk_Bells rfl (by omega) (by decide) rfl (by exact Nat.le_of_ble_eq_true rfl) (by omega) (by omega) kN (kI (fun v_109 m_109 sz h_109 => ?_)) rfl
      obtain ⟨rfl, hm_109⟩ := h_109
      rw [hm_109]
      rw [hF.ice (j := j) (by omega)]
      refine V.iadd (pc := 112) hB dL_areLakesRight_112 ?_
      rw [show l_sum (iceV m 0) j + iceV m 0 j = l_sum (iceV m 0) (j + 1) from rfl]
      refine V.istore_n (pc := 113) hB dL_areLakesRight_113 (by decide) rfl ?_
      refine V.iload_n (pc := 114) hB dL_areLakesRight_114 rfl ?_
      refine V.aload_n (pc := 115) hB dL_areLakesRight_115 rfl ?_
      refine V.iload (pc := 116) hB dL_areLakesRight_116 rfl ?_
      refine V.cv (pc := 118) hB cw_X9_cracksOf wm_L_130 wi_X9_cracksOf ws_X9_cracksOf dL_areLakesRight_118 (r_cracks hG hV9.ci hq9) (hp_at (ca_Bells _)) fk_Bells rfl (by omega) (by decide) rfl (by exact Nat.le_of_ble_eq_true rfl) (by omega) (by omega) kN (kI (fun v_118 m_118 sz h_118 => ?_)) rfl
      obtain ⟨rfl, hm_118⟩ := h_118
      rw [hm_118]
      rw [show M.1 (LK 0 j) = m.1 (LK 0 j) from hF.lk (o := 0) (by omega) (by omega)]
      refine V.iadd (pc := 121) hB dL_areLakesRight_121 ?_
      rw [show l_sum (fun y => m.1 (LK 0 y) 5) j + m.1 (LK 0 j) 5 = l_sum (fun y => m.1 (LK 0 y) 5) (j + 1) from rfl]
      refine V.istore_n (pc := 122) hB dL_areLakesRight_122 (by decide) rfl ?_
      refine V.iload (pc := 123) hB dL_areLakesRight_123 rfl ?_
      refine V.if_eq (pc := 125) (tgt := 141) hB dL_areLakesRight_125 (by decide) (fun c_125 => ?_) (fun c_125 => ?_)
      · exact absurd c_125 (by decide)
      · refine V.aload_n (pc := 128) hB dL_areLakesRight_128 rfl ?_
        refine V.iload (pc := 129) hB dL_areLakesRight_129 rfl ?_
        refine V.cs (pc := 131) hB cw_L_isLakeRight wm_L_211 wst_L_isLakeRight dL_areLakesRight_131 (c_L_isLakeRight hG hE hx0 hV9 hq9) (by omega) (by decide) rfl (by exact Nat.le_of_ble_eq_true rfl) (by omega) (by omega) kN (kI (fun v_131 m_131 sz h_131 => ?_)) rfl
        obtain ⟨rfl, hV8, hF8⟩ := h_131
        refine V.if_eq (pc := 134) (tgt := 141) hB dL_areLakesRight_134 (by decide) (fun c_134 => ?_) (fun c_134 => ?_)
        · exact absurd c_134 (by decide)
        · refine V.iconst (pc := 137) (v := 1) hB dL_areLakesRight_137 rfl ?_
          refine V.goto (pc := 138) (tgt := 142) hB dL_areLakesRight_138 (by decide) ?_
          refine V.istore (pc := 142) hB dL_areLakesRight_142 (by decide) rfl ?_
          refine V.iinc (pc := 144) (v := nI (j + 1)) hB dL_areLakesRight_144 rfl (nI_1 _) (by decide) rfl ?_
          refine V.goto (pc := 147) (tgt := 99) hB dL_areLakesRight_147 (by decide) ?_
          exact V.wid (by omega) (by omega) (ih (nLk m 0 - j - 1) (by omega) (j + 1) (by omega) _ _ hV8 (hF.trans hF8))
  refine V.aload_n (pc := 0) hB dL_areLakesRight_0 rfl ?_
  refine V.cv (pc := 1) hB cw_X9_lakeCount wm_L_107 wi_X9_lakeCount ws_X9_lakeCount dL_areLakesRight_1 (c_X9_lakeCount hG) (hp_at (ca_Bells _)) fk_Bells rfl (by omega) (by decide) rfl (by exact Nat.le_of_ble_eq_true rfl) (by omega) (by omega) kN (kI (fun v_1 m_1 sz h_1 => ?_)) rfl
  obtain ⟨rfl, hm_1⟩ := h_1
  rw [hm_1, hI.1.nl]
  refine V.istore_n (pc := 4) hB dL_areLakesRight_4 (by decide) rfl ?_
  refine V.iconst (pc := 5) (v := 0) hB dL_areLakesRight_5 rfl ?_
  refine V.istore_n (pc := 6) hB dL_areLakesRight_6 (by decide) rfl ?_
  refine V.iconst (pc := 7) (v := 0) hB dL_areLakesRight_7 rfl ?_
  refine V.istore_n (pc := 8) hB dL_areLakesRight_8 (by decide) rfl ?_
  refine V.aload_n (pc := 9) hB dL_areLakesRight_9 rfl ?_
  refine V.iconst (pc := 10) (v := 0) hB dL_areLakesRight_10 rfl ?_
  refine V.iload_n (pc := 11) hB dL_areLakesRight_11 rfl ?_
  refine V.iconst (pc := 12) (v := 0) hB dL_areLakesRight_12 rfl ?_
  refine V.csW (pc := 13) hB cwx_L_ask wm_L_160 wst_L_ask dL_areLakesRight_13 (a0_out hG hI (out_nI (by omega))) (by omega) (by decide) rfl (by exact Nat.le_of_ble_eq_true rfl) (by omega) (by omega) (kI (fun v_13 m_13 sz h_13 => ?_)) rfl
  obtain ⟨rfl, hm_13⟩ := h_13
  rw [hm_13]
  refine V.sipush (pc := 16) (v := (-2002)) hB dL_areLakesRight_16 rfl ?_
  refine V.icmp_ne (pc := 19) (tgt := 93) hB dL_areLakesRight_19 (by decide) (fun c_19 => ?_) (fun c_19 => ?_)
  · exact absurd rfl c_19
  · refine V.aload_n (pc := 22) hB dL_areLakesRight_22 rfl ?_
    refine V.iconst (pc := 23) (v := 0) hB dL_areLakesRight_23 rfl ?_
    refine V.iconst (pc := 24) (v := (-1)) hB dL_areLakesRight_24 rfl ?_
    refine V.iconst (pc := 25) (v := 0) hB dL_areLakesRight_25 rfl ?_
    refine V.csW (pc := 26) hB cwx_L_ask wm_L_160 wst_L_ask dL_areLakesRight_26 (a0_out hG hI out_m1) (by omega) (by decide) rfl (by exact Nat.le_of_ble_eq_true rfl) (by omega) (by omega) (kI (fun v_26 m_26 sz h_26 => ?_)) rfl
    obtain ⟨rfl, hm_26⟩ := h_26
    rw [hm_26]
    refine V.sipush (pc := 29) (v := (-2002)) hB dL_areLakesRight_29 rfl ?_
    refine V.icmp_ne (pc := 32) (tgt := 93) hB dL_areLakesRight_32 (by decide) (fun c_32 => ?_) (fun c_32 => ?_)
    · exact absurd rfl c_32
    · refine V.aload_n (pc := 35) hB dL_areLakesRight_35 rfl ?_
      refine V.iconst (pc := 36) (v := 2) hB dL_areLakesRight_36 rfl ?_
      refine V.iload_n (pc := 37) hB dL_areLakesRight_37 rfl ?_
      refine V.iconst (pc := 38) (v := 0) hB dL_areLakesRight_38 rfl ?_
      refine V.csW (pc := 39) hB cwx_L_ask wm_L_160 wst_L_ask dL_areLakesRight_39 (a2_out hG hI (out_nI (by omega))) (by omega) (by decide) rfl (by exact Nat.le_of_ble_eq_true rfl) (by omega) (by omega) (kI (fun v_39 m_39 sz h_39 => ?_)) rfl
      obtain ⟨rfl, hm_39⟩ := h_39
      rw [hm_39]
      refine V.sipush (pc := 42) (v := (-2002)) hB dL_areLakesRight_42 rfl ?_
      refine V.icmp_ne (pc := 45) (tgt := 93) hB dL_areLakesRight_45 (by decide) (fun c_45 => ?_) (fun c_45 => ?_)
      · exact absurd rfl c_45
      · refine V.aload_n (pc := 48) hB dL_areLakesRight_48 rfl ?_
        refine V.iconst (pc := 49) (v := 4) hB dL_areLakesRight_49 rfl ?_
        refine V.iload_n (pc := 50) hB dL_areLakesRight_50 rfl ?_
        refine V.iconst (pc := 51) (v := 0) hB dL_areLakesRight_51 rfl ?_
        refine V.csW (pc := 52) hB cwx_L_ask wm_L_160 wst_L_ask dL_areLakesRight_52 (a4_out hG hI (out_nI (by omega))) (by omega) (by decide) rfl (by exact Nat.le_of_ble_eq_true rfl) (by omega) (by omega) (kI (fun v_52 m_52 sz h_52 => ?_)) rfl
        obtain ⟨rfl, hm_52⟩ := h_52
        rw [hm_52]
        refine V.sipush (pc := 55) (v := (-2002)) hB dL_areLakesRight_55 rfl ?_
        refine V.icmp_ne (pc := 58) (tgt := 93) hB dL_areLakesRight_58 (by decide) (fun c_58 => ?_) (fun c_58 => ?_)
        · exact absurd rfl c_58
        · refine V.aload_n (pc := 61) hB dL_areLakesRight_61 rfl ?_
          refine V.bipush (pc := 62) (v := 8) hB dL_areLakesRight_62 rfl ?_
          refine V.iload_n (pc := 64) hB dL_areLakesRight_64 rfl ?_
          refine V.iconst (pc := 65) (v := 0) hB dL_areLakesRight_65 rfl ?_
          refine V.csW (pc := 66) hB cwx_L_ask wm_L_160 wst_L_ask dL_areLakesRight_66 (a8_out hG hI ho1) (by omega) (by decide) rfl (by exact Nat.le_of_ble_eq_true rfl) (by omega) (by omega) (kI (fun v_66 m_66 sz h_66 => ?_)) rfl
          obtain ⟨rfl, hm_66⟩ := h_66
          rw [hm_66]
          refine V.sipush (pc := 69) (v := (-2004)) hB dL_areLakesRight_69 rfl ?_
          refine V.icmp_ne (pc := 72) (tgt := 93) hB dL_areLakesRight_72 (by decide) (fun c_72 => ?_) (fun c_72 => ?_)
          · exact absurd rfl c_72
          · refine V.aload_n (pc := 75) hB dL_areLakesRight_75 rfl ?_
            refine V.bipush (pc := 76) (v := 8) hB dL_areLakesRight_76 rfl ?_
            refine V.iconst (pc := 78) (v := (-1)) hB dL_areLakesRight_78 rfl ?_
            refine V.iconst (pc := 79) (v := 0) hB dL_areLakesRight_79 rfl ?_
            refine V.csW (pc := 80) hB cwx_L_ask wm_L_160 wst_L_ask dL_areLakesRight_80 (a8_out hG hI ho2) (by omega) (by decide) rfl (by exact Nat.le_of_ble_eq_true rfl) (by omega) (by omega) (kI (fun v_80 m_80 sz h_80 => ?_)) rfl
            obtain ⟨rfl, hm_80⟩ := h_80
            rw [hm_80]
            refine V.sipush (pc := 83) (v := (-2004)) hB dL_areLakesRight_83 rfl ?_
            refine V.icmp_ne (pc := 86) (tgt := 93) hB dL_areLakesRight_86 (by decide) (fun c_86 => ?_) (fun c_86 => ?_)
            · exact absurd rfl c_86
            · refine V.iconst (pc := 89) (v := 1) hB dL_areLakesRight_89 rfl ?_
              refine V.goto (pc := 90) (tgt := 94) hB dL_areLakesRight_90 (by decide) ?_
              refine V.istore (pc := 94) hB dL_areLakesRight_94 (by decide) rfl ?_
              refine V.iconst (pc := 96) (v := 0) hB dL_areLakesRight_96 rfl ?_
              refine V.istore (pc := 97) hB dL_areLakesRight_97 (by decide) rfl ?_
              exact V.wid (by omega) (by omega) (lp1 (nLk m 0) 0 (by omega) m _ hV (LF.refl m))

