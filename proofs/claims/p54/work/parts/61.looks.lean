/-! all that changes can change, in one number -/
def lkA (M : Mem) : Int32 := 31 * (31 * (31 * M.1 (LA 0) 3 + M.1 (LA 0) 2) + M.1 (LA 0) 4) + M.1 (LA 0) 5
def lyL (M : Mem) (j : Nat) (x : Int32) : Nat → Int32 | 0 => x | y + 1 => 31 * (31 * (31 * lyL M j x y + M.1 (LK 0 j + 1) y) + M.1 (LK 0 j + 2) y) + M.1 (LK 0 j + 3) y
def lkL (M : Mem) (x : Int32) : Nat → Int32 | 0 => x | j + 1 => lyL M j (31 * (31 * lkL M x j + M.1 (LK 0 j) 4) + M.1 (LK 0 j) 5) (nLy M 0 j)
def lkW (M : Mem) (x : Int32) : Nat → Int32 | 0 => x | k + 1 => 31 * (31 * lkW M x k + M.1 (LA 0 + 3) k) + M.1 (LA 0 + 4) k
def lkP (M : Mem) (x : Int32) : Nat → Int32 | 0 => x | k + 1 => 31 * (31 * (31 * (31 * lkP M x k + M.1 (LA 0 + 6) (psl M 0 k)) + M.1 (LA 0 + 7) (psl M 0 k)) + M.1 (LA 0 + 8) (psl M 0 k)) + M.1 (LA 0 + 9) (psl M 0 k)
def lkV (M : Mem) : Int32 := lkP M (lkW M (lkL M (lkA M) (nLk M 0)) (nWn M 0)) (cOf M 0)
theorem sm_lyL {m m' : Mem} (hs : Sm m m' 0 0) {j : Nat} (hj : j < nLk m 0) (x : Int32) : ∀ y, y ≤ 8 → lyL m' j x y = lyL m j x y
  | 0, _ => rfl
  | y + 1, hy => by
    show 31 * (31 * (31 * lyL m' j x y + m'.1 (LK 0 j + 1) y) + m'.1 (LK 0 j + 2) y) + m'.1 (LK 0 j + 3) y = 31 * (31 * (31 * lyL m j x y + m.1 (LK 0 j + 1) y) + m.1 (LK 0 j + 2) y) + m.1 (LK 0 j + 3) y
    rw [sm_lyL hs hj x y (by omega), hs.r j hj 1 (by omega) (by omega) y (by omega), hs.r j hj 2 (by omega) (by omega) y (by omega), hs.r j hj 3 (by omega) (by omega) y (by omega)]
theorem sm_lkL {m m' : Mem} (hs : Sm m m' 0 0) (hL : LW m 0) (x : Int32) : ∀ j, j ≤ nLk m 0 → lkL m' x j = lkL m x j
  | 0, _ => rfl
  | j + 1, hj => by
    show lyL m' j (31 * (31 * lkL m' x j + m'.1 (LK 0 j) 4) + m'.1 (LK 0 j) 5) (nLy m' 0 j) = lyL m j (31 * (31 * lkL m x j + m.1 (LK 0 j) 4) + m.1 (LK 0 j) 5) (nLy m 0 j)
    rw [sm_lkL hs hL x j (by omega), hs.k j (by omega) 4 (by omega) (by omega), hs.k j (by omega) 5 (by omega) (by omega), hs.ny (by omega)]
    exact sm_lyL hs (by omega) _ _ (hL.ln (by omega)).2
theorem sm_lkW {m m' : Mem} (hs : Sm m m' 0 0) (x : Int32) : ∀ k, k ≤ 6 → lkW m' x k = lkW m x k
  | 0, _ => rfl
  | k + 1, hk => by
    show 31 * (31 * lkW m' x k + m'.1 (LA 0 + 3) k) + m'.1 (LA 0 + 4) k = 31 * (31 * lkW m x k + m.1 (LA 0 + 3) k) + m.1 (LA 0 + 4) k
    rw [sm_lkW hs x k (by omega), hs.w 3 (by omega) (by omega) k (by omega), hs.w 4 (by omega) (by omega) k (by omega)]
theorem sm_lkP {m m' : Mem} (hs : Sm m m' 0 0) (x : Int32) : ∀ k, lkP m' x k = lkP m x k
  | 0 => rfl
  | k + 1 => by
    have e : psl m' 0 k = psl m 0 k := by unfold psl; rw [hs.pw]
    show 31 * (31 * (31 * (31 * lkP m' x k + m'.1 (LA 0 + 6) (psl m' 0 k)) + m'.1 (LA 0 + 7) (psl m' 0 k)) + m'.1 (LA 0 + 8) (psl m' 0 k)) + m'.1 (LA 0 + 9) (psl m' 0 k) = 31 * (31 * (31 * (31 * lkP m x k + m.1 (LA 0 + 6) (psl m 0 k)) + m.1 (LA 0 + 7) (psl m 0 k)) + m.1 (LA 0 + 8) (psl m 0 k)) + m.1 (LA 0 + 9) (psl m 0 k)
    rw [sm_lkP hs x k, e, hs.p 6 (by omega) (by omega) _ (psl_lt _ _ _), hs.p 7 (by omega) (by omega) _ (psl_lt _ _ _), hs.p 8 (by omega) (by omega) _ (psl_lt _ _ _), hs.p 9 (by omega) (by omega) _ (psl_lt _ _ _)]
theorem sm_lkV {m m' : Mem} (hs : Sm m m' 0 0) (hL : LW m 0) : lkV m' = lkV m := by
  have ea : lkA m' = lkA m := by unfold lkA; rw [hs.f 3 (by omega) (by omega), hs.f 2 (by omega) (by omega), hs.f 4 (by omega) (by omega), hs.f 5 (by omega) (by omega)]
  unfold lkV
  rw [hs.nl, hs.nw, hs.pc, ea, sm_lkL hs hL _ _ (Nat.le_refl _), sm_lkW hs _ _ hL.wr.2, sm_lkP hs]

set_option maxRecDepth 100000 in
set_option maxHeartbeats 4000000 in
theorem c_L_looks {g : xG} (hG : GK g) {m : Mem} (hI : CI m) : CC g yL_looks (.code yL_looks cL_looks 4 (some .int)) 6 400 2400 [.ref (ad g 0)] m (rI (fun v m2 => v = lkV m ∧ m2 = m)) noX := by
  have h16 := hI.1.pr.2.2.2
  have h5 := hI.1.nl5
  have h6 := hI.1.wr.2
  refine CC.mk hG RL rfl (by decide +kernel) rfl (Nat.le_of_ble_eq_true rfl) (fun sz B hB hX => ?_)
  show V g B 0 0 _ (hp g m) sz 0 [some (.ref (ad g 0)), none, none, none] []
  have lpp : ∀ p q : Nat, q + p = cOf m 0 → ∀ (sz : Nat) (x3 : Option Value), V g B (312 + 4 * q) (1872 + 24 * q) (QM g B 400 2400 (rI (fun v m2 => v = lkV m ∧ m2 = m)) noX) (hp g m) sz 152 [some (.ref (ad g 0)), some (.int (lkP m (lkW m (lkL m (lkA m) (nLk m 0)) (nWn m 0)) q)), some (.int (nI (q))), x3] [] := by
    refine loop_dn (fun p ih q hqp sz x3 => ?_)
    refine V.iload_n (pc := 152) hB dL_looks_152 rfl ?_
    refine V.aload_n (pc := 153) hB dL_looks_153 rfl ?_
    refine V.cv (pc := 154) hB cw_X9_pealCount wm_L_145 wi_X9_pealCount ws_X9_pealCount dL_looks_154 (c_X9_pealCount hG) (hp_at (ca_Bells _)) fk_Bells rfl (by omega) (by decide) rfl (by exact Nat.le_of_ble_eq_true rfl) (by omega) (by omega) kN (kI (fun v_154 m_154 sz h_154 => ?_)) rfl
    obtain ⟨rfl, hm_154⟩ := h_154
    rw [hm_154]
    rw [hI.1.pr.2.2.1]
    refine V.icmp_ge (pc := 157) (tgt := 204) hB dL_looks_157 (by decide) (fun c_157 => ?_) (fun c_157 => ?_)
    · have hle := (nI_leI (by omega) (by omega)).mp c_157
      obtain rfl : q = cOf m 0 := by omega
      refine V.iload_n (pc := 204) hB dL_looks_204 rfl ?_
      refine V.retI (pc := 205) hB dL_looks_205 rfl (rfl) (by omega) (by omega) ?_
      exact ⟨rfl, rfl⟩
    · have hq : q < cOf m 0 := Nat.not_le.mp (fun z => c_157 ((nI_leI (by omega) (by omega)).mpr z))
      refine V.bipush (pc := 160) (v := 31) hB dL_looks_160 rfl ?_
      refine V.bipush (pc := 162) (v := 31) hB dL_looks_162 rfl ?_
      refine V.bipush (pc := 164) (v := 31) hB dL_looks_164 rfl ?_
      refine V.bipush (pc := 166) (v := 31) hB dL_looks_166 rfl ?_
      refine V.iload_n (pc := 168) hB dL_looks_168 rfl ?_
      refine V.imul (pc := 169) hB dL_looks_169 ?_
      refine V.aload_n (pc := 170) hB dL_looks_170 rfl ?_
      refine V.iload_n (pc := 171) hB dL_looks_171 rfl ?_
      refine V.cv (pc := 172) hB cw_X9_pealKind wm_L_148 wi_X9_pealKind ws_X9_pealKind dL_looks_172 (r_pKind hG hI hq) (hp_at (ca_Bells _)) fk_Bells rfl (by omega) (by decide) rfl (by exact Nat.le_of_ble_eq_true rfl) (by omega) (by omega) kN (kI (fun v_172 m_172 sz h_172 => ?_)) rfl
      obtain ⟨rfl, hm_172⟩ := h_172
      rw [hm_172]
      refine V.iadd (pc := 175) hB dL_looks_175 ?_
      refine V.imul (pc := 176) hB dL_looks_176 ?_
      refine V.aload_n (pc := 177) hB dL_looks_177 rfl ?_
      refine V.iload_n (pc := 178) hB dL_looks_178 rfl ?_
      refine V.cv (pc := 179) hB cw_X9_pealLake wm_L_152 wi_X9_pealLake ws_X9_pealLake dL_looks_179 (r_pLake hG hI hq) (hp_at (ca_Bells _)) fk_Bells rfl (by omega) (by decide) rfl (by exact Nat.le_of_ble_eq_true rfl) (by omega) (by omega) kN (kI (fun v_179 m_179 sz h_179 => ?_)) rfl
      obtain ⟨rfl, hm_179⟩ := h_179
      rw [hm_179]
      refine V.iadd (pc := 182) hB dL_looks_182 ?_
      refine V.imul (pc := 183) hB dL_looks_183 ?_
      refine V.aload_n (pc := 184) hB dL_looks_184 rfl ?_
      refine V.iload_n (pc := 185) hB dL_looks_185 rfl ?_
      refine V.cv (pc := 186) hB cw_X9_pealPitch wm_L_78 wi_X9_pealPitch ws_X9_pealPitch dL_looks_186 (r_pPitch hG hI hq) (hp_at (ca_Bells _)) fk_Bells rfl (by omega) (by decide) rfl (by exact Nat.le_of_ble_eq_true rfl) (by omega) (by omega) kN (kI (fun v_186 m_186 sz h_186 => ?_)) rfl
      obtain ⟨rfl, hm_186⟩ := h_186
      rw [hm_186]
      refine V.iadd (pc := 189) hB dL_looks_189 ?_
      refine V.imul (pc := 190) hB dL_looks_190 ?_
      refine V.aload_n (pc := 191) hB dL_looks_191 rfl ?_
      refine V.iload_n (pc := 192) hB dL_looks_192 rfl ?_
      refine V.cv (pc := 193) hB cw_X9_pealHour wm_L_155 wi_X9_pealHour ws_X9_pealHour dL_looks_193 (r_pHour hG hI hq) (hp_at (ca_Bells _)) fk_Bells rfl (by omega) (by decide) rfl (by exact Nat.le_of_ble_eq_true rfl) (by omega) (by omega) kN (kI (fun v_193 m_193 sz h_193 => ?_)) rfl
      obtain ⟨rfl, hm_193⟩ := h_193
      rw [hm_193]
      refine V.iadd (pc := 196) hB dL_looks_196 ?_
      refine V.istore_n (pc := 197) hB dL_looks_197 (by decide) rfl ?_
      refine V.iinc (pc := 198) (v := nI (q + 1)) hB dL_looks_198 rfl (nI_1 _) (by decide) rfl ?_
      refine V.goto (pc := 201) (tgt := 152) hB dL_looks_201 (by decide) ?_
      exact V.wid (by omega) (by omega) (ih (cOf m 0 - q - 1) (by omega) (q + 1) (by omega) _ _)
  have lpw : ∀ p q : Nat, q + p = nWn m 0 → ∀ (sz : Nat) (x3 : Option Value), V g B (300 + 2 * q) (1800 + 12 * q) (QM g B 400 2400 (rI (fun v m2 => v = lkV m ∧ m2 = m)) noX) (hp g m) sz 116 [some (.ref (ad g 0)), some (.int (lkW m (lkL m (lkA m) (nLk m 0)) q)), some (.int (nI (q))), x3] [] := by
    refine loop_dn (fun p ih q hqp sz x3 => ?_)
    refine V.iload_n (pc := 116) hB dL_looks_116 rfl ?_
    refine V.aload_n (pc := 117) hB dL_looks_117 rfl ?_
    refine V.cv (pc := 118) hB cw_X9_windowCount wm_L_118 wi_X9_windowCount ws_X9_windowCount dL_looks_118 (c_X9_windowCount hG) (hp_at (ca_Bells _)) fk_Bells rfl (by omega) (by decide) rfl (by exact Nat.le_of_ble_eq_true rfl) (by omega) (by omega) kN (kI (fun v_118 m_118 sz h_118 => ?_)) rfl
    obtain ⟨rfl, hm_118⟩ := h_118
    rw [hm_118]
    rw [hI.1.wr.1]
    refine V.icmp_ge (pc := 121) (tgt := 150) hB dL_looks_121 (by decide) (fun c_121 => ?_) (fun c_121 => ?_)
    · have hle := (nI_leI (by omega) (by omega)).mp c_121
      obtain rfl : q = nWn m 0 := by omega
      refine V.iconst (pc := 150) (v := 0) hB dL_looks_150 rfl ?_
      refine V.istore_n (pc := 151) hB dL_looks_151 (by decide) rfl ?_
      exact V.wid (by omega) (by omega) (lpp (cOf m 0) 0 (by omega) _ _)
    · have hq : q < nWn m 0 := Nat.not_le.mp (fun z => c_121 ((nI_leI (by omega) (by omega)).mpr z))
      refine V.bipush (pc := 124) (v := 31) hB dL_looks_124 rfl ?_
      refine V.bipush (pc := 126) (v := 31) hB dL_looks_126 rfl ?_
      refine V.iload_n (pc := 128) hB dL_looks_128 rfl ?_
      refine V.imul (pc := 129) hB dL_looks_129 ?_
      refine V.aload_n (pc := 130) hB dL_looks_130 rfl ?_
      refine V.iload_n (pc := 131) hB dL_looks_131 rfl ?_
      refine V.cv (pc := 132) hB cw_X9_windowFirst wm_L_72 wi_X9_windowFirst ws_X9_windowFirst dL_looks_132 (r_wFirst hG hI hq) (hp_at (ca_Bells _)) fk_Bells rfl (by omega) (by decide) rfl (by exact Nat.le_of_ble_eq_true rfl) (by omega) (by omega) kN (kI (fun v_132 m_132 sz h_132 => ?_)) rfl
      obtain ⟨rfl, hm_132⟩ := h_132
      rw [hm_132]
      refine V.iadd (pc := 135) hB dL_looks_135 ?_
      refine V.imul (pc := 136) hB dL_looks_136 ?_
      refine V.aload_n (pc := 137) hB dL_looks_137 rfl ?_
      refine V.iload_n (pc := 138) hB dL_looks_138 rfl ?_
      refine V.cv (pc := 139) hB cw_X9_windowLast wm_L_142 wi_X9_windowLast ws_X9_windowLast dL_looks_139 (r_wLast hG hI hq) (hp_at (ca_Bells _)) fk_Bells rfl (by omega) (by decide) rfl (by exact Nat.le_of_ble_eq_true rfl) (by omega) (by omega) kN (kI (fun v_139 m_139 sz h_139 => ?_)) rfl
      obtain ⟨rfl, hm_139⟩ := h_139
      rw [hm_139]
      refine V.iadd (pc := 142) hB dL_looks_142 ?_
      refine V.istore_n (pc := 143) hB dL_looks_143 (by decide) rfl ?_
      refine V.iinc (pc := 144) (v := nI (q + 1)) hB dL_looks_144 rfl (nI_1 _) (by decide) rfl ?_
      refine V.goto (pc := 147) (tgt := 116) hB dL_looks_147 (by decide) ?_
      exact V.wid (by omega) (by omega) (ih (nWn m 0 - q - 1) (by omega) (q + 1) (by omega) _ _)
  have lpy : ∀ j : Nat, j < nLk m 0 → (∀ (sz : Nat) (x3 : Option Value), V g B (60 * j + 60) (360 * j + 360) (QM g B 400 2400 (rI (fun v m2 => v = lkV m ∧ m2 = m)) noX) (hp g m) sz 31 [some (.ref (ad g 0)), some (.int (lkL m (lkA m) (j + 1))), some (.int (nI (j + 1))), x3] []) → ∀ p q : Nat, q + p = nLy m 0 j → ∀ sz : Nat, V g B (60 * j + 2 + 7 * q) (360 * j + 12 + 42 * q) (QM g B 400 2400 (rI (fun v m2 => v = lkV m ∧ m2 = m)) noX) (hp g m) sz 61 [some (.ref (ad g 0)), some (.int (lyL m j (31 * (31 * lkL m (lkA m) j + m.1 (LK 0 j) 4) + m.1 (LK 0 j) 5) q)), some (.int (nI (j))), some (.int (nI (q)))] [] := by
    intro j hj kk
    have h8 := (hI.1.ln hj).2
    refine loop_dn (fun p ih q hqp sz => ?_)
    refine V.iload_n (pc := 61) hB dL_looks_61 rfl ?_
    refine V.aload_n (pc := 62) hB dL_looks_62 rfl ?_
    refine V.iload_n (pc := 63) hB dL_looks_63 rfl ?_
    refine V.cv (pc := 64) hB cw_X9_layerCount wm_L_133 wi_X9_layerCount ws_X9_layerCount dL_looks_64 (r_layers hG hI hj) (hp_at (ca_Bells _)) fk_Bells rfl (by omega) (by decide) rfl (by exact Nat.le_of_ble_eq_true rfl) (by omega) (by omega) kN (kI (fun v_64 m_64 sz h_64 => ?_)) rfl
    obtain ⟨rfl, hm_64⟩ := h_64
    rw [hm_64]
    refine V.icmp_ge (pc := 67) (tgt := 108) hB dL_looks_67 (by decide) (fun c_67 => ?_) (fun c_67 => ?_)
    · have hle := (nI_leI (by omega) (by omega)).mp c_67
      obtain rfl : q = nLy m 0 j := by omega
      refine V.iinc (pc := 108) (v := nI (j + 1)) hB dL_looks_108 rfl (nI_1 _) (by decide) rfl ?_
      refine V.goto (pc := 111) (tgt := 31) hB dL_looks_111 (by decide) ?_
      exact V.wid (by omega) (by omega) (kk _ _)
    · have hq : q < nLy m 0 j := Nat.not_le.mp (fun z => c_67 ((nI_leI (by omega) (by omega)).mpr z))
      refine V.bipush (pc := 70) (v := 31) hB dL_looks_70 rfl ?_
      refine V.bipush (pc := 72) (v := 31) hB dL_looks_72 rfl ?_
      refine V.bipush (pc := 74) (v := 31) hB dL_looks_74 rfl ?_
      refine V.iload_n (pc := 76) hB dL_looks_76 rfl ?_
      refine V.imul (pc := 77) hB dL_looks_77 ?_
      refine V.aload_n (pc := 78) hB dL_looks_78 rfl ?_
      refine V.iload_n (pc := 79) hB dL_looks_79 rfl ?_
      refine V.iload_n (pc := 80) hB dL_looks_80 rfl ?_
      refine V.cv (pc := 81) hB cw_X9_thickness wm_L_136 wi_X9_thickness ws_X9_thickness dL_looks_81 (r_thick hG hI hj hq) (hp_at (ca_Bells _)) fk_Bells rfl (by omega) (by decide) rfl (by exact Nat.le_of_ble_eq_true rfl) (by omega) (by omega) kN (kI (fun v_81 m_81 sz h_81 => ?_)) rfl
      obtain ⟨rfl, hm_81⟩ := h_81
      rw [hm_81]
      refine V.iadd (pc := 84) hB dL_looks_84 ?_
      refine V.imul (pc := 85) hB dL_looks_85 ?_
      refine V.aload_n (pc := 86) hB dL_looks_86 rfl ?_
      refine V.iload_n (pc := 87) hB dL_looks_87 rfl ?_
      refine V.iload_n (pc := 88) hB dL_looks_88 rfl ?_
      refine V.cv (pc := 89) hB cw_X9_temperature wm_L_60 wi_X9_temperature ws_X9_temperature dL_looks_89 (r_temp hG hI hj hq) (hp_at (ca_Bells _)) fk_Bells rfl (by omega) (by decide) rfl (by exact Nat.le_of_ble_eq_true rfl) (by omega) (by omega) kN (kI (fun v_89 m_89 sz h_89 => ?_)) rfl
      obtain ⟨rfl, hm_89⟩ := h_89
      rw [hm_89]
      refine V.iadd (pc := 92) hB dL_looks_92 ?_
      refine V.imul (pc := 93) hB dL_looks_93 ?_
      refine V.aload_n (pc := 94) hB dL_looks_94 rfl ?_
      refine V.iload_n (pc := 95) hB dL_looks_95 rfl ?_
      refine V.iload_n (pc := 96) hB dL_looks_96 rfl ?_
      refine V.cv (pc := 97) hB cw_X9_strain wm_L_139 wi_X9_strain ws_X9_strain dL_looks_97 (r_strain hG hI hj hq) (hp_at (ca_Bells _)) fk_Bells rfl (by omega) (by decide) rfl (by exact Nat.le_of_ble_eq_true rfl) (by omega) (by omega) kN (kI (fun v_97 m_97 sz h_97 => ?_)) rfl
      obtain ⟨rfl, hm_97⟩ := h_97
      rw [hm_97]
      refine V.iadd (pc := 100) hB dL_looks_100 ?_
      refine V.istore_n (pc := 101) hB dL_looks_101 (by decide) rfl ?_
      refine V.iinc (pc := 102) (v := nI (q + 1)) hB dL_looks_102 rfl (nI_1 _) (by decide) rfl ?_
      refine V.goto (pc := 105) (tgt := 61) hB dL_looks_105 (by decide) ?_
      exact V.wid (by omega) (by omega) (ih (nLy m 0 j - q - 1) (by omega) (q + 1) (by omega) _)
  have lpl : ∀ p j : Nat, j + p = nLk m 0 → ∀ (sz : Nat) (x3 : Option Value), V g B (60 * j) (360 * j) (QM g B 400 2400 (rI (fun v m2 => v = lkV m ∧ m2 = m)) noX) (hp g m) sz 31 [some (.ref (ad g 0)), some (.int (lkL m (lkA m) j)), some (.int (nI (j))), x3] [] := by
    refine loop_dn (fun p ih j hjp sz x3 => ?_)
    refine V.iload_n (pc := 31) hB dL_looks_31 rfl ?_
    refine V.aload_n (pc := 32) hB dL_looks_32 rfl ?_
    refine V.cv (pc := 33) hB cw_X9_lakeCount wm_L_107 wi_X9_lakeCount ws_X9_lakeCount dL_looks_33 (c_X9_lakeCount hG) (hp_at (ca_Bells _)) fk_Bells rfl (by omega) (by decide) rfl (by exact Nat.le_of_ble_eq_true rfl) (by omega) (by omega) kN (kI (fun v_33 m_33 sz h_33 => ?_)) rfl
    obtain ⟨rfl, hm_33⟩ := h_33
    rw [hm_33]
    rw [hI.1.nl]
    refine V.icmp_ge (pc := 36) (tgt := 114) hB dL_looks_36 (by decide) (fun c_36 => ?_) (fun c_36 => ?_)
    · have hle := (nI_leI (by omega) (by omega)).mp c_36
      obtain rfl : j = nLk m 0 := by omega
      refine V.iconst (pc := 114) (v := 0) hB dL_looks_114 rfl ?_
      refine V.istore_n (pc := 115) hB dL_looks_115 (by decide) rfl ?_
      exact V.wid (by omega) (by omega) (lpw (nWn m 0) 0 (by omega) _ _)
    · have hj : j < nLk m 0 := Nat.not_le.mp (fun z => c_36 ((nI_leI (by omega) (by omega)).mpr z))
      have h8 := (hI.1.ln hj).2
      refine V.bipush (pc := 39) (v := 31) hB dL_looks_39 rfl ?_
      refine V.bipush (pc := 41) (v := 31) hB dL_looks_41 rfl ?_
      refine V.iload_n (pc := 43) hB dL_looks_43 rfl ?_
      refine V.imul (pc := 44) hB dL_looks_44 ?_
      refine V.aload_n (pc := 45) hB dL_looks_45 rfl ?_
      refine V.iload_n (pc := 46) hB dL_looks_46 rfl ?_
      refine V.cv (pc := 47) hB cw_X9_depth wm_L_57 wi_X9_depth ws_X9_depth dL_looks_47 (r_depth hG hI hj) (hp_at (ca_Bells _)) fk_Bells rfl (by omega) (by decide) rfl (by exact Nat.le_of_ble_eq_true rfl) (by omega) (by omega) kN (kI (fun v_47 m_47 sz h_47 => ?_)) rfl
      obtain ⟨rfl, hm_47⟩ := h_47
      rw [hm_47]
      refine V.iadd (pc := 50) hB dL_looks_50 ?_
      refine V.imul (pc := 51) hB dL_looks_51 ?_
      refine V.aload_n (pc := 52) hB dL_looks_52 rfl ?_
      refine V.iload_n (pc := 53) hB dL_looks_53 rfl ?_
      refine V.cv (pc := 54) hB cw_X9_cracksOf wm_L_130 wi_X9_cracksOf ws_X9_cracksOf dL_looks_54 (r_cracks hG hI hj) (hp_at (ca_Bells _)) fk_Bells rfl (by omega) (by decide) rfl (by exact Nat.le_of_ble_eq_true rfl) (by omega) (by omega) kN (kI (fun v_54 m_54 sz h_54 => ?_)) rfl
      obtain ⟨rfl, hm_54⟩ := h_54
      rw [hm_54]
      refine V.iadd (pc := 57) hB dL_looks_57 ?_
      refine V.istore_n (pc := 58) hB dL_looks_58 (by decide) rfl ?_
      refine V.iconst (pc := 59) (v := 0) hB dL_looks_59 rfl ?_
      refine V.istore_n (pc := 60) hB dL_looks_60 (by decide) rfl ?_
      exact V.wid (by omega) (by omega) (lpy j hj (fun sz x3 => V.wid (by omega) (by omega) (ih (nLk m 0 - j - 1) (by omega) (j + 1) (by omega) _ _)) (nLy m 0 j) 0 (by omega) _)
  refine V.bipush (pc := 0) (v := 31) hB dL_looks_0 rfl ?_
  refine V.bipush (pc := 2) (v := 31) hB dL_looks_2 rfl ?_
  refine V.bipush (pc := 4) (v := 31) hB dL_looks_4 rfl ?_
  refine V.aload_n (pc := 6) hB dL_looks_6 rfl ?_
  refine V.cv (pc := 7) hB cw_X9_hour wm_L_115 wi_X9_hour ws_X9_hour dL_looks_7 (c_X9_hour hG) (hp_at (ca_Bells _)) fk_Bells rfl (by omega) (by decide) rfl (by exact Nat.le_of_ble_eq_true rfl) (by omega) (by omega) kN (kI (fun v_7 m_7 sz h_7 => ?_)) rfl
  obtain ⟨rfl, hm_7⟩ := h_7
  rw [hm_7]
  refine V.imul (pc := 10) hB dL_looks_10 ?_
  refine V.aload_n (pc := 11) hB dL_looks_11 rfl ?_
  refine V.cv (pc := 12) hB cw_X9_air wm_L_121 wi_X9_air ws_X9_air dL_looks_12 (c_X9_air hG) (hp_at (ca_Bells _)) fk_Bells rfl (by omega) (by decide) rfl (by exact Nat.le_of_ble_eq_true rfl) (by omega) (by omega) kN (kI (fun v_12 m_12 sz h_12 => ?_)) rfl
  obtain ⟨rfl, hm_12⟩ := h_12
  rw [hm_12]
  refine V.iadd (pc := 15) hB dL_looks_15 ?_
  refine V.imul (pc := 16) hB dL_looks_16 ?_
  refine V.aload_n (pc := 17) hB dL_looks_17 rfl ?_
  refine V.cv (pc := 18) hB cw_X9_frozenTotal wm_L_124 wi_X9_frozenTotal ws_X9_frozenTotal dL_looks_18 (c_X9_frozenTotal hG) (hp_at (ca_Bells _)) fk_Bells rfl (by omega) (by decide) rfl (by exact Nat.le_of_ble_eq_true rfl) (by omega) (by omega) kN (kI (fun v_18 m_18 sz h_18 => ?_)) rfl
  obtain ⟨rfl, hm_18⟩ := h_18
  rw [hm_18]
  refine V.iadd (pc := 21) hB dL_looks_21 ?_
  refine V.imul (pc := 22) hB dL_looks_22 ?_
  refine V.aload_n (pc := 23) hB dL_looks_23 rfl ?_
  refine V.cv (pc := 24) hB cw_X9_thawedTotal wm_L_127 wi_X9_thawedTotal ws_X9_thawedTotal dL_looks_24 (c_X9_thawedTotal hG) (hp_at (ca_Bells _)) fk_Bells rfl (by omega) (by decide) rfl (by exact Nat.le_of_ble_eq_true rfl) (by omega) (by omega) kN (kI (fun v_24 m_24 sz h_24 => ?_)) rfl
  obtain ⟨rfl, hm_24⟩ := h_24
  rw [hm_24]
  refine V.iadd (pc := 27) hB dL_looks_27 ?_
  refine V.istore_n (pc := 28) hB dL_looks_28 (by decide) rfl ?_
  refine V.iconst (pc := 29) (v := 0) hB dL_looks_29 rfl ?_
  refine V.istore_n (pc := 30) hB dL_looks_30 (by decide) rfl ?_
  exact V.wid (by omega) (by omega) (lpl (nLk m 0) 0 (by omega) _ _)

