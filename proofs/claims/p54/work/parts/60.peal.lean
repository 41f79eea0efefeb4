/-! the law's check of the peals -/
/-- all but the tally's row is as it was -/
def TL (m m2 : Mem) : Prop := m2.2 = m.2 ∧ ∀ k, k ≠ 362 → m2.1 k = m.1 k
theorem TL.refl (m : Mem) : TL m m := ⟨rfl, fun _ _ => rfl⟩
theorem TL.tly (m : Mem) (f : Nat → Int32) : TL m (setRow m 362 f) := ⟨rfl, fun _ h => setRow_cell _ _ h⟩
theorem TL.trans {m m2 m3 : Mem} (h : TL m m2) (h2 : TL m2 m3) : TL m m3 := ⟨h2.1.trans h.1, fun k hk => (h2.2 k hk).trans (h.2 k hk)⟩
theorem TL.iv {g : xG} {K : Nat} {m m2 : Mem} (h : TL m m2) (hV : IV g K m) : IV g K m2 := hV.same h.1 (fun k _ hk => h.2 k hk)
theorem TL.la {m m2 : Mem} (h : TL m m2) {i o : Nat} (hi : i < 11) (ho : o < 30) : m2.1 (LA i + o) = m.1 (LA i + o) := h.2 _ (by have := LA_lt hi; omega)
theorem told_1 {n : Nat} : nI n + (if (1 : Int32) = 0 then 0 else 1) = nI (n + 1) := nI_1 n
theorem told_0 {n : Nat} : nI n + (if (0 : Int32) = 0 then 0 else 1) = nI n := Int32.add_zero _
theorem cnt_s1 {h : Nat → Int32} {x : Int32} {n : Nat} (e : h n = x) : cntEq h x (n + 1) = cntEq h x n + 1 := by rw [cntEq_s, if_pos e.symm]
theorem cnt_s0 {h : Nat → Int32} {x : Int32} {n : Nat} (e : ¬ h n = x) : cntEq h x (n + 1) = cntEq h x n := by rw [cntEq_s, if_neg (fun z => e z.symm)]; rfl

set_option maxRecDepth 100000 in
set_option maxHeartbeats 4000000 in
theorem c_L_arePealsRight {g : xG} (hG : GK g) {K : Nat} {m : Mem} (hV : IV g K m) (hK : K ≤ 1000000) : CC g yL_arePealsRight (.code yL_arePealsRight cL_arePealsRight 8 (some .boolean)) 8 640 3840 [.ref (ad g 0)] m (rI (fun v m2 => v = 1 ∧ TL m m2)) noX := by
  have hI := hV.ci
  have h16 := hI.1.pr.2.2.2
  have h5 := hI.1.nl5
  obtain ⟨he1, he2, he3⟩ := ech_pairs hI.1.2.2.2.1 hV.xc.2 hV.xl.2.2.2.2
  obtain ⟨h, hhK, hh, ⟨H, p1, p2, p3⟩, -⟩ := hV.pi
  refine CC.mk hG RL rfl (by decide +kernel) rfl (Nat.le_of_ble_eq_true rfl) (fun sz B hB hX => ?_)
  show V g B 0 0 _ (hp g m) sz 0 [some (.ref (ad g 0)), none, none, none, none, none, none, none] []
  have li : ∀ q : Nat, q < cOf m 0 → (∀ sz : Nat, V g B (2 + 39 * q + 2 * q) (12 + 234 * q + 12 * q) (QM g B 640 3840 (rI (fun v m2 => v = 1 ∧ TL m m2)) noX) (hp g m) sz 106 [some (.ref (ad g 0)), some (.int (nI (cOf m 0))), some (.int (nI (echN (pit m 0) (q)))), some (.int (nI (difN (pit m 0) (q)))), some (.int 1), some (.int (nI q)), some (.int (nI (cntEq (pit m 0) (pit m 0 q) q))), some (.int (nI q))] []) → ∀ p j : Nat, j + p = q → ∀ sz : Nat, V g B (2 + 39 * q + 2 * j) (12 + 234 * q + 12 * j) (QM g B 640 3840 (rI (fun v m2 => v = 1 ∧ TL m m2)) noX) (hp g m) sz 65 [some (.ref (ad g 0)), some (.int (nI (cOf m 0))), some (.int (nI (echN (pit m 0) (q)))), some (.int (nI (difN (pit m 0) (q)))), some (.int 1), some (.int (nI q)), some (.int (nI (cntEq (pit m 0) (pit m 0 q) j))), some (.int (nI j))] [] := by
    intro q hq kk
    refine loop_dn (fun p ih j hj sz => ?_)
    refine V.iload (pc := 65) hB dL_arePealsRight_65 rfl ?_
    refine V.iload (pc := 67) hB dL_arePealsRight_67 rfl ?_
    refine V.icmp_ge (pc := 69) (tgt := 106) hB dL_arePealsRight_69 (by decide) (fun c_69 => ?_) (fun c_69 => ?_)
    · have hle := (nI_leI (by omega) (by omega)).mp c_69
      obtain rfl : j = q := by omega
      exact kk _
    · have hlt : j < q := Nat.not_le.mp (fun z => c_69 ((nI_leI (by omega) (by omega)).mpr z))
      refine V.iload (pc := 72) hB dL_arePealsRight_72 rfl ?_
      refine V.aload_n (pc := 74) hB dL_arePealsRight_74 rfl ?_
      refine V.iload (pc := 75) hB dL_arePealsRight_75 rfl ?_
      refine V.cv (pc := 77) hB cw_X9_pealPitch wm_L_78 wi_X9_pealPitch ws_X9_pealPitch dL_arePealsRight_77 (r_pPitch hG hI (show j < cOf m 0 by omega)) (hp_at (ca_Bells _)) fk_Bells rfl (by omega) (by decide) rfl (by exact Nat.le_of_ble_eq_true rfl) (by omega) (by omega) kN (kI (fun v_77 m_77 sz h_77 => ?_)) rfl
      obtain ⟨hv_77, hm_77⟩ := h_77
      obtain rfl : v_77 = pit m 0 j := hv_77
      rw [hm_77]
      refine V.aload_n (pc := 80) hB dL_arePealsRight_80 rfl ?_
      refine V.iload (pc := 81) hB dL_arePealsRight_81 rfl ?_
      refine V.cv (pc := 83) hB cw_X9_pealPitch wm_L_78 wi_X9_pealPitch ws_X9_pealPitch dL_arePealsRight_83 (r_pPitch hG hI hq) (hp_at (ca_Bells _)) fk_Bells rfl (by omega) (by decide) rfl (by exact Nat.le_of_ble_eq_true rfl) (by omega) (by omega) kN (kI (fun v_83 m_83 sz h_83 => ?_)) rfl
      obtain ⟨hv_83, hm_83⟩ := h_83
      obtain rfl : v_83 = pit m 0 q := hv_83
      rw [hm_83]
      refine V.icmp_ne (pc := 86) (tgt := 93) hB dL_arePealsRight_86 (by decide) (fun c_86 => ?_) (fun c_86 => ?_)
      · have hn := cnt_s0 (h := pit m 0) (x := pit m 0 q) (n := j) c_86
        have ht : nI (cntEq (pit m 0) (pit m 0 q) j) + (if (0 : Int32) = 0 then 0 else 1) = nI (cntEq (pit m 0) (pit m 0 q) (j + 1)) := by rw [hn]; exact told_0
        refine V.iconst (pc := 93) (v := 0) hB dL_arePealsRight_93 rfl ?_
        refine V.cs (pc := 94) hB cw_L_told wm_L_222 wst_L_told dL_arePealsRight_94 (c_L_told hG) (by omega) (by decide) rfl (by exact Nat.le_of_ble_eq_true rfl) (by omega) (by omega) kN (kI (fun v_94 m_94 sz h_94 => ?_)) rfl
        obtain ⟨rfl, hm_94⟩ := h_94
        rw [hm_94]
        refine V.iadd (pc := 97) hB dL_arePealsRight_97 ?_
        rw [ht]
        refine V.istore (pc := 98) hB dL_arePealsRight_98 (by decide) rfl ?_
        refine V.iinc (pc := 100) (v := nI (j + 1)) hB dL_arePealsRight_100 rfl (nI_1 _) (by decide) rfl ?_
        refine V.goto (pc := 103) (tgt := 65) hB dL_arePealsRight_103 (by decide) ?_
        exact V.wid (by omega) (by omega) (ih (q - j - 1) (by omega) (j + 1) (by omega) _)
      · have hn := cnt_s1 (h := pit m 0) (x := pit m 0 q) (n := j) c_86
        have ht : nI (cntEq (pit m 0) (pit m 0 q) j) + (if (1 : Int32) = 0 then 0 else 1) = nI (cntEq (pit m 0) (pit m 0 q) (j + 1)) := by rw [hn]; exact told_1
        refine V.iconst (pc := 89) (v := 1) hB dL_arePealsRight_89 rfl ?_
        refine V.goto (pc := 90) (tgt := 94) hB dL_arePealsRight_90 (by decide) ?_
        refine V.cs (pc := 94) hB cw_L_told wm_L_222 wst_L_told dL_arePealsRight_94 (c_L_told hG) (by omega) (by decide) rfl (by exact Nat.le_of_ble_eq_true rfl) (by omega) (by omega) kN (kI (fun v_94 m_94 sz h_94 => ?_)) rfl
        obtain ⟨rfl, hm_94⟩ := h_94
        rw [hm_94]
        refine V.iadd (pc := 97) hB dL_arePealsRight_97 ?_
        rw [ht]
        refine V.istore (pc := 98) hB dL_arePealsRight_98 (by decide) rfl ?_
        refine V.iinc (pc := 100) (v := nI (j + 1)) hB dL_arePealsRight_100 rfl (nI_1 _) (by decide) rfl ?_
        refine V.goto (pc := 103) (tgt := 65) hB dL_arePealsRight_103 (by decide) ?_
        exact V.wid (by omega) (by omega) (ih (q - j - 1) (by omega) (j + 1) (by omega) _)
  have k163 : ∀ q : Nat, q < cOf m 0 → (∀ sz : Nat, V g B (2 + 39 * q + 39) (12 + 234 * q + 234) (QM g B 640 3840 (rI (fun v m2 => v = 1 ∧ TL m m2)) noX) (hp g m) sz 53 [some (.ref (ad g 0)), some (.int (nI (cOf m 0))), some (.int (nI (echN (pit m 0) (q + 1)))), some (.int (nI (difN (pit m 0) (q + 1)))), some (.int 1), some (.int (nI (q + 1))), some (.int (nI (cntEq (pit m 0) (pit m 0 q) q))), some (.int 1)] []) → ∀ sz : Nat, V g B (2 + 39 * q + 35) (12 + 234 * q + 210) (QM g B 640 3840 (rI (fun v m2 => v = 1 ∧ TL m m2)) noX) (hp g m) sz 163 [some (.ref (ad g 0)), some (.int (nI (cOf m 0))), some (.int (nI (echN (pit m 0) (q + 1)))), some (.int (nI (difN (pit m 0) (q + 1)))), some (.int 1), some (.int (nI q)), some (.int (nI (cntEq (pit m 0) (pit m 0 q) q))), some (.int (nI q))] [.int 1] := by
    intro q hq kk sz
    refine V.istore (pc := 163) hB dL_arePealsRight_163 (by decide) rfl ?_
    refine V.iload (pc := 165) hB dL_arePealsRight_165 rfl ?_
    refine V.if_eq (pc := 167) (tgt := 227) hB dL_arePealsRight_167 (by decide) (fun c_167 => ?_) (fun c_167 => ?_)
    · exact absurd c_167 (by decide)
    · refine V.iload (pc := 170) hB dL_arePealsRight_170 rfl ?_
      refine V.if_eq (pc := 172) (tgt := 227) hB dL_arePealsRight_172 (by decide) (fun c_172 => ?_) (fun c_172 => ?_)
      · exact absurd c_172 (by decide)
      · refine V.aload_n (pc := 175) hB dL_arePealsRight_175 rfl ?_
        refine V.iload (pc := 176) hB dL_arePealsRight_176 rfl ?_
        refine V.cv (pc := 178) hB cw_X9_pealLake wm_L_152 wi_X9_pealLake ws_X9_pealLake dL_arePealsRight_178 (r_pLake hG hI hq) (hp_at (ca_Bells _)) fk_Bells rfl (by omega) (by decide) rfl (by exact Nat.le_of_ble_eq_true rfl) (by omega) (by omega) kN (kI (fun v_178 m_178 sz h_178 => ?_)) rfl
        obtain ⟨rfl, hm_178⟩ := h_178
        rw [hm_178]
        refine V.aload_n (pc := 181) hB dL_arePealsRight_181 rfl ?_
        refine V.cv (pc := 182) hB cw_X9_lakeCount wm_L_107 wi_X9_lakeCount ws_X9_lakeCount dL_arePealsRight_182 (c_X9_lakeCount hG) (hp_at (ca_Bells _)) fk_Bells rfl (by omega) (by decide) rfl (by exact Nat.le_of_ble_eq_true rfl) (by omega) (by omega) kN (kI (fun v_182 m_182 sz h_182 => ?_)) rfl
        obtain ⟨rfl, hm_182⟩ := h_182
        rw [hm_182]
        refine V.icmp_ge (pc := 185) (tgt := 227) hB dL_arePealsRight_185 (by decide) (fun c_185 => ?_) (fun c_185 => ?_)
        · obtain ⟨-, j, hj, e⟩ := p3 q hq
          rw [e, hI.1.nl] at c_185
          exact absurd ((nI_leI (by omega) (by omega)).mp c_185) (by omega)
        · refine V.aload_n (pc := 188) hB dL_arePealsRight_188 rfl ?_
          refine V.iload (pc := 189) hB dL_arePealsRight_189 rfl ?_
          refine V.cv (pc := 191) hB cw_X9_pealHour wm_L_155 wi_X9_pealHour ws_X9_pealHour dL_arePealsRight_191 (r_pHour hG hI hq) (hp_at (ca_Bells _)) fk_Bells rfl (by omega) (by decide) rfl (by exact Nat.le_of_ble_eq_true rfl) (by omega) (by omega) kN (kI (fun v_191 m_191 sz h_191 => ?_)) rfl
          obtain ⟨rfl, hm_191⟩ := h_191
          rw [hm_191]
          refine V.aload_n (pc := 194) hB dL_arePealsRight_194 rfl ?_
          refine V.cv (pc := 195) hB cw_X9_hour wm_L_115 wi_X9_hour ws_X9_hour dL_arePealsRight_195 (c_X9_hour hG) (hp_at (ca_Bells _)) fk_Bells rfl (by omega) (by decide) rfl (by exact Nat.le_of_ble_eq_true rfl) (by omega) (by omega) kN (kI (fun v_195 m_195 sz h_195 => ?_)) rfl
          obtain ⟨rfl, hm_195⟩ := h_195
          rw [hm_195]
          refine V.icmp_gt (pc := 198) (tgt := 227) hB dL_arePealsRight_198 (by decide) (fun c_198 => ?_) (fun c_198 => ?_)
          · obtain ⟨e, hle⟩ := p1 q hq
            rw [e, hh] at c_198
            exact absurd ((nI_lt' (by omega) (by omega)).mp c_198) (by omega)
          · refine V.iload (pc := 201) hB dL_arePealsRight_201 rfl ?_
            refine V.if_eq (pc := 203) (tgt := 223) hB dL_arePealsRight_203 (by decide) (fun c_203 => ?_) (fun c_203 => ?_)
            · refine V.iconst (pc := 223) (v := 1) hB dL_arePealsRight_223 rfl ?_
              refine V.goto (pc := 224) (tgt := 228) hB dL_arePealsRight_224 (by decide) ?_
              refine V.istore (pc := 228) hB dL_arePealsRight_228 (by decide) rfl ?_
              refine V.iinc (pc := 230) (v := nI (q + 1)) hB dL_arePealsRight_230 rfl (nI_1 _) (by decide) rfl ?_
              refine V.goto (pc := 233) (tgt := 53) hB dL_arePealsRight_233 (by decide) ?_
              exact V.wid (by omega) (by omega) (kk _)
            · have hq0 : 0 < q := Nat.pos_of_ne_zero (fun z => c_203 (by rw [z]; rfl))
              refine V.aload_n (pc := 206) hB dL_arePealsRight_206 rfl ?_
              refine V.iload (pc := 207) hB dL_arePealsRight_207 rfl ?_
              refine V.iconst (pc := 209) (v := 1) hB dL_arePealsRight_209 rfl ?_
              refine V.isub (pc := 210) hB dL_arePealsRight_210 ?_
              rw [show nI q - 1 = nI (q - 1) from nI_subN (b := 1) (by omega)]
              refine V.cv (pc := 211) hB cw_X9_pealHour wm_L_155 wi_X9_pealHour ws_X9_pealHour dL_arePealsRight_211 (r_pHour hG hI (show q - 1 < cOf m 0 by omega)) (hp_at (ca_Bells _)) fk_Bells rfl (by omega) (by decide) rfl (by exact Nat.le_of_ble_eq_true rfl) (by omega) (by omega) kN (kI (fun v_211 m_211 sz h_211 => ?_)) rfl
              obtain ⟨rfl, hm_211⟩ := h_211
              rw [hm_211]
              refine V.aload_n (pc := 214) hB dL_arePealsRight_214 rfl ?_
              refine V.iload (pc := 215) hB dL_arePealsRight_215 rfl ?_
              refine V.cv (pc := 217) hB cw_X9_pealHour wm_L_155 wi_X9_pealHour ws_X9_pealHour dL_arePealsRight_217 (r_pHour hG hI hq) (hp_at (ca_Bells _)) fk_Bells rfl (by omega) (by decide) rfl (by exact Nat.le_of_ble_eq_true rfl) (by omega) (by omega) kN (kI (fun v_217 m_217 sz h_217 => ?_)) rfl
              obtain ⟨rfl, hm_217⟩ := h_217
              rw [hm_217]
              refine V.icmp_lt (pc := 220) (tgt := 227) hB dL_arePealsRight_220 (by decide) (fun c_220 => ?_) (fun c_220 => ?_)
              · have e1 := (p1 q hq).1
                have e2 := (p1 (q - 1) (by omega)).1
                have e3 := p2 (q - 1) (by rw [Nat.sub_add_cancel hq0]; exact hq)
                rw [Nat.sub_add_cancel hq0] at e3
                have b1 := (p1 q hq).2
                have b2 := (p1 (q - 1) (by omega)).2
                rw [e1, e2] at c_220
                exact absurd ((nI_lt' (by omega) (by omega)).mp c_220) (by omega)
              · refine V.iconst (pc := 223) (v := 1) hB dL_arePealsRight_223 rfl ?_
                refine V.goto (pc := 224) (tgt := 228) hB dL_arePealsRight_224 (by decide) ?_
                refine V.istore (pc := 228) hB dL_arePealsRight_228 (by decide) rfl ?_
                refine V.iinc (pc := 230) (v := nI (q + 1)) hB dL_arePealsRight_230 rfl (nI_1 _) (by decide) rfl ?_
                refine V.goto (pc := 233) (tgt := 53) hB dL_arePealsRight_233 (by decide) ?_
                exact V.wid (by omega) (by omega) (kk _)
  have k111 : ∀ q : Nat, q < cOf m 0 → (∀ sz : Nat, V g B (2 + 39 * q + 39) (12 + 234 * q + 234) (QM g B 640 3840 (rI (fun v m2 => v = 1 ∧ TL m m2)) noX) (hp g m) sz 53 [some (.ref (ad g 0)), some (.int (nI (cOf m 0))), some (.int (nI (echN (pit m 0) (q + 1)))), some (.int (nI (difN (pit m 0) (q + 1)))), some (.int 1), some (.int (nI (q + 1))), some (.int (nI (cntEq (pit m 0) (pit m 0 q) q))), some (.int 1)] []) → ∀ sz : Nat, V g B (2 + 39 * q + 32) (12 + 234 * q + 192) (QM g B 640 3840 (rI (fun v m2 => v = 1 ∧ TL m m2)) noX) (hp g m) sz 111 [some (.ref (ad g 0)), some (.int (nI (cOf m 0))), some (.int (nI (echN (pit m 0) (q + 1)))), some (.int (nI (difN (pit m 0) (q)))), some (.int 1), some (.int (nI q)), some (.int (nI (cntEq (pit m 0) (pit m 0 q) q))), some (.int (nI q))] [] := by
    intro q hq kk sz
    refine V.iload_n (pc := 111) hB dL_arePealsRight_111 rfl ?_
    refine V.iload (pc := 112) hB dL_arePealsRight_112 rfl ?_
    refine V.if_ne (pc := 114) (tgt := 121) hB dL_arePealsRight_114 (by decide) (fun c_114 => ?_) (fun c_114 => ?_)
    · have ht : nI (difN (pit m 0) q) + (if (0 : Int32) = 0 then 0 else 1) = nI (difN (pit m 0) (q + 1)) := by rw [show difN (pit m 0) (q + 1) = difN (pit m 0) q from by show difN (pit m 0) q + _ = _; rw [if_neg (fun z => c_114 (by rw [z]; rfl))]; rfl]; exact told_0
      refine V.iconst (pc := 121) (v := 0) hB dL_arePealsRight_121 rfl ?_
      refine V.cs (pc := 122) hB cw_L_told wm_L_222 wst_L_told dL_arePealsRight_122 (c_L_told hG) (by omega) (by decide) rfl (by exact Nat.le_of_ble_eq_true rfl) (by omega) (by omega) kN (kI (fun v_122 m_122 sz h_122 => ?_)) rfl
      obtain ⟨rfl, hm_122⟩ := h_122
      rw [hm_122]
      refine V.iadd (pc := 125) hB dL_arePealsRight_125 ?_
      rw [ht]
      refine V.istore_n (pc := 126) hB dL_arePealsRight_126 (by decide) rfl ?_
      refine V.aload_n (pc := 127) hB dL_arePealsRight_127 rfl ?_
      refine V.iload (pc := 128) hB dL_arePealsRight_128 rfl ?_
      refine V.cv (pc := 130) hB cw_X9_pealKind wm_L_148 wi_X9_pealKind ws_X9_pealKind dL_arePealsRight_130 (r_pKind hG hI hq) (hp_at (ca_Bells _)) fk_Bells rfl (by omega) (by decide) rfl (by exact Nat.le_of_ble_eq_true rfl) (by omega) (by omega) kN (kI (fun v_130 m_130 sz h_130 => ?_)) rfl
      obtain ⟨rfl, hm_130⟩ := h_130
      rw [hm_130]
      refine V.bipush (pc := 133) (v := 99) hB dL_arePealsRight_133 rfl ?_
      refine V.icmp_eq (pc := 135) (tgt := 158) hB dL_arePealsRight_135 (by decide) (fun c_135 => ?_) (fun c_135 => ?_)
      · refine V.iconst (pc := 158) (v := 1) hB dL_arePealsRight_158 rfl ?_
        refine V.goto (pc := 159) (tgt := 163) hB dL_arePealsRight_159 (by decide) ?_
        exact V.wid (by omega) (by omega) (k163 q hq kk _)
      · refine V.aload_n (pc := 138) hB dL_arePealsRight_138 rfl ?_
        refine V.iload (pc := 139) hB dL_arePealsRight_139 rfl ?_
        refine V.cv (pc := 141) hB cw_X9_pealKind wm_L_148 wi_X9_pealKind ws_X9_pealKind dL_arePealsRight_141 (r_pKind hG hI hq) (hp_at (ca_Bells _)) fk_Bells rfl (by omega) (by decide) rfl (by exact Nat.le_of_ble_eq_true rfl) (by omega) (by omega) kN (kI (fun v_141 m_141 sz h_141 => ?_)) rfl
        obtain ⟨rfl, hm_141⟩ := h_141
        rw [hm_141]
        refine V.bipush (pc := 144) (v := 115) hB dL_arePealsRight_144 rfl ?_
        refine V.icmp_ne (pc := 146) (tgt := 162) hB dL_arePealsRight_146 (by decide) (fun c_146 => ?_) (fun c_146 => ?_)
        · exact absurd ((p3 q hq).1.resolve_left c_135).1 c_146
        · refine V.aload_n (pc := 149) hB dL_arePealsRight_149 rfl ?_
          refine V.iload (pc := 150) hB dL_arePealsRight_150 rfl ?_
          refine V.cv (pc := 152) hB cw_X9_pealPitch wm_L_78 wi_X9_pealPitch ws_X9_pealPitch dL_arePealsRight_152 (r_pPitch hG hI hq) (hp_at (ca_Bells _)) fk_Bells rfl (by omega) (by decide) rfl (by exact Nat.le_of_ble_eq_true rfl) (by omega) (by omega) kN (kI (fun v_152 m_152 sz h_152 => ?_)) rfl
          obtain ⟨rfl, hm_152⟩ := h_152
          rw [hm_152]
          refine V.if_le (pc := 155) (tgt := 162) hB dL_arePealsRight_155 (by decide) (fun c_155 => ?_) (fun c_155 => ?_)
          · exact absurd ((p3 q hq).1.resolve_left c_135).2 (Int32.not_lt.mpr c_155)
          · refine V.iconst (pc := 158) (v := 1) hB dL_arePealsRight_158 rfl ?_
            refine V.goto (pc := 159) (tgt := 163) hB dL_arePealsRight_159 (by decide) ?_
            exact V.wid (by omega) (by omega) (k163 q hq kk _)
    · have hz : cntEq (pit m 0) (pit m 0 q) q = 0 := by
        have := cntEq_le (pit m 0) (pit m 0 q) q
        exact (nI_inj' (b := 0) (by omega) (by decide)).mp c_114
      have ht : nI (difN (pit m 0) q) + (if (1 : Int32) = 0 then 0 else 1) = nI (difN (pit m 0) (q + 1)) := by rw [show difN (pit m 0) (q + 1) = difN (pit m 0) q + 1 from by show difN (pit m 0) q + _ = _; rw [if_pos hz]]; exact told_1
      refine V.iconst (pc := 117) (v := 1) hB dL_arePealsRight_117 rfl ?_
      refine V.goto (pc := 118) (tgt := 122) hB dL_arePealsRight_118 (by decide) ?_
      refine V.cs (pc := 122) hB cw_L_told wm_L_222 wst_L_told dL_arePealsRight_122 (c_L_told hG) (by omega) (by decide) rfl (by exact Nat.le_of_ble_eq_true rfl) (by omega) (by omega) kN (kI (fun v_122 m_122 sz h_122 => ?_)) rfl
      obtain ⟨rfl, hm_122⟩ := h_122
      rw [hm_122]
      refine V.iadd (pc := 125) hB dL_arePealsRight_125 ?_
      rw [ht]
      refine V.istore_n (pc := 126) hB dL_arePealsRight_126 (by decide) rfl ?_
      refine V.aload_n (pc := 127) hB dL_arePealsRight_127 rfl ?_
      refine V.iload (pc := 128) hB dL_arePealsRight_128 rfl ?_
      refine V.cv (pc := 130) hB cw_X9_pealKind wm_L_148 wi_X9_pealKind ws_X9_pealKind dL_arePealsRight_130 (r_pKind hG hI hq) (hp_at (ca_Bells _)) fk_Bells rfl (by omega) (by decide) rfl (by exact Nat.le_of_ble_eq_true rfl) (by omega) (by omega) kN (kI (fun v_130 m_130 sz h_130 => ?_)) rfl
      obtain ⟨rfl, hm_130⟩ := h_130
      rw [hm_130]
      refine V.bipush (pc := 133) (v := 99) hB dL_arePealsRight_133 rfl ?_
      refine V.icmp_eq (pc := 135) (tgt := 158) hB dL_arePealsRight_135 (by decide) (fun c_135 => ?_) (fun c_135 => ?_)
      · refine V.iconst (pc := 158) (v := 1) hB dL_arePealsRight_158 rfl ?_
        refine V.goto (pc := 159) (tgt := 163) hB dL_arePealsRight_159 (by decide) ?_
        exact V.wid (by omega) (by omega) (k163 q hq kk _)
      · refine V.aload_n (pc := 138) hB dL_arePealsRight_138 rfl ?_
        refine V.iload (pc := 139) hB dL_arePealsRight_139 rfl ?_
        refine V.cv (pc := 141) hB cw_X9_pealKind wm_L_148 wi_X9_pealKind ws_X9_pealKind dL_arePealsRight_141 (r_pKind hG hI hq) (hp_at (ca_Bells _)) fk_Bells rfl (by omega) (by decide) rfl (by exact Nat.le_of_ble_eq_true rfl) (by omega) (by omega) kN (kI (fun v_141 m_141 sz h_141 => ?_)) rfl
        obtain ⟨rfl, hm_141⟩ := h_141
        rw [hm_141]
        refine V.bipush (pc := 144) (v := 115) hB dL_arePealsRight_144 rfl ?_
        refine V.icmp_ne (pc := 146) (tgt := 162) hB dL_arePealsRight_146 (by decide) (fun c_146 => ?_) (fun c_146 => ?_)
        · exact absurd ((p3 q hq).1.resolve_left c_135).1 c_146
        · refine V.aload_n (pc := 149) hB dL_arePealsRight_149 rfl ?_
          refine V.iload (pc := 150) hB dL_arePealsRight_150 rfl ?_
          refine V.cv (pc := 152) hB cw_X9_pealPitch wm_L_78 wi_X9_pealPitch ws_X9_pealPitch dL_arePealsRight_152 (r_pPitch hG hI hq) (hp_at (ca_Bells _)) fk_Bells rfl (by omega) (by decide) rfl (by exact Nat.le_of_ble_eq_true rfl) (by omega) (by omega) kN (kI (fun v_152 m_152 sz h_152 => ?_)) rfl
          obtain ⟨rfl, hm_152⟩ := h_152
          rw [hm_152]
          refine V.if_le (pc := 155) (tgt := 162) hB dL_arePealsRight_155 (by decide) (fun c_155 => ?_) (fun c_155 => ?_)
          · exact absurd ((p3 q hq).1.resolve_left c_135).2 (Int32.not_lt.mpr c_155)
          · refine V.iconst (pc := 158) (v := 1) hB dL_arePealsRight_158 rfl ?_
            refine V.goto (pc := 159) (tgt := 163) hB dL_arePealsRight_159 (by decide) ?_
            exact V.wid (by omega) (by omega) (k163 q hq kk _)
  have lp : ∀ p q : Nat, q + p = cOf m 0 → ∀ (sz : Nat) (x6 x7 : Option Value), V g B (2 + 39 * q) (12 + 234 * q) (QM g B 640 3840 (rI (fun v m2 => v = 1 ∧ TL m m2)) noX) (hp g m) sz 53 [some (.ref (ad g 0)), some (.int (nI (cOf m 0))), some (.int (nI (echN (pit m 0) (q)))), some (.int (nI (difN (pit m 0) (q)))), some (.int 1), some (.int (nI q)), x6, x7] [] := by
    refine loop_dn (fun p ih q hqp sz x6 x7 => ?_)
    refine V.iload (pc := 53) hB dL_arePealsRight_53 rfl ?_
    refine V.iload_n (pc := 55) hB dL_arePealsRight_55 rfl ?_
    refine V.icmp_ge (pc := 56) (tgt := 236) hB dL_arePealsRight_56 (by decide) (fun c_56 => ?_) (fun c_56 => ?_)
    · have hle := (nI_leI (by omega) (by omega)).mp c_56
      obtain rfl : q = cOf m 0 := by omega
      refine V.iload (pc := 236) hB dL_arePealsRight_236 rfl ?_
      refine V.if_eq (pc := 238) (tgt := 269) hB dL_arePealsRight_238 (by decide) (fun c_238 => ?_) (fun c_238 => ?_)
      · exact absurd c_238 (by decide)
      · refine V.aload_n (pc := 241) hB dL_arePealsRight_241 rfl ?_
        refine V.cv (pc := 242) hB cw_X9_echoPairs wm_L_226 wi_X9_echoPairs ws_X9_echoPairs dL_arePealsRight_242 (c_X9_echoPairs hG hI) (hp_at (ca_Bells _)) fk_Bells rfl (by omega) (by decide) rfl (by exact Nat.le_of_ble_eq_true rfl) (by omega) (by omega) kN (kI (fun v_242 m_242 sz h_242 => ?_)) rfl
        obtain ⟨rfl, hm_242⟩ := h_242
        rw [hm_242]
        rw [← he1]
        refine V.iload_n (pc := 245) hB dL_arePealsRight_245 rfl ?_
        refine V.icmp_ne (pc := 246) (tgt := 269) hB dL_arePealsRight_246 (by decide) (fun c_246 => ?_) (fun c_246 => ?_)
        · exact absurd rfl c_246
        · refine V.aload_n (pc := 249) hB dL_arePealsRight_249 rfl ?_
          refine V.cv (pc := 250) hB cw_X9_echoPairsByPitch wm_L_229 wi_X9_echoPairsByPitch ws_X9_echoPairsByPitch dL_arePealsRight_250 (c_X9_echoPairsByPitch hG hI) (hp_at (ca_Bells _)) fk_Bells rfl (by omega) (by decide) rfl (by exact Nat.le_of_ble_eq_true rfl) (by omega) (by omega) kN (kI (fun v_250 m_250 sz h_250 => ?_)) rfl
          obtain ⟨hv_250, hm_250⟩ := h_250
          rw [he3] at hv_250
          obtain rfl := hv_250
          have ht : TL m m_250 := by rw [hm_250]; exact TL.tly _ _
          have hI2 : CI m_250 := (ht.iv hV).ci
          have e8 : m_250.1 (LA 0 + 8) = m.1 (LA 0 + 8) := ht.la (by omega) (by omega)
          have e5 : cOf m_250 0 = cOf m 0 := by unfold cOf; rw [ht.la (by omega) (by omega)]
          rw [← he1]
          refine V.iload_n (pc := 253) hB dL_arePealsRight_253 rfl ?_
          refine V.icmp_ne (pc := 254) (tgt := 269) hB dL_arePealsRight_254 (by decide) (fun c_254 => ?_) (fun c_254 => ?_)
          · exact absurd rfl c_254
          · refine V.aload_n (pc := 257) hB dL_arePealsRight_257 rfl ?_
            refine V.cv (pc := 258) hB cw_X9_pitchCount wm_L_232 wi_X9_pitchCount ws_X9_pitchCount dL_arePealsRight_258 (c_X9_pitchCount hG hI2) (hp_at (ca_Bells _)) fk_Bells rfl (by omega) (by decide) rfl (by exact Nat.le_of_ble_eq_true rfl) (by omega) (by omega) kN (kI (fun v_258 m_258 sz h_258 => ?_)) rfl
            obtain ⟨hv_258, hm_258⟩ := h_258
            rw [e8, e5, ← he2] at hv_258
            obtain rfl := hv_258
            have ht2 : TL m m_258 := by rw [hm_258]; exact ht.trans (TL.tly _ _)
            refine V.iload_n (pc := 261) hB dL_arePealsRight_261 rfl ?_
            refine V.icmp_ne (pc := 262) (tgt := 269) hB dL_arePealsRight_262 (by decide) (fun c_262 => ?_) (fun c_262 => ?_)
            · exact absurd rfl c_262
            · refine V.iconst (pc := 265) (v := 1) hB dL_arePealsRight_265 rfl ?_
              refine V.goto (pc := 266) (tgt := 270) hB dL_arePealsRight_266 (by decide) ?_
              refine V.retI (pc := 270) hB dL_arePealsRight_270 rfl (rfl) (by omega) (by omega) ?_
              exact ⟨rfl, ht2⟩
    · have hq : q < cOf m 0 := Nat.not_le.mp (fun z => c_56 ((nI_leI (by omega) (by omega)).mpr z))
      refine V.iconst (pc := 59) (v := 0) hB dL_arePealsRight_59 rfl ?_
      refine V.istore (pc := 60) hB dL_arePealsRight_60 (by decide) rfl ?_
      refine V.iconst (pc := 62) (v := 0) hB dL_arePealsRight_62 rfl ?_
      refine V.istore (pc := 63) hB dL_arePealsRight_63 (by decide) rfl ?_
      refine V.wid (by omega) (by omega) (li q hq (fun sz => ?_) q 0 (by omega) _)
      refine V.iload_n (pc := 106) hB dL_arePealsRight_106 rfl ?_
      refine V.iload (pc := 107) hB dL_arePealsRight_107 rfl ?_
      refine V.iadd (pc := 109) hB dL_arePealsRight_109 ?_
      rw [show nI (echN (pit m 0) q) + nI (cntEq (pit m 0) (pit m 0 q) q) = nI (echN (pit m 0) (q + 1)) from nI_add _ _]
      refine V.istore_n (pc := 110) hB dL_arePealsRight_110 (by decide) rfl ?_
      exact V.wid (by omega) (by omega) (k111 q hq (fun sz => V.wid (by omega) (by omega) (ih (cOf m 0 - q - 1) (by omega) (q + 1) (by omega) _ _ _)) _)
  refine V.aload_n (pc := 0) hB dL_arePealsRight_0 rfl ?_
  refine V.cv (pc := 1) hB cw_X9_pealCount wm_L_145 wi_X9_pealCount ws_X9_pealCount dL_arePealsRight_1 (c_X9_pealCount hG) (hp_at (ca_Bells _)) fk_Bells rfl (by omega) (by decide) rfl (by exact Nat.le_of_ble_eq_true rfl) (by omega) (by omega) kN (kI (fun v_1 m_1 sz h_1 => ?_)) rfl
  obtain ⟨rfl, hm_1⟩ := h_1
  rw [hm_1, hI.1.pr.2.2.1]
  refine V.istore_n (pc := 4) hB dL_arePealsRight_4 (by decide) rfl ?_
  refine V.iconst (pc := 5) (v := 0) hB dL_arePealsRight_5 rfl ?_
  refine V.istore_n (pc := 6) hB dL_arePealsRight_6 (by decide) rfl ?_
  refine V.iconst (pc := 7) (v := 0) hB dL_arePealsRight_7 rfl ?_
  refine V.istore_n (pc := 8) hB dL_arePealsRight_8 (by decide) rfl ?_
  refine V.iload_n (pc := 9) hB dL_arePealsRight_9 rfl ?_
  refine V.bipush (pc := 10) (v := 16) hB dL_arePealsRight_10 rfl ?_
  refine V.icmp_gt (pc := 12) (tgt := 47) hB dL_arePealsRight_12 (by decide) (fun c_12 => ?_) (fun c_12 => ?_)
  · exact absurd c_12 (by rw [Int32.not_lt]; exact (nI_leI (b := 16) (by omega) (by decide)).mpr h16)
  · refine V.aload_n (pc := 15) hB dL_arePealsRight_15 rfl ?_
    refine V.bipush (pc := 16) (v := 7) hB dL_arePealsRight_16 rfl ?_
    refine V.iload_n (pc := 18) hB dL_arePealsRight_18 rfl ?_
    refine V.iconst (pc := 19) (v := 0) hB dL_arePealsRight_19 rfl ?_
    refine V.csW (pc := 20) hB cwx_L_ask wm_L_160 wst_L_ask dL_arePealsRight_20 (a7_out hG hI (a := nI (cOf m 0)) (b := 0) (out_nI (by omega))) (by omega) (by decide) rfl (by exact Nat.le_of_ble_eq_true rfl) (by omega) (by omega) (kI (fun v_20 m_20 sz h_20 => ?_)) rfl
    obtain ⟨rfl, hm_20⟩ := h_20
    rw [hm_20]
    refine V.sipush (pc := 23) (v := (-2004)) hB dL_arePealsRight_23 rfl ?_
    refine V.icmp_ne (pc := 26) (tgt := 47) hB dL_arePealsRight_26 (by decide) (fun c_26 => ?_) (fun c_26 => ?_)
    · exact absurd rfl c_26
    · refine V.aload_n (pc := 29) hB dL_arePealsRight_29 rfl ?_
      refine V.bipush (pc := 30) (v := 7) hB dL_arePealsRight_30 rfl ?_
      refine V.iconst (pc := 32) (v := (-1)) hB dL_arePealsRight_32 rfl ?_
      refine V.iconst (pc := 33) (v := 0) hB dL_arePealsRight_33 rfl ?_
      refine V.csW (pc := 34) hB cwx_L_ask wm_L_160 wst_L_ask dL_arePealsRight_34 (a7_out hG hI (a := -1) (b := 0) out_m1) (by omega) (by decide) rfl (by exact Nat.le_of_ble_eq_true rfl) (by omega) (by omega) (kI (fun v_34 m_34 sz h_34 => ?_)) rfl
      obtain ⟨rfl, hm_34⟩ := h_34
      rw [hm_34]
      refine V.sipush (pc := 37) (v := (-2004)) hB dL_arePealsRight_37 rfl ?_
      refine V.icmp_ne (pc := 40) (tgt := 47) hB dL_arePealsRight_40 (by decide) (fun c_40 => ?_) (fun c_40 => ?_)
      · exact absurd rfl c_40
      · refine V.iconst (pc := 43) (v := 1) hB dL_arePealsRight_43 rfl ?_
        refine V.goto (pc := 44) (tgt := 48) hB dL_arePealsRight_44 (by decide) ?_
        refine V.istore (pc := 48) hB dL_arePealsRight_48 (by decide) rfl ?_
        refine V.iconst (pc := 50) (v := 0) hB dL_arePealsRight_50 rfl ?_
        refine V.istore (pc := 51) hB dL_arePealsRight_51 (by decide) rfl ?_
        exact V.wid (by omega) (by omega) (lp (cOf m 0) 0 (by omega) _ _ _)

