/-! the reference: a window put in -/
def insW (R : Nat → Int32) (q : Nat) : Nat → Int32 := fun k => if 154 - q ≤ k ∧ k < 154 then R (k - 2) else R k
theorem insW_step {R : Nat → Int32} {q : Nat} (hq : q < 10) : upd (insW R q) (153 - q) (insW R q (151 - q)) = insW R (q + 1) := by
  funext k
  unfold upd
  by_cases h : k = 153 - q
  · rw [if_pos h]
    unfold insW
    rw [if_neg (by omega), if_pos (by omega), h]
    exact congrArg R (by omega)
  · rw [if_neg h]
    unfold insW
    by_cases h2 : 154 - q ≤ k ∧ k < 154
    · rw [if_pos h2, if_pos (by omega)]
    · rw [if_neg h2, if_neg (by omega)]
theorem insW_fin {R : Nat → Int32} {p n : Nat} {x z : Int32} (hp : p < 6) : upd (upd (upd (insW R (10 - 2 * p)) (142 + 2 * p) x) (143 + 2 * p) z) 3 (nI (n + 1)) = insR R p n x z := by
  funext k
  unfold upd insR
  by_cases h1 : k = 142 + 2 * p
  · rw [if_neg (by omega), if_neg (by omega), if_pos h1, if_pos h1]
  · rw [if_neg h1, if_neg h1]
    by_cases h2 : k = 143 + 2 * p
    · rw [if_neg (by omega), if_pos h2, if_pos h2]
    · rw [if_neg h2, if_neg h2]
      unfold insW
      by_cases h3 : 144 + 2 * p ≤ k ∧ k < 154
      · rw [if_neg (by omega), if_pos (by omega), if_pos h3]
      · rw [if_neg h3, if_neg (show ¬ (154 - (10 - 2 * p) ≤ k ∧ k < 154) by omega)]
theorem winF_b {M : Mem} {i : Nat} (h6 : nWn M i ≤ 6) (hc : M.1 (LA i + 2) 2 = nI (nWn M i)) {x z : Int32} : winF M i x z = if (decide (x ≤ z) && decide (x ≤ 9999)) = false then 97 else if (decide (nWn M i < 6) && decide (M.1 (LA i) 3 < x)) = false then 115 else if (!meetB (M.1 (LA i + 3)) (M.1 (LA i + 4)) x z (nWn M i)) = false then 117 else 45 := by
  unfold winF
  have e1 : (decide (x ≤ z) && decide (x ≤ 9999)) = false ↔ (z < x ∨ 9999 < x) := by
    rw [Bool.and_eq_false_iff, decide_eq_false_iff_not, decide_eq_false_iff_not, Int32.not_le, Int32.not_le]
  have he : (6 : Int32) ≤ nI (nWn M i) ↔ ¬ nWn M i < 6 := by
    constructor
    · intro w; have := (nI_leI (a := 6) (by decide) (by omega)).mp w; omega
    · intro w; exact (nI_leI (a := 6) (by decide) (by omega)).mpr (by omega)
  have e2 : (decide (nWn M i < 6) && decide (M.1 (LA i) 3 < x)) = false ↔ (6 ≤ nI (nWn M i) ∨ x ≤ M.1 (LA i) 3) := by
    rw [Bool.and_eq_false_iff, decide_eq_false_iff_not, decide_eq_false_iff_not, Int32.not_lt, he]
  rw [hc]
  by_cases h1 : z < x ∨ 9999 < x
  · rw [if_pos h1, if_pos (e1.mpr h1)]
  · rw [if_neg h1, if_neg (fun w => h1 (e1.mp w))]
    by_cases h2 : 6 ≤ nI (nWn M i) ∨ x ≤ M.1 (LA i) 3
    · rw [if_pos h2, if_pos (e2.mpr h2)]
    · rw [if_neg h2, if_neg (fun w => h2 (e2.mp w))]
      cases hm : meetB (M.1 (LA i + 3)) (M.1 (LA i + 4)) x z (nWn M i)
      · rfl
      · rfl

set_option maxRecDepth 100000 in
set_option maxHeartbeats 1000000 in
theorem c_X10_opens {g : xG} (hG : GK g) {m M : Mem} {i : Nat} (hR : RM (m.1 364) M i) (hW : WS (M.1 (LA i + 3)) (M.1 (LA i + 4)) (nWn M i)) {x z : Int32} : CC g yX10_opens (.code yX10_opens cX10_opens 8 (some .int)) 3 0 0 [.ref (ad g 363), .int x, .int z] m (rI (fun v m2 => (winF M i x z = 45 ∧ v = nI (nWn M i + 1) ∧ MFr (up m 363 15 0) m2 ∧ RM (m2.1 364) (insM i (nWn M i) x z M) i) ∨ (v = 0 ∧ ∃ tt, ((winF M i x z = 97 ∧ tt = 1) ∨ (winF M i x z = 115 ∧ tt = 2) ∨ (winF M i x z = 117 ∧ tt = 3)) ∧ m2 = up m 363 15 tt))) noX := by
  have hw6 := hR.2.1.wr.2
  have hw := hR.2.2.2.2.2.1.2
  have h3 : m.1 364 3 = nI (nWn M i) := hR.1.2.2.1.1.trans (congrArg nI hR.2.2.2.2.2.1.1)
  obtain ⟨F, hFe⟩ : ∃ F, F = M.1 (LA i + 3) := ⟨_, rfl⟩
  obtain ⟨L, hLe⟩ : ∃ L, L = M.1 (LA i + 4) := ⟨_, rfl⟩
  obtain ⟨k1, hk1⟩ : ∃ b, b = (decide (x ≤ z) && decide (x ≤ 9999)) := ⟨_, rfl⟩
  obtain ⟨k2, hk2⟩ : ∃ b, b = (decide (nWn M i < 6) && decide (M.1 (LA i) 3 < x)) := ⟨_, rfl⟩
  obtain ⟨k3, hk3⟩ : ∃ b, b = (!meetB F L x z (nWn M i)) := ⟨_, rfl⟩
  have hWB := winF_b hw6 hR.2.1.wr.1 (x := x) (z := z)
  rw [← hFe, ← hLe, ← hk1, ← hk2, ← hk3] at hWB
  rw [← hFe, ← hLe] at hW
  have hwF : ∀ w, w < nWn M i → m.1 364 (142 + 2 * w) = F w := fun w h => by rw [hFe]; exact hw w h 0 (by omega)
  have hwL : ∀ w, w < nWn M i → m.1 364 (143 + 2 * w) = L w := fun w h => by rw [hLe]; exact (congrArg (m.1 364) (by omega)).trans (hw w h 1 (by omega))
  refine CC.mk hG RX10 rfl (by decide +kernel) rfl (Nat.le_of_ble_eq_true rfl) (fun sz B hB hX => ?_)
  show V g B 0 0 _ (hp g m) sz 0 [some (.ref (ad g 363)), some (.int x), some (.int z), none, none, none, none, none] []
  have insl : ∀ p : Nat, p ≤ nWn M i → p = insPos (M.1 (LA i + 3)) x (nWn M i) → nWn M i < 6 → winF M i x z = 45 → ∀ q : Nat, q ≤ 10 - 2 * p → ∀ (sz : Nat) (x4 x7 : Option Value), V g B 0 0 (QM g B 0 0 (rI (fun v m2 => (winF M i x z = 45 ∧ v = nI (nWn M i + 1) ∧ MFr (up m 363 15 0) m2 ∧ RM (m2.1 364) (insM i (nWn M i) x z M) i) ∨ (v = 0 ∧ ∃ tt, ((winF M i x z = 97 ∧ tt = 1) ∨ (winF M i x z = 115 ∧ tt = 2) ∨ (winF M i x z = 117 ∧ tt = 3)) ∧ m2 = up m 363 15 tt))) noX) (hp g (setRow (up m 363 15 0) 364 (insW (m.1 364) q))) sz 159 [some (.ref (ad g 363)), some (.int x), some (.int z), some (.int (if k1 = true then 1 else 0)), x4, some (.int (nI p)), some (.int (nI (153 - q))), x7] [] := by
    intro p hp hpe hn6 hB1
    refine loop_up (fun q hq ih => ?_)
    intro sz x4 x7
    refine V.iload (pc := 159) hB dX10_opens_159 rfl ?_
    refine V.sipush (pc := 161) (v := 142) hB dX10_opens_161 rfl ?_
    refine V.iconst (pc := 164) (v := 2) hB dX10_opens_164 rfl ?_
    refine V.iload (pc := 165) hB dX10_opens_165 rfl ?_
    refine V.iconst (pc := 167) (v := 1) hB dX10_opens_167 rfl ?_
    refine V.iadd (pc := 168) hB dX10_opens_168 ?_
    refine V.imul (pc := 169) hB dX10_opens_169 ?_
    refine V.iadd (pc := 170) hB dX10_opens_170 ?_
    rw [show (142 : Int32) + 2 * (nI p + 1) = nI (144 + 2 * p) by rw [nI_1, show (142 : Int32) + 2 * nI (p + 1) = nI (142 + 2 * (p + 1) + 0) from (Int32.add_zero _).symm.trans (ixW (p + 1) 0)]; exact congrArg nI (by omega)]
    refine V.icmp_lt (pc := 171) (tgt := 196) hB dX10_opens_171 (by decide) (fun c_171 => ?_) (fun c_171 => ?_)
    · have hq2 : q = 10 - 2 * p := by
        have hno : ¬ (144 + 2 * p ≤ 153 - q) := fun w => absurd ((nI_leI (a := 144 + 2 * p) (b := 153 - q) (by omega) (by omega)).mpr w) (Int32.not_le.mpr c_171)
        omega
      rw [hq2]
      refine V.aload_n (pc := 196) hB dX10_opens_196 rfl ?_
      refine V.get (pc := 197) hB fk_Model 0 wf_X10_9 dX10_opens_197 (by decide) (hp_at (ca_Model _)) rfl ?_
      refine V.sipush (pc := 200) (v := 142) hB dX10_opens_200 rfl ?_
      refine V.iconst (pc := 203) (v := 2) hB dX10_opens_203 rfl ?_
      refine V.iload (pc := 204) hB dX10_opens_204 rfl ?_
      refine V.imul (pc := 206) hB dX10_opens_206 ?_
      refine V.iadd (pc := 207) hB dX10_opens_207 ?_
      refine V.iconst (pc := 208) (v := 0) hB dX10_opens_208 rfl ?_
      refine V.iadd (pc := 209) hB dX10_opens_209 ?_
      rw [show (142 : Int32) + 2 * nI p + 0 = nI (142 + 2 * p) from (ixW p 0)]
      refine V.iload_n (pc := 210) hB dX10_opens_210 rfl ?_
      refine V.iastM (pc := 211) hB (ca_Now) dX10_opens_211 (ix_nI (by omega) (by decide)) (by decide) ?_
      rw [up_setRow]
      refine V.aload_n (pc := 212) hB dX10_opens_212 rfl ?_
      refine V.get (pc := 213) hB fk_Model 0 wf_X10_9 dX10_opens_213 (by decide) (hp_at (ca_Model _)) rfl ?_
      refine V.sipush (pc := 216) (v := 142) hB dX10_opens_216 rfl ?_
      refine V.iconst (pc := 219) (v := 2) hB dX10_opens_219 rfl ?_
      refine V.iload (pc := 220) hB dX10_opens_220 rfl ?_
      refine V.imul (pc := 222) hB dX10_opens_222 ?_
      refine V.iadd (pc := 223) hB dX10_opens_223 ?_
      refine V.iconst (pc := 224) (v := 1) hB dX10_opens_224 rfl ?_
      refine V.iadd (pc := 225) hB dX10_opens_225 ?_
      rw [show (142 : Int32) + 2 * nI p + 1 = nI (143 + 2 * p) from (ixW p 1).trans (congrArg nI (by omega))]
      refine V.iload_n (pc := 226) hB dX10_opens_226 rfl ?_
      refine V.iastM (pc := 227) hB (ca_Now) dX10_opens_227 (ix_nI (by omega) (by decide)) (by decide) ?_
      rw [up_setRow]
      refine V.aload_n (pc := 228) hB dX10_opens_228 rfl ?_
      refine V.get (pc := 229) hB fk_Model 0 wf_X10_9 dX10_opens_229 (by decide) (hp_at (ca_Model _)) rfl ?_
      refine V.iconst (pc := 232) (v := 3) hB dX10_opens_232 rfl ?_
      refine V.dup2 (pc := 233) hB dX10_opens_233 rfl rfl ?_
      refine V.ialdM (pc := 234) hB (ca_Now) dX10_opens_234 (ix_nI (q := 3) (N := 218) (by decide) (by decide)) ?_
      rw [setRow_same, upd_ne _ _ (by omega), upd_ne _ _ (by omega), show insW (m.1 364) (10 - 2 * p) 3 = nI (nWn M i) from (if_neg (by omega)).trans h3]
      refine V.iconst (pc := 235) (v := 1) hB dX10_opens_235 rfl ?_
      refine V.iadd (pc := 236) hB dX10_opens_236 ?_
      rw [nI_1]
      refine V.iastM (pc := 237) hB (ca_Now) dX10_opens_237 (ix_nI (q := 3) (N := 218) (by decide) (by decide)) (by decide) ?_
      rw [up_setRow]
      rw [insW_fin (by omega)]
      refine V.aload_n (pc := 238) hB dX10_opens_238 rfl ?_
      refine V.get (pc := 239) hB fk_Model 0 wf_X10_9 dX10_opens_239 (by decide) (hp_at (ca_Model _)) rfl ?_
      refine V.iconst (pc := 242) (v := 3) hB dX10_opens_242 rfl ?_
      refine V.ialdM (pc := 243) hB (ca_Now) dX10_opens_243 (ix_nI (q := 3) (N := 218) (by decide) (by decide)) ?_
      rw [setRow_same, show insR (m.1 364) p (nWn M i) x z 3 = nI (nWn M i + 1) from by unfold insR; rw [if_neg (by omega), if_neg (by omega), if_neg (by omega), if_pos rfl]]
      refine V.retI (pc := 244) hB dX10_opens_244 rfl (rfl) (by omega) (by omega) ?_
      exact Or.inl ⟨hB1, rfl, MFr.row _ _, by rw [setRow_same]; exact hR.ins rfl hn6 hpe⟩
    · have hlt : q < 10 - 2 * p := by
        have := (nI_leI (a := 144 + 2 * p) (b := 153 - q) (by omega) (by omega)).mp (Int32.not_lt.mp c_171)
        omega
      refine V.aload_n (pc := 174) hB dX10_opens_174 rfl ?_
      refine V.get (pc := 175) hB fk_Model 0 wf_X10_9 dX10_opens_175 (by decide) (hp_at (ca_Model _)) rfl ?_
      refine V.iload (pc := 178) hB dX10_opens_178 rfl ?_
      refine V.aload_n (pc := 180) hB dX10_opens_180 rfl ?_
      refine V.get (pc := 181) hB fk_Model 0 wf_X10_9 dX10_opens_181 (by decide) (hp_at (ca_Model _)) rfl ?_
      refine V.iload (pc := 184) hB dX10_opens_184 rfl ?_
      refine V.iconst (pc := 186) (v := 2) hB dX10_opens_186 rfl ?_
      refine V.isub (pc := 187) hB dX10_opens_187 ?_
      rw [show nI (153 - q) - 2 = nI (151 - q) from (nI_subN (b := 2) (by omega)).trans (congrArg nI (by omega))]
      refine V.ialdM (pc := 188) hB (ca_Now) dX10_opens_188 (ix_nI (by omega) (by decide)) ?_
      rw [setRow_same]
      refine V.iastM (pc := 189) hB (ca_Now) dX10_opens_189 (ix_nI (by omega) (by decide)) (by decide) ?_
      rw [up_setRow]
      rw [insW_step (by omega)]
      refine V.iinc (pc := 190) (v := nI (153 - (q + 1))) hB dX10_opens_190 rfl (show nI (153 - q) + (-1) = _ from (Int32.sub_eq_add_neg _ 1).symm.trans ((nI_subN (b := 1) (by omega)).trans (congrArg nI (by omega)))) (by decide) rfl ?_
      refine V.goto (pc := 193) (tgt := 159) hB dX10_opens_193 (by decide) ?_
      exact ih hlt sz _ _
  have join4 : ∀ (sz : Nat) (u : Int32) (x7 : Option Value), u = (if k2 = true then 1 else 0) → V g B 0 0 (QM g B 0 0 (rI (fun v m2 => (winF M i x z = 45 ∧ v = nI (nWn M i + 1) ∧ MFr (up m 363 15 0) m2 ∧ RM (m2.1 364) (insM i (nWn M i) x z M) i) ∨ (v = 0 ∧ ∃ tt, ((winF M i x z = 97 ∧ tt = 1) ∨ (winF M i x z = 115 ∧ tt = 2) ∨ (winF M i x z = 117 ∧ tt = 3)) ∧ m2 = up m 363 15 tt))) noX) (hp g (m)) sz 143 [some (.ref (ad g 363)), some (.int x), some (.int z), some (.int (if k1 = true then 1 else 0)), some (.int (if meetB F L x z (nWn M i) = true then 0 else 1)), some (.int (nI (cntLt F x (nWn M i)))), some (.int (nI (nWn M i))), x7] [.int u, .int (if k1 = true then 1 else 0), .ref (ad g 363)] := by
    intro sz u x7 hu
    refine V.iload (pc := 143) hB dX10_opens_143 rfl ?_
    refine V.iconst (pc := 145) (v := 1) hB dX10_opens_145 rfl ?_
    refine V.cv (pc := 146) hB cw_X10_holds wm_X10_47 wi_X10_holds ws_X10_holds dX10_opens_146 (c_X10_holds hG) (hp_at (ca_Model _)) fk_Model rfl (by omega) (by decide) rfl (by exact Nat.le_of_ble_eq_true rfl) (by omega) (by omega) kN (kI (fun v_146 m_146 sz h_146 => ?_)) rfl
    obtain ⟨rfl, hm_146⟩ := h_146
    subst hm_146
    rw [hu, show (if meetB F L x z (nWn M i) = true then (0 : Int32) else 1) = if k3 = true then 1 else 0 by rw [hk3]; cases meetB F L x z (nWn M i) <;> rfl, thrV_b3]
    refine V.if_ne (pc := 149) (tgt := 154) hB dX10_opens_149 (by decide) (fun c_149 => ?_) (fun c_149 => ?_)
    · have hab : k1 = true ∧ k2 = true ∧ k3 = true := by
        cases hx1 : k1
        · rw [hx1] at c_149; exact absurd rfl c_149
        · cases hx2 : k2
          · rw [hx1, hx2] at c_149; exact absurd rfl c_149
          · cases hx3 : k3
            · rw [hx1, hx2, hx3] at c_149; exact absurd rfl c_149
            · exact ⟨rfl, rfl, rfl⟩
      obtain ⟨e1, e2, e3⟩ := hab
      have hB1 : winF M i x z = 45 := by rw [hWB, e1, e2, e3]; rfl
      have hxz : x ≤ z := by
        have h := hk1.symm.trans e1
        rw [Bool.and_eq_true] at h
        exact of_decide_eq_true h.1
      have hn6 : nWn M i < 6 := by
        have h := hk2.symm.trans e2
        rw [Bool.and_eq_true] at h
        exact of_decide_eq_true h.1
      have hclr : meetB F L x z (nWn M i) = false := by
        have h := hk3.symm.trans e3
        cases hm : meetB F L x z (nWn M i)
        · rfl
        · rw [hm] at h; exact absurd h (by decide)
      have hpe : cntLt F x (nWn M i) = insPos (M.1 (LA i + 3)) x (nWn M i) := by
        rw [← hFe]
        refine cntLt_ins _ hW.2 (fun w hw' e => ?_)
        have := meetB_stay (F := F) (L := L) (a := x) (b := z) (q := w) (by rw [← e]; exact hW.1 w hw') (by rw [e]; exact hxz) (nWn M i) hw'
        rw [hclr] at this
        exact absurd this (by decide)
      have e0 : (if k1 = false then (1 : Int32) else if k2 = false then 2 else if k3 = false then 3 else 0) = 0 := by rw [e1, e2, e3]; rfl
      rw [e0]
      obtain ⟨m0, hm0⟩ : ∃ y, y = up m 363 15 0 := ⟨_, rfl⟩
      rw [← hm0]
      refine V.mem (m2 := setRow m0 364 (insW (m.1 364) 0)) (by rw [show insW (m.1 364) 0 = m0.1 364 by rw [hm0, up_cell _ _ _ (by decide)]; exact funext (fun k => if_neg (by omega))]; exact (setRow_id _ _).symm) ?_
      rw [hm0]
      refine V.sipush (pc := 154) (v := 153) hB dX10_opens_154 rfl ?_
      refine V.istore (pc := 157) hB dX10_opens_157 (by decide) rfl ?_
      exact insl (cntLt F x (nWn M i)) (cntLt_le _) hpe hn6 hB1 0 (by omega) sz _ _
    · have hab : k1 = false ∨ (k1 = true ∧ k2 = false) ∨ (k1 = true ∧ k2 = true ∧ k3 = false) := by
        cases hx1 : k1
        · exact Or.inl rfl
        · cases hx2 : k2
          · exact Or.inr (Or.inl ⟨rfl, rfl⟩)
          · cases hx3 : k3
            · exact Or.inr (Or.inr ⟨rfl, rfl, rfl⟩)
            · rw [hx1, hx2, hx3] at c_149; exact absurd c_149 (by decide)
      refine V.iconst (pc := 152) (v := 0) hB dX10_opens_152 rfl ?_
      refine V.retI (pc := 153) hB dX10_opens_153 rfl (rfl) (by omega) (by omega) ?_
      refine Or.inr ⟨rfl, _, ?_, rfl⟩
      rcases hab with e | ⟨e, e2⟩ | ⟨e, e2, e3⟩
      · exact Or.inl ⟨by rw [hWB, e]; rfl, by rw [e]; rfl⟩
      · exact Or.inr (Or.inl ⟨by rw [hWB, e, e2]; rfl, by rw [e, e2]; rfl⟩)
      · exact Or.inr (Or.inr ⟨by rw [hWB, e, e2, e3]; rfl, by rw [e, e2, e3]; rfl⟩)
  have wl : ∀ q : Nat, q ≤ nWn M i → ∀ (sz : Nat) (x7 : Option Value), V g B 0 0 (QM g B 0 0 (rI (fun v m2 => (winF M i x z = 45 ∧ v = nI (nWn M i + 1) ∧ MFr (up m 363 15 0) m2 ∧ RM (m2.1 364) (insM i (nWn M i) x z M) i) ∨ (v = 0 ∧ ∃ tt, ((winF M i x z = 97 ∧ tt = 1) ∨ (winF M i x z = 115 ∧ tt = 2) ∨ (winF M i x z = 117 ∧ tt = 3)) ∧ m2 = up m 363 15 tt))) noX) (hp g (m)) sz 27 [some (.ref (ad g 363)), some (.int x), some (.int z), some (.int (if k1 = true then 1 else 0)), some (.int (if meetB F L x z q = true then 0 else 1)), some (.int (nI (cntLt F x q))), some (.int (nI q)), x7] [] := by
    refine loop_up (fun q hq ih => ?_)
    intro sz x7
    refine V.iload (pc := 27) hB dX10_opens_27 rfl ?_
    refine V.aload_n (pc := 29) hB dX10_opens_29 rfl ?_
    refine V.get (pc := 30) hB fk_Model 0 wf_X10_9 dX10_opens_30 (by decide) (hp_at (ca_Model _)) rfl ?_
    refine V.iconst (pc := 33) (v := 3) hB dX10_opens_33 rfl ?_
    refine V.ialdM (pc := 34) hB (ca_Now) dX10_opens_34 (ix_nI (q := 3) (N := 218) (by decide) (by decide)) ?_
    rw [h3]
    refine V.icmp_ge (pc := 35) (tgt := 115) hB dX10_opens_35 (by decide) (fun c_35 => ?_) (fun c_35 => ?_)
    · have hqn : q = nWn M i := by have := (nI_leI (by omega) (by omega)).mp c_35; omega
      rw [hqn]
      refine V.aload_n (pc := 115) hB dX10_opens_115 rfl ?_
      refine V.iload_n (pc := 116) hB dX10_opens_116 rfl ?_
      refine V.aload_n (pc := 117) hB dX10_opens_117 rfl ?_
      refine V.get (pc := 118) hB fk_Model 0 wf_X10_9 dX10_opens_118 (by decide) (hp_at (ca_Model _)) rfl ?_
      refine V.iconst (pc := 121) (v := 3) hB dX10_opens_121 rfl ?_
      refine V.ialdM (pc := 122) hB (ca_Now) dX10_opens_122 (ix_nI (q := 3) (N := 218) (by decide) (by decide)) ?_
      rw [h3]
      refine V.bipush (pc := 123) (v := 6) hB dX10_opens_123 rfl ?_
      refine V.icmp_ge (pc := 125) (tgt := 142) hB dX10_opens_125 (by decide) (fun c_125 => ?_) (fun c_125 => ?_)
      · have hu : (0 : Int32) = if k2 = true then 1 else 0 := by
          rw [hk2, decide_eq_false (by have := (nI_leI (a := 6) (by decide) (by omega)).mp c_125; omega)]
          rfl
        refine V.iconst (pc := 142) (v := 0) hB dX10_opens_142 rfl ?_
        exact join4 sz _ _ hu
      · have hn6 : nWn M i < 6 := Nat.not_le.mp (fun w => c_125 ((nI_leI (a := 6) (by decide) (by omega)).mpr w))
        refine V.iload_n (pc := 128) hB dX10_opens_128 rfl ?_
        refine V.aload_n (pc := 129) hB dX10_opens_129 rfl ?_
        refine V.get (pc := 130) hB fk_Model 0 wf_X10_9 dX10_opens_130 (by decide) (hp_at (ca_Model _)) rfl ?_
        refine V.iconst (pc := 133) (v := 0) hB dX10_opens_133 rfl ?_
        refine V.ialdM (pc := 134) hB (ca_Now) dX10_opens_134 (ix_nI (q := 0) (N := 218) (by decide) (by decide)) ?_
        rw [hR.2.2.2.1.1]
        refine V.icmp_le (pc := 135) (tgt := 142) hB dX10_opens_135 (by decide) (fun c_135 => ?_) (fun c_135 => ?_)
        · have hu : (0 : Int32) = if k2 = true then 1 else 0 := by
            rw [hk2, decide_eq_false (Int32.not_lt.mpr c_135), Bool.and_false]
            rfl
          refine V.iconst (pc := 142) (v := 0) hB dX10_opens_142 rfl ?_
          exact join4 sz _ _ hu
        · have hu : (1 : Int32) = if k2 = true then 1 else 0 := by
            rw [hk2, decide_eq_true hn6, decide_eq_true (Int32.not_le.mp c_135)]
            rfl
          refine V.iconst (pc := 138) (v := 1) hB dX10_opens_138 rfl ?_
          refine V.goto (pc := 139) (tgt := 143) hB dX10_opens_139 (by decide) ?_
          exact join4 sz _ _ hu
    · have hlt : q < nWn M i := Nat.not_le.mp (fun w => c_35 ((nI_leI (by omega) (by omega)).mpr w))
      have nxt := ih hlt sz (some (.int (nI (142 + 2 * q))))
      have hcs : cntLt F x (q + 1) = cntLt F x q + (if F q < x then 1 else 0) := rfl
      have hms : meetB F L x z (q + 1) = (meetB F L x z q || (decide (x ≤ L q) && decide (F q ≤ z))) := rfl
      refine V.sipush (pc := 38) (v := 142) hB dX10_opens_38 rfl ?_
      refine V.iconst (pc := 41) (v := 2) hB dX10_opens_41 rfl ?_
      refine V.iload (pc := 42) hB dX10_opens_42 rfl ?_
      refine V.imul (pc := 44) hB dX10_opens_44 ?_
      refine V.iadd (pc := 45) hB dX10_opens_45 ?_
      rw [show (142 : Int32) + 2 * nI q = nI (142 + 2 * q) from (Int32.add_zero _).symm.trans (ixW q 0)]
      refine V.istore (pc := 46) hB dX10_opens_46 (by decide) rfl ?_
      refine V.iload (pc := 48) hB dX10_opens_48 rfl ?_
      refine V.if_eq (pc := 50) (tgt := 83) hB dX10_opens_50 (by decide) (fun c_50 => ?_) (fun c_50 => ?_)
      · have hm1 : meetB F L x z q = true := by
          cases hm : meetB F L x z q
          · rw [hm] at c_50; exact absurd c_50 (by decide)
          · rfl
        have hmq : meetB F L x z (q + 1) = true := by rw [hms, hm1]; rfl
        rw [hmq] at nxt
        refine V.iconst (pc := 83) (v := 0) hB dX10_opens_83 rfl ?_
        refine V.istore (pc := 84) hB dX10_opens_84 (by decide) rfl ?_
        refine V.iload (pc := 86) hB dX10_opens_86 rfl ?_
        refine V.aload_n (pc := 88) hB dX10_opens_88 rfl ?_
        refine V.get (pc := 89) hB fk_Model 0 wf_X10_9 dX10_opens_89 (by decide) (hp_at (ca_Model _)) rfl ?_
        refine V.iload (pc := 92) hB dX10_opens_92 rfl ?_
        refine V.iconst (pc := 94) (v := 0) hB dX10_opens_94 rfl ?_
        refine V.iadd (pc := 95) hB dX10_opens_95 ?_
        rw [show nI (142 + 2 * q) + 0 = nI (142 + 2 * q) from Int32.add_zero _]
        refine V.ialdM (pc := 96) hB (ca_Now) dX10_opens_96 (ix_nI (by omega) (by decide)) ?_
        rw [hwF q hlt]
        refine V.iload_n (pc := 97) hB dX10_opens_97 rfl ?_
        refine V.icmp_ge (pc := 98) (tgt := 105) hB dX10_opens_98 (by decide) (fun c_98 => ?_) (fun c_98 => ?_)
        · rw [hcs, if_neg (Int32.not_lt.mpr c_98), Nat.add_zero] at nxt
          have hcn : nI (cntLt F x q) + 0 = nI (cntLt F x q) := Int32.add_zero _
          refine V.iconst (pc := 105) (v := 0) hB dX10_opens_105 rfl ?_
          refine V.iadd (pc := 106) hB dX10_opens_106 ?_
          rw [hcn]
          refine V.istore (pc := 107) hB dX10_opens_107 (by decide) rfl ?_
          refine V.iinc (pc := 109) (v := nI (q + 1)) hB dX10_opens_109 rfl (nI_1 _) (by decide) rfl ?_
          refine V.goto (pc := 112) (tgt := 27) hB dX10_opens_112 (by decide) ?_
          exact nxt
        · rw [hcs, if_pos (Int32.not_le.mp c_98)] at nxt
          have hcn : nI (cntLt F x q) + 1 = nI (cntLt F x q + 1) := nI_1 _
          refine V.iconst (pc := 101) (v := 1) hB dX10_opens_101 rfl ?_
          refine V.goto (pc := 102) (tgt := 106) hB dX10_opens_102 (by decide) ?_
          refine V.iadd (pc := 106) hB dX10_opens_106 ?_
          rw [hcn]
          refine V.istore (pc := 107) hB dX10_opens_107 (by decide) rfl ?_
          refine V.iinc (pc := 109) (v := nI (q + 1)) hB dX10_opens_109 rfl (nI_1 _) (by decide) rfl ?_
          refine V.goto (pc := 112) (tgt := 27) hB dX10_opens_112 (by decide) ?_
          exact nxt
      · have hm1 : meetB F L x z q = false := by
          cases hm : meetB F L x z q
          · rfl
          · rw [hm] at c_50; exact absurd rfl c_50
        refine V.iload_n (pc := 53) hB dX10_opens_53 rfl ?_
        refine V.aload_n (pc := 54) hB dX10_opens_54 rfl ?_
        refine V.get (pc := 55) hB fk_Model 0 wf_X10_9 dX10_opens_55 (by decide) (hp_at (ca_Model _)) rfl ?_
        refine V.iload (pc := 58) hB dX10_opens_58 rfl ?_
        refine V.iconst (pc := 60) (v := 0) hB dX10_opens_60 rfl ?_
        refine V.iadd (pc := 61) hB dX10_opens_61 ?_
        rw [show nI (142 + 2 * q) + 0 = nI (142 + 2 * q) from Int32.add_zero _]
        refine V.ialdM (pc := 62) hB (ca_Now) dX10_opens_62 (ix_nI (by omega) (by decide)) ?_
        rw [hwF q hlt]
        refine V.icmp_lt (pc := 63) (tgt := 79) hB dX10_opens_63 (by decide) (fun c_63 => ?_) (fun c_63 => ?_)
        · have hmq : meetB F L x z (q + 1) = false := by rw [hms, hm1, decide_eq_false (Int32.not_le.mpr c_63), Bool.and_false]; rfl
          rw [hmq] at nxt
          refine V.iconst (pc := 79) (v := 1) hB dX10_opens_79 rfl ?_
          refine V.goto (pc := 80) (tgt := 84) hB dX10_opens_80 (by decide) ?_
          refine V.istore (pc := 84) hB dX10_opens_84 (by decide) rfl ?_
          refine V.iload (pc := 86) hB dX10_opens_86 rfl ?_
          refine V.aload_n (pc := 88) hB dX10_opens_88 rfl ?_
          refine V.get (pc := 89) hB fk_Model 0 wf_X10_9 dX10_opens_89 (by decide) (hp_at (ca_Model _)) rfl ?_
          refine V.iload (pc := 92) hB dX10_opens_92 rfl ?_
          refine V.iconst (pc := 94) (v := 0) hB dX10_opens_94 rfl ?_
          refine V.iadd (pc := 95) hB dX10_opens_95 ?_
          rw [show nI (142 + 2 * q) + 0 = nI (142 + 2 * q) from Int32.add_zero _]
          refine V.ialdM (pc := 96) hB (ca_Now) dX10_opens_96 (ix_nI (by omega) (by decide)) ?_
          rw [hwF q hlt]
          refine V.iload_n (pc := 97) hB dX10_opens_97 rfl ?_
          refine V.icmp_ge (pc := 98) (tgt := 105) hB dX10_opens_98 (by decide) (fun c_98 => ?_) (fun c_98 => ?_)
          · rw [hcs, if_neg (Int32.not_lt.mpr c_98), Nat.add_zero] at nxt
            have hcn : nI (cntLt F x q) + 0 = nI (cntLt F x q) := Int32.add_zero _
            refine V.iconst (pc := 105) (v := 0) hB dX10_opens_105 rfl ?_
            refine V.iadd (pc := 106) hB dX10_opens_106 ?_
            rw [hcn]
            refine V.istore (pc := 107) hB dX10_opens_107 (by decide) rfl ?_
            refine V.iinc (pc := 109) (v := nI (q + 1)) hB dX10_opens_109 rfl (nI_1 _) (by decide) rfl ?_
            refine V.goto (pc := 112) (tgt := 27) hB dX10_opens_112 (by decide) ?_
            exact nxt
          · rw [hcs, if_pos (Int32.not_le.mp c_98)] at nxt
            have hcn : nI (cntLt F x q) + 1 = nI (cntLt F x q + 1) := nI_1 _
            refine V.iconst (pc := 101) (v := 1) hB dX10_opens_101 rfl ?_
            refine V.goto (pc := 102) (tgt := 106) hB dX10_opens_102 (by decide) ?_
            refine V.iadd (pc := 106) hB dX10_opens_106 ?_
            rw [hcn]
            refine V.istore (pc := 107) hB dX10_opens_107 (by decide) rfl ?_
            refine V.iinc (pc := 109) (v := nI (q + 1)) hB dX10_opens_109 rfl (nI_1 _) (by decide) rfl ?_
            refine V.goto (pc := 112) (tgt := 27) hB dX10_opens_112 (by decide) ?_
            exact nxt
        · refine V.iload_n (pc := 66) hB dX10_opens_66 rfl ?_
          refine V.aload_n (pc := 67) hB dX10_opens_67 rfl ?_
          refine V.get (pc := 68) hB fk_Model 0 wf_X10_9 dX10_opens_68 (by decide) (hp_at (ca_Model _)) rfl ?_
          refine V.iload (pc := 71) hB dX10_opens_71 rfl ?_
          refine V.iconst (pc := 73) (v := 1) hB dX10_opens_73 rfl ?_
          refine V.iadd (pc := 74) hB dX10_opens_74 ?_
          rw [show nI (142 + 2 * q) + 1 = nI (143 + 2 * q) from (nI_1 _).trans (congrArg nI (by omega))]
          refine V.ialdM (pc := 75) hB (ca_Now) dX10_opens_75 (ix_nI (by omega) (by decide)) ?_
          rw [hwL q hlt]
          refine V.icmp_le (pc := 76) (tgt := 83) hB dX10_opens_76 (by decide) (fun c_76 => ?_) (fun c_76 => ?_)
          · have hmq : meetB F L x z (q + 1) = true := by rw [hms, hm1, decide_eq_true c_76, decide_eq_true (Int32.not_lt.mp c_63)]; rfl
            rw [hmq] at nxt
            refine V.iconst (pc := 83) (v := 0) hB dX10_opens_83 rfl ?_
            refine V.istore (pc := 84) hB dX10_opens_84 (by decide) rfl ?_
            refine V.iload (pc := 86) hB dX10_opens_86 rfl ?_
            refine V.aload_n (pc := 88) hB dX10_opens_88 rfl ?_
            refine V.get (pc := 89) hB fk_Model 0 wf_X10_9 dX10_opens_89 (by decide) (hp_at (ca_Model _)) rfl ?_
            refine V.iload (pc := 92) hB dX10_opens_92 rfl ?_
            refine V.iconst (pc := 94) (v := 0) hB dX10_opens_94 rfl ?_
            refine V.iadd (pc := 95) hB dX10_opens_95 ?_
            rw [show nI (142 + 2 * q) + 0 = nI (142 + 2 * q) from Int32.add_zero _]
            refine V.ialdM (pc := 96) hB (ca_Now) dX10_opens_96 (ix_nI (by omega) (by decide)) ?_
            rw [hwF q hlt]
            refine V.iload_n (pc := 97) hB dX10_opens_97 rfl ?_
            refine V.icmp_ge (pc := 98) (tgt := 105) hB dX10_opens_98 (by decide) (fun c_98 => ?_) (fun c_98 => ?_)
            · rw [hcs, if_neg (Int32.not_lt.mpr c_98), Nat.add_zero] at nxt
              have hcn : nI (cntLt F x q) + 0 = nI (cntLt F x q) := Int32.add_zero _
              refine V.iconst (pc := 105) (v := 0) hB dX10_opens_105 rfl ?_
              refine V.iadd (pc := 106) hB dX10_opens_106 ?_
              rw [hcn]
              refine V.istore (pc := 107) hB dX10_opens_107 (by decide) rfl ?_
              refine V.iinc (pc := 109) (v := nI (q + 1)) hB dX10_opens_109 rfl (nI_1 _) (by decide) rfl ?_
              refine V.goto (pc := 112) (tgt := 27) hB dX10_opens_112 (by decide) ?_
              exact nxt
            · rw [hcs, if_pos (Int32.not_le.mp c_98)] at nxt
              have hcn : nI (cntLt F x q) + 1 = nI (cntLt F x q + 1) := nI_1 _
              refine V.iconst (pc := 101) (v := 1) hB dX10_opens_101 rfl ?_
              refine V.goto (pc := 102) (tgt := 106) hB dX10_opens_102 (by decide) ?_
              refine V.iadd (pc := 106) hB dX10_opens_106 ?_
              rw [hcn]
              refine V.istore (pc := 107) hB dX10_opens_107 (by decide) rfl ?_
              refine V.iinc (pc := 109) (v := nI (q + 1)) hB dX10_opens_109 rfl (nI_1 _) (by decide) rfl ?_
              refine V.goto (pc := 112) (tgt := 27) hB dX10_opens_112 (by decide) ?_
              exact nxt
          · have hmq : meetB F L x z (q + 1) = false := by rw [hms, hm1, decide_eq_false c_76]; rfl
            rw [hmq] at nxt
            refine V.iconst (pc := 79) (v := 1) hB dX10_opens_79 rfl ?_
            refine V.goto (pc := 80) (tgt := 84) hB dX10_opens_80 (by decide) ?_
            refine V.istore (pc := 84) hB dX10_opens_84 (by decide) rfl ?_
            refine V.iload (pc := 86) hB dX10_opens_86 rfl ?_
            refine V.aload_n (pc := 88) hB dX10_opens_88 rfl ?_
            refine V.get (pc := 89) hB fk_Model 0 wf_X10_9 dX10_opens_89 (by decide) (hp_at (ca_Model _)) rfl ?_
            refine V.iload (pc := 92) hB dX10_opens_92 rfl ?_
            refine V.iconst (pc := 94) (v := 0) hB dX10_opens_94 rfl ?_
            refine V.iadd (pc := 95) hB dX10_opens_95 ?_
            rw [show nI (142 + 2 * q) + 0 = nI (142 + 2 * q) from Int32.add_zero _]
            refine V.ialdM (pc := 96) hB (ca_Now) dX10_opens_96 (ix_nI (by omega) (by decide)) ?_
            rw [hwF q hlt]
            refine V.iload_n (pc := 97) hB dX10_opens_97 rfl ?_
            refine V.icmp_ge (pc := 98) (tgt := 105) hB dX10_opens_98 (by decide) (fun c_98 => ?_) (fun c_98 => ?_)
            · rw [hcs, if_neg (Int32.not_lt.mpr c_98), Nat.add_zero] at nxt
              have hcn : nI (cntLt F x q) + 0 = nI (cntLt F x q) := Int32.add_zero _
              refine V.iconst (pc := 105) (v := 0) hB dX10_opens_105 rfl ?_
              refine V.iadd (pc := 106) hB dX10_opens_106 ?_
              rw [hcn]
              refine V.istore (pc := 107) hB dX10_opens_107 (by decide) rfl ?_
              refine V.iinc (pc := 109) (v := nI (q + 1)) hB dX10_opens_109 rfl (nI_1 _) (by decide) rfl ?_
              refine V.goto (pc := 112) (tgt := 27) hB dX10_opens_112 (by decide) ?_
              exact nxt
            · rw [hcs, if_pos (Int32.not_le.mp c_98)] at nxt
              have hcn : nI (cntLt F x q) + 1 = nI (cntLt F x q + 1) := nI_1 _
              refine V.iconst (pc := 101) (v := 1) hB dX10_opens_101 rfl ?_
              refine V.goto (pc := 102) (tgt := 106) hB dX10_opens_102 (by decide) ?_
              refine V.iadd (pc := 106) hB dX10_opens_106 ?_
              rw [hcn]
              refine V.istore (pc := 107) hB dX10_opens_107 (by decide) rfl ?_
              refine V.iinc (pc := 109) (v := nI (q + 1)) hB dX10_opens_109 rfl (nI_1 _) (by decide) rfl ?_
              refine V.goto (pc := 112) (tgt := 27) hB dX10_opens_112 (by decide) ?_
              exact nxt
  have join0 : ∀ (sz : Nat) (u : Int32), u = (if k1 = true then 1 else 0) → V g B 0 0 (QM g B 0 0 (rI (fun v m2 => (winF M i x z = 45 ∧ v = nI (nWn M i + 1) ∧ MFr (up m 363 15 0) m2 ∧ RM (m2.1 364) (insM i (nWn M i) x z M) i) ∨ (v = 0 ∧ ∃ tt, ((winF M i x z = 97 ∧ tt = 1) ∨ (winF M i x z = 115 ∧ tt = 2) ∨ (winF M i x z = 117 ∧ tt = 3)) ∧ m2 = up m 363 15 tt))) noX) (hp g (m)) sz 17 [some (.ref (ad g 363)), some (.int x), some (.int z), none, none, none, none, none] [.int u] := by
    intro sz u hu
    rw [hu]
    refine V.istore_n (pc := 17) hB dX10_opens_17 (by decide) rfl ?_
    refine V.iconst (pc := 18) (v := 1) hB dX10_opens_18 rfl ?_
    refine V.istore (pc := 19) hB dX10_opens_19 (by decide) rfl ?_
    refine V.iconst (pc := 21) (v := 0) hB dX10_opens_21 rfl ?_
    refine V.istore (pc := 22) hB dX10_opens_22 (by decide) rfl ?_
    refine V.iconst (pc := 24) (v := 0) hB dX10_opens_24 rfl ?_
    refine V.istore (pc := 25) hB dX10_opens_25 (by decide) rfl ?_
    exact wl 0 (by omega) sz none
  refine V.iload_n (pc := 0) hB dX10_opens_0 rfl ?_
  refine V.iload_n (pc := 1) hB dX10_opens_1 rfl ?_
  refine V.icmp_gt (pc := 2) (tgt := 16) hB dX10_opens_2 (by decide) (fun c_2 => ?_) (fun c_2 => ?_)
  · have hk : (0 : Int32) = if k1 = true then 1 else 0 := by
      rw [hk1, decide_eq_false (Int32.not_le.mpr c_2)]
      rfl
    refine V.iconst (pc := 16) (v := 0) hB dX10_opens_16 rfl ?_
    exact join0 sz _ hk
  · have hxz : x ≤ z := Int32.not_lt.mp c_2
    refine V.iload_n (pc := 5) hB dX10_opens_5 rfl ?_
    refine V.sipush (pc := 6) (v := 9999) hB dX10_opens_6 rfl ?_
    refine V.icmp_gt (pc := 9) (tgt := 16) hB dX10_opens_9 (by decide) (fun c_9 => ?_) (fun c_9 => ?_)
    · have hk : (0 : Int32) = if k1 = true then 1 else 0 := by
        rw [hk1, decide_eq_false (Int32.not_le.mpr c_9), Bool.and_false]
        rfl
      refine V.iconst (pc := 16) (v := 0) hB dX10_opens_16 rfl ?_
      exact join0 sz _ hk
    · have hk : (1 : Int32) = if k1 = true then 1 else 0 := by
        rw [hk1, decide_eq_true hxz, decide_eq_true (Int32.not_lt.mp c_9)]
        rfl
      refine V.iconst (pc := 12) (v := 1) hB dX10_opens_12 rfl ?_
      refine V.goto (pc := 13) (tgt := 17) hB dX10_opens_13 (by decide) ?_
      exact join0 sz _ hk
