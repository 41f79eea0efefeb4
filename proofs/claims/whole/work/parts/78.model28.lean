/-! the reference's kindHere -/
theorem nIk_ne {n : Nat} (h : n < 1000) : ¬ nI n = -1 := by
  intro z
  have h0 : (0 : Int32) ≤ nI n := nI_pos' (by omega)
  rw [z] at h0
  exact absurd h0 (by decide)
theorem stO_le {w : Nat} (h : w < 8) : stO w ≤ 40 := by
  rcases (by omega : w = 0 ∨ w = 1 ∨ w = 2 ∨ w = 3 ∨ w = 4 ∨ w = 5 ∨ w = 6 ∨ w = 7) with rfl | rfl | rfl | rfl | rfl | rfl | rfl | rfl <;> decide
theorem wlO_st {w : Nat} (h : w < 7) : stO w + wlO w = stO (w + 1) ∧ stO w ≤ stO (w + 1) ∧ wlO w ≤ 7 := by
  rcases (by omega : w = 0 ∨ w = 1 ∨ w = 2 ∨ w = 3 ∨ w = 4 ∨ w = 5 ∨ w = 6) with rfl | rfl | rfl | rfl | rfl | rfl | rfl <;> decide
theorem mtC_step {T : Nat → Int32} {N p o n q : Nat} (hq : q < n) : mtC T N p o (n - q) q = if mtB T N p o q = true then mtC T N p o (n - (q + 1)) (q + 1) else q := by
  rw [show n - q = (n - (q + 1)) + 1 by omega]
  rfl
theorem mx_nI {a b : Nat} (ha : a < 1000) (hb : b < 1000) : (if nI a < nI b then nI b else nI a) = nI (max a b) := by
  by_cases h : a < b
  · rw [if_pos (nI_lt h (by omega)), Nat.max_eq_right (by omega)]
  · rw [if_neg (nI_nlt (by omega) (by omega)), Nat.max_eq_left (by omega)]

set_option maxRecDepth 100000 in
set_option maxHeartbeats 1000000 in
theorem c_X10_kindHere {g : xG} (hG : GK g) {z : xE} (hE : GE g z) {m : Mem} {N p : Nat} (h16 : m.1 363 16 = nI N) (hN : N ≤ 60) (hpN : p ≤ N) : CC g yX10_kindHere (.code yX10_kindHere cX10_kindHere 6 (some .int)) 6 0 0 [.ref (ad g 363)] (rdM m p (-1)) (rI (fun v m2 => v = (khS (m.1 370) N p 7).2 ∧ m2 = (if (khS (m.1 370) N p 7).2 = -1 then rdM m p (nI (khS (m.1 370) N p 7).1) else rdM m (p + wlO (khS (m.1 370) N p 7).2.toNatClampNeg) (-1)))) noX := by
  have hp60 : p ≤ 60 := by omega
  obtain ⟨tx, hnm⟩ := hE.nmR
  obtain ⟨K7, hK7⟩ : ∃ K7, K7 = khS (m.1 370) N p 7 := ⟨_, rfl⟩
  rw [← hK7]
  refine CC.mk hG RX10 rfl (by decide +kernel) rfl (Nat.le_of_ble_eq_true rfl) (fun sz B hB hX => ?_)
  show V g B 0 0 _ (hp g (rdM m p (-1))) sz 0 [some (.ref (ad g 363)), none, none, none, none, none] []
  have e121a : K7.2 = -1 → ∀ (sz : Nat) (w : Int32) (x4 x5 : Option Value), V g B 0 0 (QM g B 0 0 (rI (fun v m2 => v = K7.2 ∧ m2 = (if K7.2 = -1 then rdM m p (nI K7.1) else rdM m (p + wlO K7.2.toNatClampNeg) (-1)))) noX) (hp g ((rdM m p (-1)))) sz 121 [some (.ref (ad g 363)), some (.int (nI K7.1)), some (.int K7.2), some (.int w), x4, x5] [] := by
    intro hone sz w x4 x5
    rw [hone]
    refine V.aload_n (pc := 121) hB dX10_kindHere_121 rfl ?_
    refine V.iload_n (pc := 122) hB dX10_kindHere_122 rfl ?_
    refine V.iconst (pc := 123) (v := (-1)) hB dX10_kindHere_123 rfl ?_
    refine V.icmp_ne (pc := 124) (tgt := 131) hB dX10_kindHere_124 (by decide) (fun c_124 => ?_) (fun c_124 => ?_)
    · exact absurd rfl c_124
    · refine V.iload_n (pc := 127) hB dX10_kindHere_127 rfl ?_
      refine V.goto (pc := 128) (tgt := 135) hB dX10_kindHere_128 (by decide) ?_
      refine V.p_Model_f18 (pc := 135) hB wf_X10_197 dX10_kindHere_135 ?_
      rw [rdM_w]
      refine V.aload_n (pc := 138) hB dX10_kindHere_138 rfl ?_
      refine V.dup (pc := 139) hB dX10_kindHere_139 rfl ?_
      refine V.get (pc := 140) hB fk_Model 17 wf_X10_191 dX10_kindHere_140 (by decide) (hp_at (ca_Model _)) rfl ?_
      rw [rdM_17]
      refine V.iload_n (pc := 143) hB dX10_kindHere_143 rfl ?_
      refine V.iconst (pc := 144) (v := (-1)) hB dX10_kindHere_144 rfl ?_
      refine V.icmp_ne (pc := 145) (tgt := 152) hB dX10_kindHere_145 (by decide) (fun c_145 => ?_) (fun c_145 => ?_)
      · exact absurd rfl c_145
      · refine V.iconst (pc := 148) (v := 0) hB dX10_kindHere_148 rfl ?_
        refine V.goto (pc := 149) (tgt := 163) hB dX10_kindHere_149 (by decide) ?_
        refine V.iadd (pc := 163) hB dX10_kindHere_163 ?_
        rw [Int32.add_zero]
        refine V.p_Model_f17 (pc := 164) hB wf_X10_191 dX10_kindHere_164 ?_
        rw [rdM_p]
        refine V.iload_n (pc := 167) hB dX10_kindHere_167 rfl ?_
        refine V.retI (pc := 168) hB dX10_kindHere_168 rfl (rfl) (by omega) (by omega) ?_
        exact ⟨rfl, (if_pos rfl).symm⟩
  have e121b : ∀ k : Nat, k < 7 → K7.2 = nI k → ∀ (sz : Nat) (w : Int32) (x4 x5 : Option Value), V g B 0 0 (QM g B 0 0 (rI (fun v m2 => v = K7.2 ∧ m2 = (if K7.2 = -1 then rdM m p (nI K7.1) else rdM m (p + wlO K7.2.toNatClampNeg) (-1)))) noX) (hp g ((rdM m p (-1)))) sz 121 [some (.ref (ad g 363)), some (.int (nI K7.1)), some (.int K7.2), some (.int w), x4, x5] [] := by
    intro k hk hone sz w x4 x5
    rw [hone]
    refine V.aload_n (pc := 121) hB dX10_kindHere_121 rfl ?_
    refine V.iload_n (pc := 122) hB dX10_kindHere_122 rfl ?_
    refine V.iconst (pc := 123) (v := (-1)) hB dX10_kindHere_123 rfl ?_
    refine V.icmp_ne (pc := 124) (tgt := 131) hB dX10_kindHere_124 (by decide) (fun c_124 => ?_) (fun c_124 => ?_)
    · refine V.aload_n (pc := 131) hB dX10_kindHere_131 rfl ?_
      refine V.get (pc := 132) hB fk_Model 18 wf_X10_197 dX10_kindHere_132 (by decide) (hp_at (ca_Model _)) rfl ?_
      rw [rdM_18]
      refine V.p_Model_f18 (pc := 135) hB wf_X10_197 dX10_kindHere_135 ?_
      rw [rdM_w]
      refine V.aload_n (pc := 138) hB dX10_kindHere_138 rfl ?_
      refine V.dup (pc := 139) hB dX10_kindHere_139 rfl ?_
      refine V.get (pc := 140) hB fk_Model 17 wf_X10_191 dX10_kindHere_140 (by decide) (hp_at (ca_Model _)) rfl ?_
      rw [rdM_17]
      refine V.iload_n (pc := 143) hB dX10_kindHere_143 rfl ?_
      refine V.iconst (pc := 144) (v := (-1)) hB dX10_kindHere_144 rfl ?_
      refine V.icmp_ne (pc := 145) (tgt := 152) hB dX10_kindHere_145 (by decide) (fun c_145 => ?_) (fun c_145 => ?_)
      · refine V.iload_n (pc := 152) hB dX10_kindHere_152 rfl ?_
        refine V.iconst (pc := 153) (v := 1) hB dX10_kindHere_153 rfl ?_
        refine V.iadd (pc := 154) hB dX10_kindHere_154 ?_
        rw [nI_1]
        refine V.cs (pc := 155) hB cw_X10_startOf wm_X10_212 wst_X10_startOf dX10_kindHere_155 (c_X10_startOf hG (k := k + 1) (by omega)) (by omega) (by decide) rfl (by exact Nat.le_of_ble_eq_true rfl) (by omega) (by omega) kN (kI (fun v_155 m_155 sz h_155 => ?_)) rfl
        obtain ⟨rfl, hm_155⟩ := h_155
        obtain rfl := hm_155.symm
        refine V.iload_n (pc := 158) hB dX10_kindHere_158 rfl ?_
        refine V.cs (pc := 159) hB cw_X10_startOf wm_X10_212 wst_X10_startOf dX10_kindHere_159 (c_X10_startOf hG (k := k) (by omega)) (by omega) (by decide) rfl (by exact Nat.le_of_ble_eq_true rfl) (by omega) (by omega) kN (kI (fun v_159 m_159 sz h_159 => ?_)) rfl
        obtain ⟨rfl, hm_159⟩ := h_159
        obtain rfl := hm_159.symm
        refine V.isub (pc := 162) hB dX10_kindHere_162 ?_
        rw [show nI (stO (k + 1)) - nI (stO k) = nI (wlO k) from nI_subN (wlO_st hk).2.1]
        refine V.iadd (pc := 163) hB dX10_kindHere_163 ?_
        rw [nI_add]
        refine V.p_Model_f17 (pc := 164) hB wf_X10_191 dX10_kindHere_164 ?_
        rw [rdM_p]
        refine V.iload_n (pc := 167) hB dX10_kindHere_167 rfl ?_
        refine V.retI (pc := 168) hB dX10_kindHere_168 rfl (rfl) (by omega) (by omega) ?_
        exact ⟨rfl, by rw [if_neg (nIk_ne (by omega)), nI_clamp (by omega)]⟩
      · exact absurd c_145 (nIk_ne (by omega))
    · exact absurd c_124 (nIk_ne (by omega))
  have j90 : ∀ w : Nat, w < 7 → (khS (m.1 370) N p w).2 = -1 → (∀ (sz : Nat) (x4 x5 : Option Value), V g B 0 0 (QM g B 0 0 (rI (fun v m2 => v = K7.2 ∧ m2 = (if K7.2 = -1 then rdM m p (nI K7.1) else rdM m (p + wlO K7.2.toNatClampNeg) (-1)))) noX) (hp g ((rdM m p (-1)))) sz 9 [some (.ref (ad g 363)), some (.int (nI (khS (m.1 370) N p (w + 1)).1)), some (.int (khS (m.1 370) N p (w + 1)).2), some (.int (nI (w + 1))), x4, x5] []) → ∀ (sz : Nat), V g B 0 0 (QM g B 0 0 (rI (fun v m2 => v = K7.2 ∧ m2 = (if K7.2 = -1 then rdM m p (nI K7.1) else rdM m (p + wlO K7.2.toNatClampNeg) (-1)))) noX) (hp g ((rdM m p (-1)))) sz 90 [some (.ref (ad g 363)), some (.int (nI (khS (m.1 370) N p w).1)), some (.int (khS (m.1 370) N p w).2), some (.int (nI w)), some (.int (nI (wlO w))), some (.int (nI (mtC (m.1 370) N p (stO w) (wlO w) 0)))] [] := by
    intro w hw h1 ihw sz
    have hst := wlO_st hw
    have hfar := khS_in (T := m.1 370) hpN w
    have hmN := mtC_N (T := m.1 370) (p := p) (o := stO w) (wlO w) 0 hpN
    have hml := mtC_le (T := m.1 370) (N := N) (p := p) (o := stO w) (wlO w) 0
    refine V.iload_n (pc := 90) hB dX10_kindHere_90 rfl ?_
    refine V.aload_n (pc := 91) hB dX10_kindHere_91 rfl ?_
    refine V.get (pc := 92) hB fk_Model 17 wf_X10_191 dX10_kindHere_92 (by decide) (hp_at (ca_Model _)) rfl ?_
    rw [rdM_17]
    refine V.iload (pc := 95) hB dX10_kindHere_95 rfl ?_
    refine V.iadd (pc := 97) hB dX10_kindHere_97 ?_
    rw [nI_add]
    refine V.cs (pc := 98) hB cw_J9_max_7cf53 wm_X10_135 wst_J9_max_7cf53 dX10_kindHere_98 (c_J9_max_7cf53 hG) (by omega) (by decide) rfl (by exact Nat.le_of_ble_eq_true rfl) (by omega) (by omega) kN (kI (fun v_98 m_98 sz h_98 => ?_)) rfl
    obtain ⟨rfl, hm_98⟩ := h_98
    obtain rfl := hm_98.symm
    rw [show (if nI (khS (m.1 370) N p w).1 < nI (p + mtC (m.1 370) N p (stO w) (wlO w) 0) then nI (p + mtC (m.1 370) N p (stO w) (wlO w) 0) else nI (khS (m.1 370) N p w).1) = _ from mx_nI (by omega) (by omega)]
    refine V.istore_n (pc := 101) hB dX10_kindHere_101 (by decide) rfl ?_
    refine V.iload (pc := 102) hB dX10_kindHere_102 rfl ?_
    refine V.iload (pc := 104) hB dX10_kindHere_104 rfl ?_
    refine V.icmp_ne (pc := 106) (tgt := 113) hB dX10_kindHere_106 (by decide) (fun c_106 => ?_) (fun c_106 => ?_)
    · have hne : ¬ (mtC (m.1 370) N p (stO w) (wlO w) 0) = wlO w := fun z => c_106 (congrArg nI z)
      have nx := ihw sz (some (.int (nI (wlO w)))) (some (.int (nI (mtC (m.1 370) N p (stO w) (wlO w) 0))))
      rw [show (khS (m.1 370) N p (w + 1)) = (max (khS (m.1 370) N p w).1 (p + (mtC (m.1 370) N p (stO w) (wlO w) 0)), -1) from (if_pos h1).trans (by rw [if_neg hne])] at nx
      rw [h1]
      refine V.iload_n (pc := 113) hB dX10_kindHere_113 rfl ?_
      refine V.istore_n (pc := 114) hB dX10_kindHere_114 (by decide) rfl ?_
      refine V.iinc (pc := 115) (v := nI (w + 1)) hB dX10_kindHere_115 rfl (nI_1 _) (by decide) rfl ?_
      refine V.goto (pc := 118) (tgt := 9) hB dX10_kindHere_118 (by decide) ?_
      exact nx
    · have hne : (mtC (m.1 370) N p (stO w) (wlO w) 0) = wlO w := by have := congrArg Int32.toNatClampNeg c_106; rw [nI_clamp (by omega), nI_clamp (by omega)] at this; exact this
      have nx := ihw sz (some (.int (nI (wlO w)))) (some (.int (nI (mtC (m.1 370) N p (stO w) (wlO w) 0))))
      rw [show (khS (m.1 370) N p (w + 1)) = (max (khS (m.1 370) N p w).1 (p + (mtC (m.1 370) N p (stO w) (wlO w) 0)), nI w) from (if_pos h1).trans (by rw [if_pos hne])] at nx
      refine V.iload_n (pc := 109) hB dX10_kindHere_109 rfl ?_
      refine V.goto (pc := 110) (tgt := 114) hB dX10_kindHere_110 (by decide) ?_
      refine V.istore_n (pc := 114) hB dX10_kindHere_114 (by decide) rfl ?_
      refine V.iinc (pc := 115) (v := nI (w + 1)) hB dX10_kindHere_115 rfl (nI_1 _) (by decide) rfl ?_
      refine V.goto (pc := 118) (tgt := 9) hB dX10_kindHere_118 (by decide) ?_
      exact nx
  have inner : ∀ w : Nat, w < 7 → (khS (m.1 370) N p w).2 = -1 → (∀ (sz : Nat) (x4 x5 : Option Value), V g B 0 0 (QM g B 0 0 (rI (fun v m2 => v = K7.2 ∧ m2 = (if K7.2 = -1 then rdM m p (nI K7.1) else rdM m (p + wlO K7.2.toNatClampNeg) (-1)))) noX) (hp g ((rdM m p (-1)))) sz 9 [some (.ref (ad g 363)), some (.int (nI (khS (m.1 370) N p (w + 1)).1)), some (.int (khS (m.1 370) N p (w + 1)).2), some (.int (nI (w + 1))), x4, x5] []) → ∀ q : Nat, q ≤ wlO w → ∀ (sz : Nat), mtC (m.1 370) N p (stO w) (wlO w - q) q = mtC (m.1 370) N p (stO w) (wlO w) 0 → V g B 0 0 (QM g B 0 0 (rI (fun v m2 => v = K7.2 ∧ m2 = (if K7.2 = -1 then rdM m p (nI K7.1) else rdM m (p + wlO K7.2.toNatClampNeg) (-1)))) noX) (hp g ((rdM m p (-1)))) sz 36 [some (.ref (ad g 363)), some (.int (nI (khS (m.1 370) N p w).1)), some (.int (khS (m.1 370) N p w).2), some (.int (nI w)), some (.int (nI (wlO w))), some (.int (nI q))] [] := by
    intro w hw h1 ihw
    have hws := wlO_st hw
    have hfar := khS_in (T := m.1 370) hpN w
    have hmN := mtC_N (T := m.1 370) (p := p) (o := stO w) (wlO w) 0 hpN
    have hml := mtC_le (T := m.1 370) (N := N) (p := p) (o := stO w) (wlO w) 0
    refine loop_up (fun q hq ih => ?_)
    intro sz hmc
    refine V.iload (pc := 36) hB dX10_kindHere_36 rfl ?_
    refine V.iload (pc := 38) hB dX10_kindHere_38 rfl ?_
    refine V.icmp_ge (pc := 40) (tgt := 90) hB dX10_kindHere_40 (by decide) (fun c_40 => ?_) (fun c_40 => ?_)
    · have hqn : q = wlO w := by have := (nI_leI (by omega) (by omega)).mp c_40; omega
      have hk : (mtC (m.1 370) N p (stO w) (wlO w) 0) = q := by rw [← hmc, hqn, Nat.sub_self]; rfl
      have nx := fun sz => j90 w hw h1 ihw sz
      rw [hk] at nx
      exact nx sz
    · have hlt : q < wlO w := Nat.not_le.mp (fun z => c_40 ((nI_leI (by omega) (by omega)).mpr z))
      have hst := mtC_step (T := m.1 370) (N := N) (p := p) (o := stO w) hlt
      refine V.aload_n (pc := 43) hB dX10_kindHere_43 rfl ?_
      refine V.get (pc := 44) hB fk_Model 17 wf_X10_191 dX10_kindHere_44 (by decide) (hp_at (ca_Model _)) rfl ?_
      rw [rdM_17]
      refine V.iload (pc := 47) hB dX10_kindHere_47 rfl ?_
      refine V.iadd (pc := 49) hB dX10_kindHere_49 ?_
      rw [nI_add]
      refine V.aload_n (pc := 50) hB dX10_kindHere_50 rfl ?_
      refine V.get (pc := 51) hB fk_Model 16 wf_X10_194 dX10_kindHere_51 (by decide) (hp_at (ca_Model _)) rfl ?_
      rw [(rdM_RS h16 hN hp60).1]
      refine V.icmp_ge (pc := 54) (tgt := 90) hB dX10_kindHere_54 (by decide) (fun c_54 => ?_) (fun c_54 => ?_)
      · have hb : mtB (m.1 370) N p (stO w) q = false := by unfold mtB; rw [decide_eq_false (by have := (nI_leI (by omega) (by omega)).mp c_54; omega)]; rfl
        have hk : (mtC (m.1 370) N p (stO w) (wlO w) 0) = q := by rw [← hmc, hst, if_neg (by rw [hb]; decide)]
        have nx := fun sz => j90 w hw h1 ihw sz
        rw [hk] at nx
        exact nx sz
      · have hlN : p + q < N := Nat.not_le.mp (fun z => c_54 ((nI_leI (by omega) (by omega)).mpr z))
        refine V.aload_n (pc := 57) hB dX10_kindHere_57 rfl ?_
        refine V.get (pc := 58) hB fk_Model 11 wf_X10_35 dX10_kindHere_58 (by decide) (hp_at (ca_Model _)) rfl ?_
        refine V.aload_n (pc := 61) hB dX10_kindHere_61 rfl ?_
        refine V.get (pc := 62) hB fk_Model 17 wf_X10_191 dX10_kindHere_62 (by decide) (hp_at (ca_Model _)) rfl ?_
        rw [rdM_17]
        refine V.iload (pc := 65) hB dX10_kindHere_65 rfl ?_
        refine V.iadd (pc := 67) hB dX10_kindHere_67 ?_
        rw [nI_add]
        refine V.ialdM (pc := 68) hB (ca_Text) dX10_kindHere_68 (ix_nI (by omega) (by decide)) ?_
        rw [rdM_k m p (-1) (show 370 ≠ 363 by decide)]
        refine V.ldcS (pc := 69) hB hnm dX10_kindHere_69 ?_
        refine V.iload_n (pc := 71) hB dX10_kindHere_71 rfl ?_
        refine V.cs (pc := 72) hB cw_X10_startOf wm_X10_212 wst_X10_startOf dX10_kindHere_72 (c_X10_startOf hG (k := w) (by omega)) (by omega) (by decide) rfl (by exact Nat.le_of_ble_eq_true rfl) (by omega) (by omega) kN (kI (fun v_72 m_72 sz h_72 => ?_)) rfl
        obtain ⟨rfl, hm_72⟩ := h_72
        obtain rfl := hm_72.symm
        refine V.iload (pc := 75) hB dX10_kindHere_75 rfl ?_
        refine V.iadd (pc := 77) hB dX10_kindHere_77 ?_
        rw [nI_add]
        refine V.cvr (pc := 78) hB cw_J0_charAt_5068e wm_X10_217 wi_J0_charAt_5068e ws_J0_charAt_5068e dX10_kindHere_78 (c_J0_charAt_5068e hG hE hE.nm (q := stO w + q) (by show stO w + q < 40; have := stO_le (w := w + 1) (by omega); omega)) (RC.so hB hE.nm.1) (by omega) (by decide) rfl (by exact Nat.le_of_ble_eq_true rfl) (by omega) (by omega) kN (kI (fun v_78 m_78 sz h_78 => ?_)) rfl
        obtain ⟨rfl, hm_78⟩ := h_78
        obtain rfl := hm_78.symm
        refine V.icmp_ne (pc := 81) (tgt := 90) hB dX10_kindHere_81 (by decide) (fun c_81 => ?_) (fun c_81 => ?_)
        · have hb : mtB (m.1 370) N p (stO w) q = false := by unfold mtB; rw [decide_eq_false c_81, Bool.and_false]
          have hk : (mtC (m.1 370) N p (stO w) (wlO w) 0) = q := by rw [← hmc, hst, if_neg (by rw [hb]; decide)]
          have nx := fun sz => j90 w hw h1 ihw sz
          rw [hk] at nx
          exact nx sz
        · have hc : (m.1 370) (p + q) = nmB.getD (stO w + q) 0 := c_81
          have hb : mtB (m.1 370) N p (stO w) q = true := by unfold mtB; rw [decide_eq_true hlN, decide_eq_true hc]; rfl
          rw [if_pos hb] at hst
          refine V.iinc (pc := 84) (v := nI (q + 1)) hB dX10_kindHere_84 rfl (nI_1 _) (by decide) rfl ?_
          refine V.goto (pc := 87) (tgt := 36) hB dX10_kindHere_87 (by decide) ?_
          exact ih hlt sz (by rw [← hst]; exact hmc)
  have lp : ∀ w : Nat, w ≤ 7 → ∀ (sz : Nat) (x4 x5 : Option Value), V g B 0 0 (QM g B 0 0 (rI (fun v m2 => v = K7.2 ∧ m2 = (if K7.2 = -1 then rdM m p (nI K7.1) else rdM m (p + wlO K7.2.toNatClampNeg) (-1)))) noX) (hp g ((rdM m p (-1)))) sz 9 [some (.ref (ad g 363)), some (.int (nI (khS (m.1 370) N p w).1)), some (.int (khS (m.1 370) N p w).2), some (.int (nI w)), x4, x5] [] := by
    have e121 : ∀ (sz : Nat) (w : Int32) (x4 x5 : Option Value), V g B 0 0 (QM g B 0 0 (rI (fun v m2 => v = K7.2 ∧ m2 = (if K7.2 = -1 then rdM m p (nI K7.1) else rdM m (p + wlO K7.2.toNatClampNeg) (-1)))) noX) (hp g ((rdM m p (-1)))) sz 121 [some (.ref (ad g 363)), some (.int (nI K7.1)), some (.int K7.2), some (.int w), x4, x5] [] := by
      intro sz w x4 x5
      rcases khS_kind (T := m.1 370) (N := N) (p := p) 7 with hone | ⟨k, hk, hone⟩
      · exact e121a (by rw [hK7]; exact hone) sz w x4 x5
      · exact e121b k hk (by rw [hK7]; exact hone) sz w x4 x5
    refine loop_up (fun w hw9 ihw => ?_)
    intro sz x4 x5
    refine V.iload_n (pc := 9) hB dX10_kindHere_9 rfl ?_
    refine V.bipush (pc := 10) (v := 7) hB dX10_kindHere_10 rfl ?_
    refine V.icmp_ge (pc := 12) (tgt := 121) hB dX10_kindHere_12 (by decide) (fun c_12 => ?_) (fun c_12 => ?_)
    · have hw7 : w = 7 := by have := (nI_leI (a := 7) (by decide) (by omega)).mp c_12; omega
      rw [hw7, ← hK7]
      have nx := fun sz => e121 sz (nI 7) x4 x5
      exact nx sz
    · have hw : w < 7 := Nat.not_le.mp (fun z => c_12 ((nI_leI (a := 7) (by decide) (by omega)).mpr z))
      refine V.iload_n (pc := 15) hB dX10_kindHere_15 rfl ?_
      refine V.iconst (pc := 16) (v := (-1)) hB dX10_kindHere_16 rfl ?_
      refine V.icmp_ne (pc := 17) (tgt := 121) hB dX10_kindHere_17 (by decide) (fun c_17 => ?_) (fun c_17 => ?_)
      · have hs := khS_stay c_17 (7 - w)
        rw [show w + (7 - w) = 7 by omega, ← hK7] at hs
        rw [← hs]
        have nx := fun sz => e121 sz (nI w) x4 x5
        exact nx sz
      · have h1 : (khS (m.1 370) N p w).2 = -1 := c_17
        have hst := wlO_st hw
        refine V.iload_n (pc := 20) hB dX10_kindHere_20 rfl ?_
        refine V.iconst (pc := 21) (v := 1) hB dX10_kindHere_21 rfl ?_
        refine V.iadd (pc := 22) hB dX10_kindHere_22 ?_
        rw [nI_1]
        refine V.cs (pc := 23) hB cw_X10_startOf wm_X10_212 wst_X10_startOf dX10_kindHere_23 (c_X10_startOf hG (k := w + 1) (by omega)) (by omega) (by decide) rfl (by exact Nat.le_of_ble_eq_true rfl) (by omega) (by omega) kN (kI (fun v_23 m_23 sz h_23 => ?_)) rfl
        obtain ⟨rfl, hm_23⟩ := h_23
        obtain rfl := hm_23.symm
        refine V.iload_n (pc := 26) hB dX10_kindHere_26 rfl ?_
        refine V.cs (pc := 27) hB cw_X10_startOf wm_X10_212 wst_X10_startOf dX10_kindHere_27 (c_X10_startOf hG (k := w) (by omega)) (by omega) (by decide) rfl (by exact Nat.le_of_ble_eq_true rfl) (by omega) (by omega) kN (kI (fun v_27 m_27 sz h_27 => ?_)) rfl
        obtain ⟨rfl, hm_27⟩ := h_27
        obtain rfl := hm_27.symm
        refine V.isub (pc := 30) hB dX10_kindHere_30 ?_
        rw [show nI (stO (w + 1)) - nI (stO w) = nI (wlO w) from nI_subN hst.2.1]
        refine V.istore (pc := 31) hB dX10_kindHere_31 (by decide) rfl ?_
        refine V.iconst (pc := 33) (v := 0) hB dX10_kindHere_33 rfl ?_
        refine V.istore (pc := 34) hB dX10_kindHere_34 (by decide) rfl ?_
        exact inner w hw h1 (fun sz x4 x5 => ihw hw sz x4 x5) 0 (by omega) sz rfl
  refine V.aload_n (pc := 0) hB dX10_kindHere_0 rfl ?_
  refine V.get (pc := 1) hB fk_Model 17 wf_X10_191 dX10_kindHere_1 (by decide) (hp_at (ca_Model _)) rfl ?_
  rw [rdM_17]
  refine V.istore_n (pc := 4) hB dX10_kindHere_4 (by decide) rfl ?_
  refine V.iconst (pc := 5) (v := (-1)) hB dX10_kindHere_5 rfl ?_
  refine V.istore_n (pc := 6) hB dX10_kindHere_6 (by decide) rfl ?_
  refine V.iconst (pc := 7) (v := 0) hB dX10_kindHere_7 rfl ?_
  refine V.istore_n (pc := 8) hB dX10_kindHere_8 (by decide) rfl ?_
  exact lp 0 (by omega) sz none none
