/-! the reference: a layer frozen -/
theorem sum_eq {f f2 : Nat → Int32} : ∀ n, (∀ y, y < n → f y = f2 y) → l_sum f n = l_sum f2 n
  | 0, _ => rfl
  | n + 1, h => by
    show l_sum f n + f n = l_sum f2 n + f2 n
    rw [sum_eq n (fun y hy => h y (by omega)), h n (by omega)]
theorem RM.ice {R : Nat → Int32} {M : Mem} {i j : Nat} (h : RM R M i) (hj : j < nLk M i) : iceR R (nI j) = iceV M i j := by
  unfold iceR iceV
  rw [lkI_j (by rw [h.2.2.1]; exact hj) h.1.1.2, (h.2.2.2.2.1 j hj).1]
  exact sum_eq _ (fun y hy => h.ol hj hy (by omega))
theorem RM.dep {R : Nat → Int32} {M : Mem} {i j : Nat} (h : RM R M i) (hj : j < nLk M i) : ofV R (nI j) 0 = M.1 (LK i j) 4 := by
  rw [ofV_j (by rw [h.2.2.1]; exact hj) h.1.1.2]
  exact (h.2.2.2.2.1 j hj).2.1 0 (by omega)
theorem RM.isl {R : Nat → Int32} {M : Mem} {i : Nat} (h : RM R M i) (x : Int32) : islB R x = true ↔ (0 ≤ x ∧ x < nI (nLk M i)) := by
  rw [← h.2.2.1]
  unfold islB
  rw [Bool.and_eq_true, decide_eq_true_eq, decide_eq_true_eq]
def gkB (t te : Int32) : Bool := (decide (1 ≤ t) && decide (t ≤ 50)) && (decide (-40 ≤ te) && decide (te ≤ 0))
theorem gkB_iff {t te : Int32} : gkB t te = false ↔ (t < 1 ∨ 50 < t ∨ te < -40 ∨ 0 < te) := by
  unfold gkB
  rw [Bool.and_eq_false_iff, inB_iff, inB_iff]
  constructor
  · rintro ((h | h) | (h | h))
    · exact Or.inl h
    · exact Or.inr (Or.inl h)
    · exact Or.inr (Or.inr (Or.inl h))
    · exact Or.inr (Or.inr (Or.inr h))
  · rintro (h | h | h | h)
    · exact Or.inl (Or.inl h)
    · exact Or.inl (Or.inr h)
    · exact Or.inr (Or.inl h)
    · exact Or.inr (Or.inr h)
def gfB (R : Nat → Int32) (x t te : Int32) : Bool := gkB t te && decide (2 * (iceR R x + t) ≤ ofV R x 0)
theorem growF_b {R : Nat → Int32} {M : Mem} {i : Nat} (h : RM R M i) {x t te : Int32} : growF M i x t te = if islB R x = false then 98 else if gkB t te = false then 97 else if decide (mY R (lkI R x) < 8) = false then 115 else if gfB R x t te = false then 117 else 45 := by
  unfold growF
  by_cases h1 : 0 ≤ x ∧ x < nI (nLk M i)
  · rw [if_neg (fun z => z h1), if_neg (show ¬ islB R x = false by rw [(h.isl x).mpr h1]; decide)]
    obtain ⟨j, hxe, hj, hjc⟩ := idx_j h1 (by have := h.2.1.nl5; omega)
    rw [hjc, hxe, lkI_j (by rw [h.2.2.1]; exact hj) h.1.1.2, (h.2.2.2.2.1 j hj).1]
    by_cases h2 : t < 1 ∨ 50 < t ∨ te < -40 ∨ 0 < te
    · rw [if_pos h2, if_pos (gkB_iff.mpr h2)]
    · rw [if_neg h2, if_neg (fun z => h2 (gkB_iff.mp z))]
      have h8 := (h.2.1.ln hj).2
      rw [(h.2.1.ln hj).1]
      by_cases h3 : nLy M i j < 8
      · rw [if_neg (show ¬ (8 : Int32) ≤ nI (nLy M i j) from fun z => by have := (nI_leI (a := 8) (by decide) (by omega)).mp z; omega), if_neg (show ¬ decide (nLy M i j < 8) = false by rw [decide_eq_true h3]; decide)]
        unfold gfB
        rw [show gkB t te = true from by
          cases hg : gkB t te
          · exact absurd (gkB_iff.mp hg) h2
          · rfl, Bool.true_and, h.ice hj, h.dep hj]
        by_cases h4 : M.1 (LK i j) 4 < 2 * (iceV M i j + t)
        · rw [if_pos h4, if_pos (decide_eq_false (Int32.not_le.mpr h4))]
        · rw [if_neg h4, if_neg (by rw [decide_eq_true (Int32.not_lt.mp h4)]; decide)]
      · rw [if_pos (show (8 : Int32) ≤ nI (nLy M i j) from (nI_leI (a := 8) (by decide) (by omega)).mpr (by omega)), if_pos (decide_eq_false h3)]
  · rw [if_pos h1, if_pos (show islB R x = false by
      cases hb : islB R x
      · rfl
      · exact absurd ((h.isl x).mp hb) h1)]

set_option maxRecDepth 100000 in
set_option maxHeartbeats 1000000 in
theorem c_X10_freezes {g : xG} (hG : GK g) {m M : Mem} {i : Nat} (hR : RM (m.1 364) M i) {x t te : Int32} : CC g yX10_freezes (.code yX10_freezes cX10_freezes 8 (some .int)) 7 0 0 [.ref (ad g 363), .int x, .int t, .int te] m (rI (fun v m2 => (growF M i x t te = 45 ∧ v = nI (nLy M i x.toNatClampNeg + 1) ∧ MFr (up m 363 15 0) m2 ∧ RM (m2.1 364) (growM i x.toNatClampNeg t te M) i) ∨ (v = 0 ∧ ∃ tt, ((growF M i x t te = 98 ∧ tt = 1) ∨ (growF M i x t te = 97 ∧ tt = 2) ∨ (growF M i x t te = 115 ∧ tt = 3) ∨ (growF M i x t te = 117 ∧ tt = 4)) ∧ m2 = up m 363 15 tt))) noX := by
  have hM := hR.1
  obtain ⟨a, ha⟩ : ∃ a, a = islB (m.1 364) x := ⟨_, rfl⟩
  obtain ⟨k1, hk1⟩ : ∃ b, b = gkB t te := ⟨_, rfl⟩
  obtain ⟨k2, hk2⟩ : ∃ b, b = decide (mY (m.1 364) (lkI (m.1 364) x) < 8) := ⟨_, rfl⟩
  obtain ⟨k3, hk3⟩ : ∃ b, b = gfB (m.1 364) x t te := ⟨_, rfl⟩
  have hF := growF_b hR (x := x) (t := t) (te := te)
  have hY8 := mY_8 hM x
  rw [← ha, ← hk1, ← hk2, ← hk3] at hF
  refine CC.mk hG RX10 rfl (by decide +kernel) rfl (Nat.le_of_ble_eq_true rfl) (fun sz B hB hX => ?_)
  show V g B 0 0 _ (hp g m) sz 0 [some (.ref (ad g 363)), some (.int x), some (.int t), some (.int te), none, none, none, none] []
  have join3 : ∀ (sz : Nat) (u w : Int32), u = (if k3 = true then 1 else 0) → w = (if k2 = true then 1 else 0) → V g B 0 0 (QM g B 0 0 (rI (fun v m2 => (growF M i x t te = 45 ∧ v = nI (nLy M i x.toNatClampNeg + 1) ∧ MFr (up m 363 15 0) m2 ∧ RM (m2.1 364) (growM i x.toNatClampNeg t te M) i) ∨ (v = 0 ∧ ∃ tt, ((growF M i x t te = 98 ∧ tt = 1) ∨ (growF M i x t te = 97 ∧ tt = 2) ∨ (growF M i x t te = 115 ∧ tt = 3) ∨ (growF M i x t te = 117 ∧ tt = 4)) ∧ m2 = up m 363 15 tt))) noX) (hp g (m)) sz 85 [some (.ref (ad g 363)), some (.int x), some (.int t), some (.int te), some (.int (if k1 = true then 1 else 0)), some (.int (nI (mY (m.1 364) (lkI (m.1 364) x)))), some (.int u), none] [.int w, .int (if k1 = true then 1 else 0), .int (if a = true then 1 else 0), .ref (ad g 363)] := by
    intro sz u w h6 h8
    refine V.iload (pc := 85) hB dX10_freezes_85 rfl ?_
    refine V.cv (pc := 87) hB cw_X10_holds wm_X10_47 wi_X10_holds ws_X10_holds dX10_freezes_87 (c_X10_holds hG) (hp_at (ca_Model _)) fk_Model rfl (by omega) (by decide) rfl (by exact Nat.le_of_ble_eq_true rfl) (by omega) (by omega) kN (kI (fun v_87 m_87 sz h_87 => ?_)) rfl
    obtain ⟨rfl, hm_87⟩ := h_87
    subst hm_87
    rw [h6, h8, thrV_b]
    refine V.if_ne (pc := 90) (tgt := 95) hB dX10_freezes_90 (by decide) (fun c_90 => ?_) (fun c_90 => ?_)
    · have hab : a = true ∧ k1 = true ∧ k2 = true ∧ k3 = true := by
        cases a
        · exact absurd rfl c_90
        · cases k1
          · exact absurd rfl c_90
          · cases k2
            · exact absurd rfl c_90
            · cases k3
              · exact absurd rfl c_90
              · exact ⟨rfl, rfl, rfl, rfl⟩
      obtain ⟨e1, e2, e3, e4⟩ := hab
      have hF1 : growF M i x t te = 45 := by rw [hF, e1, e2, e3, e4]; rfl
      have hin := (hR.isl x).mp (ha.symm.trans e1)
      obtain ⟨j, hxe, hj, hjc⟩ := idx_j hin (by have := hR.2.1.nl5; omega)
      have hj5 : j < 5 := by have := hR.2.1.nl5; omega
      have hlk : lkI (m.1 364) x = j := by rw [hxe]; exact lkI_j (by rw [hR.2.2.1]; exact hj) hM.1.2
      have hmy : mY (m.1 364) (lkI (m.1 364) x) = nLy M i j := by rw [hlk]; exact (hR.2.2.2.2.1 j hj).1
      have h7 : nLy M i j < 8 := by rw [← hmy]; exact of_decide_eq_true (hk2.symm.trans e3)
      rw [e1, e2, e3, e4, hmy]
      rw [show (if true = false then (1 : Int32) else if true = false then 2 else if true = false then 3 else if true = false then 4 else 0) = 0 from rfl]
      obtain ⟨m0, hm0⟩ : ∃ z, z = up m 363 15 0 := ⟨_, rfl⟩
      rw [← hm0]
      obtain ⟨N, hN⟩ : ∃ N, N = nLy M i j := ⟨_, rfl⟩
      have hg := hR.grow (t := t) (te := te) hj h7
      rw [← hN] at h7 hg ⊢
      have h9 : m.1 364 (9 + 27 * j) = nI N := (hM.2.1 j hj5).1.trans (congrArg nI ((hR.2.2.2.2.1 j hj).1.trans hN.symm))
      refine V.mem (m2 := setRow m0 364 (m.1 364)) (by rw [show m.1 364 = m0.1 364 by rw [hm0]; exact (up_cell _ _ _ (by decide)).symm]; exact (setRow_id _ _).symm) ?_
      refine V.iload_n (pc := 95) hB dX10_freezes_95 rfl ?_
      refine V.iload (pc := 96) hB dX10_freezes_96 rfl ?_
      refine V.cs (pc := 98) hB cw_X10_layerPlace wm_X10_85 wst_X10_layerPlace dX10_freezes_98 (c_X10_layerPlace hG (j := j) (y := N) hxe rfl) (by omega) (by decide) rfl (by exact Nat.le_of_ble_eq_true rfl) (by omega) (by omega) kN (kI (fun v_98 m_98 sz h_98 => ?_)) rfl
      obtain ⟨rfl, hm_98⟩ := h_98
      obtain rfl := hm_98.symm
      refine V.istore (pc := 101) hB dX10_freezes_101 (by decide) rfl ?_
      refine V.aload_n (pc := 103) hB dX10_freezes_103 rfl ?_
      refine V.get (pc := 104) hB fk_Model 0 wf_X10_9 dX10_freezes_104 (by decide) (hp_at (ca_Model _)) rfl ?_
      refine V.iload (pc := 107) hB dX10_freezes_107 rfl ?_
      refine V.iconst (pc := 109) (v := 0) hB dX10_freezes_109 rfl ?_
      refine V.iadd (pc := 110) hB dX10_freezes_110 ?_
      rw [show nI (10 + 27 * j + 3 * N) + 0 = nI (10 + 27 * j + 3 * N) from Int32.add_zero _]
      refine V.iload_n (pc := 111) hB dX10_freezes_111 rfl ?_
      refine V.iastM (pc := 112) hB (ca_Now) dX10_freezes_112 (ix_nI (by omega) (by decide)) (by decide) ?_
      rw [up_setRow]
      refine V.aload_n (pc := 113) hB dX10_freezes_113 rfl ?_
      refine V.get (pc := 114) hB fk_Model 0 wf_X10_9 dX10_freezes_114 (by decide) (hp_at (ca_Model _)) rfl ?_
      refine V.iload (pc := 117) hB dX10_freezes_117 rfl ?_
      refine V.iconst (pc := 119) (v := 1) hB dX10_freezes_119 rfl ?_
      refine V.iadd (pc := 120) hB dX10_freezes_120 ?_
      rw [show nI (10 + 27 * j + 3 * N) + 1 = nI (11 + 27 * j + 3 * N) from (nI_1 _).trans (congrArg nI (by omega))]
      refine V.iload_n (pc := 121) hB dX10_freezes_121 rfl ?_
      refine V.iastM (pc := 122) hB (ca_Now) dX10_freezes_122 (ix_nI (by omega) (by decide)) (by decide) ?_
      rw [up_setRow]
      refine V.aload_n (pc := 123) hB dX10_freezes_123 rfl ?_
      refine V.get (pc := 124) hB fk_Model 0 wf_X10_9 dX10_freezes_124 (by decide) (hp_at (ca_Model _)) rfl ?_
      refine V.iload (pc := 127) hB dX10_freezes_127 rfl ?_
      refine V.iconst (pc := 129) (v := 2) hB dX10_freezes_129 rfl ?_
      refine V.iadd (pc := 130) hB dX10_freezes_130 ?_
      rw [show nI (10 + 27 * j + 3 * N) + 2 = nI (12 + 27 * j + 3 * N) from (nI_add _ 2).trans (congrArg nI (by omega))]
      refine V.iconst (pc := 131) (v := 0) hB dX10_freezes_131 rfl ?_
      refine V.iastM (pc := 132) hB (ca_Now) dX10_freezes_132 (ix_nI (by omega) (by decide)) (by decide) ?_
      rw [up_setRow]
      refine V.aload_n (pc := 133) hB dX10_freezes_133 rfl ?_
      refine V.get (pc := 134) hB fk_Model 0 wf_X10_9 dX10_freezes_134 (by decide) (hp_at (ca_Model _)) rfl ?_
      refine V.bipush (pc := 137) (v := 7) hB dX10_freezes_137 rfl ?_
      refine V.bipush (pc := 139) (v := 27) hB dX10_freezes_139 rfl ?_
      refine V.iload_n (pc := 141) hB dX10_freezes_141 rfl ?_
      refine V.imul (pc := 142) hB dX10_freezes_142 ?_
      refine V.iadd (pc := 143) hB dX10_freezes_143 ?_
      refine V.iconst (pc := 144) (v := 2) hB dX10_freezes_144 rfl ?_
      refine V.iadd (pc := 145) hB dX10_freezes_145 ?_
      rw [show (7 : Int32) + 27 * x + 2 = nI (9 + 27 * j) by rw [hxe]; exact (ix7 j 2).trans (congrArg nI (by omega))]
      refine V.dup2 (pc := 146) hB dX10_freezes_146 rfl rfl ?_
      refine V.ialdM (pc := 147) hB (ca_Now) dX10_freezes_147 (ix_nI (by omega) (by decide)) ?_
      rw [setRow_same, upd_ne _ _ (by omega), upd_ne _ _ (by omega), upd_ne _ _ (by omega), h9]
      refine V.iconst (pc := 148) (v := 1) hB dX10_freezes_148 rfl ?_
      refine V.iadd (pc := 149) hB dX10_freezes_149 ?_
      rw [nI_1]
      refine V.iastM (pc := 150) hB (ca_Now) dX10_freezes_150 (ix_nI (by omega) (by decide)) (by decide) ?_
      rw [up_setRow]
      refine V.aload_n (pc := 151) hB dX10_freezes_151 rfl ?_
      refine V.get (pc := 152) hB fk_Model 0 wf_X10_9 dX10_freezes_152 (by decide) (hp_at (ca_Model _)) rfl ?_
      refine V.iconst (pc := 155) (v := 5) hB dX10_freezes_155 rfl ?_
      refine V.dup2 (pc := 156) hB dX10_freezes_156 rfl rfl ?_
      refine V.ialdM (pc := 157) hB (ca_Now) dX10_freezes_157 (ix_nI (q := 5) (N := 218) (by decide) (by decide)) ?_
      rw [setRow_same, upd_ne _ _ (by omega), upd_ne _ _ (by omega), upd_ne _ _ (by omega), upd_ne _ _ (by omega)]
      refine V.iload_n (pc := 158) hB dX10_freezes_158 rfl ?_
      refine V.iadd (pc := 159) hB dX10_freezes_159 ?_
      refine V.iastM (pc := 160) hB (ca_Now) dX10_freezes_160 (ix_nI (q := 5) (N := 218) (by decide) (by decide)) (by decide) ?_
      rw [up_setRow]
      refine V.iload (pc := 161) hB dX10_freezes_161 rfl ?_
      refine V.iconst (pc := 163) (v := 1) hB dX10_freezes_163 rfl ?_
      refine V.iadd (pc := 164) hB dX10_freezes_164 ?_
      rw [nI_1]
      refine V.retI (pc := 165) hB dX10_freezes_165 rfl (rfl) (by omega) (by omega) ?_
      exact Or.inl ⟨hF1, by rw [hjc, hN], MFr.row _ _, by rw [setRow_same, hjc]; exact hg⟩
    · have hab : a = false ∨ (a = true ∧ k1 = false) ∨ (a = true ∧ k1 = true ∧ k2 = false) ∨ (a = true ∧ k1 = true ∧ k2 = true ∧ k3 = false) := by
        cases a
        · exact Or.inl rfl
        · cases k1
          · exact Or.inr (Or.inl ⟨rfl, rfl⟩)
          · cases k2
            · exact Or.inr (Or.inr (Or.inl ⟨rfl, rfl, rfl⟩))
            · cases k3
              · exact Or.inr (Or.inr (Or.inr ⟨rfl, rfl, rfl, rfl⟩))
              · exact absurd c_90 (by decide)
      refine V.iconst (pc := 93) (v := 0) hB dX10_freezes_93 rfl ?_
      refine V.retI (pc := 94) hB dX10_freezes_94 rfl (rfl) (by omega) (by omega) ?_
      refine Or.inr ⟨rfl, _, ?_, rfl⟩
      rcases hab with e | ⟨e, e2⟩ | ⟨e, e2, e3⟩ | ⟨e, e2, e3, e4⟩
      · exact Or.inl ⟨by rw [hF, e]; rfl, by rw [e]; rfl⟩
      · exact Or.inr (Or.inl ⟨by rw [hF, e, e2]; rfl, by rw [e, e2]; rfl⟩)
      · exact Or.inr (Or.inr (Or.inl ⟨by rw [hF, e, e2, e3]; rfl, by rw [e, e2, e3]; rfl⟩))
      · exact Or.inr (Or.inr (Or.inr ⟨by rw [hF, e, e2, e3, e4]; rfl, by rw [e, e2, e3, e4]; rfl⟩))
  have join2 : ∀ (sz : Nat) (u : Int32), u = (if k3 = true then 1 else 0) → V g B 0 0 (QM g B 0 0 (rI (fun v m2 => (growF M i x t te = 45 ∧ v = nI (nLy M i x.toNatClampNeg + 1) ∧ MFr (up m 363 15 0) m2 ∧ RM (m2.1 364) (growM i x.toNatClampNeg t te M) i) ∨ (v = 0 ∧ ∃ tt, ((growF M i x t te = 98 ∧ tt = 1) ∨ (growF M i x t te = 97 ∧ tt = 2) ∨ (growF M i x t te = 115 ∧ tt = 3) ∨ (growF M i x t te = 117 ∧ tt = 4)) ∧ m2 = up m 363 15 tt))) noX) (hp g (m)) sz 63 [some (.ref (ad g 363)), some (.int x), some (.int t), some (.int te), some (.int (if k1 = true then 1 else 0)), some (.int (nI (mY (m.1 364) (lkI (m.1 364) x)))), none, none] [.int u] := by
    intro sz u h6
    refine V.istore (pc := 63) hB dX10_freezes_63 (by decide) rfl ?_
    refine V.aload_n (pc := 65) hB dX10_freezes_65 rfl ?_
    refine V.aload_n (pc := 66) hB dX10_freezes_66 rfl ?_
    refine V.iload_n (pc := 67) hB dX10_freezes_67 rfl ?_
    refine V.cv (pc := 68) hB cw_X10_isLake wm_X10_73 wi_X10_isLake ws_X10_isLake dX10_freezes_68 (c_X10_isLake hG hM) (hp_at (ca_Model _)) fk_Model rfl (by omega) (by decide) rfl (by exact Nat.le_of_ble_eq_true rfl) (by omega) (by omega) kN (kI (fun v_68 m_68 sz h_68 => ?_)) rfl
    obtain ⟨rfl, hm_68⟩ := h_68
    obtain rfl := hm_68.symm
    rw [← ha]
    refine V.iload (pc := 71) hB dX10_freezes_71 rfl ?_
    refine V.iload (pc := 73) hB dX10_freezes_73 rfl ?_
    refine V.bipush (pc := 75) (v := 8) hB dX10_freezes_75 rfl ?_
    refine V.icmp_ge (pc := 77) (tgt := 84) hB dX10_freezes_77 (by decide) (fun c_77 => ?_) (fun c_77 => ?_)
    · have h8 : (0 : Int32) = if k2 = true then 1 else 0 := by
        rw [hk2, decide_eq_false (by have := (nI_leI (a := 8) (by decide) (by omega)).mp c_77; omega)]
        rfl
      refine V.iconst (pc := 84) (v := 0) hB dX10_freezes_84 rfl ?_
      exact join3 sz _ _ h6 h8
    · have h8 : (1 : Int32) = if k2 = true then 1 else 0 := by
        rw [hk2, decide_eq_true (Nat.not_le.mp (fun z => c_77 ((nI_leI (a := 8) (by decide) (by omega)).mpr z)))]
        rfl
      refine V.iconst (pc := 80) (v := 1) hB dX10_freezes_80 rfl ?_
      refine V.goto (pc := 81) (tgt := 85) hB dX10_freezes_81 (by decide) ?_
      exact join3 sz _ _ h6 h8
  have join1 : ∀ (sz : Nat) (u : Int32), u = (if k1 = true then 1 else 0) → V g B 0 0 (QM g B 0 0 (rI (fun v m2 => (growF M i x t te = 45 ∧ v = nI (nLy M i x.toNatClampNeg + 1) ∧ MFr (up m 363 15 0) m2 ∧ RM (m2.1 364) (growM i x.toNatClampNeg t te M) i) ∨ (v = 0 ∧ ∃ tt, ((growF M i x t te = 98 ∧ tt = 1) ∨ (growF M i x t te = 97 ∧ tt = 2) ∨ (growF M i x t te = 115 ∧ tt = 3) ∨ (growF M i x t te = 117 ∧ tt = 4)) ∧ m2 = up m 363 15 tt))) noX) (hp g (m)) sz 25 [some (.ref (ad g 363)), some (.int x), some (.int t), some (.int te), none, none, none, none] [.int u] := by
    intro sz u hu
    refine V.istore (pc := 25) hB dX10_freezes_25 (by decide) rfl ?_
    refine V.aload_n (pc := 27) hB dX10_freezes_27 rfl ?_
    refine V.iload_n (pc := 28) hB dX10_freezes_28 rfl ?_
    refine V.iconst (pc := 29) (v := 2) hB dX10_freezes_29 rfl ?_
    refine V.cv (pc := 30) hB cw_X10_of wm_X10_77 wi_X10_of ws_X10_of dX10_freezes_30 (c_X10_of hG hM (k := 2) (by decide) rfl) (hp_at (ca_Model _)) fk_Model rfl (by omega) (by decide) rfl (by exact Nat.le_of_ble_eq_true rfl) (by omega) (by omega) kN (kI (fun v_30 m_30 sz h_30 => ?_)) rfl
    obtain ⟨rfl, hm_30⟩ := h_30
    obtain rfl := hm_30.symm
    rw [ofV_2 hM]
    refine V.istore (pc := 33) hB dX10_freezes_33 (by decide) rfl ?_
    rw [hu]
    refine V.iload (pc := 35) hB dX10_freezes_35 rfl ?_
    refine V.if_eq (pc := 37) (tgt := 62) hB dX10_freezes_37 (by decide) (fun c_37 => ?_) (fun c_37 => ?_)
    · have hk10 : k1 = false := by
        cases k1
        · rfl
        · exact absurd c_37 (by decide)
      have h6 : (0 : Int32) = if k3 = true then 1 else 0 := by
        rw [hk3]
        unfold gfB
        rw [← hk1, hk10]
        rfl
      refine V.iconst (pc := 62) (v := 0) hB dX10_freezes_62 rfl ?_
      exact join2 sz _ h6
    · have hk11 : k1 = true := by
        cases k1
        · exact absurd rfl c_37
        · rfl
      refine V.iconst (pc := 40) (v := 2) hB dX10_freezes_40 rfl ?_
      refine V.aload_n (pc := 41) hB dX10_freezes_41 rfl ?_
      refine V.iload_n (pc := 42) hB dX10_freezes_42 rfl ?_
      refine V.cv (pc := 43) hB cw_X10_iceOf wm_X10_107 wi_X10_iceOf ws_X10_iceOf dX10_freezes_43 (c_X10_iceOf hG hM) (hp_at (ca_Model _)) fk_Model rfl (by omega) (by decide) rfl (by exact Nat.le_of_ble_eq_true rfl) (by omega) (by omega) kN (kI (fun v_43 m_43 sz h_43 => ?_)) rfl
      obtain ⟨rfl, hm_43⟩ := h_43
      obtain rfl := hm_43.symm
      refine V.iload_n (pc := 46) hB dX10_freezes_46 rfl ?_
      refine V.iadd (pc := 47) hB dX10_freezes_47 ?_
      refine V.imul (pc := 48) hB dX10_freezes_48 ?_
      refine V.aload_n (pc := 49) hB dX10_freezes_49 rfl ?_
      refine V.iload_n (pc := 50) hB dX10_freezes_50 rfl ?_
      refine V.iconst (pc := 51) (v := 0) hB dX10_freezes_51 rfl ?_
      refine V.cv (pc := 52) hB cw_X10_of wm_X10_77 wi_X10_of ws_X10_of dX10_freezes_52 (c_X10_of hG hM (k := 0) (by decide) rfl) (hp_at (ca_Model _)) fk_Model rfl (by omega) (by decide) rfl (by exact Nat.le_of_ble_eq_true rfl) (by omega) (by omega) kN (kI (fun v_52 m_52 sz h_52 => ?_)) rfl
      obtain ⟨rfl, hm_52⟩ := h_52
      obtain rfl := hm_52.symm
      refine V.icmp_gt (pc := 55) (tgt := 62) hB dX10_freezes_55 (by decide) (fun c_55 => ?_) (fun c_55 => ?_)
      · have h6 : (0 : Int32) = if k3 = true then 1 else 0 := by
          rw [hk3]
          unfold gfB
          rw [← hk1, hk11, decide_eq_false (Int32.not_le.mpr c_55)]
          rfl
        refine V.iconst (pc := 62) (v := 0) hB dX10_freezes_62 rfl ?_
        exact join2 sz _ h6
      · have h6 : (1 : Int32) = if k3 = true then 1 else 0 := by
          rw [hk3]
          unfold gfB
          rw [← hk1, hk11, decide_eq_true (Int32.not_lt.mp c_55)]
          rfl
        refine V.iconst (pc := 58) (v := 1) hB dX10_freezes_58 rfl ?_
        refine V.goto (pc := 59) (tgt := 63) hB dX10_freezes_59 (by decide) ?_
        exact join2 sz _ h6
  refine V.iload_n (pc := 0) hB dX10_freezes_0 rfl ?_
  refine V.iconst (pc := 1) (v := 1) hB dX10_freezes_1 rfl ?_
  refine V.bipush (pc := 2) (v := 50) hB dX10_freezes_2 rfl ?_
  refine V.cs (pc := 4) hB cw_X10_isIn wm_X10_69 wst_X10_isIn dX10_freezes_4 (c_X10_isIn hG) (by omega) (by decide) rfl (by exact Nat.le_of_ble_eq_true rfl) (by omega) (by omega) kN (kI (fun v_4 m_4 sz h_4 => ?_)) rfl
  obtain ⟨rfl, hm_4⟩ := h_4
  obtain rfl := hm_4.symm
  refine V.if_eq (pc := 7) (tgt := 24) hB dX10_freezes_7 (by decide) (fun c_7 => ?_) (fun c_7 => ?_)
  · have h4 : (0 : Int32) = if k1 = true then 1 else 0 := by
      rw [hk1]
      unfold gkB
      rw [show (decide (1 ≤ t) && decide (t ≤ 50)) = false by
        cases hb : (decide (1 ≤ t) && decide (t ≤ 50))
        · rfl
        · rw [hb] at c_7; exact absurd c_7 (by decide)]
      rfl
    refine V.iconst (pc := 24) (v := 0) hB dX10_freezes_24 rfl ?_
    exact join1 sz _ h4
  · have h4a : (decide (1 ≤ t) && decide (t ≤ 50)) = true := by
      cases hb : (decide (1 ≤ t) && decide (t ≤ 50))
      · rw [hb] at c_7; exact absurd rfl c_7
      · rfl
    refine V.iload_n (pc := 10) hB dX10_freezes_10 rfl ?_
    refine V.bipush (pc := 11) (v := (-40)) hB dX10_freezes_11 rfl ?_
    refine V.iconst (pc := 13) (v := 0) hB dX10_freezes_13 rfl ?_
    refine V.cs (pc := 14) hB cw_X10_isIn wm_X10_69 wst_X10_isIn dX10_freezes_14 (c_X10_isIn hG) (by omega) (by decide) rfl (by exact Nat.le_of_ble_eq_true rfl) (by omega) (by omega) kN (kI (fun v_14 m_14 sz h_14 => ?_)) rfl
    obtain ⟨rfl, hm_14⟩ := h_14
    obtain rfl := hm_14.symm
    refine V.if_eq (pc := 17) (tgt := 24) hB dX10_freezes_17 (by decide) (fun c_17 => ?_) (fun c_17 => ?_)
    · have h4 : (0 : Int32) = if k1 = true then 1 else 0 := by
        rw [hk1]
        unfold gkB
        rw [h4a, show (decide (-40 ≤ te) && decide (te ≤ 0)) = false by
          cases hb : (decide (-40 ≤ te) && decide (te ≤ 0))
          · rfl
          · rw [hb] at c_17; exact absurd c_17 (by decide)]
        rfl
      refine V.iconst (pc := 24) (v := 0) hB dX10_freezes_24 rfl ?_
      exact join1 sz _ h4
    · have h4 : (1 : Int32) = if k1 = true then 1 else 0 := by
        rw [hk1]
        unfold gkB
        rw [h4a, show (decide (-40 ≤ te) && decide (te ≤ 0)) = true by
          cases hb : (decide (-40 ≤ te) && decide (te ≤ 0))
          · rw [hb] at c_17; exact absurd rfl c_17
          · rfl]
        rfl
      refine V.iconst (pc := 20) (v := 1) hB dX10_freezes_20 rfl ?_
      refine V.goto (pc := 21) (tgt := 25) hB dX10_freezes_21 (by decide) ?_
      exact join1 sz _ h4
