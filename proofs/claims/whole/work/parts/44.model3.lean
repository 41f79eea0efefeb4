/-! the reference: peals, temperatures, strains -/
def MFr (m m2 : Mem) : Prop := m2.2 = m.2 ∧ ∀ k, k ≠ 364 → k ≠ 369 → m2.1 k = m.1 k
theorem MFr.refl (m : Mem) : MFr m m := ⟨rfl, fun _ _ _ => rfl⟩
theorem MFr.trans {m m2 m3 : Mem} (h : MFr m m2) (h2 : MFr m2 m3) : MFr m m3 := ⟨h2.1.trans h.1, fun k a b => (h2.2 k a b).trans (h.2 k a b)⟩
theorem MFr.up (m : Mem) (k : Nat) (v : Int32) : MFr m (up m 364 k v) := ⟨rfl, fun q a _ => up_cell _ _ _ a⟩
theorem MFr.row (m : Mem) (f : Nat → Int32) : MFr m (setRow m 364 f) := ⟨rfl, fun q a _ => setRow_cell _ _ a⟩
theorem MFr.tg (m : Mem) (f : Nat → Int32) : MFr m (setRow m 369 f) := ⟨rfl, fun q _ b => setRow_cell _ _ b⟩
def shP (R : Nat → Int32) (q : Nat) : Nat → Int32 := fun k => if 218 - q ≤ k ∧ k < 218 then R (k - 4) else R k
theorem shP_step {R : Nat → Int32} {q : Nat} (hq : q < 60) : upd (shP R q) (217 - q) (shP R q (213 - q)) = shP R (q + 1) := by
  funext k
  unfold upd
  by_cases h : k = 217 - q
  · rw [if_pos h]
    unfold shP
    rw [if_neg (by omega), if_pos (by omega)]
    congr 1; omega
  · rw [if_neg h]
    unfold shP
    by_cases h2 : 218 - q ≤ k ∧ k < 218
    · rw [if_pos h2, if_pos (by omega)]
    · rw [if_neg h2, if_neg (by omega)]
theorem ring_fin {R : Nat → Int32} {kd lk pt hr : Int32} : upd (upd (upd (upd (upd (shP R 60) 154 kd) 155 lk) 156 pt) 157 hr) 4 (nI (min (mP R + 1) 16)) = ringR R kd lk pt hr := by
  funext k
  unfold upd ringR shP
  repeat' split
  all_goals first
    | rfl
    | (exfalso; omega)
theorem st_upto {m : Mem} {a q : Nat} {f f0 : Nat → Int32} {v : Int32} (hv : v = f q) : up (setRow m a (upto q f f0)) a q v = setRow m a (upto (q + 1) f f0) := by
  rw [up_eq, setRow_same, setRow_set]
  congr 1
  funext y
  rw [upto_succ hv.symm]
  unfold upd
  split <;> rfl
def abF (A : Int32) (T : Nat → Int32) (y : Nat) : Int32 := if y = 0 then A else T (y - 1)
def beF (T : Nat → Int32) (N y : Nat) : Int32 := if y + 1 < N then T (y + 1) else 0
def tgF (A : Int32) (T : Nat → Int32) (N y : Nat) : Int32 := (abF A T y + beF T N y) / 2
theorem RM.ol {R : Nat → Int32} {M : Mem} {i j y k : Nat} (h : RM R M i) (hj : j < nLk M i) (hy : y < nLy M i j) (hk : k < 3) : olV R (nI j) (nI y) k = M.1 (LK i j + 1 + k) y := by
  obtain ⟨hM, hL, hn, hf, hl, hw, hp⟩ := h
  obtain ⟨g1, g2, g3⟩ := hl j hj
  have h5 := hM.1.2
  rw [olV_j (by omega) h5 (by omega) (hM.2.1 j (by omega)).2]
  have := g3 y hy (1 + k) (by omega) (by omega)
  rw [show 10 + 27 * j + 3 * y + k = 9 + (1 + k) + 27 * j + 3 * y by omega, this, show LK i j + (1 + k) = LK i j + 1 + k by omega]
theorem RM.many {R : Nat → Int32} {M : Mem} {i j : Nat} (h : RM R M i) (hj : j < nLk M i) : ofV R (nI j) 2 = nI (nLy M i j) := by
  obtain ⟨hM, hL, hn, hf, hl, hw, hp⟩ := h
  rw [ofV_2 hM, lkI_j (by omega) hM.1.2, (hl j hj).1]
theorem nLk_row {M : Mem} {i j c : Nat} {f : Nat → Int32} : nLk (setRow M (LK i j + c) f) i = nLk M i := by
  have := LK_ge i j
  unfold nLk; rw [setRow_cell _ _ (by omega)]
theorem nLy_row {M : Mem} {i j j' c : Nat} {f : Nat → Int32} (hc : 1 ≤ c) (hc3 : c ≤ 3) : nLy (setRow M (LK i j + c) f) i j' = nLy M i j' := by
  unfold nLy; rw [setRow_cell _ _ (by unfold LK; omega)]

set_option maxRecDepth 100000 in
set_option maxHeartbeats 1000000 in
theorem c_X10_rings {g : xG} (hG : GK g) {m : Mem} (hM : MW (m.1 364)) {kd lk pt : Int32} : CC g yX10_rings (.code yX10_rings cX10_rings 5 none) 2 0 0 [.ref (ad g 363), .int kd, .int lk, .int pt] m (rV (fun m2 => m2 = setRow m 364 (ringR (m.1 364) kd lk pt (m.1 364 0)))) noX := by
  refine CC.mk hG RX10 rfl (by decide +kernel) rfl (Nat.le_of_ble_eq_true rfl) (fun sz B hB hX => ?_)
  show V g B 0 0 _ (hp g m) sz 0 [some (.ref (ad g 363)), some (.int kd), some (.int lk), some (.int pt), none] []
  have loop : ∀ q : Nat, q ≤ 60 → ∀ (sz : Nat), V g B 0 0 (QM g B 0 0 (rV (fun m2 => m2 = setRow m 364 (ringR (m.1 364) kd lk pt (m.1 364 0)))) noX) (hp g (setRow m 364 (shP (m.1 364) q))) sz 5 [some (.ref (ad g 363)), some (.int kd), some (.int lk), some (.int pt), some (.int (nI (217 - q)))] [] := by
    refine loop_up (fun q hq ih => ?_)
    intro sz
    refine V.iload (pc := 5) hB dX10_rings_5 rfl ?_
    refine V.sipush (pc := 7) (v := 158) hB dX10_rings_7 rfl ?_
    refine V.icmp_lt (pc := 10) (tgt := 35) hB dX10_rings_10 (by decide) (fun c_10 => ?_) (fun c_10 => ?_)
    · have hq2 : q = 60 := by
        by_cases z : q < 60
        · exact absurd c_10 (nI_nlt (b := 158) (by omega) (by omega))
        · omega
      subst hq2
      refine V.aload_n (pc := 35) hB dX10_rings_35 rfl ?_
      refine V.get (pc := 36) hB fk_Model 0 wf_X10_9 dX10_rings_36 (by decide) (hp_at (ca_Model _)) rfl ?_
      refine V.sipush (pc := 39) (v := 154) hB dX10_rings_39 rfl ?_
      refine V.iload_n (pc := 42) hB dX10_rings_42 rfl ?_
      refine V.iastM (pc := 43) hB (ca_Now) dX10_rings_43 (ix_nI (q := 154) (N := 218) (by decide) (by decide)) (by decide) ?_
      rw [up_eq, setRow_same, setRow_set]
      refine V.aload_n (pc := 44) hB dX10_rings_44 rfl ?_
      refine V.get (pc := 45) hB fk_Model 0 wf_X10_9 dX10_rings_45 (by decide) (hp_at (ca_Model _)) rfl ?_
      refine V.sipush (pc := 48) (v := 155) hB dX10_rings_48 rfl ?_
      refine V.iload_n (pc := 51) hB dX10_rings_51 rfl ?_
      refine V.iastM (pc := 52) hB (ca_Now) dX10_rings_52 (ix_nI (q := 155) (N := 218) (by decide) (by decide)) (by decide) ?_
      rw [up_eq, setRow_same, setRow_set]
      refine V.aload_n (pc := 53) hB dX10_rings_53 rfl ?_
      refine V.get (pc := 54) hB fk_Model 0 wf_X10_9 dX10_rings_54 (by decide) (hp_at (ca_Model _)) rfl ?_
      refine V.sipush (pc := 57) (v := 156) hB dX10_rings_57 rfl ?_
      refine V.iload_n (pc := 60) hB dX10_rings_60 rfl ?_
      refine V.iastM (pc := 61) hB (ca_Now) dX10_rings_61 (ix_nI (q := 156) (N := 218) (by decide) (by decide)) (by decide) ?_
      rw [up_eq, setRow_same, setRow_set]
      refine V.aload_n (pc := 62) hB dX10_rings_62 rfl ?_
      refine V.get (pc := 63) hB fk_Model 0 wf_X10_9 dX10_rings_63 (by decide) (hp_at (ca_Model _)) rfl ?_
      refine V.sipush (pc := 66) (v := 157) hB dX10_rings_66 rfl ?_
      refine V.aload_n (pc := 69) hB dX10_rings_69 rfl ?_
      refine V.get (pc := 70) hB fk_Model 0 wf_X10_9 dX10_rings_70 (by decide) (hp_at (ca_Model _)) rfl ?_
      refine V.iconst (pc := 73) (v := 0) hB dX10_rings_73 rfl ?_
      refine V.ialdM (pc := 74) hB (ca_Now) dX10_rings_74 ((ix_nI (q := 0) (N := 218) (by decide) (by decide) : ix 0 0 218)) ?_
      rw [setRow_same]
      rw [show upd (upd (upd (shP (m.1 364) 60) 154 kd) 155 lk) 156 pt 0 = m.1 364 0 from rfl]
      refine V.iastM (pc := 75) hB (ca_Now) dX10_rings_75 (ix_nI (q := 157) (N := 218) (by decide) (by decide)) (by decide) ?_
      rw [up_eq, setRow_same, setRow_set]
      refine V.aload_n (pc := 76) hB dX10_rings_76 rfl ?_
      refine V.get (pc := 77) hB fk_Model 0 wf_X10_9 dX10_rings_77 (by decide) (hp_at (ca_Model _)) rfl ?_
      refine V.iconst (pc := 80) (v := 4) hB dX10_rings_80 rfl ?_
      refine V.bipush (pc := 81) (v := 16) hB dX10_rings_81 rfl ?_
      refine V.aload_n (pc := 83) hB dX10_rings_83 rfl ?_
      refine V.get (pc := 84) hB fk_Model 0 wf_X10_9 dX10_rings_84 (by decide) (hp_at (ca_Model _)) rfl ?_
      refine V.iconst (pc := 87) (v := 4) hB dX10_rings_87 rfl ?_
      refine V.ialdM (pc := 88) hB (ca_Now) dX10_rings_88 ((ix_nI (q := 4) (N := 218) (by decide) (by decide) : ix 4 4 218)) ?_
      rw [setRow_same]
      rw [show upd (upd (upd (upd (shP (m.1 364) 60) 154 kd) 155 lk) 156 pt) 157 (m.1 364 0) 4 = nI (mP (m.1 364)) from hM.2.2.2.1]
      refine V.iconst (pc := 89) (v := 1) hB dX10_rings_89 rfl ?_
      refine V.iadd (pc := 90) hB dX10_rings_90 ?_
      rw [nI1]
      refine V.cs (pc := 91) hB cw_J9_min_7cf53 wm_X10_92 wst_J9_min_7cf53 dX10_rings_91 (c_J9_min_7cf53 hG) (by omega) (by decide) rfl (by exact Nat.le_of_ble_eq_true rfl) (by omega) (by omega) kN (kI (fun v_91 m_91 sz h_91 => ?_)) rfl
      obtain ⟨rfl, hm_91⟩ := h_91
      obtain rfl := hm_91.symm
      rw [show (if nI (mP (m.1 364) + 1) < 16 then nI (mP (m.1 364) + 1) else 16) = nI (min (mP (m.1 364) + 1) 16) by rw [Nat.min_comm]; exact minN (a := 16) (by omega) (by have := hM.2.2.2.2; omega)]
      refine V.iastM (pc := 94) hB (ca_Now) dX10_rings_94 (ix_nI (q := 4) (N := 218) (by decide) (by decide)) (by decide) ?_
      rw [up_eq, setRow_same, setRow_set, ring_fin]
      refine V.retV (pc := 95) hB dX10_rings_95 rfl (by omega) (by omega) ?_
      rfl
    · have hlt : q < 60 := by
        by_cases z : q < 60
        · exact z
        · exact absurd (show nI (217 - q) < 158 from nI_lt (b := 158) (by omega) (by decide)) c_10
      refine V.aload_n (pc := 13) hB dX10_rings_13 rfl ?_
      refine V.get (pc := 14) hB fk_Model 0 wf_X10_9 dX10_rings_14 (by decide) (hp_at (ca_Model _)) rfl ?_
      refine V.iload (pc := 17) hB dX10_rings_17 rfl ?_
      refine V.aload_n (pc := 19) hB dX10_rings_19 rfl ?_
      refine V.get (pc := 20) hB fk_Model 0 wf_X10_9 dX10_rings_20 (by decide) (hp_at (ca_Model _)) rfl ?_
      refine V.iload (pc := 23) hB dX10_rings_23 rfl ?_
      refine V.iconst (pc := 25) (v := 4) hB dX10_rings_25 rfl ?_
      refine V.isub (pc := 26) hB dX10_rings_26 ?_
      rw [show nI (217 - q) - 4 = nI (213 - q) from (nI_subN (b := 4) (by omega)).trans (by congr 1; omega)]
      refine V.ialdM (pc := 27) hB (ca_Now) dX10_rings_27 (ix_nI (by omega) (by decide)) ?_
      rw [setRow_same]
      refine V.iastM (pc := 28) hB (ca_Now) dX10_rings_28 (ix_nI (by omega) (by decide)) (by decide) ?_
      rw [up_eq, setRow_same, setRow_set, shP_step hlt]
      refine V.iinc (pc := 29) (v := nI (217 - (q + 1))) hB dX10_rings_29 rfl ((dec1 (by omega)).trans (congrArg nI (by omega))) (by decide) rfl ?_
      refine V.goto (pc := 32) (tgt := 5) hB dX10_rings_32 (by decide) ?_
      exact ih hlt sz
  refine V.sipush (pc := 0) (v := 217) hB dX10_rings_0 rfl ?_
  refine V.istore (pc := 3) hB dX10_rings_3 (by decide) rfl ?_
  refine V.mem (m2 := setRow m 364 (shP (m.1 364) 0)) ?_ (loop 0 (by omega) sz)
  rw [show (shP (m.1 364) 0) = m.1 364 from funext (fun y => if_neg (by omega)), setRow_id]

set_option maxRecDepth 100000 in
set_option maxHeartbeats 1000000 in
theorem c_X10_warms {g : xG} (hG : GK g) {m M : Mem} {i j : Nat} (hR : RM (m.1 364) M i) (hj : j < nLk M i) : CC g yX10_warms (.code yX10_warms cX10_warms 6 none) 6 0 0 [.ref (ad g 363), .int (nI j)] m (rV (fun m2 => MFr m m2 ∧ RM (m2.1 364) (mvM i j (nLy M i j) (M.1 (LA i) 2) M) i)) noX := by
  have hM := hR.1
  have h5 := hR.2.1.nl5
  have h8 := (hR.2.1.ln hj).2
  have h3 : mL (m.1 364) = nLk M i := hR.2.2.1
  refine CC.mk hG RX10 rfl (by decide +kernel) rfl (Nat.le_of_ble_eq_true rfl) (fun sz B hB hX => ?_)
  show V g B 0 0 _ (hp g m) sz 0 [some (.ref (ad g 363)), some (.int (nI j)), none, none, none, none] []
  have lp2 : ∀ q : Nat, q ≤ (nLy M i j) → ∀ (sz : Nat) (x4 x5 : Option Value) (mm : Mem), MFr m mm → (∀ y, y < (nLy M i j) → mm.1 369 y = tgF (M.1 (LA i) 2) (M.1 (LK i j + 2)) (nLy M i j) y) → RM (mm.1 364) (setRow M (LK i j + 2) (upto q (mvT (M.1 (LA i) 2) (M.1 (LK i j + 2)) (nLy M i j)) (M.1 (LK i j + 2)))) i → V g B 0 0 (QM g B 0 0 (rV (fun m2 => MFr m m2 ∧ RM (m2.1 364) (mvM i j (nLy M i j) (M.1 (LA i) 2) M) i)) noX) (hp g (mm)) sz 81 [some (.ref (ad g 363)), some (.int (nI j)), some (.int (nI (nLy M i j))), some (.int (nI q)), x4, x5] [] := by
    refine loop_up (fun q hq ih => ?_)
    intro sz x4 x5 mm hF hT hRq
    refine V.iload_n (pc := 81) hB dX10_warms_81 rfl ?_
    refine V.iload_n (pc := 82) hB dX10_warms_82 rfl ?_
    refine V.icmp_ge (pc := 83) (tgt := 162) hB dX10_warms_83 (by decide) (fun c_83 => ?_) (fun c_83 => ?_)
    · have hqN : q = (nLy M i j) := by have := (nI_leI (by omega) (by omega)).mp c_83; omega
      rw [hqN] at hRq
      refine V.retV (pc := 162) hB dX10_warms_162 rfl (by omega) (by omega) ?_
      exact ⟨hF, hRq⟩
    · have hlt : q < (nLy M i j) := Nat.not_le.mp (fun z => c_83 ((nI_leI (by omega) (by omega)).mpr z))
      have hTq : mm.1 364 (9 + 2 + 27 * j + 3 * q) = (M.1 (LK i j + 2)) q := by
        have hh := (hRq.2.2.2.2.1 j (by rw [nLk_row]; exact hj)).2.2 q (by rw [nLy_row (by omega) (by omega)]; exact hlt) 2 (by omega) (by omega)
        rw [hh, setRow_same]
        exact upto_ge (Nat.le_refl q)
      refine V.iload_n (pc := 86) hB dX10_warms_86 rfl ?_
      refine V.iload_n (pc := 87) hB dX10_warms_87 rfl ?_
      refine V.cs (pc := 88) hB cw_X10_layerPlace wm_X10_85 wst_X10_layerPlace dX10_warms_88 (c_X10_layerPlace hG (j := j) (y := q) rfl rfl) (by omega) (by decide) rfl (by exact Nat.le_of_ble_eq_true rfl) (by omega) (by omega) kN (kI (fun v_88 m_88 sz h_88 => ?_)) rfl
      obtain ⟨rfl, hm_88⟩ := h_88
      obtain rfl := hm_88.symm
      refine V.iconst (pc := 91) (v := 1) hB dX10_warms_91 rfl ?_
      refine V.iadd (pc := 92) hB dX10_warms_92 ?_
      rw [show nI (10 + 27 * j + 3 * q) + 1 = nI (9 + 2 + 27 * j + 3 * q) from (nI_1 _).trans (by congr 1; omega)]
      refine V.istore (pc := 93) hB dX10_warms_93 (by decide) rfl ?_
      refine V.aload_n (pc := 95) hB dX10_warms_95 rfl ?_
      refine V.get (pc := 96) hB fk_Model 0 wf_X10_9 dX10_warms_96 (by decide) (hp_at (ca_Model _)) rfl ?_
      refine V.iload (pc := 99) hB dX10_warms_99 rfl ?_
      refine V.dup2 (pc := 101) hB dX10_warms_101 rfl rfl ?_
      refine V.ialdM (pc := 102) hB (ca_Now) dX10_warms_102 (ix_nI (by omega) (by decide)) ?_
      rw [hTq]
      refine V.aload_n (pc := 103) hB dX10_warms_103 rfl ?_
      refine V.get (pc := 104) hB fk_Model 0 wf_X10_9 dX10_warms_104 (by decide) (hp_at (ca_Model _)) rfl ?_
      refine V.iload (pc := 107) hB dX10_warms_107 rfl ?_
      refine V.ialdM (pc := 109) hB (ca_Now) dX10_warms_109 (ix_nI (by omega) (by decide)) ?_
      rw [hTq]
      refine V.aload_n (pc := 110) hB dX10_warms_110 rfl ?_
      refine V.get (pc := 111) hB fk_Model 10 wf_X10_32 dX10_warms_111 (by decide) (hp_at (ca_Model _)) rfl ?_
      refine V.iload_n (pc := 114) hB dX10_warms_114 rfl ?_
      refine V.ialdM (pc := 115) hB (ca_Targets) dX10_warms_115 (ix_nI (by omega) (by decide)) ?_
      rw [hT q hlt]
      refine V.icmp_ge (pc := 116) (tgt := 133) hB dX10_warms_116 (by decide) (fun c_116 => ?_) (fun c_116 => ?_)
      · have hno : ¬ ((M.1 (LK i j + 2)) q < tgF (M.1 (LA i) 2) (M.1 (LK i j + 2)) (nLy M i j) q ∧ (M.1 (LK i j + 2)) q < 0) := fun z => absurd z.1 (Int32.not_lt.mpr c_116)
        refine V.aload_n (pc := 133) hB dX10_warms_133 rfl ?_
        refine V.get (pc := 134) hB fk_Model 0 wf_X10_9 dX10_warms_134 (by decide) (hp_at (ca_Model _)) rfl ?_
        refine V.iload (pc := 137) hB dX10_warms_137 rfl ?_
        refine V.ialdM (pc := 139) hB (ca_Now) dX10_warms_139 (ix_nI (by omega) (by decide)) ?_
        rw [hTq]
        refine V.aload_n (pc := 140) hB dX10_warms_140 rfl ?_
        refine V.get (pc := 141) hB fk_Model 10 wf_X10_32 dX10_warms_141 (by decide) (hp_at (ca_Model _)) rfl ?_
        refine V.iload_n (pc := 144) hB dX10_warms_144 rfl ?_
        refine V.ialdM (pc := 145) hB (ca_Targets) dX10_warms_145 (ix_nI (by omega) (by decide)) ?_
        rw [hT q hlt]
        refine V.icmp_le (pc := 146) (tgt := 153) hB dX10_warms_146 (by decide) (fun c_146 => ?_) (fun c_146 => ?_)
        · have hv : (M.1 (LK i j + 2)) q + 0 = mvT (M.1 (LA i) 2) (M.1 (LK i j + 2)) (nLy M i j) q := (Int32.add_zero _).trans ((if_neg hno).trans (if_neg (Int32.not_lt.mpr c_146))).symm
          refine V.iconst (pc := 153) (v := 0) hB dX10_warms_153 rfl ?_
          refine V.iadd (pc := 154) hB dX10_warms_154 ?_
          refine V.iastM (pc := 155) hB (ca_Now) dX10_warms_155 (ix_nI (by omega) (by decide)) (by decide) ?_
          refine V.iinc (pc := 156) (v := nI (q + 1)) hB dX10_warms_156 rfl (nI_1 _) (by decide) rfl ?_
          refine V.goto (pc := 159) (tgt := 81) hB dX10_warms_159 (by decide) ?_
          refine ih hlt sz _ _ _ (hF.trans (MFr.up _ _ _)) (fun y hy => by rw [up_cell _ _ _ (by decide)]; exact hT y hy) ?_
          rw [up_row]
          have hw := hRq.lay (v := mvT (M.1 (LA i) 2) (M.1 (LK i j + 2)) (nLy M i j) q) (c := 2) (y := q) (by rw [nLk_row]; exact hj) (by omega) (by omega) (by omega)
          rw [st_upto rfl] at hw
          rw [hv]
          exact hw
        · have hv : (M.1 (LK i j + 2)) q + -1 = mvT (M.1 (LA i) 2) (M.1 (LK i j + 2)) (nLy M i j) q := (Int32.sub_eq_add_neg _ _).symm.trans ((if_neg hno).trans (if_pos (Int32.not_le.mp c_146))).symm
          refine V.iconst (pc := 149) (v := (-1)) hB dX10_warms_149 rfl ?_
          refine V.goto (pc := 150) (tgt := 154) hB dX10_warms_150 (by decide) ?_
          refine V.iadd (pc := 154) hB dX10_warms_154 ?_
          refine V.iastM (pc := 155) hB (ca_Now) dX10_warms_155 (ix_nI (by omega) (by decide)) (by decide) ?_
          refine V.iinc (pc := 156) (v := nI (q + 1)) hB dX10_warms_156 rfl (nI_1 _) (by decide) rfl ?_
          refine V.goto (pc := 159) (tgt := 81) hB dX10_warms_159 (by decide) ?_
          refine ih hlt sz _ _ _ (hF.trans (MFr.up _ _ _)) (fun y hy => by rw [up_cell _ _ _ (by decide)]; exact hT y hy) ?_
          rw [up_row]
          have hw := hRq.lay (v := mvT (M.1 (LA i) 2) (M.1 (LK i j + 2)) (nLy M i j) q) (c := 2) (y := q) (by rw [nLk_row]; exact hj) (by omega) (by omega) (by omega)
          rw [st_upto rfl] at hw
          rw [hv]
          exact hw
      · refine V.aload_n (pc := 119) hB dX10_warms_119 rfl ?_
        refine V.get (pc := 120) hB fk_Model 0 wf_X10_9 dX10_warms_120 (by decide) (hp_at (ca_Model _)) rfl ?_
        refine V.iload (pc := 123) hB dX10_warms_123 rfl ?_
        refine V.ialdM (pc := 125) hB (ca_Now) dX10_warms_125 (ix_nI (by omega) (by decide)) ?_
        rw [hTq]
        refine V.if_ge (pc := 126) (tgt := 133) hB dX10_warms_126 (by decide) (fun c_126 => ?_) (fun c_126 => ?_)
        · have hno : ¬ ((M.1 (LK i j + 2)) q < tgF (M.1 (LA i) 2) (M.1 (LK i j + 2)) (nLy M i j) q ∧ (M.1 (LK i j + 2)) q < 0) := fun z => absurd z.2 (Int32.not_lt.mpr c_126)
          refine V.aload_n (pc := 133) hB dX10_warms_133 rfl ?_
          refine V.get (pc := 134) hB fk_Model 0 wf_X10_9 dX10_warms_134 (by decide) (hp_at (ca_Model _)) rfl ?_
          refine V.iload (pc := 137) hB dX10_warms_137 rfl ?_
          refine V.ialdM (pc := 139) hB (ca_Now) dX10_warms_139 (ix_nI (by omega) (by decide)) ?_
          rw [hTq]
          refine V.aload_n (pc := 140) hB dX10_warms_140 rfl ?_
          refine V.get (pc := 141) hB fk_Model 10 wf_X10_32 dX10_warms_141 (by decide) (hp_at (ca_Model _)) rfl ?_
          refine V.iload_n (pc := 144) hB dX10_warms_144 rfl ?_
          refine V.ialdM (pc := 145) hB (ca_Targets) dX10_warms_145 (ix_nI (by omega) (by decide)) ?_
          rw [hT q hlt]
          refine V.icmp_le (pc := 146) (tgt := 153) hB dX10_warms_146 (by decide) (fun c_146 => ?_) (fun c_146 => ?_)
          · have hv : (M.1 (LK i j + 2)) q + 0 = mvT (M.1 (LA i) 2) (M.1 (LK i j + 2)) (nLy M i j) q := (Int32.add_zero _).trans ((if_neg hno).trans (if_neg (Int32.not_lt.mpr c_146))).symm
            refine V.iconst (pc := 153) (v := 0) hB dX10_warms_153 rfl ?_
            refine V.iadd (pc := 154) hB dX10_warms_154 ?_
            refine V.iastM (pc := 155) hB (ca_Now) dX10_warms_155 (ix_nI (by omega) (by decide)) (by decide) ?_
            refine V.iinc (pc := 156) (v := nI (q + 1)) hB dX10_warms_156 rfl (nI_1 _) (by decide) rfl ?_
            refine V.goto (pc := 159) (tgt := 81) hB dX10_warms_159 (by decide) ?_
            refine ih hlt sz _ _ _ (hF.trans (MFr.up _ _ _)) (fun y hy => by rw [up_cell _ _ _ (by decide)]; exact hT y hy) ?_
            rw [up_row]
            have hw := hRq.lay (v := mvT (M.1 (LA i) 2) (M.1 (LK i j + 2)) (nLy M i j) q) (c := 2) (y := q) (by rw [nLk_row]; exact hj) (by omega) (by omega) (by omega)
            rw [st_upto rfl] at hw
            rw [hv]
            exact hw
          · have hv : (M.1 (LK i j + 2)) q + -1 = mvT (M.1 (LA i) 2) (M.1 (LK i j + 2)) (nLy M i j) q := (Int32.sub_eq_add_neg _ _).symm.trans ((if_neg hno).trans (if_pos (Int32.not_le.mp c_146))).symm
            refine V.iconst (pc := 149) (v := (-1)) hB dX10_warms_149 rfl ?_
            refine V.goto (pc := 150) (tgt := 154) hB dX10_warms_150 (by decide) ?_
            refine V.iadd (pc := 154) hB dX10_warms_154 ?_
            refine V.iastM (pc := 155) hB (ca_Now) dX10_warms_155 (ix_nI (by omega) (by decide)) (by decide) ?_
            refine V.iinc (pc := 156) (v := nI (q + 1)) hB dX10_warms_156 rfl (nI_1 _) (by decide) rfl ?_
            refine V.goto (pc := 159) (tgt := 81) hB dX10_warms_159 (by decide) ?_
            refine ih hlt sz _ _ _ (hF.trans (MFr.up _ _ _)) (fun y hy => by rw [up_cell _ _ _ (by decide)]; exact hT y hy) ?_
            rw [up_row]
            have hw := hRq.lay (v := mvT (M.1 (LA i) 2) (M.1 (LK i j + 2)) (nLy M i j) q) (c := 2) (y := q) (by rw [nLk_row]; exact hj) (by omega) (by omega) (by omega)
            rw [st_upto rfl] at hw
            rw [hv]
            exact hw
        · have hv : (M.1 (LK i j + 2)) q + 1 = mvT (M.1 (LA i) 2) (M.1 (LK i j + 2)) (nLy M i j) q := (if_pos ⟨Int32.not_le.mp c_116, Int32.not_le.mp c_126⟩).symm
          refine V.iconst (pc := 129) (v := 1) hB dX10_warms_129 rfl ?_
          refine V.goto (pc := 130) (tgt := 154) hB dX10_warms_130 (by decide) ?_
          refine V.iadd (pc := 154) hB dX10_warms_154 ?_
          refine V.iastM (pc := 155) hB (ca_Now) dX10_warms_155 (ix_nI (by omega) (by decide)) (by decide) ?_
          refine V.iinc (pc := 156) (v := nI (q + 1)) hB dX10_warms_156 rfl (nI_1 _) (by decide) rfl ?_
          refine V.goto (pc := 159) (tgt := 81) hB dX10_warms_159 (by decide) ?_
          refine ih hlt sz _ _ _ (hF.trans (MFr.up _ _ _)) (fun y hy => by rw [up_cell _ _ _ (by decide)]; exact hT y hy) ?_
          rw [up_row]
          have hw := hRq.lay (v := mvT (M.1 (LA i) 2) (M.1 (LK i j + 2)) (nLy M i j) q) (c := 2) (y := q) (by rw [nLk_row]; exact hj) (by omega) (by omega) (by omega)
          rw [st_upto rfl] at hw
          rw [hv]
          exact hw
  have lp1 : ∀ q : Nat, q ≤ (nLy M i j) → ∀ (sz : Nat) (x4 x5 : Option Value), V g B 0 0 (QM g B 0 0 (rV (fun m2 => MFr m m2 ∧ RM (m2.1 364) (mvM i j (nLy M i j) (M.1 (LA i) 2) M) i)) noX) (hp g (setRow m 369 (upto q (tgF (M.1 (LA i) 2) (M.1 (LK i j + 2)) (nLy M i j)) (m.1 369)))) sz 9 [some (.ref (ad g 363)), some (.int (nI j)), some (.int (nI (nLy M i j))), some (.int (nI q)), x4, x5] [] := by
    refine loop_up (fun q hq ih => ?_)
    intro sz x4 x5
    have hR1 : (setRow m 369 (upto q (tgF (M.1 (LA i) 2) (M.1 (LK i j + 2)) (nLy M i j)) (m.1 369))).1 364 = m.1 364 := setRow_cell _ _ (by decide)
    have hMq : MW ((setRow m 369 (upto q (tgF (M.1 (LA i) 2) (M.1 (LK i j + 2)) (nLy M i j)) (m.1 369))).1 364) := by rw [hR1]; exact hM
    refine V.iload_n (pc := 9) hB dX10_warms_9 rfl ?_
    refine V.iload_n (pc := 10) hB dX10_warms_10 rfl ?_
    refine V.icmp_ge (pc := 11) (tgt := 79) hB dX10_warms_11 (by decide) (fun c_11 => ?_) (fun c_11 => ?_)
    · have hqN : q = (nLy M i j) := by have := (nI_leI (by omega) (by omega)).mp c_11; omega
      refine V.iconst (pc := 79) (v := 0) hB dX10_warms_79 rfl ?_
      refine V.istore_n (pc := 80) hB dX10_warms_80 (by decide) rfl ?_
      refine lp2 0 (by omega) sz _ _ _ (MFr.tg _ _) (fun y hy => ?_) ?_
      · rw [setRow_same, hqN]; exact if_pos hy
      · rw [hR1, upto_zero, setRow_id]; exact hR
    · have hlt : q < (nLy M i j) := Nat.not_le.mp (fun z => c_11 ((nI_leI (by omega) (by omega)).mpr z))
      refine V.iload_n (pc := 14) hB dX10_warms_14 rfl ?_
      refine V.if_ne (pc := 15) (tgt := 27) hB dX10_warms_15 (by decide) (fun c_15 => ?_) (fun c_15 => ?_)
      · have hq0 : ¬ q = 0 := fun z => c_15 (by rw [z]; rfl)
        refine V.aload_n (pc := 27) hB dX10_warms_27 rfl ?_
        refine V.iload_n (pc := 28) hB dX10_warms_28 rfl ?_
        refine V.iload_n (pc := 29) hB dX10_warms_29 rfl ?_
        refine V.iconst (pc := 30) (v := 1) hB dX10_warms_30 rfl ?_
        refine V.isub (pc := 31) hB dX10_warms_31 ?_
        rw [show nI q - 1 = nI (q - 1) from nI_subN (b := 1) (by omega)]
        refine V.iconst (pc := 32) (v := 1) hB dX10_warms_32 rfl ?_
        refine V.cv (pc := 33) hB cw_X10_ofLayer wm_X10_88 wi_X10_ofLayer ws_X10_ofLayer dX10_warms_33 (c_X10_ofLayer hG hMq (k := 1) (by decide) rfl) (hp_at (ca_Model _)) fk_Model rfl (by omega) (by decide) rfl (by exact Nat.le_of_ble_eq_true rfl) (by omega) (by omega) kN (kI (fun v_33 m_33 sz h_33 => ?_)) rfl
        obtain ⟨rfl, hm_33⟩ := h_33
        obtain rfl := hm_33.symm
        rw [hR1, hR.ol hj (by omega) (by omega), show M.1 (LK i j + 1 + 1) (q - 1) = abF (M.1 (LA i) 2) (M.1 (LK i j + 2)) q from (if_neg hq0).symm]
        refine V.istore (pc := 36) hB dX10_warms_36 (by decide) rfl ?_
        refine V.iload_n (pc := 38) hB dX10_warms_38 rfl ?_
        refine V.iload_n (pc := 39) hB dX10_warms_39 rfl ?_
        refine V.iconst (pc := 40) (v := 1) hB dX10_warms_40 rfl ?_
        refine V.isub (pc := 41) hB dX10_warms_41 ?_
        rw [show nI (nLy M i j) - 1 = nI ((nLy M i j) - 1) from nI_subN (b := 1) (by omega)]
        refine V.icmp_ne (pc := 42) (tgt := 49) hB dX10_warms_42 (by decide) (fun c_42 => ?_) (fun c_42 => ?_)
        · have hqe : q + 1 < (nLy M i j) := by
            by_cases z : q = (nLy M i j) - 1
            · exact absurd (by rw [z]) c_42
            · omega
          have hbe : beF (M.1 (LK i j + 2)) (nLy M i j) q = (M.1 (LK i j + 2)) (q + 1) := if_pos hqe
          refine V.aload_n (pc := 49) hB dX10_warms_49 rfl ?_
          refine V.iload_n (pc := 50) hB dX10_warms_50 rfl ?_
          refine V.iload_n (pc := 51) hB dX10_warms_51 rfl ?_
          refine V.iconst (pc := 52) (v := 1) hB dX10_warms_52 rfl ?_
          refine V.iadd (pc := 53) hB dX10_warms_53 ?_
          rw [nI1]
          refine V.iconst (pc := 54) (v := 1) hB dX10_warms_54 rfl ?_
          refine V.cv (pc := 55) hB cw_X10_ofLayer wm_X10_88 wi_X10_ofLayer ws_X10_ofLayer dX10_warms_55 (c_X10_ofLayer hG hMq (k := 1) (by decide) rfl) (hp_at (ca_Model _)) fk_Model rfl (by omega) (by decide) rfl (by exact Nat.le_of_ble_eq_true rfl) (by omega) (by omega) kN (kI (fun v_55 m_55 sz h_55 => ?_)) rfl
          obtain ⟨rfl, hm_55⟩ := h_55
          obtain rfl := hm_55.symm
          rw [hR1, hR.ol hj hqe (by omega), show M.1 (LK i j + 1 + 1) (q + 1) = (M.1 (LK i j + 2)) (q + 1) from rfl]
          refine V.istore (pc := 58) hB dX10_warms_58 (by decide) rfl ?_
          refine V.aload_n (pc := 60) hB dX10_warms_60 rfl ?_
          refine V.get (pc := 61) hB fk_Model 10 wf_X10_32 dX10_warms_61 (by decide) (hp_at (ca_Model _)) rfl ?_
          refine V.iload_n (pc := 64) hB dX10_warms_64 rfl ?_
          refine V.iload (pc := 65) hB dX10_warms_65 rfl ?_
          refine V.iload (pc := 67) hB dX10_warms_67 rfl ?_
          rw [← hbe]
          refine V.iadd (pc := 69) hB dX10_warms_69 ?_
          refine V.iconst (pc := 70) (v := 2) hB dX10_warms_70 rfl ?_
          refine V.idiv (pc := 71) hB dX10_warms_71 (by decide) ?_
          refine V.iastM (pc := 72) hB (ca_Targets) dX10_warms_72 (ix_nI (by omega) (by decide)) (by decide) ?_
          rw [show (abF (M.1 (LA i) 2) (M.1 (LK i j + 2)) q + beF (M.1 (LK i j + 2)) (nLy M i j) q) / 2 = tgF (M.1 (LA i) 2) (M.1 (LK i j + 2)) (nLy M i j) q from rfl, st_upto rfl]
          refine V.iinc (pc := 73) (v := nI (q + 1)) hB dX10_warms_73 rfl (nI_1 _) (by decide) rfl ?_
          refine V.goto (pc := 76) (tgt := 9) hB dX10_warms_76 (by decide) ?_
          exact ih hlt sz _ _
        · have hqe : q = (nLy M i j) - 1 := (nI_eq (by omega) (by omega)).mp c_42
          have hbe : beF (M.1 (LK i j + 2)) (nLy M i j) q = 0 := if_neg (by omega)
          refine V.iconst (pc := 45) (v := 0) hB dX10_warms_45 rfl ?_
          refine V.goto (pc := 46) (tgt := 58) hB dX10_warms_46 (by decide) ?_
          refine V.istore (pc := 58) hB dX10_warms_58 (by decide) rfl ?_
          refine V.aload_n (pc := 60) hB dX10_warms_60 rfl ?_
          refine V.get (pc := 61) hB fk_Model 10 wf_X10_32 dX10_warms_61 (by decide) (hp_at (ca_Model _)) rfl ?_
          refine V.iload_n (pc := 64) hB dX10_warms_64 rfl ?_
          refine V.iload (pc := 65) hB dX10_warms_65 rfl ?_
          refine V.iload (pc := 67) hB dX10_warms_67 rfl ?_
          rw [← hbe]
          refine V.iadd (pc := 69) hB dX10_warms_69 ?_
          refine V.iconst (pc := 70) (v := 2) hB dX10_warms_70 rfl ?_
          refine V.idiv (pc := 71) hB dX10_warms_71 (by decide) ?_
          refine V.iastM (pc := 72) hB (ca_Targets) dX10_warms_72 (ix_nI (by omega) (by decide)) (by decide) ?_
          rw [show (abF (M.1 (LA i) 2) (M.1 (LK i j + 2)) q + beF (M.1 (LK i j + 2)) (nLy M i j) q) / 2 = tgF (M.1 (LA i) 2) (M.1 (LK i j + 2)) (nLy M i j) q from rfl, st_upto rfl]
          refine V.iinc (pc := 73) (v := nI (q + 1)) hB dX10_warms_73 rfl (nI_1 _) (by decide) rfl ?_
          refine V.goto (pc := 76) (tgt := 9) hB dX10_warms_76 (by decide) ?_
          exact ih hlt sz _ _
      · have hq0 : q = 0 := (nI_eq (b := 0) (by omega) (by decide)).mp c_15
        refine V.aload_n (pc := 18) hB dX10_warms_18 rfl ?_
        refine V.get (pc := 19) hB fk_Model 0 wf_X10_9 dX10_warms_19 (by decide) (hp_at (ca_Model _)) rfl ?_
        refine V.iconst (pc := 22) (v := 1) hB dX10_warms_22 rfl ?_
        refine V.ialdM (pc := 23) hB (ca_Now) dX10_warms_23 ((ix_nI (q := 1) (N := 218) (by decide) (by decide) : ix 1 1 218)) ?_
        rw [hR1, show m.1 364 1 = abF (M.1 (LA i) 2) (M.1 (LK i j + 2)) q from hR.2.2.2.1.2.1.trans (if_pos hq0).symm]
        refine V.goto (pc := 24) (tgt := 36) hB dX10_warms_24 (by decide) ?_
        refine V.istore (pc := 36) hB dX10_warms_36 (by decide) rfl ?_
        refine V.iload_n (pc := 38) hB dX10_warms_38 rfl ?_
        refine V.iload_n (pc := 39) hB dX10_warms_39 rfl ?_
        refine V.iconst (pc := 40) (v := 1) hB dX10_warms_40 rfl ?_
        refine V.isub (pc := 41) hB dX10_warms_41 ?_
        rw [show nI (nLy M i j) - 1 = nI ((nLy M i j) - 1) from nI_subN (b := 1) (by omega)]
        refine V.icmp_ne (pc := 42) (tgt := 49) hB dX10_warms_42 (by decide) (fun c_42 => ?_) (fun c_42 => ?_)
        · have hqe : q + 1 < (nLy M i j) := by
            by_cases z : q = (nLy M i j) - 1
            · exact absurd (by rw [z]) c_42
            · omega
          have hbe : beF (M.1 (LK i j + 2)) (nLy M i j) q = (M.1 (LK i j + 2)) (q + 1) := if_pos hqe
          refine V.aload_n (pc := 49) hB dX10_warms_49 rfl ?_
          refine V.iload_n (pc := 50) hB dX10_warms_50 rfl ?_
          refine V.iload_n (pc := 51) hB dX10_warms_51 rfl ?_
          refine V.iconst (pc := 52) (v := 1) hB dX10_warms_52 rfl ?_
          refine V.iadd (pc := 53) hB dX10_warms_53 ?_
          rw [nI1]
          refine V.iconst (pc := 54) (v := 1) hB dX10_warms_54 rfl ?_
          refine V.cv (pc := 55) hB cw_X10_ofLayer wm_X10_88 wi_X10_ofLayer ws_X10_ofLayer dX10_warms_55 (c_X10_ofLayer hG hMq (k := 1) (by decide) rfl) (hp_at (ca_Model _)) fk_Model rfl (by omega) (by decide) rfl (by exact Nat.le_of_ble_eq_true rfl) (by omega) (by omega) kN (kI (fun v_55 m_55 sz h_55 => ?_)) rfl
          obtain ⟨rfl, hm_55⟩ := h_55
          obtain rfl := hm_55.symm
          rw [hR1, hR.ol hj hqe (by omega), show M.1 (LK i j + 1 + 1) (q + 1) = (M.1 (LK i j + 2)) (q + 1) from rfl]
          refine V.istore (pc := 58) hB dX10_warms_58 (by decide) rfl ?_
          refine V.aload_n (pc := 60) hB dX10_warms_60 rfl ?_
          refine V.get (pc := 61) hB fk_Model 10 wf_X10_32 dX10_warms_61 (by decide) (hp_at (ca_Model _)) rfl ?_
          refine V.iload_n (pc := 64) hB dX10_warms_64 rfl ?_
          refine V.iload (pc := 65) hB dX10_warms_65 rfl ?_
          refine V.iload (pc := 67) hB dX10_warms_67 rfl ?_
          rw [← hbe]
          refine V.iadd (pc := 69) hB dX10_warms_69 ?_
          refine V.iconst (pc := 70) (v := 2) hB dX10_warms_70 rfl ?_
          refine V.idiv (pc := 71) hB dX10_warms_71 (by decide) ?_
          refine V.iastM (pc := 72) hB (ca_Targets) dX10_warms_72 (ix_nI (by omega) (by decide)) (by decide) ?_
          rw [show (abF (M.1 (LA i) 2) (M.1 (LK i j + 2)) q + beF (M.1 (LK i j + 2)) (nLy M i j) q) / 2 = tgF (M.1 (LA i) 2) (M.1 (LK i j + 2)) (nLy M i j) q from rfl, st_upto rfl]
          refine V.iinc (pc := 73) (v := nI (q + 1)) hB dX10_warms_73 rfl (nI_1 _) (by decide) rfl ?_
          refine V.goto (pc := 76) (tgt := 9) hB dX10_warms_76 (by decide) ?_
          exact ih hlt sz _ _
        · have hqe : q = (nLy M i j) - 1 := (nI_eq (by omega) (by omega)).mp c_42
          have hbe : beF (M.1 (LK i j + 2)) (nLy M i j) q = 0 := if_neg (by omega)
          refine V.iconst (pc := 45) (v := 0) hB dX10_warms_45 rfl ?_
          refine V.goto (pc := 46) (tgt := 58) hB dX10_warms_46 (by decide) ?_
          refine V.istore (pc := 58) hB dX10_warms_58 (by decide) rfl ?_
          refine V.aload_n (pc := 60) hB dX10_warms_60 rfl ?_
          refine V.get (pc := 61) hB fk_Model 10 wf_X10_32 dX10_warms_61 (by decide) (hp_at (ca_Model _)) rfl ?_
          refine V.iload_n (pc := 64) hB dX10_warms_64 rfl ?_
          refine V.iload (pc := 65) hB dX10_warms_65 rfl ?_
          refine V.iload (pc := 67) hB dX10_warms_67 rfl ?_
          rw [← hbe]
          refine V.iadd (pc := 69) hB dX10_warms_69 ?_
          refine V.iconst (pc := 70) (v := 2) hB dX10_warms_70 rfl ?_
          refine V.idiv (pc := 71) hB dX10_warms_71 (by decide) ?_
          refine V.iastM (pc := 72) hB (ca_Targets) dX10_warms_72 (ix_nI (by omega) (by decide)) (by decide) ?_
          rw [show (abF (M.1 (LA i) 2) (M.1 (LK i j + 2)) q + beF (M.1 (LK i j + 2)) (nLy M i j) q) / 2 = tgF (M.1 (LA i) 2) (M.1 (LK i j + 2)) (nLy M i j) q from rfl, st_upto rfl]
          refine V.iinc (pc := 73) (v := nI (q + 1)) hB dX10_warms_73 rfl (nI_1 _) (by decide) rfl ?_
          refine V.goto (pc := 76) (tgt := 9) hB dX10_warms_76 (by decide) ?_
          exact ih hlt sz _ _
  refine V.aload_n (pc := 0) hB dX10_warms_0 rfl ?_
  refine V.iload_n (pc := 1) hB dX10_warms_1 rfl ?_
  refine V.iconst (pc := 2) (v := 2) hB dX10_warms_2 rfl ?_
  refine V.cv (pc := 3) hB cw_X10_of wm_X10_77 wi_X10_of ws_X10_of dX10_warms_3 (c_X10_of hG hM (k := 2) (by decide) rfl) (hp_at (ca_Model _)) fk_Model rfl (by omega) (by decide) rfl (by exact Nat.le_of_ble_eq_true rfl) (by omega) (by omega) kN (kI (fun v_3 m_3 sz h_3 => ?_)) rfl
  obtain ⟨rfl, hm_3⟩ := h_3
  obtain rfl := hm_3.symm
  rw [hR.many hj]
  refine V.istore_n (pc := 6) hB dX10_warms_6 (by decide) rfl ?_
  refine V.iconst (pc := 7) (v := 0) hB dX10_warms_7 rfl ?_
  refine V.istore_n (pc := 8) hB dX10_warms_8 (by decide) rfl ?_
  refine V.mem (m2 := setRow m 369 (upto 0 (tgF (M.1 (LA i) 2) (M.1 (LK i j + 2)) (nLy M i j)) (m.1 369))) ?_ (lp1 0 (by omega) sz _ _)
  rw [upto_zero, setRow_id]

set_option maxRecDepth 100000 in
set_option maxHeartbeats 1000000 in
theorem c_X10_strains {g : xG} (hG : GK g) {m M : Mem} {i j : Nat} (hR : RM (m.1 364) M i) (hj : j < nLk M i) : CC g yX10_strains (.code yX10_strains cX10_strains 5 none) 6 0 0 [.ref (ad g 363), .int (nI j)] m (rV (fun m2 => MFr m m2 ∧ RM (m2.1 364) (stM i j (nLy M i j) M) i)) noX := by
  have hM := hR.1
  have h5 := hR.2.1.nl5
  have h8 := (hR.2.1.ln hj).2
  have h3 : mL (m.1 364) = nLk M i := hR.2.2.1
  refine CC.mk hG RX10 rfl (by decide +kernel) rfl (Nat.le_of_ble_eq_true rfl) (fun sz B hB hX => ?_)
  show V g B 0 0 _ (hp g m) sz 0 [some (.ref (ad g 363)), some (.int (nI j)), none, none, none] []
  have lp : ∀ q : Nat, q ≤ (nLy M i j) → ∀ (sz : Nat) (x4 : Option Value) (mm : Mem), MFr m mm → RM (mm.1 364) (setRow M (LK i j + 3) (upto q (addS (M.1 (LK i j + 2)) (M.1 (LK i j + 3)) (nLy M i j)) (M.1 (LK i j + 3)))) i → V g B 0 0 (QM g B 0 0 (rV (fun m2 => MFr m m2 ∧ RM (m2.1 364) (stM i j (nLy M i j) M) i)) noX) (hp g (mm)) sz 9 [some (.ref (ad g 363)), some (.int (nI j)), some (.int (nI (nLy M i j))), some (.int (nI q)), x4] [] := by
    refine loop_up (fun q hq ih => ?_)
    intro sz x4 mm hF hRq
    have hMq := hRq.1
    have hjq : j < nLk (setRow M (LK i j + 3) (upto q (addS (M.1 (LK i j + 2)) (M.1 (LK i j + 3)) (nLy M i j)) (M.1 (LK i j + 3)))) i := by rw [nLk_row]; exact hj
    have hNq : nLy (setRow M (LK i j + 3) (upto q (addS (M.1 (LK i j + 2)) (M.1 (LK i j + 3)) (nLy M i j)) (M.1 (LK i j + 3)))) i j = (nLy M i j) := nLy_row (by omega) (by omega)
    have hTc : (setRow M (LK i j + 3) (upto q (addS (M.1 (LK i j + 2)) (M.1 (LK i j + 3)) (nLy M i j)) (M.1 (LK i j + 3)))).1 (LK i j + 2) = (M.1 (LK i j + 2)) := setRow_cell _ _ (by omega)
    refine V.iload_n (pc := 9) hB dX10_strains_9 rfl ?_
    refine V.iload_n (pc := 10) hB dX10_strains_10 rfl ?_
    refine V.icmp_ge (pc := 11) (tgt := 70) hB dX10_strains_11 (by decide) (fun c_11 => ?_) (fun c_11 => ?_)
    · have hqN : q = (nLy M i j) := by have := (nI_leI (by omega) (by omega)).mp c_11; omega
      rw [hqN] at hRq
      refine V.retV (pc := 70) hB dX10_strains_70 rfl (by omega) (by omega) ?_
      exact ⟨hF, hRq⟩
    · have hlt : q < (nLy M i j) := Nat.not_le.mp (fun z => c_11 ((nI_leI (by omega) (by omega)).mpr z))
      have hSq : mm.1 364 (9 + 3 + 27 * j + 3 * q) = (M.1 (LK i j + 3)) q := by
        have hh := (hRq.2.2.2.2.1 j hjq).2.2 q (by rw [hNq]; exact hlt) 3 (by omega) (by omega)
        rw [hh, setRow_same]
        exact upto_ge (Nat.le_refl q)
      refine V.iload_n (pc := 14) hB dX10_strains_14 rfl ?_
      refine V.iload_n (pc := 15) hB dX10_strains_15 rfl ?_
      refine V.iconst (pc := 16) (v := 1) hB dX10_strains_16 rfl ?_
      refine V.isub (pc := 17) hB dX10_strains_17 ?_
      rw [show nI (nLy M i j) - 1 = nI ((nLy M i j) - 1) from nI_subN (b := 1) (by omega)]
      refine V.icmp_ne (pc := 18) (tgt := 25) hB dX10_strains_18 (by decide) (fun c_18 => ?_) (fun c_18 => ?_)
      · have hqe : q + 1 < (nLy M i j) := by
          by_cases z : q = (nLy M i j) - 1
          · exact absurd (by rw [z]) c_18
          · omega
        have hbe : (M.1 (LK i j + 2)) (q + 1) = (if q + 1 < (nLy M i j) then (M.1 (LK i j + 2)) (q + 1) else 0) := (if_pos hqe).symm
        refine V.aload_n (pc := 25) hB dX10_strains_25 rfl ?_
        refine V.iload_n (pc := 26) hB dX10_strains_26 rfl ?_
        refine V.iload_n (pc := 27) hB dX10_strains_27 rfl ?_
        refine V.iconst (pc := 28) (v := 1) hB dX10_strains_28 rfl ?_
        refine V.iadd (pc := 29) hB dX10_strains_29 ?_
        rw [nI1]
        refine V.iconst (pc := 30) (v := 1) hB dX10_strains_30 rfl ?_
        refine V.cv (pc := 31) hB cw_X10_ofLayer wm_X10_88 wi_X10_ofLayer ws_X10_ofLayer dX10_strains_31 (c_X10_ofLayer hG hMq (k := 1) (by decide) rfl) (hp_at (ca_Model _)) fk_Model rfl (by omega) (by decide) rfl (by exact Nat.le_of_ble_eq_true rfl) (by omega) (by omega) kN (kI (fun v_31 m_31 sz h_31 => ?_)) rfl
        obtain ⟨rfl, hm_31⟩ := h_31
        obtain rfl := hm_31.symm
        rw [hRq.ol hjq (by rw [hNq]; exact hqe) (by omega), show LK i j + 1 + 1 = LK i j + 2 from rfl, hTc]
        refine V.istore (pc := 34) hB dX10_strains_34 (by decide) rfl ?_
        refine V.aload_n (pc := 36) hB dX10_strains_36 rfl ?_
        refine V.get (pc := 37) hB fk_Model 0 wf_X10_9 dX10_strains_37 (by decide) (hp_at (ca_Model _)) rfl ?_
        refine V.iload_n (pc := 40) hB dX10_strains_40 rfl ?_
        refine V.iload_n (pc := 41) hB dX10_strains_41 rfl ?_
        refine V.cs (pc := 42) hB cw_X10_layerPlace wm_X10_85 wst_X10_layerPlace dX10_strains_42 (c_X10_layerPlace hG (j := j) (y := q) rfl rfl) (by omega) (by decide) rfl (by exact Nat.le_of_ble_eq_true rfl) (by omega) (by omega) kN (kI (fun v_42 m_42 sz h_42 => ?_)) rfl
        obtain ⟨rfl, hm_42⟩ := h_42
        obtain rfl := hm_42.symm
        refine V.iconst (pc := 45) (v := 2) hB dX10_strains_45 rfl ?_
        refine V.iadd (pc := 46) hB dX10_strains_46 ?_
        rw [show nI (10 + 27 * j + 3 * q) + 2 = nI (9 + 3 + 27 * j + 3 * q) from (nI_add _ 2).trans (by congr 1; omega)]
        refine V.dup2 (pc := 47) hB dX10_strains_47 rfl rfl ?_
        refine V.ialdM (pc := 48) hB (ca_Now) dX10_strains_48 (ix_nI (by omega) (by decide)) ?_
        rw [hSq]
        refine V.aload_n (pc := 49) hB dX10_strains_49 rfl ?_
        refine V.iload_n (pc := 50) hB dX10_strains_50 rfl ?_
        refine V.iload_n (pc := 51) hB dX10_strains_51 rfl ?_
        refine V.iconst (pc := 52) (v := 1) hB dX10_strains_52 rfl ?_
        refine V.cv (pc := 53) hB cw_X10_ofLayer wm_X10_88 wi_X10_ofLayer ws_X10_ofLayer dX10_strains_53 (c_X10_ofLayer hG hMq (k := 1) (by decide) rfl) (hp_at (ca_Model _)) fk_Model rfl (by omega) (by decide) rfl (by exact Nat.le_of_ble_eq_true rfl) (by omega) (by omega) kN (kI (fun v_53 m_53 sz h_53 => ?_)) rfl
        obtain ⟨rfl, hm_53⟩ := h_53
        obtain rfl := hm_53.symm
        rw [hRq.ol hjq (by rw [hNq]; exact hlt) (by omega), show LK i j + 1 + 1 = LK i j + 2 from rfl, hTc]
        refine V.iload (pc := 56) hB dX10_strains_56 rfl ?_
        refine V.isub (pc := 58) hB dX10_strains_58 ?_
        refine V.cs (pc := 59) hB cw_J9_abs_0f7a4 wm_X10_132 wst_J9_abs_0f7a4 dX10_strains_59 (c_J9_abs_0f7a4 hG) (by omega) (by decide) rfl (by exact Nat.le_of_ble_eq_true rfl) (by omega) (by omega) kN (kI (fun v_59 m_59 sz h_59 => ?_)) rfl
        obtain ⟨rfl, hm_59⟩ := h_59
        obtain rfl := hm_59.symm
        refine V.iadd (pc := 62) hB dX10_strains_62 ?_
        refine V.iastM (pc := 63) hB (ca_Now) dX10_strains_63 (ix_nI (by omega) (by decide)) (by decide) ?_
        refine V.iinc (pc := 64) (v := nI (q + 1)) hB dX10_strains_64 rfl (nI_1 _) (by decide) rfl ?_
        refine V.goto (pc := 67) (tgt := 9) hB dX10_strains_67 (by decide) ?_
        refine ih hlt sz _ _ (hF.trans (MFr.up _ _ _)) ?_
        rw [up_row]
        have hw := hRq.lay (v := addS (M.1 (LK i j + 2)) (M.1 (LK i j + 3)) (nLy M i j) q) (c := 3) (y := q) hjq (by omega) (by omega) (by omega)
        rw [st_upto rfl] at hw
        unfold addS at hw ⊢
        rw [← hbe] at hw
        exact hw
      · have hqe : q = (nLy M i j) - 1 := (nI_eq (by omega) (by omega)).mp c_18
        have hbe : (0 : Int32) = (if q + 1 < (nLy M i j) then (M.1 (LK i j + 2)) (q + 1) else 0) := (if_neg (by omega)).symm
        refine V.iconst (pc := 21) (v := 0) hB dX10_strains_21 rfl ?_
        refine V.goto (pc := 22) (tgt := 34) hB dX10_strains_22 (by decide) ?_
        refine V.istore (pc := 34) hB dX10_strains_34 (by decide) rfl ?_
        refine V.aload_n (pc := 36) hB dX10_strains_36 rfl ?_
        refine V.get (pc := 37) hB fk_Model 0 wf_X10_9 dX10_strains_37 (by decide) (hp_at (ca_Model _)) rfl ?_
        refine V.iload_n (pc := 40) hB dX10_strains_40 rfl ?_
        refine V.iload_n (pc := 41) hB dX10_strains_41 rfl ?_
        refine V.cs (pc := 42) hB cw_X10_layerPlace wm_X10_85 wst_X10_layerPlace dX10_strains_42 (c_X10_layerPlace hG (j := j) (y := q) rfl rfl) (by omega) (by decide) rfl (by exact Nat.le_of_ble_eq_true rfl) (by omega) (by omega) kN (kI (fun v_42 m_42 sz h_42 => ?_)) rfl
        obtain ⟨rfl, hm_42⟩ := h_42
        obtain rfl := hm_42.symm
        refine V.iconst (pc := 45) (v := 2) hB dX10_strains_45 rfl ?_
        refine V.iadd (pc := 46) hB dX10_strains_46 ?_
        rw [show nI (10 + 27 * j + 3 * q) + 2 = nI (9 + 3 + 27 * j + 3 * q) from (nI_add _ 2).trans (by congr 1; omega)]
        refine V.dup2 (pc := 47) hB dX10_strains_47 rfl rfl ?_
        refine V.ialdM (pc := 48) hB (ca_Now) dX10_strains_48 (ix_nI (by omega) (by decide)) ?_
        rw [hSq]
        refine V.aload_n (pc := 49) hB dX10_strains_49 rfl ?_
        refine V.iload_n (pc := 50) hB dX10_strains_50 rfl ?_
        refine V.iload_n (pc := 51) hB dX10_strains_51 rfl ?_
        refine V.iconst (pc := 52) (v := 1) hB dX10_strains_52 rfl ?_
        refine V.cv (pc := 53) hB cw_X10_ofLayer wm_X10_88 wi_X10_ofLayer ws_X10_ofLayer dX10_strains_53 (c_X10_ofLayer hG hMq (k := 1) (by decide) rfl) (hp_at (ca_Model _)) fk_Model rfl (by omega) (by decide) rfl (by exact Nat.le_of_ble_eq_true rfl) (by omega) (by omega) kN (kI (fun v_53 m_53 sz h_53 => ?_)) rfl
        obtain ⟨rfl, hm_53⟩ := h_53
        obtain rfl := hm_53.symm
        rw [hRq.ol hjq (by rw [hNq]; exact hlt) (by omega), show LK i j + 1 + 1 = LK i j + 2 from rfl, hTc]
        refine V.iload (pc := 56) hB dX10_strains_56 rfl ?_
        refine V.isub (pc := 58) hB dX10_strains_58 ?_
        refine V.cs (pc := 59) hB cw_J9_abs_0f7a4 wm_X10_132 wst_J9_abs_0f7a4 dX10_strains_59 (c_J9_abs_0f7a4 hG) (by omega) (by decide) rfl (by exact Nat.le_of_ble_eq_true rfl) (by omega) (by omega) kN (kI (fun v_59 m_59 sz h_59 => ?_)) rfl
        obtain ⟨rfl, hm_59⟩ := h_59
        obtain rfl := hm_59.symm
        refine V.iadd (pc := 62) hB dX10_strains_62 ?_
        refine V.iastM (pc := 63) hB (ca_Now) dX10_strains_63 (ix_nI (by omega) (by decide)) (by decide) ?_
        refine V.iinc (pc := 64) (v := nI (q + 1)) hB dX10_strains_64 rfl (nI_1 _) (by decide) rfl ?_
        refine V.goto (pc := 67) (tgt := 9) hB dX10_strains_67 (by decide) ?_
        refine ih hlt sz _ _ (hF.trans (MFr.up _ _ _)) ?_
        rw [up_row]
        have hw := hRq.lay (v := addS (M.1 (LK i j + 2)) (M.1 (LK i j + 3)) (nLy M i j) q) (c := 3) (y := q) hjq (by omega) (by omega) (by omega)
        rw [st_upto rfl] at hw
        unfold addS at hw ⊢
        rw [← hbe] at hw
        exact hw
  refine V.aload_n (pc := 0) hB dX10_strains_0 rfl ?_
  refine V.iload_n (pc := 1) hB dX10_strains_1 rfl ?_
  refine V.iconst (pc := 2) (v := 2) hB dX10_strains_2 rfl ?_
  refine V.cv (pc := 3) hB cw_X10_of wm_X10_77 wi_X10_of ws_X10_of dX10_strains_3 (c_X10_of hG hM (k := 2) (by decide) rfl) (hp_at (ca_Model _)) fk_Model rfl (by omega) (by decide) rfl (by exact Nat.le_of_ble_eq_true rfl) (by omega) (by omega) kN (kI (fun v_3 m_3 sz h_3 => ?_)) rfl
  obtain ⟨rfl, hm_3⟩ := h_3
  obtain rfl := hm_3.symm
  rw [hR.many hj]
  refine V.istore_n (pc := 6) hB dX10_strains_6 (by decide) rfl ?_
  refine V.iconst (pc := 7) (v := 0) hB dX10_strains_7 rfl ?_
  refine V.istore_n (pc := 8) hB dX10_strains_8 (by decide) rfl ?_
  refine lp 0 (by omega) sz _ m (MFr.refl m) ?_
  rw [upto_zero, setRow_id]; exact hR
