/-! the reference: thaw, an hour, hours -/
theorem sub1_ge {x : Int32} (h : 1 ≤ x) : 0 ≤ x - 1 := by
  have e1 : 1 ≤ x.toInt := Int32.le_iff_toInt_le.mp h
  have e3 := Int32.toInt_lt x
  have h3 : (x - 1).toInt = x.toInt - 1 := by
    rw [Int32.toInt_sub]
    exact Int.bmod_eq_of_le (by show -(2 ^ 31 : Int) ≤ x.toInt - 1; omega) (by show x.toInt - 1 < (2 ^ 31 : Int); omega)
  rw [Int32.le_iff_toInt_le, h3, Int32.toInt_zero]; omega
theorem shD_upd {R : Nat → Int32} {j : Nat} {t v : Int32} : upd (shD (upd R 6 t) j) (9 + 27 * j) v = upd (upd (shD R j) (9 + 27 * j) v) 6 t := by
  funext k
  unfold upd shD
  dsimp only
  by_cases h6 : k = 6
  · subst h6
    rw [if_neg (show ¬ (6 = 9 + 27 * j) by omega), if_neg (show ¬ (10 + 27 * j ≤ 6 ∧ 6 < 31 + 27 * j) by omega)]
    simp only [if_true]
  · rw [if_neg h6]
    by_cases h9 : k = 9 + 27 * j
    · rw [if_pos h9, if_pos h9, if_neg h6]
    · rw [if_neg h9, if_neg h9]
      by_cases hk : 10 + 27 * j ≤ k ∧ k < 31 + 27 * j
      · rw [if_pos hk, if_pos hk, if_neg (show ¬ k + 3 = 6 by omega), if_neg h6]
      · rw [if_neg hk, if_neg hk, if_neg h6]
def shDq (R : Nat → Int32) (j q : Nat) : Nat → Int32 := fun k => if 10 + 27 * j ≤ k ∧ k < 10 + 27 * j + q then R (k + 3) else R k
theorem shDq_step {R : Nat → Int32} {j q : Nat} : upd (shDq R j q) (10 + 27 * j + q) (shDq R j q (10 + 27 * j + q + 3)) = shDq R j (q + 1) := by
  funext k
  unfold upd
  by_cases h : k = 10 + 27 * j + q
  · rw [if_pos h]
    unfold shDq
    rw [if_neg (by omega), if_pos (by omega), h]
  · rw [if_neg h]
    unfold shDq
    by_cases h2 : 10 + 27 * j ≤ k ∧ k < 10 + 27 * j + q
    · rw [if_pos h2, if_pos (by omega)]
    · rw [if_neg h2, if_neg (by omega)]
theorem thaw_no {M : Mem} {i j N : Nat} {air : Int32} (h : N = 0 ∨ air ≤ 0 ∨ ¬ M.1 (LK i j + 2) 0 = 0) : up (thawM i j N air M) (LA i) 5 (M.1 (LA i) 5 + thawV i j N air M) = M := by
  unfold thawM thawV
  rw [if_pos h, if_pos h]
  exact up_id (Int32.add_zero _).symm

set_option maxRecDepth 100000 in
set_option maxHeartbeats 1000000 in
theorem c_X10_thaws {g : xG} (hG : GK g) {m M : Mem} {i j : Nat} (hR : RM (m.1 364) M i) (hj : j < nLk M i) (h0 : 0 < nLy M i j) (hK : ∀ y, y < nLy M i j → 1 ≤ M.1 (LK i j + 1) y) : CC g yX10_thaws (.code yX10_thaws cX10_thaws 4 none) 2 0 0 [.ref (ad g 363), .int (nI j)] m (rV (fun m2 => MFr m m2 ∧ RM (m2.1 364) (up (thawM i j (nLy M i j) (M.1 (LA i) 2) M) (LA i) 5 (M.1 (LA i) 5 + thawV i j (nLy M i j) (M.1 (LA i) 2) M)) i)) noX := by
  have hM := hR.1
  have h5 := hR.2.1.nl5
  have h8 := (hR.2.1.ln hj).2
  have hg := LK_ge i j
  have hlay := (hR.2.2.2.2.1 j hj).2.2 0 h0
  obtain ⟨TMv, hTM⟩ : ∃ T, T = (up (thawM i j (nLy M i j) (M.1 (LA i) 2) M) (LA i) 5 (M.1 (LA i) 5 + thawV i j (nLy M i j) (M.1 (LA i) 2) M)) := ⟨_, rfl⟩
  rw [← hTM]
  refine CC.mk hG RX10 rfl (by decide +kernel) rfl (Nat.le_of_ble_eq_true rfl) (fun sz B hB hX => ?_)
  show V g B 0 0 _ (hp g m) sz 0 [some (.ref (ad g 363)), some (.int (nI j)), none, none] []
  have loop1 : ∀ q : Nat, q ≤ 21 → ∀ (sz : Nat) (R2 : Nat → Int32), RM (upd (shD R2 j) (9 + 27 * j) (nI ((nLy M i j) - 1))) TMv i → R2 (9 + 27 * j) = nI (nLy M i j) → V g B 0 0 (QM g B 0 0 (rV (fun m2 => MFr m m2 ∧ RM (m2.1 364) TMv i)) noX) (hp g (setRow m 364 (shDq R2 j q))) sz 62 [some (.ref (ad g 363)), some (.int (nI j)), some (.int (nI (10 + 27 * j))), some (.int (nI (10 + 27 * j + q)))] [] := by
    refine loop_up (fun q hq ih0 => ?_)
    intro sz R2 hfin hRN
    refine V.iload_n (pc := 62) hB dX10_thaws_62 rfl ?_
    refine V.iload_n (pc := 63) hB dX10_thaws_63 rfl ?_
    refine V.bipush (pc := 64) (v := 21) hB dX10_thaws_64 rfl ?_
    refine V.iadd (pc := 66) hB dX10_thaws_66 ?_
    rw [show nI (10 + 27 * j) + 21 = nI (10 + 27 * j + 21) from nI_add _ 21]
    refine V.icmp_ge (pc := 67) (tgt := 90) hB dX10_thaws_67 (by decide) (fun c_67 => ?_) (fun c_67 => ?_)
    · have hq2 : q = 21 := by have := (nI_leI (by omega) (by omega)).mp c_67; omega
      subst hq2
      have hsh : shDq R2 j 21 = shD R2 j := funext (fun k => by unfold shDq shD; rw [show 10 + 27 * j + 21 = 31 + 27 * j by omega])
      rw [hsh]
      refine V.aload_n (pc := 90) hB dX10_thaws_90 rfl ?_
      refine V.get (pc := 91) hB fk_Model 0 wf_X10_9 dX10_thaws_91 (by decide) (hp_at (ca_Model _)) rfl ?_
      refine V.bipush (pc := 94) (v := 7) hB dX10_thaws_94 rfl ?_
      refine V.bipush (pc := 96) (v := 27) hB dX10_thaws_96 rfl ?_
      refine V.iload_n (pc := 98) hB dX10_thaws_98 rfl ?_
      refine V.imul (pc := 99) hB dX10_thaws_99 ?_
      refine V.iadd (pc := 100) hB dX10_thaws_100 ?_
      refine V.iconst (pc := 101) (v := 2) hB dX10_thaws_101 rfl ?_
      refine V.iadd (pc := 102) hB dX10_thaws_102 ?_
      rw [show (7 : Int32) + 27 * nI j + 2 = nI (7 + 27 * j + 2) from ix7 j 2, show 7 + 27 * j + 2 = 9 + 27 * j by omega]
      refine V.dup2 (pc := 103) hB dX10_thaws_103 rfl rfl ?_
      refine V.ialdM (pc := 104) hB (ca_Now) dX10_thaws_104 (ix_nI (by omega) (by decide)) ?_
      rw [setRow_same, show shD R2 j (9 + 27 * j) = nI (nLy M i j) from (if_neg (by omega)).trans hRN]
      refine V.iconst (pc := 105) (v := 1) hB dX10_thaws_105 rfl ?_
      refine V.isub (pc := 106) hB dX10_thaws_106 ?_
      rw [show nI (nLy M i j) - 1 = nI ((nLy M i j) - 1) from nI_subN (b := 1) (by omega)]
      refine V.iastM (pc := 107) hB (ca_Now) dX10_thaws_107 (ix_nI (by omega) (by decide)) (by decide) ?_
      refine V.retV (pc := 108) hB dX10_thaws_108 rfl (by omega) (by omega) ?_
      rw [up_eq, setRow_same, setRow_set]
      exact ⟨MFr.row m _, by rw [setRow_same]; exact hfin⟩
    · have hlt : q < 21 := by
        have hno2 : ¬ (10 + 27 * j + 21 ≤ 10 + 27 * j + q) := fun z => c_67 ((nI_leI (a := 10 + 27 * j + 21) (b := 10 + 27 * j + q) (by omega) (by omega)).mpr z)
        omega
      refine V.aload_n (pc := 70) hB dX10_thaws_70 rfl ?_
      refine V.get (pc := 71) hB fk_Model 0 wf_X10_9 dX10_thaws_71 (by decide) (hp_at (ca_Model _)) rfl ?_
      refine V.iload_n (pc := 74) hB dX10_thaws_74 rfl ?_
      refine V.aload_n (pc := 75) hB dX10_thaws_75 rfl ?_
      refine V.get (pc := 76) hB fk_Model 0 wf_X10_9 dX10_thaws_76 (by decide) (hp_at (ca_Model _)) rfl ?_
      refine V.iload_n (pc := 79) hB dX10_thaws_79 rfl ?_
      refine V.iconst (pc := 80) (v := 3) hB dX10_thaws_80 rfl ?_
      refine V.iadd (pc := 81) hB dX10_thaws_81 ?_
      rw [show nI (10 + 27 * j + q) + 3 = nI (10 + 27 * j + q + 3) from nI_add _ 3]
      refine V.ialdM (pc := 82) hB (ca_Now) dX10_thaws_82 (ix_nI (by omega) (by decide)) ?_
      rw [setRow_same]
      refine V.iastM (pc := 83) hB (ca_Now) dX10_thaws_83 (ix_nI (by omega) (by decide)) (by decide) ?_
      rw [up_eq, setRow_same, setRow_set, shDq_step]
      refine V.iinc (pc := 84) (v := nI ((10 + 27 * j + q) + 1)) hB dX10_thaws_84 rfl (nI_1 _) (by decide) rfl ?_
      refine V.goto (pc := 87) (tgt := 62) hB dX10_thaws_87 (by decide) ?_
      exact ih0 hlt sz R2 hfin hRN
  refine V.iload_n (pc := 0) hB dX10_thaws_0 rfl ?_
  refine V.iconst (pc := 1) (v := 0) hB dX10_thaws_1 rfl ?_
  refine V.cs (pc := 2) hB cw_X10_layerPlace wm_X10_85 wst_X10_layerPlace dX10_thaws_2 (c_X10_layerPlace hG (j := j) (y := 0) (xy := 0) rfl rfl) (by omega) (by decide) rfl (by exact Nat.le_of_ble_eq_true rfl) (by omega) (by omega) kN (kI (fun v_2 m_2 sz h_2 => ?_)) rfl
  obtain ⟨rfl, hm_2⟩ := h_2
  obtain rfl := hm_2.symm
  rw [show 10 + 27 * j + 3 * 0 = 10 + 27 * j by omega]
  refine V.istore_n (pc := 5) hB dX10_thaws_5 (by decide) rfl ?_
  refine V.aload_n (pc := 6) hB dX10_thaws_6 rfl ?_
  refine V.get (pc := 7) hB fk_Model 0 wf_X10_9 dX10_thaws_7 (by decide) (hp_at (ca_Model _)) rfl ?_
  refine V.iconst (pc := 10) (v := 1) hB dX10_thaws_10 rfl ?_
  refine V.ialdM (pc := 11) hB (ca_Now) dX10_thaws_11 ((ix_nI (q := 1) (N := 218) (by decide) (by decide) : ix 1 1 218)) ?_
  rw [show m.1 364 1 = M.1 (LA i) 2 from hR.2.2.2.1.2.1]
  refine V.if_le (pc := 12) (tgt := 108) hB dX10_thaws_12 (by decide) (fun c_12 => ?_) (fun c_12 => ?_)
  · have hno := thaw_no (M := M) (i := i) (j := j) (N := (nLy M i j)) (Or.inr (Or.inl c_12))
    refine V.retV (pc := 108) hB dX10_thaws_108 rfl (by omega) (by omega) ?_
    first | exact ⟨MFr.refl m, by rw [hTM, hno]; exact hR⟩ | exact ⟨MFr.row m _, by rw [setRow_same]; exact hfin⟩
  · refine V.aload_n (pc := 15) hB dX10_thaws_15 rfl ?_
    refine V.get (pc := 16) hB fk_Model 0 wf_X10_9 dX10_thaws_16 (by decide) (hp_at (ca_Model _)) rfl ?_
    refine V.iload_n (pc := 19) hB dX10_thaws_19 rfl ?_
    refine V.iconst (pc := 20) (v := 1) hB dX10_thaws_20 rfl ?_
    refine V.iadd (pc := 21) hB dX10_thaws_21 ?_
    rw [show nI (10 + 27 * j) + 1 = nI (9 + 2 + 27 * j + 3 * 0) from (nI_1 _).trans (congrArg nI (by omega))]
    refine V.ialdM (pc := 22) hB (ca_Now) dX10_thaws_22 (ix_nI (by omega) (by decide)) ?_
    rw [hlay 2 (by omega) (by omega)]
    refine V.if_ne (pc := 23) (tgt := 108) hB dX10_thaws_23 (by decide) (fun c_23 => ?_) (fun c_23 => ?_)
    · have hno := thaw_no (M := M) (i := i) (j := j) (N := (nLy M i j)) (air := (M.1 (LA i) 2)) (Or.inr (Or.inr c_23))
      refine V.retV (pc := 108) hB dX10_thaws_108 rfl (by omega) (by omega) ?_
      first | exact ⟨MFr.refl m, by rw [hTM, hno]; exact hR⟩ | exact ⟨MFr.row m _, by rw [setRow_same]; exact hfin⟩
    · refine V.aload_n (pc := 26) hB dX10_thaws_26 rfl ?_
      refine V.get (pc := 27) hB fk_Model 0 wf_X10_9 dX10_thaws_27 (by decide) (hp_at (ca_Model _)) rfl ?_
      refine V.iload_n (pc := 30) hB dX10_thaws_30 rfl ?_
      refine V.iconst (pc := 31) (v := 0) hB dX10_thaws_31 rfl ?_
      refine V.iadd (pc := 32) hB dX10_thaws_32 ?_
      rw [show nI (10 + 27 * j) + 0 = nI (9 + 1 + 27 * j + 3 * 0) from (nI_add _ 0).trans (congrArg nI (by omega))]
      refine V.dup2 (pc := 33) hB dX10_thaws_33 rfl rfl ?_
      refine V.ialdM (pc := 34) hB (ca_Now) dX10_thaws_34 (ix_nI (by omega) (by decide)) ?_
      rw [hlay 1 (by omega) (by omega)]
      refine V.iconst (pc := 35) (v := 1) hB dX10_thaws_35 rfl ?_
      refine V.isub (pc := 36) hB dX10_thaws_36 ?_
      refine V.iastM (pc := 37) hB (ca_Now) dX10_thaws_37 (ix_nI (by omega) (by decide)) (by decide) ?_
      rw [up_eq]
      have hc : ¬ ((nLy M i j) = 0 ∨ (M.1 (LA i) 2) ≤ 0 ∨ ¬ M.1 (LK i j + 2) 0 = 0) := by
        rintro (z | z | z)
        · omega
        · exact c_12 z
        · exact z c_23
      have hR1 := hR.lay (v := (M.1 (LK i j + 1) 0) - 1) (c := 1) (y := 0) hj (by omega) (by omega) (by omega)
      obtain ⟨R1, hR1e⟩ : ∃ R1, R1 = upd (m.1 364) (9 + 1 + 27 * j + 3 * 0) ((M.1 (LK i j + 1) 0) - 1) := ⟨_, rfl⟩
      have hRa : R1 (9 + 1 + 27 * j + 3 * 0) = (M.1 (LK i j + 1) 0) - 1 := by rw [hR1e]; exact upd_at _ _ _
      rw [← hR1e] at hR1 ⊢
      obtain ⟨M1, hM1e⟩ : ∃ M1, M1 = up M (LK i j + 1) 0 ((M.1 (LK i j + 1) 0) - 1) := ⟨_, rfl⟩
      rw [← hM1e] at hR1
      have hn1 : nLk M1 i = nLk M i := by rw [hM1e]; show ((up M (LK i j + 1) 0 ((M.1 (LK i j + 1) 0) - 1)).1 (LA i) 1).toNatClampNeg = _; rw [up_cell _ _ _ (by omega)]; rfl
      have hN1 : nLy M1 i j = (nLy M i j) := by rw [hM1e]; show ((up M (LK i j + 1) 0 ((M.1 (LK i j + 1) 0) - 1)).1 (LK i j) 3).toNatClampNeg = _; rw [up_cell _ _ _ (by omega)]; rfl
      have h65 : R1 6 = M.1 (LA i) 5 := by rw [hR1.2.2.2.1.2.2.2, hM1e, up_cell _ _ _ (by omega)]
      refine V.aload_n (pc := 38) hB dX10_thaws_38 rfl ?_
      refine V.get (pc := 39) hB fk_Model 0 wf_X10_9 dX10_thaws_39 (by decide) (hp_at (ca_Model _)) rfl ?_
      refine V.bipush (pc := 42) (v := 6) hB dX10_thaws_42 rfl ?_
      refine V.dup2 (pc := 44) hB dX10_thaws_44 rfl rfl ?_
      refine V.ialdM (pc := 45) hB (ca_Now) dX10_thaws_45 (ix_nI (q := 6) (N := 218) (by decide) (by decide)) ?_
      rw [setRow_same, h65]
      refine V.iconst (pc := 46) (v := 1) hB dX10_thaws_46 rfl ?_
      refine V.iadd (pc := 47) hB dX10_thaws_47 ?_
      refine V.iastM (pc := 48) hB (ca_Now) dX10_thaws_48 (ix_nI (q := 6) (N := 218) (by decide) (by decide)) (by decide) ?_
      rw [up_eq, setRow_same, setRow_set]
      obtain ⟨R2, hR2e⟩ : ∃ R2, R2 = upd R1 6 (M.1 (LA i) 5 + 1) := ⟨_, rfl⟩
      rw [← hR2e]
      have hR2a : R2 (9 + 1 + 27 * j + 3 * 0) = (M.1 (LK i j + 1) 0) - 1 := by rw [hR2e, upd_ne _ _ (by omega)]; exact hRa
      refine V.aload_n (pc := 49) hB dX10_thaws_49 rfl ?_
      refine V.get (pc := 50) hB fk_Model 0 wf_X10_9 dX10_thaws_50 (by decide) (hp_at (ca_Model _)) rfl ?_
      refine V.iload_n (pc := 53) hB dX10_thaws_53 rfl ?_
      refine V.iconst (pc := 54) (v := 0) hB dX10_thaws_54 rfl ?_
      refine V.iadd (pc := 55) hB dX10_thaws_55 ?_
      rw [show nI (10 + 27 * j) + 0 = nI (9 + 1 + 27 * j + 3 * 0) from (nI_add _ 0).trans (congrArg nI (by omega))]
      refine V.ialdM (pc := 56) hB (ca_Now) dX10_thaws_56 (ix_nI (by omega) (by decide)) ?_
      rw [setRow_same, hR2a]
      refine V.if_ne (pc := 57) (tgt := 108) hB dX10_thaws_57 (by decide) (fun c_57 => ?_) (fun c_57 => ?_)
      · have hk : ¬ (M.1 (LK i j + 1) 0) - 1 ≤ 0 := fun z => c_57 (Int32.le_antisymm z (sub1_ge (hK 0 h0)))
        have hfin : RM R2 TMv i := by
          rw [hTM]
          unfold thawM thawV
          rw [if_neg hc, if_neg hc, if_neg hk, hR2e, ← hM1e]
          exact hR1.fld (a := 6) (f := 5) (by omega)
        refine V.retV (pc := 108) hB dX10_thaws_108 rfl (by omega) (by omega) ?_
        first | exact ⟨MFr.refl m, by rw [hTM, hno]; exact hR⟩ | exact ⟨MFr.row m _, by rw [setRow_same]; exact hfin⟩
      · have hk : (M.1 (LK i j + 1) 0) - 1 ≤ 0 := by rw [c_57]; decide
        have hfin : RM (upd (shD R2 j) (9 + 27 * j) (nI ((nLy M i j) - 1))) TMv i := by
          rw [hTM]
          unfold thawM thawV
          rw [if_neg hc, if_neg hc, if_pos hk, hR2e, shD_upd, ← hM1e]
          have hd := hR1.drop (by rw [hn1]; exact hj) (by rw [hN1]; exact h0)
          rw [hN1] at hd
          exact hd.fld (a := 6) (f := 5) (by omega)
        have hRN : R2 (9 + 27 * j) = nI (nLy M i j) := by
          rw [hR2e, upd_ne _ _ (by omega), (hR1.1.2.1 j (by omega)).1, (hR1.2.2.2.2.1 j (by rw [hn1]; exact hj)).1, hN1]
        refine V.mem (m2 := setRow m 364 (shDq R2 j 0)) (by rw [show shDq R2 j 0 = R2 from funext (fun k => if_neg (by omega))]) ?_
        refine V.iload_n (pc := 60) hB dX10_thaws_60 rfl ?_
        refine V.istore_n (pc := 61) hB dX10_thaws_61 (by decide) rfl ?_
        exact loop1 0 (by omega) sz R2 hfin hRN
