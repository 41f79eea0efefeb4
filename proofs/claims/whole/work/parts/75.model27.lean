/-! the reference does a command -/

set_option maxRecDepth 100000 in
set_option maxHeartbeats 1000000 in
theorem c_X10_does {g : xG} (hG : GK g) {m M : Mem} {i : Nat} (hR : RM (m.1 364) M i) (hXL : XL M i) {c k : Nat} (hc30 : c < 30) (hk7 : k < 7) {n : Nat → Int32} (h0 : m.1 372 (4 * c) = nI k) (h1 : m.1 372 (4 * c + 1) = n 0) (h2 : m.1 372 (4 * c + 2) = n 1) (h3 : m.1 372 (4 * c + 3) = n 2) : CC g yX10_does (.code yX10_does cX10_does 4 (some .int)) 10 0 0 [.ref (ad g 363), .int (nI (4 * c))] m (rI (fun _ m2 => (cmdF M i k n = 45 ∧ MFr (up m 363 15 0) m2 ∧ RM (m2.1 364) (cmdM i k n M) i) ∨ (∃ t, ¬ t = 0 ∧ lfV (nI k) t = cmdF M i k n ∧ m2 = up m 363 15 t))) noX := by
  refine CC.mk hG RX10 rfl (by decide +kernel) rfl (Nat.le_of_ble_eq_true rfl) (fun sz B hB hX => ?_)
  show V g B 0 0 _ (hp g m) sz 0 [some (.ref (ad g 363)), some (.int (nI (4 * c))), none, none] []
  refine V.aload_n (pc := 0) hB dX10_does_0 rfl ?_
  refine V.get (pc := 1) hB fk_Model 20 wf_X10_41 dX10_does_1 (by decide) (hp_at (ca_Model _)) rfl ?_
  refine V.iload_n (pc := 4) hB dX10_does_4 rfl ?_
  refine V.iconst (pc := 5) (v := 1) hB dX10_does_5 rfl ?_
  refine V.iadd (pc := 6) hB dX10_does_6 ?_
  rw [show nI (4 * c) + 1 = nI (4 * c + 1) from nI_1 _]
  refine V.ialdM (pc := 7) hB (ca_Nums) dX10_does_7 (ix_nI (by omega) (by decide)) ?_
  rw [h1]
  refine V.istore_n (pc := 8) hB dX10_does_8 (by decide) rfl ?_
  refine V.aload_n (pc := 9) hB dX10_does_9 rfl ?_
  refine V.get (pc := 10) hB fk_Model 20 wf_X10_41 dX10_does_10 (by decide) (hp_at (ca_Model _)) rfl ?_
  refine V.iload_n (pc := 13) hB dX10_does_13 rfl ?_
  refine V.iconst (pc := 14) (v := 2) hB dX10_does_14 rfl ?_
  refine V.iadd (pc := 15) hB dX10_does_15 ?_
  rw [show nI (4 * c) + 2 = nI (4 * c + 2) from nI_add _ 2]
  refine V.ialdM (pc := 16) hB (ca_Nums) dX10_does_16 (ix_nI (by omega) (by decide)) ?_
  rw [h2]
  refine V.istore_n (pc := 17) hB dX10_does_17 (by decide) rfl ?_
  refine V.aload_n (pc := 18) hB dX10_does_18 rfl ?_
  refine V.get (pc := 19) hB fk_Model 20 wf_X10_41 dX10_does_19 (by decide) (hp_at (ca_Model _)) rfl ?_
  refine V.iload_n (pc := 22) hB dX10_does_22 rfl ?_
  refine V.ialdM (pc := 23) hB (ca_Nums) dX10_does_23 (ix_nI (by omega) (by decide)) ?_
  rw [h0]
  rcases (by omega : k = 0 ∨ k = 1 ∨ k = 2 ∨ k = 3 ∨ k = 4 ∨ k = 5 ∨ k = 6) with rfl | rfl | rfl | rfl | rfl | rfl | rfl
  · refine V.tsw_in (pc := 24) (tgt := 64) hB dX10_does_24 (by decide) (by decide) rfl (by decide) ?_
    refine V.aload_n (pc := 64) hB dX10_does_64 rfl ?_
    refine V.iload_n (pc := 65) hB dX10_does_65 rfl ?_
    refine V.cv (pc := 66) hB cw_X10_adds wm_X10_100 wi_X10_adds ws_X10_adds dX10_does_66 (c_X10_adds hG hR) (hp_at (ca_Model _)) fk_Model rfl (by omega) (by decide) rfl (by exact Nat.le_of_ble_eq_true rfl) (by omega) (by omega) kN (kI (fun v_66 m_66 sz h_66 => ?_)) rfl
    refine V.retI (pc := 69) hB dX10_does_69 rfl (rfl) (by omega) (by omega) ?_
    rcases h_66 with ⟨hf, _, hF, hR2⟩ | ⟨_, t, hc, hm⟩
    · exact Or.inl ⟨hf, hF, hR2⟩
    · rcases hc with ⟨hf, rfl⟩ | ⟨hf, rfl⟩ <;> exact Or.inr ⟨_, by decide, Eq.trans (by decide) hf.symm, hm⟩
  · refine V.tsw_in (pc := 24) (tgt := 70) hB dX10_does_24 (by decide) (by decide) rfl (by decide) ?_
    refine V.aload_n (pc := 70) hB dX10_does_70 rfl ?_
    refine V.iload_n (pc := 71) hB dX10_does_71 rfl ?_
    refine V.iload_n (pc := 72) hB dX10_does_72 rfl ?_
    refine V.aload_n (pc := 73) hB dX10_does_73 rfl ?_
    refine V.get (pc := 74) hB fk_Model 20 wf_X10_41 dX10_does_74 (by decide) (hp_at (ca_Model _)) rfl ?_
    refine V.iload_n (pc := 77) hB dX10_does_77 rfl ?_
    refine V.iconst (pc := 78) (v := 3) hB dX10_does_78 rfl ?_
    refine V.iadd (pc := 79) hB dX10_does_79 ?_
    rw [show nI (4 * c) + 3 = nI (4 * c + 3) from nI_add _ 3]
    refine V.ialdM (pc := 80) hB (ca_Nums) dX10_does_80 (ix_nI (by omega) (by decide)) ?_
    rw [h3]
    refine V.cv (pc := 81) hB cw_X10_freezes wm_X10_110 wi_X10_freezes ws_X10_freezes dX10_does_81 (c_X10_freezes hG hR) (hp_at (ca_Model _)) fk_Model rfl (by omega) (by decide) rfl (by exact Nat.le_of_ble_eq_true rfl) (by omega) (by omega) kN (kI (fun v_81 m_81 sz h_81 => ?_)) rfl
    refine V.retI (pc := 84) hB dX10_does_84 rfl (rfl) (by omega) (by omega) ?_
    rcases h_81 with ⟨hf, _, hF, hR2⟩ | ⟨_, t, hc, hm⟩
    · exact Or.inl ⟨hf, hF, hR2⟩
    · rcases hc with ⟨hf, rfl⟩ | ⟨hf, rfl⟩ | ⟨hf, rfl⟩ | ⟨hf, rfl⟩ <;> exact Or.inr ⟨_, by decide, Eq.trans (by decide) hf.symm, hm⟩
  · refine V.tsw_in (pc := 24) (tgt := 85) hB dX10_does_24 (by decide) (by decide) rfl (by decide) ?_
    refine V.aload_n (pc := 85) hB dX10_does_85 rfl ?_
    refine V.iload_n (pc := 86) hB dX10_does_86 rfl ?_
    refine V.cv (pc := 87) hB cw_X10_airs wm_X10_113 wi_X10_airs ws_X10_airs dX10_does_87 (c_X10_airs hG hR) (hp_at (ca_Model _)) fk_Model rfl (by omega) (by decide) rfl (by exact Nat.le_of_ble_eq_true rfl) (by omega) (by omega) kN (kI (fun v_87 m_87 sz h_87 => ?_)) rfl
    refine V.retI (pc := 90) hB dX10_does_90 rfl (rfl) (by omega) (by omega) ?_
    obtain ⟨_, ⟨hf, hF, hR2⟩ | ⟨hf, hm⟩⟩ := h_87
    · exact Or.inl ⟨hf, hF, hR2⟩
    · exact Or.inr ⟨_, by decide, Eq.trans (by decide) hf.symm, hm⟩
  · refine V.tsw_in (pc := 24) (tgt := 91) hB dX10_does_24 (by decide) (by decide) rfl (by decide) ?_
    refine V.aload_n (pc := 91) hB dX10_does_91 rfl ?_
    refine V.iload_n (pc := 92) hB dX10_does_92 rfl ?_
    refine V.cv (pc := 93) hB cw_X10_waits wm_X10_158 wi_X10_waits ws_X10_waits dX10_does_93 (c_X10_waits hG hR hXL.1) (hp_at (ca_Model _)) fk_Model rfl (by omega) (by decide) rfl (by exact Nat.le_of_ble_eq_true rfl) (by omega) (by omega) kN (kI (fun v_93 m_93 sz h_93 => ?_)) rfl
    refine V.retI (pc := 96) hB dX10_does_96 rfl (rfl) (by omega) (by omega) ?_
    rcases h_93 with ⟨hf, _, hm⟩ | ⟨hf, _, hF, hR2⟩
    · exact Or.inr ⟨_, by decide, Eq.trans (by decide) hf.symm, hm⟩
    · exact Or.inl ⟨hf, hF, hR2⟩
  · refine V.tsw_in (pc := 24) (tgt := 97) hB dX10_does_24 (by decide) (by decide) rfl (by decide) ?_
    refine V.aload_n (pc := 97) hB dX10_does_97 rfl ?_
    refine V.iload_n (pc := 98) hB dX10_does_98 rfl ?_
    refine V.iload_n (pc := 99) hB dX10_does_99 rfl ?_
    refine V.cv (pc := 100) hB cw_X10_opens wm_X10_116 wi_X10_opens ws_X10_opens dX10_does_100 (c_X10_opens hG hR hXL.2.1) (hp_at (ca_Model _)) fk_Model rfl (by omega) (by decide) rfl (by exact Nat.le_of_ble_eq_true rfl) (by omega) (by omega) kN (kI (fun v_100 m_100 sz h_100 => ?_)) rfl
    refine V.retI (pc := 103) hB dX10_does_103 rfl (rfl) (by omega) (by omega) ?_
    rcases h_100 with ⟨hf, _, hF, hR2⟩ | ⟨_, t, hc, hm⟩
    · exact Or.inl ⟨hf, hF, hR2⟩
    · rcases hc with ⟨hf, rfl⟩ | ⟨hf, rfl⟩ | ⟨hf, rfl⟩ <;> exact Or.inr ⟨_, by decide, Eq.trans (by decide) hf.symm, hm⟩
  · refine V.tsw_in (pc := 24) (tgt := 104) hB dX10_does_24 (by decide) (by decide) rfl (by decide) ?_
    refine V.aload_n (pc := 104) hB dX10_does_104 rfl ?_
    refine V.iload_n (pc := 105) hB dX10_does_105 rfl ?_
    refine V.cv (pc := 106) hB cw_X10_shuts wm_X10_119 wi_X10_shuts ws_X10_shuts dX10_does_106 (c_X10_shuts hG hR) (hp_at (ca_Model _)) fk_Model rfl (by omega) (by decide) rfl (by exact Nat.le_of_ble_eq_true rfl) (by omega) (by omega) kN (kI (fun v_106 m_106 sz h_106 => ?_)) rfl
    refine V.retI (pc := 109) hB dX10_does_109 rfl (rfl) (by omega) (by omega) ?_
    rcases h_106 with ⟨hf, _, hF, hR2⟩ | ⟨_, hf, hm⟩
    · exact Or.inl ⟨hf, hF, hR2⟩
    · exact Or.inr ⟨_, by decide, Eq.trans (by decide) hf.symm, hm⟩
  · refine V.tsw_out (pc := 24) (tgt := 110) hB dX10_does_24 (Or.inr (by decide)) (by decide) ?_
    refine V.aload_n (pc := 110) hB dX10_does_110 rfl ?_
    refine V.iload_n (pc := 111) hB dX10_does_111 rfl ?_
    refine V.iload_n (pc := 112) hB dX10_does_112 rfl ?_
    refine V.cv (pc := 113) hB cw_X10_strikes wm_X10_129 wi_X10_strikes ws_X10_strikes dX10_does_113 (c_X10_strikes hG hR hXL.1) (hp_at (ca_Model _)) fk_Model rfl (by omega) (by decide) rfl (by exact Nat.le_of_ble_eq_true rfl) (by omega) (by omega) kN (kI (fun v_113 m_113 sz h_113 => ?_)) rfl
    refine V.retI (pc := 116) hB dX10_does_116 rfl (rfl) (by omega) (by omega) ?_
    rcases h_113 with ⟨hf, _, hF, hR2⟩ | ⟨_, t, hc, hm⟩
    · exact Or.inl ⟨hf, hF, hR2⟩
    · rcases hc with ⟨hf, rfl⟩ | ⟨hf, rfl⟩ <;> exact Or.inr ⟨_, by decide, Eq.trans (by decide) hf.symm, hm⟩
