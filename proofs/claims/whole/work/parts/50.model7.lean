/-! the reference: air set, a lake added, a layer struck, a window taken out -/
theorem inB_iff {x lo hi : Int32} : (decide (lo ≤ x) && decide (x ≤ hi)) = false ↔ (x < lo ∨ hi < x) := by
  rw [Bool.and_eq_false_iff, decide_eq_false_iff_not, decide_eq_false_iff_not, Int32.not_le, Int32.not_le]
theorem thrV_b (a b c d : Bool) : thrV (if a = true then 1 else 0) (if b = true then 1 else 0) (if c = true then 1 else 0) (if d = true then 1 else 0) = if a = false then 1 else if b = false then 2 else if c = false then 3 else if d = false then 4 else 0 := by
  cases a <;> cases b <;> cases c <;> cases d <;> rfl
theorem thrV_b1 (a : Bool) : thrV (if a = true then 1 else 0) 1 1 1 = if a = false then 1 else 0 := by cases a <;> rfl
theorem thrV_b2 (a b : Bool) : thrV (if a = true then 1 else 0) (if b = true then 1 else 0) 1 1 = if a = false then 1 else if b = false then 2 else 0 := by
  cases a <;> cases b <;> rfl
theorem thrV_b3 (a b c : Bool) : thrV (if a = true then 1 else 0) (if b = true then 1 else 0) (if c = true then 1 else 0) 1 = if a = false then 1 else if b = false then 2 else if c = false then 3 else 0 := by
  cases a <;> cases b <;> cases c <;> rfl
theorem airF_b {x : Int32} : airF x = if (decide (-40 ≤ x) && decide (x ≤ 20)) = false then 97 else 45 := by
  unfold airF
  by_cases h : x < -40 ∨ 20 < x
  · rw [if_pos h, if_pos (inB_iff.mpr h)]
  · rw [if_neg h, if_neg (fun z => h (inB_iff.mp z))]
theorem placeF_b {M : Mem} {i : Nat} (hL : LW M i) {x : Int32} : placeF M i x = if (decide (20 ≤ x) && decide (x ≤ 400)) = false then 97 else if decide (nLk M i < 5) = true then 45 else 115 := by
  unfold placeF
  have h5 := hL.nl5
  by_cases h : x < 20 ∨ 400 < x
  · rw [if_pos h, if_pos (inB_iff.mpr h)]
  · rw [if_neg h, if_neg (fun z => h (inB_iff.mp z)), hL.nl]
    by_cases e : nLk M i < 5
    · rw [if_pos (show nI (nLk M i) < 5 from nI_lt (b := 5) e (by decide)), if_pos (decide_eq_true e)]
    · rw [if_neg (show ¬ nI (nLk M i) < (5 : Int32) from fun z => absurd ((nI_leI (a := 5) (b := nLk M i) (by decide) (by omega)).mpr (by omega)) (Int32.not_le.mpr z)), if_neg (by rw [decide_eq_false e]; decide)]

set_option maxRecDepth 100000 in
set_option maxHeartbeats 1000000 in
theorem c_X10_airs {g : xG} (hG : GK g) {m M : Mem} {i : Nat} (hR : RM (m.1 364) M i) {x : Int32} : CC g yX10_airs (.code yX10_airs cX10_airs 3 (some .int)) 3 0 0 [.ref (ad g 363), .int x] m (rI (fun v m2 => v = M.1 (LA i) 2 ∧ ((airF x = 45 ∧ MFr (up m 363 15 0) m2 ∧ RM (m2.1 364) (up M (LA i) 2 x) i) ∨ (airF x = 97 ∧ m2 = up m 363 15 1)))) noX := by
  obtain ⟨a, ha⟩ : ∃ a, a = (decide (-40 ≤ x) && decide (x ≤ 20)) := ⟨_, rfl⟩
  have hf := airF_b (x := x)
  rw [← ha] at hf
  refine CC.mk hG RX10 rfl (by decide +kernel) rfl (Nat.le_of_ble_eq_true rfl) (fun sz B hB hX => ?_)
  show V g B 0 0 _ (hp g m) sz 0 [some (.ref (ad g 363)), some (.int x), none] []
  refine V.aload_n (pc := 0) hB dX10_airs_0 rfl ?_
  refine V.get (pc := 1) hB fk_Model 0 wf_X10_9 dX10_airs_1 (by decide) (hp_at (ca_Model _)) rfl ?_
  refine V.iconst (pc := 4) (v := 1) hB dX10_airs_4 rfl ?_
  refine V.ialdM (pc := 5) hB (ca_Now) dX10_airs_5 (ix_nI (q := 1) (N := 218) (by decide) (by decide)) ?_
  rw [show m.1 364 1 = M.1 (LA i) 2 from hR.2.2.2.1.2.1]
  refine V.istore_n (pc := 6) hB dX10_airs_6 (by decide) rfl ?_
  refine V.aload_n (pc := 7) hB dX10_airs_7 rfl ?_
  refine V.iload_n (pc := 8) hB dX10_airs_8 rfl ?_
  refine V.bipush (pc := 9) (v := (-40)) hB dX10_airs_9 rfl ?_
  refine V.bipush (pc := 11) (v := 20) hB dX10_airs_11 rfl ?_
  refine V.cs (pc := 13) hB cw_X10_isIn wm_X10_69 wst_X10_isIn dX10_airs_13 (c_X10_isIn hG) (by omega) (by decide) rfl (by exact Nat.le_of_ble_eq_true rfl) (by omega) (by omega) kN (kI (fun v_13 m_13 sz h_13 => ?_)) rfl
  obtain ⟨rfl, hm_13⟩ := h_13
  obtain rfl := hm_13.symm
  rw [← ha]
  refine V.cv (pc := 16) hB cw_X10_goes wm_X10_61 wi_X10_goes ws_X10_goes dX10_airs_16 (c_X10_goes hG) (hp_at (ca_Model _)) fk_Model rfl (by omega) (by decide) rfl (by exact Nat.le_of_ble_eq_true rfl) (by omega) (by omega) kN (kI (fun v_16 m_16 sz h_16 => ?_)) rfl
  obtain ⟨rfl, hm_16⟩ := h_16
  subst hm_16
  rw [thrV_b1]
  refine V.if_eq (pc := 19) (tgt := 29) hB dX10_airs_19 (by decide) (fun c_19 => ?_) (fun c_19 => ?_)
  · have ha0 : a = false := by
      cases a
      · rfl
      · exact absurd c_19 (by decide)
    refine V.iload_n (pc := 29) hB dX10_airs_29 rfl ?_
    refine V.retI (pc := 30) hB dX10_airs_30 rfl (rfl) (by omega) (by omega) ?_
    exact ⟨rfl, Or.inr ⟨by rw [hf, ha0]; rfl, by rw [ha0]; rfl⟩⟩
  · have ha1 : a = true := by
      cases a
      · exact absurd rfl c_19
      · rfl
    refine V.aload_n (pc := 22) hB dX10_airs_22 rfl ?_
    refine V.get (pc := 23) hB fk_Model 0 wf_X10_9 dX10_airs_23 (by decide) (hp_at (ca_Model _)) rfl ?_
    refine V.iconst (pc := 26) (v := 1) hB dX10_airs_26 rfl ?_
    refine V.iload_n (pc := 27) hB dX10_airs_27 rfl ?_
    refine V.iastM (pc := 28) hB (ca_Now) dX10_airs_28 (ix_nI (q := 1) (N := 218) (by decide) (by decide)) (by decide) ?_
    refine V.iload_n (pc := 29) hB dX10_airs_29 rfl ?_
    refine V.retI (pc := 30) hB dX10_airs_30 rfl (rfl) (by omega) (by omega) ?_
    refine ⟨rfl, Or.inl ⟨by rw [hf, ha1]; rfl, ?_, ?_⟩⟩
    · rw [ha1]; exact MFr.up _ _ _
    · rw [up_row, up_cell _ _ _ (by decide)]; exact hR.fld (a := 1) (f := 2) (by omega)

set_option maxRecDepth 100000 in
set_option maxHeartbeats 1000000 in
theorem c_X10_adds {g : xG} (hG : GK g) {m M : Mem} {i : Nat} (hR : RM (m.1 364) M i) {x : Int32} : CC g yX10_adds (.code yX10_adds cX10_adds 3 (some .int)) 3 0 0 [.ref (ad g 363), .int x] m (rI (fun v m2 => (placeF M i x = 45 ∧ v = nI (nLk M i) ∧ MFr (up m 363 15 0) m2 ∧ RM (m2.1 364) (placeM i x M) i) ∨ (v = 0 ∧ ∃ t, ((placeF M i x = 97 ∧ t = 1) ∨ (placeF M i x = 115 ∧ t = 2)) ∧ m2 = up m 363 15 t))) noX := by
  have h5 := hR.2.1.nl5
  obtain ⟨a, ha⟩ : ∃ a, a = (decide (20 ≤ x) && decide (x ≤ 400)) := ⟨_, rfl⟩
  obtain ⟨b, hb⟩ : ∃ b, b = decide (nLk M i < 5) := ⟨_, rfl⟩
  have hpl := placeF_b (x := x) hR.2.1
  rw [← ha, ← hb] at hpl
  have h2 : m.1 364 2 = nI (nLk M i) := hR.1.1.1.trans (congrArg nI hR.2.2.1)
  refine CC.mk hG RX10 rfl (by decide +kernel) rfl (Nat.le_of_ble_eq_true rfl) (fun sz B hB hX => ?_)
  show V g B 0 0 _ (hp g m) sz 0 [some (.ref (ad g 363)), some (.int x), none] []
  have join : ∀ (sz : Nat) (t : Int32), t = (if b = true then 1 else 0) → V g B 0 0 (QM g B 0 0 (rI (fun v m2 => (placeF M i x = 45 ∧ v = nI (nLk M i) ∧ MFr (up m 363 15 0) m2 ∧ RM (m2.1 364) (placeM i x M) i) ∨ (v = 0 ∧ ∃ t, ((placeF M i x = 97 ∧ t = 1) ∨ (placeF M i x = 115 ∧ t = 2)) ∧ m2 = up m 363 15 t))) noX) (hp g (m)) sz 25 [some (.ref (ad g 363)), some (.int x), none] [.int t, .int (if a = true then 1 else 0), .ref (ad g 363)] := by
    intro sz t ht
    refine V.iconst (pc := 25) (v := 1) hB dX10_adds_25 rfl ?_
    refine V.iconst (pc := 26) (v := 1) hB dX10_adds_26 rfl ?_
    refine V.cv (pc := 27) hB cw_X10_holds wm_X10_47 wi_X10_holds ws_X10_holds dX10_adds_27 (c_X10_holds hG) (hp_at (ca_Model _)) fk_Model rfl (by omega) (by decide) rfl (by exact Nat.le_of_ble_eq_true rfl) (by omega) (by omega) kN (kI (fun v_27 m_27 sz h_27 => ?_)) rfl
    obtain ⟨rfl, hm_27⟩ := h_27
    subst hm_27
    rw [ht, thrV_b2]
    refine V.if_ne (pc := 30) (tgt := 35) hB dX10_adds_30 (by decide) (fun c_30 => ?_) (fun c_30 => ?_)
    · have hab : a = true ∧ b = true := by
        cases a <;> cases b
        · exact absurd rfl c_30
        · exact absurd rfl c_30
        · exact absurd rfl c_30
        · exact ⟨rfl, rfl⟩
      have hpl1 : placeF M i x = 45 := by rw [hpl, hab.1, hab.2]; rfl
      have hn5 : nLk M i < 5 := of_decide_eq_true (hb.symm.trans hab.2)
      rw [hab.1, hab.2]
      rw [show (if true = false then (1 : Int32) else if true = false then 2 else 0) = 0 from rfl]
      obtain ⟨m0, hm0⟩ : ∃ y, y = up m 363 15 0 := ⟨_, rfl⟩
      rw [← hm0]
      refine V.mem (m2 := setRow m0 364 (m.1 364)) (by rw [show m.1 364 = m0.1 364 by rw [hm0]; exact (up_cell _ _ _ (by decide)).symm]; exact (setRow_id _ _).symm) ?_
      refine V.bipush (pc := 35) (v := 7) hB dX10_adds_35 rfl ?_
      refine V.bipush (pc := 37) (v := 27) hB dX10_adds_37 rfl ?_
      refine V.aload_n (pc := 39) hB dX10_adds_39 rfl ?_
      refine V.get (pc := 40) hB fk_Model 0 wf_X10_9 dX10_adds_40 (by decide) (hp_at (ca_Model _)) rfl ?_
      refine V.iconst (pc := 43) (v := 2) hB dX10_adds_43 rfl ?_
      refine V.ialdM (pc := 44) hB (ca_Now) dX10_adds_44 (ix_nI (q := 2) (N := 218) (by decide) (by decide)) ?_
      rw [setRow_same, h2]
      refine V.imul (pc := 45) hB dX10_adds_45 ?_
      refine V.iadd (pc := 46) hB dX10_adds_46 ?_
      rw [show (7 : Int32) + 27 * nI (nLk M i) = nI (7 + 27 * nLk M i) from (congrArg (fun z => (7 : Int32) + z) (nI_mulN 27 (nLk M i))).trans (nI_add 7 _)]
      refine V.istore_n (pc := 47) hB dX10_adds_47 (by decide) rfl ?_
      refine V.aload_n (pc := 48) hB dX10_adds_48 rfl ?_
      refine V.get (pc := 49) hB fk_Model 0 wf_X10_9 dX10_adds_49 (by decide) (hp_at (ca_Model _)) rfl ?_
      refine V.iload_n (pc := 52) hB dX10_adds_52 rfl ?_
      refine V.iconst (pc := 53) (v := 0) hB dX10_adds_53 rfl ?_
      refine V.iadd (pc := 54) hB dX10_adds_54 ?_
      rw [show nI (7 + 27 * nLk M i) + 0 = nI (7 + 27 * nLk M i) from Int32.add_zero _]
      refine V.iload_n (pc := 55) hB dX10_adds_55 rfl ?_
      refine V.iastM (pc := 56) hB (ca_Now) dX10_adds_56 (ix_nI (by omega) (by decide)) (by decide) ?_
      rw [up_eq, setRow_same, setRow_set]
      refine V.aload_n (pc := 57) hB dX10_adds_57 rfl ?_
      refine V.get (pc := 58) hB fk_Model 0 wf_X10_9 dX10_adds_58 (by decide) (hp_at (ca_Model _)) rfl ?_
      refine V.iload_n (pc := 61) hB dX10_adds_61 rfl ?_
      refine V.iconst (pc := 62) (v := 1) hB dX10_adds_62 rfl ?_
      refine V.iadd (pc := 63) hB dX10_adds_63 ?_
      rw [show nI (7 + 27 * nLk M i) + 1 = nI (8 + 27 * nLk M i) from (nI_1 _).trans (congrArg nI (by omega))]
      refine V.iconst (pc := 64) (v := 0) hB dX10_adds_64 rfl ?_
      refine V.iastM (pc := 65) hB (ca_Now) dX10_adds_65 (ix_nI (by omega) (by decide)) (by decide) ?_
      rw [up_eq, setRow_same, setRow_set]
      refine V.aload_n (pc := 66) hB dX10_adds_66 rfl ?_
      refine V.get (pc := 67) hB fk_Model 0 wf_X10_9 dX10_adds_67 (by decide) (hp_at (ca_Model _)) rfl ?_
      refine V.iload_n (pc := 70) hB dX10_adds_70 rfl ?_
      refine V.iconst (pc := 71) (v := 2) hB dX10_adds_71 rfl ?_
      refine V.iadd (pc := 72) hB dX10_adds_72 ?_
      rw [show nI (7 + 27 * nLk M i) + 2 = nI (9 + 27 * nLk M i) from (nI_add _ 2).trans (congrArg nI (by omega))]
      refine V.iconst (pc := 73) (v := 0) hB dX10_adds_73 rfl ?_
      refine V.iastM (pc := 74) hB (ca_Now) dX10_adds_74 (ix_nI (by omega) (by decide)) (by decide) ?_
      rw [up_eq, setRow_same, setRow_set]
      refine V.aload_n (pc := 75) hB dX10_adds_75 rfl ?_
      refine V.get (pc := 76) hB fk_Model 0 wf_X10_9 dX10_adds_76 (by decide) (hp_at (ca_Model _)) rfl ?_
      refine V.iconst (pc := 79) (v := 2) hB dX10_adds_79 rfl ?_
      refine V.dup2 (pc := 80) hB dX10_adds_80 rfl rfl ?_
      refine V.ialdM (pc := 81) hB (ca_Now) dX10_adds_81 (ix_nI (q := 2) (N := 218) (by decide) (by decide)) ?_
      rw [setRow_same, upd_ne _ _ (by omega), upd_ne _ _ (by omega), upd_ne _ _ (by omega), h2]
      refine V.iconst (pc := 82) (v := 1) hB dX10_adds_82 rfl ?_
      refine V.iadd (pc := 83) hB dX10_adds_83 ?_
      rw [nI_1]
      refine V.iastM (pc := 84) hB (ca_Now) dX10_adds_84 (ix_nI (q := 2) (N := 218) (by decide) (by decide)) (by decide) ?_
      rw [up_eq, setRow_same, setRow_set]
      refine V.aload_n (pc := 85) hB dX10_adds_85 rfl ?_
      refine V.get (pc := 86) hB fk_Model 0 wf_X10_9 dX10_adds_86 (by decide) (hp_at (ca_Model _)) rfl ?_
      refine V.iconst (pc := 89) (v := 2) hB dX10_adds_89 rfl ?_
      refine V.ialdM (pc := 90) hB (ca_Now) dX10_adds_90 (ix_nI (q := 2) (N := 218) (by decide) (by decide)) ?_
      rw [setRow_same, upd_at]
      refine V.iconst (pc := 91) (v := 1) hB dX10_adds_91 rfl ?_
      refine V.isub (pc := 92) hB dX10_adds_92 ?_
      rw [show nI (nLk M i + 1) - 1 = nI (nLk M i) from (nI_subN (b := 1) (by omega)).trans (congrArg nI (by omega))]
      refine V.retI (pc := 93) hB dX10_adds_93 rfl (rfl) (by omega) (by omega) ?_
      exact Or.inl ⟨hpl1, rfl, MFr.row _ _, by rw [setRow_same]; exact hR.place hn5⟩
    · have hab : a = false ∨ (a = true ∧ b = false) := by
        cases a <;> cases b
        · exact Or.inl rfl
        · exact Or.inl rfl
        · exact Or.inr ⟨rfl, rfl⟩
        · exact absurd c_30 (by decide)
      refine V.iconst (pc := 33) (v := 0) hB dX10_adds_33 rfl ?_
      refine V.retI (pc := 34) hB dX10_adds_34 rfl (rfl) (by omega) (by omega) ?_
      refine Or.inr ⟨rfl, _, ?_, rfl⟩
      rcases hab with e | ⟨e, e2⟩
      · exact Or.inl ⟨by rw [hpl, e]; rfl, by rw [e]; rfl⟩
      · exact Or.inr ⟨by rw [hpl, e, e2]; rfl, by rw [e, e2]; rfl⟩
  refine V.aload_n (pc := 0) hB dX10_adds_0 rfl ?_
  refine V.iload_n (pc := 1) hB dX10_adds_1 rfl ?_
  refine V.bipush (pc := 2) (v := 20) hB dX10_adds_2 rfl ?_
  refine V.sipush (pc := 4) (v := 400) hB dX10_adds_4 rfl ?_
  refine V.cs (pc := 7) hB cw_X10_isIn wm_X10_69 wst_X10_isIn dX10_adds_7 (c_X10_isIn hG) (by omega) (by decide) rfl (by exact Nat.le_of_ble_eq_true rfl) (by omega) (by omega) kN (kI (fun v_7 m_7 sz h_7 => ?_)) rfl
  obtain ⟨rfl, hm_7⟩ := h_7
  obtain rfl := hm_7.symm
  rw [← ha]
  refine V.aload_n (pc := 10) hB dX10_adds_10 rfl ?_
  refine V.get (pc := 11) hB fk_Model 0 wf_X10_9 dX10_adds_11 (by decide) (hp_at (ca_Model _)) rfl ?_
  refine V.iconst (pc := 14) (v := 2) hB dX10_adds_14 rfl ?_
  refine V.ialdM (pc := 15) hB (ca_Now) dX10_adds_15 (ix_nI (q := 2) (N := 218) (by decide) (by decide)) ?_
  rw [h2]
  refine V.iconst (pc := 16) (v := 5) hB dX10_adds_16 rfl ?_
  refine V.icmp_ge (pc := 17) (tgt := 24) hB dX10_adds_17 (by decide) (fun c_17 => ?_) (fun c_17 => ?_)
  · have hb0 : (0 : Int32) = if b = true then 1 else 0 := by rw [hb, if_neg]; rw [decide_eq_false (by have := (nI_leI (a := 5) (by decide) (by omega)).mp c_17; omega)]; decide
    refine V.iconst (pc := 24) (v := 0) hB dX10_adds_24 rfl ?_
    exact join sz _ hb0
  · have hb0 : (1 : Int32) = if b = true then 1 else 0 := by rw [hb, if_pos]; exact decide_eq_true (Nat.not_le.mp (fun z => c_17 ((nI_leI (a := 5) (by decide) (by omega)).mpr z)))
    refine V.iconst (pc := 20) (v := 1) hB dX10_adds_20 rfl ?_
    refine V.goto (pc := 21) (tgt := 25) hB dX10_adds_21 (by decide) ?_
    exact join sz _ hb0
