/-! the reference: a layer struck, a window taken out -/
theorem RM.isy {R : Nat → Int32} {M : Mem} {i : Nat} (h : RM R M i) (x y : Int32) : isyB R x y = true ↔ ((0 ≤ x ∧ x < nI (nLk M i)) ∧ (0 ≤ y ∧ y < nI (nLy M i x.toNatClampNeg))) := by
  have hn := h.2.2.1
  have h5 := h.1.1.2
  constructor
  · intro hb
    obtain ⟨j, z, hxe, hye, hj, hz, hjc, hzc⟩ := isyB_in h.1 hb
    have hjn : j < nLk M i := by rw [← hn]; exact hj
    have h8 := (h.2.1.ln hjn).2
    rw [(h.2.2.2.2.1 j hjn).1] at hz
    rw [hjc, hxe, hye]
    exact ⟨⟨nI_pos' (by omega), nI_lt hjn (by omega)⟩, nI_pos' (by omega), nI_lt hz (by omega)⟩
  · rintro ⟨h1, h2⟩
    obtain ⟨j, hxe, hj, hjc⟩ := idx_j h1 (by omega)
    have h8 := (h.2.1.ln hj).2
    rw [hjc] at h2
    obtain ⟨z, hye, hz, hzc⟩ := idx_j h2 (by omega)
    subst hxe; subst hye
    exact isyB_j (by rw [hn]; exact hj) h5 (by rw [(h.2.2.2.2.1 j hj).1]; exact hz) (h.1.2.1 j (by omega)).2
theorem up_setRow (m : Mem) (k q : Nat) (f : Nat → Int32) (v : Int32) : up (setRow m k f) k q v = setRow m k (upd f q v) := by rw [up_eq, setRow_same, setRow_set]
theorem pitch_eq {K T : Nat → Int32} {q : Nat} (hK : 1 ≤ K q) : 100 / K q - T q = pitchV K T q := by
  unfold pitchV
  by_cases h : 1 < K q
  · rw [if_pos h]
  · rw [if_neg h, show K q = 1 from Int32.le_antisymm (Int32.not_lt.mp h) hK]
def shW (R : Nat → Int32) (a q : Nat) : Nat → Int32 := fun k => if 142 + 2 * a ≤ k ∧ k < 142 + 2 * a + q then R (k + 2) else R k
theorem shW_step {R : Nat → Int32} {a q : Nat} : upd (shW R a q) (142 + 2 * a + q) (shW R a q (142 + 2 * a + q + 2)) = shW R a (q + 1) := by
  funext k
  unfold upd
  by_cases h : k = 142 + 2 * a + q
  · rw [if_pos h]
    unfold shW
    rw [if_neg (by omega), if_pos (by omega), h]
  · rw [if_neg h]
    unfold shW
    by_cases h2 : 142 + 2 * a ≤ k ∧ k < 142 + 2 * a + q
    · rw [if_pos h2, if_pos (by omega)]
    · rw [if_neg h2, if_neg (by omega)]
theorem shW_fin {R : Nat → Int32} {a n : Nat} (ha : a < 6) : upd (shW R a (10 - 2 * a)) 3 (nI (n - 1)) = rmR R a n := by
  funext k
  unfold upd rmR
  by_cases h : k = 3
  · rw [if_pos h, if_pos h]
  · rw [if_neg h, if_neg h]
    unfold shW
    by_cases h2 : 142 + 2 * a ≤ k ∧ k < 152
    · rw [if_pos (by omega), if_pos h2]
    · rw [if_neg (by omega), if_neg h2]

set_option maxRecDepth 100000 in
set_option maxHeartbeats 1000000 in
theorem c_X10_strikes {g : xG} (hG : GK g) {m M : Mem} {i : Nat} (hR : RM (m.1 364) M i) (hV : VL M i) {x y : Int32} : CC g yX10_strikes (.code yX10_strikes cX10_strikes 4 (some .int)) 7 0 0 [.ref (ad g 363), .int x, .int y] m (rI (fun v m2 => (ringF M i x y = 45 ∧ v = pitchV (M.1 (LK i x.toNatClampNeg + 1)) (M.1 (LK i x.toNatClampNeg + 2)) y.toNatClampNeg ∧ MFr (up m 363 15 0) m2 ∧ RM (m2.1 364) (ringM i x.toNatClampNeg y.toNatClampNeg M) i) ∨ (v = 0 ∧ ∃ t, ((ringF M i x y = 98 ∧ t = 1) ∨ (ringF M i x y = 117 ∧ t = 2)) ∧ m2 = up m 363 15 t))) noX := by
  have hM := hR.1
  obtain ⟨a, ha⟩ : ∃ a, a = isyB (m.1 364) x y := ⟨_, rfl⟩
  obtain ⟨b, hb⟩ : ∃ b, b = decide (olV (m.1 364) x y 1 < 0) := ⟨_, rfl⟩
  have hiy := hR.isy x y
  rw [← ha] at hiy
  refine CC.mk hG RX10 rfl (by decide +kernel) rfl (Nat.le_of_ble_eq_true rfl) (fun sz B hB hX => ?_)
  show V g B 0 0 _ (hp g m) sz 0 [some (.ref (ad g 363)), some (.int x), some (.int y), none] []
  have join : ∀ (sz : Nat) (t : Int32), t = (if b = true then 1 else 0) → V g B 0 0 (QM g B 0 0 (rI (fun v m2 => (ringF M i x y = 45 ∧ v = pitchV (M.1 (LK i x.toNatClampNeg + 1)) (M.1 (LK i x.toNatClampNeg + 2)) y.toNatClampNeg ∧ MFr (up m 363 15 0) m2 ∧ RM (m2.1 364) (ringM i x.toNatClampNeg y.toNatClampNeg M) i) ∨ (v = 0 ∧ ∃ t, ((ringF M i x y = 98 ∧ t = 1) ∨ (ringF M i x y = 117 ∧ t = 2)) ∧ m2 = up m 363 15 t))) noX) (hp g (m)) sz 22 [some (.ref (ad g 363)), some (.int x), some (.int y), none] [.int t, .int (if a = true then 1 else 0), .ref (ad g 363)] := by
    intro sz t ht
    refine V.iconst (pc := 22) (v := 1) hB dX10_strikes_22 rfl ?_
    refine V.iconst (pc := 23) (v := 1) hB dX10_strikes_23 rfl ?_
    refine V.cv (pc := 24) hB cw_X10_holds wm_X10_47 wi_X10_holds ws_X10_holds dX10_strikes_24 (c_X10_holds hG) (hp_at (ca_Model _)) fk_Model rfl (by omega) (by decide) rfl (by exact Nat.le_of_ble_eq_true rfl) (by omega) (by omega) kN (kI (fun v_24 m_24 sz h_24 => ?_)) rfl
    obtain ⟨rfl, hm_24⟩ := h_24
    subst hm_24
    rw [ht, thrV_b2]
    refine V.if_ne (pc := 27) (tgt := 32) hB dX10_strikes_27 (by decide) (fun c_27 => ?_) (fun c_27 => ?_)
    · have hab : a = true ∧ b = true := by
        cases a <;> cases b
        · exact absurd rfl c_27
        · exact absurd rfl c_27
        · exact absurd rfl c_27
        · exact ⟨rfl, rfl⟩
      have hin := hiy.mp hab.1
      obtain ⟨j, hxe, hj, hjc⟩ := idx_j hin.1 (by have := hR.2.1.nl5; omega)
      have hq := hin.2
      have h8 := (hR.2.1.ln hj).2
      rw [hjc] at hq
      obtain ⟨q, hye, hq, hqc⟩ := idx_j hq (by omega)
      have ho0 : olV (m.1 364) x y 0 = M.1 (LK i j + 1) q := by rw [hxe, hye, hR.ol hj hq (by omega)]
      have ho1 : olV (m.1 364) x y 1 = M.1 (LK i j + 2) q := by rw [hxe, hye, hR.ol hj hq (by omega)]
      have hvb := hV.1 j hj q hq
      have htn : ¬ M.1 (LK i j + 2) q = 0 := by
        have := hb.symm.trans hab.2
        rw [ho1] at this
        intro z
        rw [z] at this
        exact absurd this (by decide)
      have hf : ringF M i x y = 45 := by
        unfold ringF
        rw [if_pos hin, hjc, hqc, if_neg htn]
      rw [hab.1, hab.2]
      rw [show (if true = false then (1 : Int32) else if true = false then 2 else 0) = 0 from rfl]
      obtain ⟨m0, hm0⟩ : ∃ z, z = up m 363 15 0 := ⟨_, rfl⟩
      rw [← hm0]
      have hm0r : m0.1 364 = m.1 364 := by rw [hm0]; exact up_cell _ _ _ (by decide)
      refine V.aload_n (pc := 32) hB dX10_strikes_32 rfl ?_
      refine V.iload_n (pc := 33) hB dX10_strikes_33 rfl ?_
      refine V.iload_n (pc := 34) hB dX10_strikes_34 rfl ?_
      refine V.cv (pc := 35) hB cw_X10_pitchOf wm_X10_122 wi_X10_pitchOf ws_X10_pitchOf dX10_strikes_35 (c_X10_pitchOf hG (by rw [hm0r]; exact hM) (by rw [hm0r, ho0]; intro z; rw [z] at hvb; exact absurd hvb.1.1 (by decide))) (hp_at (ca_Model _)) fk_Model rfl (by omega) (by decide) rfl (by exact Nat.le_of_ble_eq_true rfl) (by omega) (by omega) kN (kI (fun v_35 m_35 sz h_35 => ?_)) rfl
      obtain ⟨rfl, hm_35⟩ := h_35
      obtain rfl := hm_35.symm
      rw [hm0r, ho0, ho1, pitch_eq (K := M.1 (LK i j + 1)) (T := M.1 (LK i j + 2)) (q := q) hvb.1.1]
      refine V.istore_n (pc := 38) hB dX10_strikes_38 (by decide) rfl ?_
      refine V.aload_n (pc := 39) hB dX10_strikes_39 rfl ?_
      refine V.bipush (pc := 40) (v := 115) hB dX10_strikes_40 rfl ?_
      refine V.iload_n (pc := 42) hB dX10_strikes_42 rfl ?_
      refine V.iload_n (pc := 43) hB dX10_strikes_43 rfl ?_
      refine V.cv (pc := 44) hB cw_X10_rings wm_X10_125 wi_X10_rings ws_X10_rings dX10_strikes_44 (c_X10_rings hG (by rw [hm0r]; exact hM)) (hp_at (ca_Model _)) fk_Model rfl (by omega) (by decide) rfl (by exact Nat.le_of_ble_eq_true rfl) (by omega) (by omega) kN (kV (fun m_44 sz h_44 => ?_)) rfl
      subst h_44
      refine V.iload_n (pc := 47) hB dX10_strikes_47 rfl ?_
      refine V.retI (pc := 48) hB dX10_strikes_48 rfl (rfl) (by omega) (by omega) ?_
      refine Or.inl ⟨hf, by rw [hjc, hqc], MFr.row _ _, ?_⟩
      rw [setRow_same, hm0r, hjc, hqc, hxe, hR.2.2.2.1.1]
      exact hR.rec (by decide)
    · have hab : a = false ∨ (a = true ∧ b = false) := by
        cases a <;> cases b
        · exact Or.inl rfl
        · exact Or.inl rfl
        · exact Or.inr ⟨rfl, rfl⟩
        · exact absurd c_27 (by decide)
      refine V.iconst (pc := 30) (v := 0) hB dX10_strikes_30 rfl ?_
      refine V.retI (pc := 31) hB dX10_strikes_31 rfl (rfl) (by omega) (by omega) ?_
      refine Or.inr ⟨rfl, _, ?_, rfl⟩
      rcases hab with e | ⟨e, e2⟩
      · refine Or.inl ⟨?_, by rw [e]; rfl⟩
        unfold ringF
        rw [if_neg (fun z => by have := hiy.mpr z; rw [e] at this; exact absurd this (by decide))]
      · refine Or.inr ⟨?_, by rw [e, e2]; rfl⟩
        have hin := hiy.mp e
        obtain ⟨j, hxe, hj, hjc⟩ := idx_j hin.1 (by have := hR.2.1.nl5; omega)
        have hq := hin.2
        have h8 := (hR.2.1.ln hj).2
        rw [hjc] at hq
        obtain ⟨q, hye, hq, hqc⟩ := idx_j hq (by omega)
        have hbv : ¬ M.1 (LK i j + 2) q < 0 := by
          have := hb.symm.trans e2
          rw [hxe, hye, hR.ol hj hq (by omega)] at this
          exact of_decide_eq_false this
        have ht0 : M.1 (LK i j + 2) q = 0 := Int32.le_antisymm (hV.1 j hj q hq).2.2 (Int32.not_lt.mp hbv)
        unfold ringF
        rw [if_pos hin, hjc, hqc, if_pos ht0]
  refine V.aload_n (pc := 0) hB dX10_strikes_0 rfl ?_
  refine V.aload_n (pc := 1) hB dX10_strikes_1 rfl ?_
  refine V.iload_n (pc := 2) hB dX10_strikes_2 rfl ?_
  refine V.iload_n (pc := 3) hB dX10_strikes_3 rfl ?_
  refine V.cv (pc := 4) hB cw_X10_isLayer wm_X10_81 wi_X10_isLayer ws_X10_isLayer dX10_strikes_4 (c_X10_isLayer hG hM) (hp_at (ca_Model _)) fk_Model rfl (by omega) (by decide) rfl (by exact Nat.le_of_ble_eq_true rfl) (by omega) (by omega) kN (kI (fun v_4 m_4 sz h_4 => ?_)) rfl
  obtain ⟨rfl, hm_4⟩ := h_4
  obtain rfl := hm_4.symm
  rw [← ha]
  refine V.aload_n (pc := 7) hB dX10_strikes_7 rfl ?_
  refine V.iload_n (pc := 8) hB dX10_strikes_8 rfl ?_
  refine V.iload_n (pc := 9) hB dX10_strikes_9 rfl ?_
  refine V.iconst (pc := 10) (v := 1) hB dX10_strikes_10 rfl ?_
  refine V.cv (pc := 11) hB cw_X10_ofLayer wm_X10_88 wi_X10_ofLayer ws_X10_ofLayer dX10_strikes_11 (c_X10_ofLayer hG hM (k := 1) (by decide) rfl) (hp_at (ca_Model _)) fk_Model rfl (by omega) (by decide) rfl (by exact Nat.le_of_ble_eq_true rfl) (by omega) (by omega) kN (kI (fun v_11 m_11 sz h_11 => ?_)) rfl
  obtain ⟨rfl, hm_11⟩ := h_11
  obtain rfl := hm_11.symm
  refine V.if_ge (pc := 14) (tgt := 21) hB dX10_strikes_14 (by decide) (fun c_14 => ?_) (fun c_14 => ?_)
  · have hb0 : (0 : Int32) = if b = true then 1 else 0 := by rw [hb, if_neg]; rw [decide_eq_false (Int32.not_lt.mpr c_14)]; decide
    refine V.iconst (pc := 21) (v := 0) hB dX10_strikes_21 rfl ?_
    exact join sz _ hb0
  · have hb0 : (1 : Int32) = if b = true then 1 else 0 := by rw [hb, if_pos]; exact decide_eq_true (Int32.not_le.mp c_14)
    refine V.iconst (pc := 17) (v := 1) hB dX10_strikes_17 rfl ?_
    refine V.goto (pc := 18) (tgt := 22) hB dX10_strikes_18 (by decide) ?_
    exact join sz _ hb0

set_option maxRecDepth 100000 in
set_option maxHeartbeats 1000000 in
theorem c_X10_shuts {g : xG} (hG : GK g) {m M : Mem} {i : Nat} (hR : RM (m.1 364) M i) {x : Int32} : CC g yX10_shuts (.code yX10_shuts cX10_shuts 3 (some .int)) 3 0 0 [.ref (ad g 363), .int x] m (rI (fun v m2 => (openF M i x = 45 ∧ v = nI (nWn M i - 1) ∧ MFr (up m 363 15 0) m2 ∧ RM (m2.1 364) (rmM i (nWn M i) x.toNatClampNeg M) i) ∨ (v = 0 ∧ openF M i x = 98 ∧ m2 = up m 363 15 1))) noX := by
  have hw6 := hR.2.1.wr.2
  have h3 : m.1 364 3 = nI (nWn M i) := hR.1.2.2.1.1.trans (congrArg nI hR.2.2.2.2.2.1.1)
  obtain ⟨m0, hm0⟩ : ∃ z, z = up m 363 15 0 := ⟨_, rfl⟩
  have hm0r : m0.1 364 = m.1 364 := by rw [hm0]; exact up_cell _ _ _ (by decide)
  rw [← hm0]
  obtain ⟨a, ha⟩ : ∃ a, a = (decide (0 ≤ x) && decide (x ≤ nI (nWn M i) - 1)) := ⟨_, rfl⟩
  have hai : a = true ↔ (0 ≤ x ∧ x < nI (nWn M i)) := by
    rw [ha, Bool.and_eq_true, decide_eq_true_eq, decide_eq_true_eq, le_sub1 (by omega)]
  refine CC.mk hG RX10 rfl (by decide +kernel) rfl (Nat.le_of_ble_eq_true rfl) (fun sz B hB hX => ?_)
  show V g B 0 0 _ (hp g m) sz 0 [some (.ref (ad g 363)), some (.int x), none] []
  have loop : ∀ a1 : Nat, a1 < nWn M i → (0 ≤ x ∧ x < nI (nWn M i)) → x.toNatClampNeg = a1 → ∀ q : Nat, q ≤ 10 - 2 * a1 → ∀ (sz : Nat), V g B 0 0 (QM g B 0 0 (rI (fun v m2 => (openF M i x = 45 ∧ v = nI (nWn M i - 1) ∧ MFr m0 m2 ∧ RM (m2.1 364) (rmM i (nWn M i) x.toNatClampNeg M) i) ∨ (v = 0 ∧ openF M i x = 98 ∧ m2 = up m 363 15 1))) noX) (hp g (setRow m0 364 (shW (m.1 364) a1 q))) sz 30 [some (.ref (ad g 363)), some (.int x), some (.int (nI (142 + 2 * a1 + q)))] [] := by
    intro a1 han hin hxc
    refine loop_up (fun q hq ih => ?_)
    intro sz
    refine V.iload_n (pc := 30) hB dX10_shuts_30 rfl ?_
    refine V.sipush (pc := 31) (v := 152) hB dX10_shuts_31 rfl ?_
    refine V.icmp_ge (pc := 34) (tgt := 57) hB dX10_shuts_34 (by decide) (fun c_34 => ?_) (fun c_34 => ?_)
    · have hq2 : q = 10 - 2 * a1 := by have := (nI_leI (a := 152) (by decide) (by omega)).mp c_34; omega
      rw [hq2]
      refine V.aload_n (pc := 57) hB dX10_shuts_57 rfl ?_
      refine V.get (pc := 58) hB fk_Model 0 wf_X10_9 dX10_shuts_58 (by decide) (hp_at (ca_Model _)) rfl ?_
      refine V.iconst (pc := 61) (v := 3) hB dX10_shuts_61 rfl ?_
      refine V.dup2 (pc := 62) hB dX10_shuts_62 rfl rfl ?_
      refine V.ialdM (pc := 63) hB (ca_Now) dX10_shuts_63 (ix_nI (q := 3) (N := 218) (by decide) (by decide)) ?_
      rw [setRow_same, show shW (m.1 364) a1 (10 - 2 * a1) 3 = nI (nWn M i) from (if_neg (by omega)).trans h3]
      refine V.iconst (pc := 64) (v := 1) hB dX10_shuts_64 rfl ?_
      refine V.isub (pc := 65) hB dX10_shuts_65 ?_
      rw [show nI (nWn M i) - 1 = nI (nWn M i - 1) from nI_subN (b := 1) (by omega)]
      refine V.iastM (pc := 66) hB (ca_Now) dX10_shuts_66 (ix_nI (q := 3) (N := 218) (by decide) (by decide)) (by decide) ?_
      rw [up_setRow, shW_fin (by omega)]
      refine V.aload_n (pc := 67) hB dX10_shuts_67 rfl ?_
      refine V.get (pc := 68) hB fk_Model 0 wf_X10_9 dX10_shuts_68 (by decide) (hp_at (ca_Model _)) rfl ?_
      refine V.iconst (pc := 71) (v := 3) hB dX10_shuts_71 rfl ?_
      refine V.ialdM (pc := 72) hB (ca_Now) dX10_shuts_72 (ix_nI (q := 3) (N := 218) (by decide) (by decide)) ?_
      rw [setRow_same, show rmR (m.1 364) a1 (nWn M i) 3 = nI (nWn M i - 1) from if_pos rfl]
      refine V.retI (pc := 73) hB dX10_shuts_73 rfl (rfl) (by omega) (by omega) ?_
      refine Or.inl ⟨?_, rfl, MFr.row _ _, ?_⟩
      · unfold openF
        rw [if_pos hin]
      · rw [setRow_same, hxc]
        exact hR.rm rfl han
    · have hlt : q < 10 - 2 * a1 := by
        have hno2 : ¬ (152 ≤ 142 + 2 * a1 + q) := fun z => c_34 ((nI_leI (a := 152) (by decide) (by omega)).mpr z)
        omega
      refine V.aload_n (pc := 37) hB dX10_shuts_37 rfl ?_
      refine V.get (pc := 38) hB fk_Model 0 wf_X10_9 dX10_shuts_38 (by decide) (hp_at (ca_Model _)) rfl ?_
      refine V.iload_n (pc := 41) hB dX10_shuts_41 rfl ?_
      refine V.aload_n (pc := 42) hB dX10_shuts_42 rfl ?_
      refine V.get (pc := 43) hB fk_Model 0 wf_X10_9 dX10_shuts_43 (by decide) (hp_at (ca_Model _)) rfl ?_
      refine V.iload_n (pc := 46) hB dX10_shuts_46 rfl ?_
      refine V.iconst (pc := 47) (v := 2) hB dX10_shuts_47 rfl ?_
      refine V.iadd (pc := 48) hB dX10_shuts_48 ?_
      rw [show nI (142 + 2 * a1 + q) + 2 = nI (142 + 2 * a1 + q + 2) from nI_add _ 2]
      refine V.ialdM (pc := 49) hB (ca_Now) dX10_shuts_49 (ix_nI (by omega) (by decide)) ?_
      rw [setRow_same]
      refine V.iastM (pc := 50) hB (ca_Now) dX10_shuts_50 (ix_nI (by omega) (by decide)) (by decide) ?_
      rw [up_setRow, shW_step]
      refine V.iinc (pc := 51) (v := nI ((142 + 2 * a1 + q) + 1)) hB dX10_shuts_51 rfl (nI_1 _) (by decide) rfl ?_
      refine V.goto (pc := 54) (tgt := 30) hB dX10_shuts_54 (by decide) ?_
      exact ih hlt sz
  refine V.aload_n (pc := 0) hB dX10_shuts_0 rfl ?_
  refine V.iload_n (pc := 1) hB dX10_shuts_1 rfl ?_
  refine V.iconst (pc := 2) (v := 0) hB dX10_shuts_2 rfl ?_
  refine V.aload_n (pc := 3) hB dX10_shuts_3 rfl ?_
  refine V.get (pc := 4) hB fk_Model 0 wf_X10_9 dX10_shuts_4 (by decide) (hp_at (ca_Model _)) rfl ?_
  refine V.iconst (pc := 7) (v := 3) hB dX10_shuts_7 rfl ?_
  refine V.ialdM (pc := 8) hB (ca_Now) dX10_shuts_8 (ix_nI (q := 3) (N := 218) (by decide) (by decide)) ?_
  rw [h3]
  refine V.iconst (pc := 9) (v := 1) hB dX10_shuts_9 rfl ?_
  refine V.isub (pc := 10) hB dX10_shuts_10 ?_
  refine V.cs (pc := 11) hB cw_X10_isIn wm_X10_69 wst_X10_isIn dX10_shuts_11 (c_X10_isIn hG) (by omega) (by decide) rfl (by exact Nat.le_of_ble_eq_true rfl) (by omega) (by omega) kN (kI (fun v_11 m_11 sz h_11 => ?_)) rfl
  obtain ⟨rfl, hm_11⟩ := h_11
  obtain rfl := hm_11.symm
  rw [← ha]
  refine V.cv (pc := 14) hB cw_X10_goes wm_X10_61 wi_X10_goes ws_X10_goes dX10_shuts_14 (c_X10_goes hG) (hp_at (ca_Model _)) fk_Model rfl (by omega) (by decide) rfl (by exact Nat.le_of_ble_eq_true rfl) (by omega) (by omega) kN (kI (fun v_14 m_14 sz h_14 => ?_)) rfl
  obtain ⟨rfl, hm_14⟩ := h_14
  subst hm_14
  rw [thrV_b1]
  refine V.if_ne (pc := 17) (tgt := 22) hB dX10_shuts_17 (by decide) (fun c_17 => ?_) (fun c_17 => ?_)
  · have ha1 : a = true := by
      cases a
      · exact absurd rfl c_17
      · rfl
    have hin := hai.mp ha1
    obtain ⟨a1, hxe, han, hxc⟩ := idx_j hin (by omega)
    rw [ha1, show (if true = false then (1 : Int32) else 0) = 0 from rfl, ← hm0]
    refine V.mem (m2 := setRow m0 364 (shW (m.1 364) a1 0)) (by rw [show shW (m.1 364) a1 0 = m0.1 364 by rw [hm0r]; exact funext (fun k => if_neg (by omega))]; exact (setRow_id _ _).symm) ?_
    refine V.sipush (pc := 22) (v := 142) hB dX10_shuts_22 rfl ?_
    refine V.iconst (pc := 25) (v := 2) hB dX10_shuts_25 rfl ?_
    refine V.iload_n (pc := 26) hB dX10_shuts_26 rfl ?_
    refine V.imul (pc := 27) hB dX10_shuts_27 ?_
    refine V.iadd (pc := 28) hB dX10_shuts_28 ?_
    rw [show (142 : Int32) + 2 * x = nI (142 + 2 * a1 + 0) by rw [hxe]; exact (Int32.add_zero _).symm.trans (ixW a1 0)]
    refine V.istore_n (pc := 29) hB dX10_shuts_29 (by decide) rfl ?_
    exact loop a1 han hin hxc 0 (by omega) sz
  · have ha0 : a = false := by
      cases a
      · rfl
      · exact absurd c_17 (by decide)
    refine V.iconst (pc := 20) (v := 0) hB dX10_shuts_20 rfl ?_
    refine V.retI (pc := 21) hB dX10_shuts_21 rfl (rfl) (by omega) (by omega) ?_
    refine Or.inr ⟨rfl, ?_, by rw [ha0]; rfl⟩
    unfold openF
    rw [if_neg (fun z => by have := hai.mpr z; rw [ha0] at this; exact absurd this (by decide))]
