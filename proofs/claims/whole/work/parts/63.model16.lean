/-! the reference's reads: kinds, pitches, the layer at a depth, all cracks -/
theorem lcV_step {K : Nat → Int32} {z : Int32} {q : Nat} : lcV K z (q + 1) = if lcV K z q = -1 ∧ ¬ z < 0 ∧ z < l_sum K (q + 1) then nI q else lcV K z q := by
  unfold lcV
  by_cases h : z < 0
  · rw [if_pos h, if_pos h, if_neg (fun w => w.2.1 h)]
  · rw [if_neg h, if_neg h]
    show (if lcF K z q = -1 then (if z < l_sum K (q + 1) then nI q else -1) else lcF K z q) = _
    by_cases h1 : lcF K z q = -1
    · rw [if_pos h1]
      by_cases h2 : z < l_sum K (q + 1)
      · rw [if_pos h2, if_pos ⟨h1, h, h2⟩]
      · rw [if_neg h2, if_neg (fun w => h2 w.2.2), h1]
    · rw [if_neg h1, if_neg (fun w => h1 w.1)]
theorem lcV_eq {K K2 : Nat → Int32} {z : Int32} : ∀ N, (∀ y, y < N → K y = K2 y) → lcV K z N = lcV K2 z N
  | 0, _ => rfl
  | N + 1, h => by
    rw [lcV_step, lcV_step, lcV_eq N (fun y hy => h y (by omega)), sum_eq (N + 1) h]

set_option maxRecDepth 100000 in
set_option maxHeartbeats 1000000 in
theorem c_X10_isConsistent {g : xG} (hG : GK g) {m : Mem} : CC g yX10_isConsistent (.code yX10_isConsistent cX10_isConsistent 1 (some .boolean)) 1 0 0 [.ref (ad g 363)] m (rI (fun v m2 => v = 1 ∧ m2 = up m 363 15 0)) noX := by
  refine CC.mk hG RX10 rfl (by decide +kernel) rfl (Nat.le_of_ble_eq_true rfl) (fun sz B hB hX => ?_)
  show V g B 0 0 _ (hp g m) sz 0 [some (.ref (ad g 363))] []
  refine V.aload_n (pc := 0) hB dX10_isConsistent_0 rfl ?_
  refine V.iconst (pc := 1) (v := 0) hB dX10_isConsistent_1 rfl ?_
  refine V.p_Model_f15 (pc := 2) hB wf_X10_44 dX10_isConsistent_2 ?_
  refine V.iconst (pc := 5) (v := 1) hB dX10_isConsistent_5 rfl ?_
  refine V.retI (pc := 6) hB dX10_isConsistent_6 rfl (rfl) (by omega) (by omega) ?_
  exact ⟨rfl, rfl⟩

set_option maxRecDepth 100000 in
set_option maxHeartbeats 1000000 in
theorem c_X10_pealKind {g : xG} (hG : GK g) {m M : Mem} (hR : RM (m.1 364) M 0) {x : Int32} : CC g yX10_pealKind (.code yX10_pealKind cX10_pealKind 2 (some .char)) 4 0 0 [.ref (ad g 363), .int x] m (rI (akP m (inP M x) (M.1 (LA 0 + 6) ((wOf M 0 + 15 - x.toNatClampNeg) % 16)))) noX := by
  refine CC.mk hG RX10 rfl (by decide +kernel) rfl (Nat.le_of_ble_eq_true rfl) (fun sz B hB hX => ?_)
  show V g B 0 0 _ (hp g m) sz 0 [some (.ref (ad g 363)), some (.int x)] []
  refine V.aload_n (pc := 0) hB dX10_pealKind_0 rfl ?_
  refine V.iload_n (pc := 1) hB dX10_pealKind_1 rfl ?_
  refine V.iconst (pc := 2) (v := 0) hB dX10_pealKind_2 rfl ?_
  refine V.cv (pc := 3) hB cw_X10_ofPeal wm_X10_170 wi_X10_ofPeal ws_X10_ofPeal dX10_pealKind_3 (c_X10_ofPeal hG hR (k := 0) (by decide) rfl) (hp_at (ca_Model _)) fk_Model rfl (by omega) (by decide) rfl (by exact Nat.le_of_ble_eq_true rfl) (by omega) (by omega) kN (kI (fun v_3 m_3 sz h_3 => ?_)) rfl
  have hv : (v_3.toUInt32 % 65536).toInt32 = v_3 := by
    rcases h_3 with ⟨_, h2, _⟩ | ⟨_, h2, _⟩
    · rw [h2]
      exact Value.int.inj (fits_nar (hR.2.1.kf _ (by omega)))
    · rw [h2]
      rfl
  refine V.i2c (pc := 6) hB dX10_pealKind_6 ?_
  rw [hv]
  refine V.retI (pc := 7) hB dX10_pealKind_7 rfl (by rw [← hv]; exact nar_c16 _) (by omega) (by omega) ?_
  exact h_3

set_option maxRecDepth 100000 in
set_option maxHeartbeats 1000000 in
theorem c_X10_pitch {g : xG} (hG : GK g) {m M : Mem} (hR : RM (m.1 364) M 0) (hV : VL M 0) {x y : Int32} : CC g yX10_pitch (.code yX10_pitch cX10_pitch 4 (some .int)) 7 0 0 [.ref (ad g 363), .int x, .int y] m (rI (fun v m2 => (ringF M 0 x y = 45 ∧ v = pitchV (M.1 (LK 0 x.toNatClampNeg + 1)) (M.1 (LK 0 x.toNatClampNeg + 2)) y.toNatClampNeg ∧ m2 = up m 363 15 0) ∨ (v = 0 ∧ ∃ t, cStr (ringF M 0 x y) t ∧ m2 = up m 363 15 t))) noX := by
  have hM := hR.1
  obtain ⟨a, ha⟩ : ∃ a, a = isyB (m.1 364) x y := ⟨_, rfl⟩
  obtain ⟨b, hb⟩ : ∃ b, b = decide (olV (m.1 364) x y 1 < 0) := ⟨_, rfl⟩
  have hiy := hR.isy x y
  rw [← ha] at hiy
  refine CC.mk hG RX10 rfl (by decide +kernel) rfl (Nat.le_of_ble_eq_true rfl) (fun sz B hB hX => ?_)
  show V g B 0 0 _ (hp g m) sz 0 [some (.ref (ad g 363)), some (.int x), some (.int y), none] []
  have join : ∀ (sz : Nat) (t : Int32), t = (if b = true then 1 else 0) → V g B 0 0 (QM g B 0 0 (rI (fun v m2 => (ringF M 0 x y = 45 ∧ v = pitchV (M.1 (LK 0 x.toNatClampNeg + 1)) (M.1 (LK 0 x.toNatClampNeg + 2)) y.toNatClampNeg ∧ m2 = up m 363 15 0) ∨ (v = 0 ∧ ∃ t, cStr (ringF M 0 x y) t ∧ m2 = up m 363 15 t))) noX) (hp g (m)) sz 15 [some (.ref (ad g 363)), some (.int x), some (.int y), none] [.int t] := by
    intro sz t ht
    refine V.istore_n (pc := 15) hB dX10_pitch_15 (by decide) rfl ?_
    refine V.aload_n (pc := 16) hB dX10_pitch_16 rfl ?_
    refine V.aload_n (pc := 17) hB dX10_pitch_17 rfl ?_
    refine V.iload_n (pc := 18) hB dX10_pitch_18 rfl ?_
    refine V.iload_n (pc := 19) hB dX10_pitch_19 rfl ?_
    refine V.cv (pc := 20) hB cw_X10_isLayer wm_X10_81 wi_X10_isLayer ws_X10_isLayer dX10_pitch_20 (c_X10_isLayer hG hM) (hp_at (ca_Model _)) fk_Model rfl (by omega) (by decide) rfl (by exact Nat.le_of_ble_eq_true rfl) (by omega) (by omega) kN (kI (fun v_20 m_20 sz h_20 => ?_)) rfl
    obtain ⟨rfl, hm_20⟩ := h_20
    obtain rfl := hm_20.symm
    rw [← ha]
    refine V.iload_n (pc := 23) hB dX10_pitch_23 rfl ?_
    refine V.iconst (pc := 24) (v := 1) hB dX10_pitch_24 rfl ?_
    refine V.iconst (pc := 25) (v := 1) hB dX10_pitch_25 rfl ?_
    refine V.cv (pc := 26) hB cw_X10_holds wm_X10_47 wi_X10_holds ws_X10_holds dX10_pitch_26 (c_X10_holds hG) (hp_at (ca_Model _)) fk_Model rfl (by omega) (by decide) rfl (by exact Nat.le_of_ble_eq_true rfl) (by omega) (by omega) kN (kI (fun v_26 m_26 sz h_26 => ?_)) rfl
    obtain ⟨rfl, hm_26⟩ := h_26
    subst hm_26
    rw [ht, thrV_b2]
    refine V.if_eq (pc := 29) (tgt := 41) hB dX10_pitch_29 (by decide) (fun c_29 => ?_) (fun c_29 => ?_)
    · have hab : a = false ∨ (a = true ∧ b = false) := by
        cases a <;> cases b
        · exact Or.inl rfl
        · exact Or.inl rfl
        · exact Or.inr ⟨rfl, rfl⟩
        · exact absurd c_29 (by decide)
      refine V.iconst (pc := 41) (v := 0) hB dX10_pitch_41 rfl ?_
      refine V.retI (pc := 42) hB dX10_pitch_42 rfl (rfl) (by omega) (by omega) ?_
      refine Or.inr ⟨rfl, _, ?_, rfl⟩
      rcases hab with e | ⟨e, e2⟩
      · refine Or.inl ⟨?_, by rw [e]; rfl⟩
        unfold ringF
        rw [if_neg (fun z => by have := hiy.mpr z; rw [e] at this; exact absurd this (by decide))]
      · refine Or.inr ⟨?_, by rw [e, e2]; rfl⟩
        have hin := hiy.mp e
        obtain ⟨j, hxe, hj, hjc⟩ := idx_j hin.1 (by have := hR.2.1.nl5; omega)
        have hq := hin.2
        have h8 := (hR.2.1.ln hj).2
        rw [hjc] at hq
        obtain ⟨q, hye, hq, hqc⟩ := idx_j hq (by omega)
        have hbv : ¬ M.1 (LK 0 j + 2) q < 0 := by
          have := hb.symm.trans e2
          rw [hxe, hye, hR.ol hj hq (by omega)] at this
          exact of_decide_eq_false this
        have ht0 : M.1 (LK 0 j + 2) q = 0 := Int32.le_antisymm (hV.1 j hj q hq).2.2 (Int32.not_lt.mp hbv)
        unfold ringF
        rw [if_pos hin, hjc, hqc, if_pos ht0]
    · have hab : a = true ∧ b = true := by
        cases a <;> cases b
        · exact absurd rfl c_29
        · exact absurd rfl c_29
        · exact absurd rfl c_29
        · exact ⟨rfl, rfl⟩
      have hin := hiy.mp hab.1
      obtain ⟨j, hxe, hj, hjc⟩ := idx_j hin.1 (by have := hR.2.1.nl5; omega)
      have hq := hin.2
      have h8 := (hR.2.1.ln hj).2
      rw [hjc] at hq
      obtain ⟨q, hye, hq, hqc⟩ := idx_j hq (by omega)
      have ho0 : olV (m.1 364) x y 0 = M.1 (LK 0 j + 1) q := by rw [hxe, hye, hR.ol hj hq (by omega)]
      have ho1 : olV (m.1 364) x y 1 = M.1 (LK 0 j + 2) q := by rw [hxe, hye, hR.ol hj hq (by omega)]
      have hvb := hV.1 j hj q hq
      have htn : ¬ M.1 (LK 0 j + 2) q = 0 := by
        have := hb.symm.trans hab.2
        rw [ho1] at this
        intro z
        rw [z] at this
        exact absurd this (by decide)
      have hf : ringF M 0 x y = 45 := by
        unfold ringF
        rw [if_pos hin, hjc, hqc, if_neg htn]
      rw [hab.1, hab.2]
      rw [show (if true = false then (1 : Int32) else if true = false then 2 else 0) = 0 from rfl]
      refine V.aload_n (pc := 32) hB dX10_pitch_32 rfl ?_
      refine V.iload_n (pc := 33) hB dX10_pitch_33 rfl ?_
      refine V.iload_n (pc := 34) hB dX10_pitch_34 rfl ?_
      refine V.cv (pc := 35) hB cw_X10_pitchOf wm_X10_122 wi_X10_pitchOf ws_X10_pitchOf dX10_pitch_35 (c_X10_pitchOf hG (m := up m 363 15 0) (by rw [th_row]; exact hM) (by rw [th_row, ho0]; intro z; rw [z] at hvb; exact absurd hvb.1.1 (by decide))) (hp_at (ca_Model _)) fk_Model rfl (by omega) (by decide) rfl (by exact Nat.le_of_ble_eq_true rfl) (by omega) (by omega) kN (kI (fun v_35 m_35 sz h_35 => ?_)) rfl
      obtain ⟨rfl, hm_35⟩ := h_35
      obtain rfl := hm_35.symm
      rw [th_row, ho0, ho1, pitch_eq (K := M.1 (LK 0 j + 1)) (T := M.1 (LK 0 j + 2)) (q := q) hvb.1.1]
      refine V.goto (pc := 38) (tgt := 42) hB dX10_pitch_38 (by decide) ?_
      refine V.retI (pc := 42) hB dX10_pitch_42 rfl (rfl) (by omega) (by omega) ?_
      exact Or.inl ⟨hf, by rw [hjc, hqc], rfl⟩
  refine V.aload_n (pc := 0) hB dX10_pitch_0 rfl ?_
  refine V.iload_n (pc := 1) hB dX10_pitch_1 rfl ?_
  refine V.iload_n (pc := 2) hB dX10_pitch_2 rfl ?_
  refine V.iconst (pc := 3) (v := 1) hB dX10_pitch_3 rfl ?_
  refine V.cv (pc := 4) hB cw_X10_ofLayer wm_X10_88 wi_X10_ofLayer ws_X10_ofLayer dX10_pitch_4 (c_X10_ofLayer hG hM (k := 1) (by decide) rfl) (hp_at (ca_Model _)) fk_Model rfl (by omega) (by decide) rfl (by exact Nat.le_of_ble_eq_true rfl) (by omega) (by omega) kN (kI (fun v_4 m_4 sz h_4 => ?_)) rfl
  obtain ⟨rfl, hm_4⟩ := h_4
  obtain rfl := hm_4.symm
  refine V.if_ge (pc := 7) (tgt := 14) hB dX10_pitch_7 (by decide) (fun c_7 => ?_) (fun c_7 => ?_)
  · have hb0 : (0 : Int32) = if b = true then 1 else 0 := by rw [hb, if_neg]; rw [decide_eq_false (Int32.not_lt.mpr c_7)]; decide
    refine V.iconst (pc := 14) (v := 0) hB dX10_pitch_14 rfl ?_
    exact join sz _ hb0
  · have hb0 : (1 : Int32) = if b = true then 1 else 0 := by rw [hb, if_pos]; exact decide_eq_true (Int32.not_le.mp c_7)
    refine V.iconst (pc := 10) (v := 1) hB dX10_pitch_10 rfl ?_
    refine V.goto (pc := 11) (tgt := 15) hB dX10_pitch_11 (by decide) ?_
    exact join sz _ hb0

set_option maxRecDepth 100000 in
set_option maxHeartbeats 1000000 in
theorem c_X10_layerAt {g : xG} (hG : GK g) {m M : Mem} (hR : RM (m.1 364) M 0) {x z : Int32} : CC g yX10_layerAt (.code yX10_layerAt cX10_layerAt 6 (some .int)) 6 0 0 [.ref (ad g 363), .int x, .int z] m (rI (fun v m2 => (inL M x ∧ v = (lcV (M.1 (LK 0 x.toNatClampNeg + 1)) z (nLy M 0 x.toNatClampNeg)) ∧ ¬ v = -1 ∧ m2 = up m 363 15 0) ∨ (v = 0 ∧ ∃ t, ((¬ inL M x ∧ t = 1) ∨ (inL M x ∧ (lcV (M.1 (LK 0 x.toNatClampNeg + 1)) z (nLy M 0 x.toNatClampNeg)) = -1 ∧ t = 2)) ∧ m2 = up m 363 15 t))) noX := by
  have hM := hR.1
  have hY8 := mY_8 hM x
  obtain ⟨K, hK⟩ : ∃ K : Nat → Int32, K = fun y => olV (m.1 364) x (nI y) 0 := ⟨_, rfl⟩
  obtain ⟨a, ha⟩ : ∃ a, a = islB (m.1 364) x := ⟨_, rfl⟩
  have hil := hR.isl x
  rw [← ha] at hil
  have hLV : inL M x → lcV K z (mY (m.1 364) (lkI (m.1 364) x)) = (lcV (M.1 (LK 0 x.toNatClampNeg + 1)) z (nLy M 0 x.toNatClampNeg)) := fun h => by
    obtain ⟨j, hxe, hj, hjc⟩ := idx_j h (by have := hR.2.1.nl5; omega)
    rw [hjc, hK, hxe, lkI_j (by rw [hR.2.2.1]; exact hj) hM.1.2, (hR.2.2.2.2.1 j hj).1]
    exact lcV_eq _ (fun y hy => hR.ol hj hy (by omega))
  refine CC.mk hG RX10 rfl (by decide +kernel) rfl (Nat.le_of_ble_eq_true rfl) (fun sz B hB hX => ?_)
  show V g B 0 0 _ (hp g m) sz 0 [some (.ref (ad g 363)), some (.int x), some (.int z), none, none, none] []
  have join : ∀ (sz : Nat) (fv : Int32) (x4 x5 : Option Value) (b : Bool) (u : Int32), b = decide (¬ fv = -1) → u = (if b = true then 1 else 0) → fv = lcV K z (mY (m.1 364) (lkI (m.1 364) x)) → V g B 0 0 (QM g B 0 0 (rI (fun v m2 => (inL M x ∧ v = (lcV (M.1 (LK 0 x.toNatClampNeg + 1)) z (nLy M 0 x.toNatClampNeg)) ∧ ¬ v = -1 ∧ m2 = up m 363 15 0) ∨ (v = 0 ∧ ∃ t, ((¬ inL M x ∧ t = 1) ∨ (inL M x ∧ (lcV (M.1 (LK 0 x.toNatClampNeg + 1)) z (nLy M 0 x.toNatClampNeg)) = -1 ∧ t = 2)) ∧ m2 = up m 363 15 t))) noX) (hp g (m)) sz 76 [some (.ref (ad g 363)), some (.int x), some (.int z), some (.int fv), x4, x5] [.int u, .int (if a = true then 1 else 0), .ref (ad g 363)] := by
    intro sz fv x4 x5 b u hb hu hfv
    refine V.iconst (pc := 76) (v := 1) hB dX10_layerAt_76 rfl ?_
    refine V.iconst (pc := 77) (v := 1) hB dX10_layerAt_77 rfl ?_
    refine V.cv (pc := 78) hB cw_X10_holds wm_X10_47 wi_X10_holds ws_X10_holds dX10_layerAt_78 (c_X10_holds hG) (hp_at (ca_Model _)) fk_Model rfl (by omega) (by decide) rfl (by exact Nat.le_of_ble_eq_true rfl) (by omega) (by omega) kN (kI (fun v_78 m_78 sz h_78 => ?_)) rfl
    obtain ⟨rfl, hm_78⟩ := h_78
    subst hm_78
    rw [hu, thrV_b2]
    refine V.if_eq (pc := 81) (tgt := 88) hB dX10_layerAt_81 (by decide) (fun c_81 => ?_) (fun c_81 => ?_)
    · have hab : a = false ∨ (a = true ∧ b = false) := by
        cases a
        · exact Or.inl rfl
        · cases hb2 : b
          · exact Or.inr ⟨rfl, rfl⟩
          · rw [hb2] at c_81; exact absurd c_81 (by decide)
      refine V.iconst (pc := 88) (v := 0) hB dX10_layerAt_88 rfl ?_
      refine V.retI (pc := 89) hB dX10_layerAt_89 rfl (rfl) (by omega) (by omega) ?_
      refine Or.inr ⟨rfl, _, ?_, rfl⟩
      rcases hab with e | ⟨e, e2⟩
      · exact Or.inl ⟨fun w => by rw [hil.mpr w] at e; exact absurd e (by decide), by rw [e]; rfl⟩
      · have hin := hil.mp e
        have hf1 : fv = -1 := Classical.not_not.mp (of_decide_eq_false (hb.symm.trans e2))
        exact Or.inr ⟨hin, (hLV hin).symm.trans (hfv.symm.trans hf1), by rw [e, e2]; rfl⟩
    · have hab : a = true ∧ b = true := by
        cases a
        · exact absurd rfl c_81
        · cases hb2 : b
          · rw [hb2] at c_81; exact absurd rfl c_81
          · exact ⟨rfl, rfl⟩
      refine V.iload_n (pc := 84) hB dX10_layerAt_84 rfl ?_
      refine V.goto (pc := 85) (tgt := 89) hB dX10_layerAt_85 (by decide) ?_
      refine V.retI (pc := 89) hB dX10_layerAt_89 rfl (rfl) (by omega) (by omega) ?_
      obtain ⟨e, e2⟩ := hab
      have hin := hil.mp e
      exact Or.inl ⟨hin, hfv.trans (hLV hin), of_decide_eq_true (hb.symm.trans e2), by rw [e, e2]; rfl⟩
  have loop : ∀ q : Nat, q ≤ (mY (m.1 364) (lkI (m.1 364) x)) → ∀ (sz : Nat), V g B 0 0 (QM g B 0 0 (rI (fun v m2 => (inL M x ∧ v = (lcV (M.1 (LK 0 x.toNatClampNeg + 1)) z (nLy M 0 x.toNatClampNeg)) ∧ ¬ v = -1 ∧ m2 = up m 363 15 0) ∨ (v = 0 ∧ ∃ t, ((¬ inL M x ∧ t = 1) ∨ (inL M x ∧ (lcV (M.1 (LK 0 x.toNatClampNeg + 1)) z (nLy M 0 x.toNatClampNeg)) = -1 ∧ t = 2)) ∧ m2 = up m 363 15 t))) noX) (hp g (m)) sz 8 [some (.ref (ad g 363)), some (.int x), some (.int z), some (.int (lcV K z q)), some (.int (l_sum K q)), some (.int (nI q))] [] := by
    refine loop_up (fun q hq ih => ?_)
    intro sz
    refine V.iload (pc := 8) hB dX10_layerAt_8 rfl ?_
    refine V.aload_n (pc := 10) hB dX10_layerAt_10 rfl ?_
    refine V.iload_n (pc := 11) hB dX10_layerAt_11 rfl ?_
    refine V.iconst (pc := 12) (v := 2) hB dX10_layerAt_12 rfl ?_
    refine V.cv (pc := 13) hB cw_X10_of wm_X10_77 wi_X10_of ws_X10_of dX10_layerAt_13 (c_X10_of hG hM (k := 2) (by decide) rfl) (hp_at (ca_Model _)) fk_Model rfl (by omega) (by decide) rfl (by exact Nat.le_of_ble_eq_true rfl) (by omega) (by omega) kN (kI (fun v_13 m_13 sz h_13 => ?_)) rfl
    obtain ⟨rfl, hm_13⟩ := h_13
    obtain rfl := hm_13.symm
    rw [ofV_2 hM]
    refine V.icmp_ge (pc := 16) (tgt := 60) hB dX10_layerAt_16 (by decide) (fun c_16 => ?_) (fun c_16 => ?_)
    · have hqn : q = (mY (m.1 364) (lkI (m.1 364) x)) := by have := (nI_leI (by omega) (by omega)).mp c_16; omega
      rw [hqn]
      obtain ⟨b, hb⟩ : ∃ b, b = decide (¬ lcV K z (mY (m.1 364) (lkI (m.1 364) x)) = -1) := ⟨_, rfl⟩
      refine V.aload_n (pc := 60) hB dX10_layerAt_60 rfl ?_
      refine V.aload_n (pc := 61) hB dX10_layerAt_61 rfl ?_
      refine V.iload_n (pc := 62) hB dX10_layerAt_62 rfl ?_
      refine V.cv (pc := 63) hB cw_X10_isLake wm_X10_73 wi_X10_isLake ws_X10_isLake dX10_layerAt_63 (c_X10_isLake hG hM) (hp_at (ca_Model _)) fk_Model rfl (by omega) (by decide) rfl (by exact Nat.le_of_ble_eq_true rfl) (by omega) (by omega) kN (kI (fun v_63 m_63 sz h_63 => ?_)) rfl
      obtain ⟨rfl, hm_63⟩ := h_63
      obtain rfl := hm_63.symm
      rw [← ha]
      refine V.iload_n (pc := 66) hB dX10_layerAt_66 rfl ?_
      refine V.iconst (pc := 67) (v := (-1)) hB dX10_layerAt_67 rfl ?_
      refine V.icmp_eq (pc := 68) (tgt := 75) hB dX10_layerAt_68 (by decide) (fun c_68 => ?_) (fun c_68 => ?_)
      · have hu : (0 : Int32) = if b = true then 1 else 0 := by rw [hb, decide_eq_false (fun w => w c_68)]; rfl
        refine V.iconst (pc := 75) (v := 0) hB dX10_layerAt_75 rfl ?_
        exact join sz _ _ _ b _ hb hu rfl
      · have hu : (1 : Int32) = if b = true then 1 else 0 := by rw [hb, decide_eq_true c_68]; rfl
        refine V.iconst (pc := 71) (v := 1) hB dX10_layerAt_71 rfl ?_
        refine V.goto (pc := 72) (tgt := 76) hB dX10_layerAt_72 (by decide) ?_
        exact join sz _ _ _ b _ hb hu rfl
    · have hlt : q < (mY (m.1 364) (lkI (m.1 364) x)) := Nat.not_le.mp (fun w => c_16 ((nI_leI (by omega) (by omega)).mpr w))
      refine V.iload (pc := 19) hB dX10_layerAt_19 rfl ?_
      refine V.aload_n (pc := 21) hB dX10_layerAt_21 rfl ?_
      refine V.iload_n (pc := 22) hB dX10_layerAt_22 rfl ?_
      refine V.iload (pc := 23) hB dX10_layerAt_23 rfl ?_
      refine V.iconst (pc := 25) (v := 0) hB dX10_layerAt_25 rfl ?_
      refine V.cv (pc := 26) hB cw_X10_ofLayer wm_X10_88 wi_X10_ofLayer ws_X10_ofLayer dX10_layerAt_26 (c_X10_ofLayer hG hM (k := 0) (by decide) rfl) (hp_at (ca_Model _)) fk_Model rfl (by omega) (by decide) rfl (by exact Nat.le_of_ble_eq_true rfl) (by omega) (by omega) kN (kI (fun v_26 m_26 sz h_26 => ?_)) rfl
      obtain ⟨rfl, hm_26⟩ := h_26
      obtain rfl := hm_26.symm
      have nxt := ih hlt sz
      refine V.iadd (pc := 29) hB dX10_layerAt_29 ?_
      rw [show l_sum K q + olV (m.1 364) x (nI q) 0 = l_sum K (q + 1) by rw [hK]; rfl]
      refine V.istore (pc := 30) hB dX10_layerAt_30 (by decide) rfl ?_
      refine V.iload_n (pc := 32) hB dX10_layerAt_32 rfl ?_
      refine V.iconst (pc := 33) (v := (-1)) hB dX10_layerAt_33 rfl ?_
      refine V.icmp_ne (pc := 34) (tgt := 52) hB dX10_layerAt_34 (by decide) (fun c_34 => ?_) (fun c_34 => ?_)
      · have hs : lcV K z (q + 1) = lcV K z q := by rw [lcV_step, if_neg (fun w => c_34 w.1)]
        rw [hs] at nxt
        refine V.iload_n (pc := 52) hB dX10_layerAt_52 rfl ?_
        refine V.istore_n (pc := 53) hB dX10_layerAt_53 (by decide) rfl ?_
        refine V.iinc (pc := 54) (v := nI (q + 1)) hB dX10_layerAt_54 rfl (nI_1 _) (by decide) rfl ?_
        refine V.goto (pc := 57) (tgt := 8) hB dX10_layerAt_57 (by decide) ?_
        exact nxt
      · refine V.iload_n (pc := 37) hB dX10_layerAt_37 rfl ?_
        refine V.if_lt (pc := 38) (tgt := 52) hB dX10_layerAt_38 (by decide) (fun c_38 => ?_) (fun c_38 => ?_)
        · have hs : lcV K z (q + 1) = lcV K z q := by rw [lcV_step, if_neg (fun w => w.2.1 c_38)]
          rw [hs] at nxt
          refine V.iload_n (pc := 52) hB dX10_layerAt_52 rfl ?_
          refine V.istore_n (pc := 53) hB dX10_layerAt_53 (by decide) rfl ?_
          refine V.iinc (pc := 54) (v := nI (q + 1)) hB dX10_layerAt_54 rfl (nI_1 _) (by decide) rfl ?_
          refine V.goto (pc := 57) (tgt := 8) hB dX10_layerAt_57 (by decide) ?_
          exact nxt
        · refine V.iload_n (pc := 41) hB dX10_layerAt_41 rfl ?_
          refine V.iload (pc := 42) hB dX10_layerAt_42 rfl ?_
          refine V.icmp_ge (pc := 44) (tgt := 52) hB dX10_layerAt_44 (by decide) (fun c_44 => ?_) (fun c_44 => ?_)
          · have hs : lcV K z (q + 1) = lcV K z q := by rw [lcV_step, if_neg (fun w => Int32.not_lt.mpr c_44 w.2.2)]
            rw [hs] at nxt
            refine V.iload_n (pc := 52) hB dX10_layerAt_52 rfl ?_
            refine V.istore_n (pc := 53) hB dX10_layerAt_53 (by decide) rfl ?_
            refine V.iinc (pc := 54) (v := nI (q + 1)) hB dX10_layerAt_54 rfl (nI_1 _) (by decide) rfl ?_
            refine V.goto (pc := 57) (tgt := 8) hB dX10_layerAt_57 (by decide) ?_
            exact nxt
          · have hs : lcV K z (q + 1) = nI q := by rw [lcV_step, if_pos ⟨c_34, c_38, Int32.not_le.mp c_44⟩]
            rw [hs] at nxt
            refine V.iload (pc := 47) hB dX10_layerAt_47 rfl ?_
            refine V.goto (pc := 49) (tgt := 53) hB dX10_layerAt_49 (by decide) ?_
            refine V.istore_n (pc := 53) hB dX10_layerAt_53 (by decide) rfl ?_
            refine V.iinc (pc := 54) (v := nI (q + 1)) hB dX10_layerAt_54 rfl (nI_1 _) (by decide) rfl ?_
            refine V.goto (pc := 57) (tgt := 8) hB dX10_layerAt_57 (by decide) ?_
            exact nxt
  refine V.iconst (pc := 0) (v := (-1)) hB dX10_layerAt_0 rfl ?_
  refine V.istore_n (pc := 1) hB dX10_layerAt_1 (by decide) rfl ?_
  refine V.iconst (pc := 2) (v := 0) hB dX10_layerAt_2 rfl ?_
  refine V.istore (pc := 3) hB dX10_layerAt_3 (by decide) rfl ?_
  refine V.iconst (pc := 5) (v := 0) hB dX10_layerAt_5 rfl ?_
  refine V.istore (pc := 6) hB dX10_layerAt_6 (by decide) rfl ?_
  have h0 : lcV K z 0 = -1 := by unfold lcV; split <;> rfl
  have nx := loop 0 (by omega) sz
  rw [h0] at nx
  exact nx

set_option maxRecDepth 100000 in
set_option maxHeartbeats 1000000 in
theorem c_X10_crackTotal {g : xG} (hG : GK g) {m M : Mem} (hR : RM (m.1 364) M 0) : CC g yX10_crackTotal (.code yX10_crackTotal cX10_crackTotal 3 (some .int)) 4 0 0 [.ref (ad g 363)] m (rI (fun v m2 => v = l_sum (fun j => M.1 (LK 0 j) 5) (nLk M 0) ∧ m2 = up m 363 15 0)) noX := by
  have h5 := hR.2.1.nl5
  have hR0 : RM ((up m 363 15 0).1 364) M 0 := by rw [th_row]; exact hR
  refine CC.mk hG RX10 rfl (by decide +kernel) rfl (Nat.le_of_ble_eq_true rfl) (fun sz B hB hX => ?_)
  show V g B 0 0 _ (hp g m) sz 0 [some (.ref (ad g 363)), none, none] []
  have loop : ∀ q : Nat, q ≤ nLk M 0 → ∀ (sz : Nat), V g B 0 0 (QM g B 0 0 (rI (fun v m2 => v = l_sum (fun j => M.1 (LK 0 j) 5) (nLk M 0) ∧ m2 = up m 363 15 0)) noX) (hp g (up m 363 15 0)) sz 9 [some (.ref (ad g 363)), some (.int (l_sum (fun j => M.1 (LK 0 j) 5) q)), some (.int (nI q))] [] := by
    refine loop_up (fun q hq ih => ?_)
    intro sz
    refine V.iload_n (pc := 9) hB dX10_crackTotal_9 rfl ?_
    refine V.aload_n (pc := 10) hB dX10_crackTotal_10 rfl ?_
    refine V.get (pc := 11) hB fk_Model 0 wf_X10_9 dX10_crackTotal_11 (by decide) (hp_at (ca_Model _)) rfl ?_
    refine V.iconst (pc := 14) (v := 2) hB dX10_crackTotal_14 rfl ?_
    refine V.ialdM (pc := 15) hB (ca_Now) dX10_crackTotal_15 (ix_nI (q := 2) (N := 218) (by decide) (by decide)) ?_
    rw [show (up m 363 15 0).1 364 2 = nI (nLk M 0) from hR0.1.1.1.trans (congrArg nI hR0.2.2.1)]
    refine V.icmp_ge (pc := 16) (tgt := 34) hB dX10_crackTotal_16 (by decide) (fun c_16 => ?_) (fun c_16 => ?_)
    · have hqn : q = nLk M 0 := by have := (nI_leI (by omega) (by omega)).mp c_16; omega
      refine V.iload_n (pc := 34) hB dX10_crackTotal_34 rfl ?_
      refine V.retI (pc := 35) hB dX10_crackTotal_35 rfl (rfl) (by omega) (by omega) ?_
      rw [hqn]
      exact ⟨rfl, rfl⟩
    · have hlt : q < nLk M 0 := Nat.not_le.mp (fun w => c_16 ((nI_leI (by omega) (by omega)).mpr w))
      refine V.iload_n (pc := 19) hB dX10_crackTotal_19 rfl ?_
      refine V.aload_n (pc := 20) hB dX10_crackTotal_20 rfl ?_
      refine V.iload_n (pc := 21) hB dX10_crackTotal_21 rfl ?_
      refine V.iconst (pc := 22) (v := 1) hB dX10_crackTotal_22 rfl ?_
      refine V.cv (pc := 23) hB cw_X10_of wm_X10_77 wi_X10_of ws_X10_of dX10_crackTotal_23 (c_X10_of hG hR0.1 (k := 1) (by decide) rfl) (hp_at (ca_Model _)) fk_Model rfl (by omega) (by decide) rfl (by exact Nat.le_of_ble_eq_true rfl) (by omega) (by omega) kN (kI (fun v_23 m_23 sz h_23 => ?_)) rfl
      obtain ⟨rfl, hm_23⟩ := h_23
      obtain rfl := hm_23.symm
      rw [hR0.crk' hlt]
      refine V.iadd (pc := 26) hB dX10_crackTotal_26 ?_
      refine V.istore_n (pc := 27) hB dX10_crackTotal_27 (by decide) rfl ?_
      refine V.iinc (pc := 28) (v := nI (q + 1)) hB dX10_crackTotal_28 rfl (nI_1 _) (by decide) rfl ?_
      refine V.goto (pc := 31) (tgt := 9) hB dX10_crackTotal_31 (by decide) ?_
      exact ih hlt sz
  refine V.aload_n (pc := 0) hB dX10_crackTotal_0 rfl ?_
  refine V.iconst (pc := 1) (v := 0) hB dX10_crackTotal_1 rfl ?_
  refine V.p_Model_f15 (pc := 2) hB wf_X10_44 dX10_crackTotal_2 ?_
  refine V.iconst (pc := 5) (v := 0) hB dX10_crackTotal_5 rfl ?_
  refine V.istore_n (pc := 6) hB dX10_crackTotal_6 (by decide) rfl ?_
  refine V.iconst (pc := 7) (v := 0) hB dX10_crackTotal_7 rfl ?_
  refine V.istore_n (pc := 8) hB dX10_crackTotal_8 (by decide) rfl ?_
  exact loop 0 (by omega) sz
