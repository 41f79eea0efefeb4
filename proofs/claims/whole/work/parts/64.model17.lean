/-! the reference's quotients -/
section VC0
variable {g : xG} {B : BT} {k n : Nat} {Q : State → Prop} {sz pc : Nat} {ls : List (Option Value)} {st : List Value} {cc : ByteArray} {nL : Nat} {own : String} {ret : Option FieldType} {d mc ms : Nat} {h : xH}
theorem V.dconst0 (hB : Bd g B cc nL own ret d mc ms) (hd : decode cc pc = .ok (.dconst 0, 1)) (kk : V g B k n Q h sz (pc + 1) ls (.double FP.dconst0 :: st)) : V g B k n Q h sz pc ls (st) := by
  obtain ⟨p, l, e, R, s, m, args, below, meth, c⟩ := B
  obtain ⟨hx, hb, hml, hown, hr, hlk, hG, hW, hR, hfl⟩ := hB
  intro H locs A hz hl0
  exact lv_dconst0 hx hb hd (kk H locs A hz hl0)
theorem V.fconst0 (hB : Bd g B cc nL own ret d mc ms) (hd : decode cc pc = .ok (.fconst 0, 1)) (kk : V g B k n Q h sz (pc + 1) ls (.float FP.fconst0 :: st)) : V g B k n Q h sz pc ls (st) := by
  obtain ⟨p, l, e, R, s, m, args, below, meth, c⟩ := B
  obtain ⟨hx, hb, hml, hown, hr, hlk, hG, hW, hR, hfl⟩ := hB
  intro H locs A hz hl0
  exact lv_fconst0 hx hb hd (kk H locs A hz hl0)
end VC0
theorem tsum_nat {K T : Nat → Int32} : ∀ N, VB K T N → ∃ s, l_sum T N = 0 - nI s ∧ s ≤ 40 * N
  | 0, _ => ⟨0, rfl, Nat.le_refl 0⟩
  | n + 1, h => by
    obtain ⟨s, h1, h3⟩ := tsum_nat n (fun y hy => h y (by omega))
    obtain ⟨t, ht, e⟩ := off40 (h n (by omega)).2.1 (Int32.le_trans (h n (by omega)).2.2 (by decide))
    have b := (h n (by omega)).2.2
    rw [e] at b
    have G : ∀ t : Fin 61, nI t.1 - 40 ≤ 0 → t.1 ≤ 40 ∧ nI t.1 - 40 = 0 - nI (40 - t.1) := by decide +kernel
    obtain ⟨g1, g2⟩ := G ⟨t, ht⟩ b
    have g1 : t ≤ 40 := g1
    have g2 : nI t - 40 = 0 - nI (40 - t) := g2
    refine ⟨s + (40 - t), ?_, by omega⟩
    show l_sum T n + T n = _
    rw [h1, e, g2, ← nI_add]
    rw [Int32.zero_sub, Int32.zero_sub, Int32.zero_sub, Int32.neg_add, Int32.sub_eq_add_neg]
theorem XL.n32 {M : Mem} (h : XL M 0) (hL : LW M 0) {x : Int32} (hx : inL M x) : vf_n32 (FP.fdiv (FP.i2f (iceV M 0 x.toNatClampNeg)) (FP.i2f (M.1 (LK 0 x.toNatClampNeg) 4))) := by
  obtain ⟨j, hxe, hj, hjc⟩ := idx_j hx (by have := hL.nl5; omega)
  rw [hjc]
  have h8 := (hL.ln hj).2
  obtain ⟨s, hs, _, hs2⟩ := ice_nat _ (h.1.1 j hj)
  obtain ⟨d1, d2, d3⟩ := h.2.2.2.1 j hj
  obtain ⟨b, hb, e⟩ := nI_of (x := M.1 (LK 0 j) 4) (Int32.not_lt.mpr (Int32.le_trans (show (0 : Int32) ≤ 20 by decide) d1))
  rw [show iceV M 0 j = nI s from hs] at d3 ⊢
  rw [e] at d1 d2 d3 ⊢
  have b1 := (nI_leI (a := 20) (by decide) (by omega)).mp d1
  have b2 := (nI_leI (b := 400) (by omega) (by decide)).mp d2
  rw [show (2 : Int32) * nI s = nI (2 * s) from nI_mulN 2 s] at d3
  have b3 := (nI_leI (by omega) (by omega)).mp d3
  exact nn32 (by omega) b1 b2
theorem XL.n64 {M : Mem} (h : XL M 0) (hL : LW M 0) {x : Int32} (hx : inL M x) (h0 : ¬ nLy M 0 x.toNatClampNeg = 0) : vf_n64 (FP.ddiv (FP.i2d (l_sum (M.1 (LK 0 x.toNatClampNeg + 2)) (nLy M 0 x.toNatClampNeg))) (FP.i2d (M.1 (LK 0 x.toNatClampNeg) 3))) := by
  obtain ⟨j, hxe, hj, hjc⟩ := idx_j hx (by have := hL.nl5; omega)
  rw [hjc] at h0 ⊢
  have h8 := (hL.ln hj).2
  obtain ⟨s, hs, hs2⟩ := tsum_nat _ (h.1.1 j hj)
  rw [hs, (hL.ln hj).1]
  exact nn64 (by omega) (by omega) h8

set_option maxRecDepth 100000 in
set_option maxHeartbeats 1000000 in
theorem c_X10_iceShare {g : xG} (hG : GK g) {m M : Mem} (hR : RM (m.1 364) M 0) (hXL : XL M 0) {x : Int32} : CC g yX10_iceShare (.code yX10_iceShare cX10_iceShare 2 (some .float)) 7 0 0 [.ref (ad g 363), .int x] m (rF (fun v m2 => (inL M x ∧ v = FP.fdiv (FP.i2f (iceV M 0 x.toNatClampNeg)) (FP.i2f (M.1 (LK 0 x.toNatClampNeg) 4)) ∧ m2 = up m 363 15 0) ∨ (¬ inL M x ∧ m2 = up m 363 15 1))) noX := by
  obtain ⟨a, ha⟩ : ∃ a, a = islB (m.1 364) x := ⟨_, rfl⟩
  have hai : a = true ↔ inL M x := by rw [ha]; exact hR.isl x
  refine CC.mk hG RX10 rfl (by decide +kernel) rfl (Nat.le_of_ble_eq_true rfl) (fun sz B hB hX => ?_)
  show V g B 0 0 _ (hp g m) sz 0 [some (.ref (ad g 363)), some (.int x)] []
  refine V.aload_n (pc := 0) hB dX10_iceShare_0 rfl ?_
  refine V.aload_n (pc := 1) hB dX10_iceShare_1 rfl ?_
  refine V.iload_n (pc := 2) hB dX10_iceShare_2 rfl ?_
  refine V.cv (pc := 3) hB cw_X10_isLake wm_X10_73 wi_X10_isLake ws_X10_isLake dX10_iceShare_3 (c_X10_isLake hG hR.1) (hp_at (ca_Model _)) fk_Model rfl (by omega) (by decide) rfl (by exact Nat.le_of_ble_eq_true rfl) (by omega) (by omega) kN (kI (fun v_3 m_3 sz h_3 => ?_)) rfl
  obtain ⟨rfl, hm_3⟩ := h_3
  obtain rfl := hm_3.symm
  rw [← ha]
  refine V.cv (pc := 6) hB cw_X10_goes wm_X10_61 wi_X10_goes ws_X10_goes dX10_iceShare_6 (c_X10_goes hG) (hp_at (ca_Model _)) fk_Model rfl (by omega) (by decide) rfl (by exact Nat.le_of_ble_eq_true rfl) (by omega) (by omega) kN (kI (fun v_6 m_6 sz h_6 => ?_)) rfl
  obtain ⟨rfl, hm_6⟩ := h_6
  subst hm_6
  rw [thrV_b1]
  refine V.if_eq (pc := 9) (tgt := 29) hB dX10_iceShare_9 (by decide) (fun c_9 => ?_) (fun c_9 => ?_)
  · have ha0 : a = false := by
      cases a
      · rfl
      · exact absurd c_9 (by decide)
    rw [ha0, show (if false = false then (1 : Int32) else 0) = 1 from rfl]
    refine V.fconst0 (pc := 29) hB dX10_iceShare_29 ?_
    refine V.retF (pc := 30) hB dX10_iceShare_30 rfl (by omega) (by omega) ?_
    first | exact Or.inl ⟨hai.mp ha1, rfl, rfl⟩ | exact Or.inr ⟨fun z => by rw [hai.mpr z] at ha0; exact absurd ha0 (by decide), rfl⟩
  · have ha1 : a = true := by
      cases a
      · exact absurd rfl c_9
      · rfl
    rw [ha1, show (if true = false then (1 : Int32) else 0) = 0 from rfl]
    have hin := hai.mp ha1
    obtain ⟨hol, hod⟩ : iceR (m.1 364) x = iceV M 0 x.toNatClampNeg ∧ ofV (m.1 364) x 0 = M.1 (LK 0 x.toNatClampNeg) 4 := by
      obtain ⟨j, hxe, hj, hjc⟩ := idx_j hin (by have := hR.2.1.nl5; omega)
      rw [hjc, hxe]
      exact ⟨hR.ice hj, hR.dep hj⟩
    refine V.aload_n (pc := 12) hB dX10_iceShare_12 rfl ?_
    refine V.iload_n (pc := 13) hB dX10_iceShare_13 rfl ?_
    refine V.cv (pc := 14) hB cw_X10_iceOf wm_X10_107 wi_X10_iceOf ws_X10_iceOf dX10_iceShare_14 (c_X10_iceOf hG (m := up m 363 15 0) (by rw [th_row]; exact hR.1)) (hp_at (ca_Model _)) fk_Model rfl (by omega) (by decide) rfl (by exact Nat.le_of_ble_eq_true rfl) (by omega) (by omega) kN (kI (fun v_14 m_14 sz h_14 => ?_)) rfl
    obtain ⟨rfl, hm_14⟩ := h_14
    obtain rfl := hm_14.symm
    rw [th_row, hol]
    refine V.i2f (pc := 17) hB dX10_iceShare_17 ?_
    refine V.aload_n (pc := 18) hB dX10_iceShare_18 rfl ?_
    refine V.iload_n (pc := 19) hB dX10_iceShare_19 rfl ?_
    refine V.iconst (pc := 20) (v := 0) hB dX10_iceShare_20 rfl ?_
    refine V.cv (pc := 21) hB cw_X10_of wm_X10_77 wi_X10_of ws_X10_of dX10_iceShare_21 (c_X10_of hG (m := up m 363 15 0) (by rw [th_row]; exact hR.1) (k := 0) (by decide) rfl) (hp_at (ca_Model _)) fk_Model rfl (by omega) (by decide) rfl (by exact Nat.le_of_ble_eq_true rfl) (by omega) (by omega) kN (kI (fun v_21 m_21 sz h_21 => ?_)) rfl
    obtain ⟨rfl, hm_21⟩ := h_21
    obtain rfl := hm_21.symm
    rw [th_row, hod]
    refine V.i2f (pc := 24) hB dX10_iceShare_24 ?_
    refine V.fdiv (pc := 25) hB dX10_iceShare_25 (hXL.n32 hR.2.1 hin) ?_
    refine V.goto (pc := 26) (tgt := 30) hB dX10_iceShare_26 (by decide) ?_
    refine V.retF (pc := 30) hB dX10_iceShare_30 rfl (by omega) (by omega) ?_
    first | exact Or.inl ⟨hai.mp ha1, rfl, rfl⟩ | exact Or.inr ⟨fun z => by rw [hai.mpr z] at ha0; exact absurd ha0 (by decide), rfl⟩

set_option maxRecDepth 100000 in
set_option maxHeartbeats 1000000 in
theorem c_X10_meanTemperature {g : xG} (hG : GK g) {m M : Mem} (hR : RM (m.1 364) M 0) (hXL : XL M 0) {x : Int32} : CC g yX10_meanTemperature (.code yX10_meanTemperature cX10_meanTemperature 5 (some .double)) 6 0 0 [.ref (ad g 363), .int x] m (rD (fun v m2 => ((inL M x ∧ ¬ nLy M 0 x.toNatClampNeg = 0) ∧ v = FP.ddiv (FP.i2d (l_sum (M.1 (LK 0 x.toNatClampNeg + 2)) (nLy M 0 x.toNatClampNeg))) (FP.i2d (M.1 (LK 0 x.toNatClampNeg) 3)) ∧ m2 = up m 363 15 0) ∨ (¬ inL M x ∧ m2 = up m 363 15 1) ∨ (inL M x ∧ nLy M 0 x.toNatClampNeg = 0 ∧ m2 = up m 363 15 2))) noX := by
  have hM := hR.1
  have hY8 := mY_8 hM x
  obtain ⟨a, ha⟩ : ∃ a, a = islB (m.1 364) x := ⟨_, rfl⟩
  have hai : a = true ↔ inL M x := by rw [ha]; exact hR.isl x
  obtain ⟨K, hK⟩ : ∃ K : Nat → Int32, K = fun y => olV (m.1 364) x (nI y) 1 := ⟨_, rfl⟩
  have hLV : inL M x → l_sum K (mY (m.1 364) (lkI (m.1 364) x)) = l_sum (M.1 (LK 0 x.toNatClampNeg + 2)) (nLy M 0 x.toNatClampNeg) ∧ (mY (m.1 364) (lkI (m.1 364) x)) = nLy M 0 x.toNatClampNeg ∧ M.1 (LK 0 x.toNatClampNeg) 3 = nI (mY (m.1 364) (lkI (m.1 364) x)) := fun h => by
    obtain ⟨j, hxe, hj, hjc⟩ := idx_j h (by have := hR.2.1.nl5; omega)
    rw [hjc, hK, hxe, lkI_j (by rw [hR.2.2.1]; exact hj) hM.1.2, (hR.2.2.2.2.1 j hj).1]
    exact ⟨sum_eq _ (fun y hy => hR.ol hj hy (by omega)), rfl, (hR.2.1.ln hj).1⟩
  refine CC.mk hG RX10 rfl (by decide +kernel) rfl (Nat.le_of_ble_eq_true rfl) (fun sz B hB hX => ?_)
  show V g B 0 0 _ (hp g m) sz 0 [some (.ref (ad g 363)), some (.int x), none, none, none] []
  have join : ∀ (sz : Nat) (x4 : Option Value) (b : Bool) (u : Int32), b = decide (0 < (mY (m.1 364) (lkI (m.1 364) x))) → u = (if b = true then 1 else 0) → V g B 0 0 (QM g B 0 0 (rD (fun v m2 => ((inL M x ∧ ¬ nLy M 0 x.toNatClampNeg = 0) ∧ v = FP.ddiv (FP.i2d (l_sum (M.1 (LK 0 x.toNatClampNeg + 2)) (nLy M 0 x.toNatClampNeg))) (FP.i2d (M.1 (LK 0 x.toNatClampNeg) 3)) ∧ m2 = up m 363 15 0) ∨ (¬ inL M x ∧ m2 = up m 363 15 1) ∨ (inL M x ∧ nLy M 0 x.toNatClampNeg = 0 ∧ m2 = up m 363 15 2))) noX) (hp g (m)) sz 50 [some (.ref (ad g 363)), some (.int x), some (.int (nI (mY (m.1 364) (lkI (m.1 364) x)))), some (.int (l_sum K (mY (m.1 364) (lkI (m.1 364) x)))), x4] [.int u, .int (if a = true then 1 else 0), .ref (ad g 363)] := by
    intro sz x4 b u hb hu
    refine V.iconst (pc := 50) (v := 1) hB dX10_meanTemperature_50 rfl ?_
    refine V.iconst (pc := 51) (v := 1) hB dX10_meanTemperature_51 rfl ?_
    refine V.cv (pc := 52) hB cw_X10_holds wm_X10_47 wi_X10_holds ws_X10_holds dX10_meanTemperature_52 (c_X10_holds hG) (hp_at (ca_Model _)) fk_Model rfl (by omega) (by decide) rfl (by exact Nat.le_of_ble_eq_true rfl) (by omega) (by omega) kN (kI (fun v_52 m_52 sz h_52 => ?_)) rfl
    obtain ⟨rfl, hm_52⟩ := h_52
    subst hm_52
    rw [hu, thrV_b2]
    refine V.if_eq (pc := 55) (tgt := 66) hB dX10_meanTemperature_55 (by decide) (fun c_55 => ?_) (fun c_55 => ?_)
    · have hab : a = false ∨ (a = true ∧ b = false) := by
        cases a
        · exact Or.inl rfl
        · cases hb2 : b
          · exact Or.inr ⟨rfl, rfl⟩
          · rw [hb2] at c_55; exact absurd c_55 (by decide)
      refine V.dconst0 (pc := 66) hB dX10_meanTemperature_66 ?_
      refine V.retD (pc := 67) hB dX10_meanTemperature_67 rfl (by omega) (by omega) ?_
      rcases hab with e | ⟨e, e2⟩
      · exact Or.inr (Or.inl ⟨fun w => by rw [hai.mpr w] at e; exact absurd e (by decide), by rw [e]; rfl⟩)
      · have hin := hai.mp e
        have hz := of_decide_eq_false (hb.symm.trans e2)
        have hg := (hLV hin).2.1
        exact Or.inr (Or.inr ⟨hin, by omega, by rw [e, e2]; rfl⟩)
    · have hab : a = true ∧ b = true := by
        cases a
        · exact absurd rfl c_55
        · cases hb2 : b
          · rw [hb2] at c_55; exact absurd rfl c_55
          · exact ⟨rfl, rfl⟩
      obtain ⟨e1, e2⟩ := hab
      have hin := hai.mp e1
      obtain ⟨g1, g2, g3⟩ := hLV hin
      have hn0 : ¬ nLy M 0 x.toNatClampNeg = 0 := by
        have := of_decide_eq_true (hb.symm.trans e2)
        omega
      rw [g1, ← g3]
      refine V.iload_n (pc := 58) hB dX10_meanTemperature_58 rfl ?_
      refine V.i2d (pc := 59) hB dX10_meanTemperature_59 ?_
      refine V.iload_n (pc := 60) hB dX10_meanTemperature_60 rfl ?_
      refine V.i2d (pc := 61) hB dX10_meanTemperature_61 ?_
      refine V.ddiv (pc := 62) hB dX10_meanTemperature_62 (hXL.n64 hR.2.1 hin hn0) ?_
      refine V.goto (pc := 63) (tgt := 67) hB dX10_meanTemperature_63 (by decide) ?_
      refine V.retD (pc := 67) hB dX10_meanTemperature_67 rfl (by omega) (by omega) ?_
      exact Or.inl ⟨⟨hin, hn0⟩, rfl, by rw [e1, e2]; rfl⟩
  have loop : ∀ q : Nat, q ≤ (mY (m.1 364) (lkI (m.1 364) x)) → ∀ (sz : Nat), V g B 0 0 (QM g B 0 0 (rD (fun v m2 => ((inL M x ∧ ¬ nLy M 0 x.toNatClampNeg = 0) ∧ v = FP.ddiv (FP.i2d (l_sum (M.1 (LK 0 x.toNatClampNeg + 2)) (nLy M 0 x.toNatClampNeg))) (FP.i2d (M.1 (LK 0 x.toNatClampNeg) 3)) ∧ m2 = up m 363 15 0) ∨ (¬ inL M x ∧ m2 = up m 363 15 1) ∨ (inL M x ∧ nLy M 0 x.toNatClampNeg = 0 ∧ m2 = up m 363 15 2))) noX) (hp g (m)) sz 12 [some (.ref (ad g 363)), some (.int x), some (.int (nI (mY (m.1 364) (lkI (m.1 364) x)))), some (.int (l_sum K q)), some (.int (nI q))] [] := by
    refine loop_up (fun q hq ih => ?_)
    intro sz
    refine V.iload (pc := 12) hB dX10_meanTemperature_12 rfl ?_
    refine V.iload_n (pc := 14) hB dX10_meanTemperature_14 rfl ?_
    refine V.icmp_ge (pc := 15) (tgt := 35) hB dX10_meanTemperature_15 (by decide) (fun c_15 => ?_) (fun c_15 => ?_)
    · have hqn : q = (mY (m.1 364) (lkI (m.1 364) x)) := by have := (nI_leI (by omega) (by omega)).mp c_15; omega
      rw [hqn]
      obtain ⟨b, hb⟩ : ∃ b, b = decide (0 < (mY (m.1 364) (lkI (m.1 364) x))) := ⟨_, rfl⟩
      refine V.aload_n (pc := 35) hB dX10_meanTemperature_35 rfl ?_
      refine V.aload_n (pc := 36) hB dX10_meanTemperature_36 rfl ?_
      refine V.iload_n (pc := 37) hB dX10_meanTemperature_37 rfl ?_
      refine V.cv (pc := 38) hB cw_X10_isLake wm_X10_73 wi_X10_isLake ws_X10_isLake dX10_meanTemperature_38 (c_X10_isLake hG hM) (hp_at (ca_Model _)) fk_Model rfl (by omega) (by decide) rfl (by exact Nat.le_of_ble_eq_true rfl) (by omega) (by omega) kN (kI (fun v_38 m_38 sz h_38 => ?_)) rfl
      obtain ⟨rfl, hm_38⟩ := h_38
      obtain rfl := hm_38.symm
      rw [← ha]
      refine V.iload_n (pc := 41) hB dX10_meanTemperature_41 rfl ?_
      refine V.if_le (pc := 42) (tgt := 49) hB dX10_meanTemperature_42 (by decide) (fun c_42 => ?_) (fun c_42 => ?_)
      · have hu : (0 : Int32) = if b = true then 1 else 0 := by rw [hb, decide_eq_false (by have := (nI_leI (b := 0) (by omega) (by decide)).mp c_42; omega)]; rfl
        refine V.iconst (pc := 49) (v := 0) hB dX10_meanTemperature_49 rfl ?_
        exact join sz _ b _ hb hu
      · have hu : (1 : Int32) = if b = true then 1 else 0 := by rw [hb, decide_eq_true (Nat.pos_of_ne_zero (fun z => c_42 (by rw [z]; decide)))]; rfl
        refine V.iconst (pc := 45) (v := 1) hB dX10_meanTemperature_45 rfl ?_
        refine V.goto (pc := 46) (tgt := 50) hB dX10_meanTemperature_46 (by decide) ?_
        exact join sz _ b _ hb hu
    · have hlt : q < (mY (m.1 364) (lkI (m.1 364) x)) := Nat.not_le.mp (fun w => c_15 ((nI_leI (by omega) (by omega)).mpr w))
      refine V.iload_n (pc := 18) hB dX10_meanTemperature_18 rfl ?_
      refine V.aload_n (pc := 19) hB dX10_meanTemperature_19 rfl ?_
      refine V.iload_n (pc := 20) hB dX10_meanTemperature_20 rfl ?_
      refine V.iload (pc := 21) hB dX10_meanTemperature_21 rfl ?_
      refine V.iconst (pc := 23) (v := 1) hB dX10_meanTemperature_23 rfl ?_
      refine V.cv (pc := 24) hB cw_X10_ofLayer wm_X10_88 wi_X10_ofLayer ws_X10_ofLayer dX10_meanTemperature_24 (c_X10_ofLayer hG hM (k := 1) (by decide) rfl) (hp_at (ca_Model _)) fk_Model rfl (by omega) (by decide) rfl (by exact Nat.le_of_ble_eq_true rfl) (by omega) (by omega) kN (kI (fun v_24 m_24 sz h_24 => ?_)) rfl
      obtain ⟨rfl, hm_24⟩ := h_24
      obtain rfl := hm_24.symm
      have nxt := ih hlt sz
      refine V.iadd (pc := 27) hB dX10_meanTemperature_27 ?_
      rw [show l_sum K q + olV (m.1 364) x (nI q) 1 = l_sum K (q + 1) by rw [hK]; rfl]
      refine V.istore_n (pc := 28) hB dX10_meanTemperature_28 (by decide) rfl ?_
      refine V.iinc (pc := 29) (v := nI (q + 1)) hB dX10_meanTemperature_29 rfl (nI_1 _) (by decide) rfl ?_
      refine V.goto (pc := 32) (tgt := 12) hB dX10_meanTemperature_32 (by decide) ?_
      exact nxt
  refine V.aload_n (pc := 0) hB dX10_meanTemperature_0 rfl ?_
  refine V.iload_n (pc := 1) hB dX10_meanTemperature_1 rfl ?_
  refine V.iconst (pc := 2) (v := 2) hB dX10_meanTemperature_2 rfl ?_
  refine V.cv (pc := 3) hB cw_X10_of wm_X10_77 wi_X10_of ws_X10_of dX10_meanTemperature_3 (c_X10_of hG hM (k := 2) (by decide) rfl) (hp_at (ca_Model _)) fk_Model rfl (by omega) (by decide) rfl (by exact Nat.le_of_ble_eq_true rfl) (by omega) (by omega) kN (kI (fun v_3 m_3 sz h_3 => ?_)) rfl
  obtain ⟨rfl, hm_3⟩ := h_3
  obtain rfl := hm_3.symm
  rw [ofV_2 hM]
  refine V.istore_n (pc := 6) hB dX10_meanTemperature_6 (by decide) rfl ?_
  refine V.iconst (pc := 7) (v := 0) hB dX10_meanTemperature_7 rfl ?_
  refine V.istore_n (pc := 8) hB dX10_meanTemperature_8 (by decide) rfl ?_
  refine V.iconst (pc := 9) (v := 0) hB dX10_meanTemperature_9 rfl ?_
  refine V.istore (pc := 10) hB dX10_meanTemperature_10 (by decide) rfl ?_
  exact loop 0 (by omega) sz
