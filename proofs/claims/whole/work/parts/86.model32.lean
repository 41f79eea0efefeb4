/-! the reference's ranks and echoes -/

set_option maxRecDepth 100000 in
set_option maxHeartbeats 1000000 in
theorem c_X10_lakeAtRank {g : xG} (hG : GK g) {m M : Mem} (hR : RM (m.1 364) M 0) (hXL : XL M 0) {K : Nat} (hK : K ≤ 1000000000) (hXC : XC K M 0) {x : Int32} {n : Nat} (hn : n = nLk M 0) {p : Nat → Bool} (hpq : p = fun q => decide (nI (rankN M 0 q n) = x)) : CC g yX10_lakeAtRank (.code yX10_lakeAtRank cX10_lakeAtRank 8 (some .int)) 7 0 0 [.ref (ad g 363), .int x] m (rI (fun v m2 => (¬ firstI p n = -1 ∧ v = firstI p n ∧ m2 = up m 363 15 0) ∨ (firstI p n = -1 ∧ v = 0 ∧ m2 = up m 363 15 1))) noX := by
  have h5 := hR.2.1.nl5
  have hM := hR.1
  have h2 : m.1 364 2 = nI n := hR.1.1.1.trans (congrArg nI (hR.2.2.1.trans hn.symm))
  obtain ⟨S, hSS⟩ : ∃ S : Nat → Nat, ∀ j, j < n → iceV M 0 j = nI (S j) ∧ S j ≤ 400 := ⟨fun j => (iceV M 0 j).toNatClampNeg, fun j hj => by
    obtain ⟨s, e, _, h⟩ := ice_nat _ (hXL.1.1 j (by omega))
    have h8 := (hR.2.1.ln (j := j) (by omega)).2
    have e2 : iceV M 0 j = nI s := e
    show iceV M 0 j = nI (iceV M 0 j).toNatClampNeg ∧ (iceV M 0 j).toNatClampNeg ≤ 400
    rw [e2, nI_clamp (by omega)]
    exact ⟨rfl, by omega⟩⟩
  obtain ⟨C, hCC⟩ : ∃ C : Nat → Nat, ∀ j, j < n → M.1 (LK 0 j) 5 = nI (C j) ∧ C j ≤ K := ⟨fun j => (M.1 (LK 0 j) 5).toNatClampNeg, fun j hj => by
    obtain ⟨c, h1, e⟩ := hXC.1 j (by omega)
    show M.1 (LK 0 j) 5 = nI (M.1 (LK 0 j) 5).toNatClampNeg ∧ (M.1 (LK 0 j) 5).toNatClampNeg ≤ K
    rw [e, nI_clamp (by omega)]
    exact ⟨rfl, h1⟩⟩
  have hpa : ∀ a, a < n → p a = decide (nI (cntB (fun b => decide (bfP S C b a)) n) = x) := fun a ha => by
    rw [hpq]
    show decide (nI (rankN M 0 a n) = x) = _
    rw [rank_bf hK hSS hCC ha n (Nat.le_refl n)]
  have hu : ∀ q, q < n → ∀ a, a < q → p a = true → p q = false := fun q hq a ha h1 => by
    cases hb : p q
    · rfl
    · rw [hpa a (by omega)] at h1
      rw [hpa q hq] at hb
      have e := (of_decide_eq_true h1).trans (of_decide_eq_true hb).symm
      have b1 := cntB_le (fun b => decide (bfP S C b a)) n
      have b2 := cntB_le (fun b => decide (bfP S C b q)) n
      have := bf_inj (S := S) (C := C) (by omega) hq ((nI_inj' (by omega) (by omega)).mp e)
      omega
  refine CC.mk hG RX10 rfl (by decide +kernel) rfl (Nat.le_of_ble_eq_true rfl) (fun sz B hB hX => ?_)
  show V g B 0 0 _ (hp g m) sz 0 [some (.ref (ad g 363)), some (.int x), none, none, none, none, none, none] []
  have je : ∀ b : Bool, b = decide (¬ firstI p n = -1) → ∀ (a : Int32) (x4 x5 x6 x7 : Option Value) (sz : Nat) (u : Int32), u = (if b = true then 1 else 0) → V g B 0 0 (QM g B 0 0 (rI (fun v m2 => (¬ firstI p n = -1 ∧ v = firstI p n ∧ m2 = up m 363 15 0) ∨ (firstI p n = -1 ∧ v = 0 ∧ m2 = up m 363 15 1))) noX) (hp g (m)) sz 132 [some (.ref (ad g 363)), some (.int x), some (.int (firstI p n)), some (.int a), x4, x5, x6, x7] [.int u, .ref (ad g 363)] := by
    intro b hb a x4 x5 x6 x7 sz u hu9
    refine V.cv (pc := 132) hB cw_X10_goes wm_X10_61 wi_X10_goes ws_X10_goes dX10_lakeAtRank_132 (c_X10_goes hG) (hp_at (ca_Model _)) fk_Model rfl (by omega) (by decide) rfl (by exact Nat.le_of_ble_eq_true rfl) (by omega) (by omega) kN (kI (fun v_132 m_132 sz h_132 => ?_)) rfl
    obtain ⟨rfl, hm_132⟩ := h_132
    subst hm_132
    rw [hu9, thrV_b1]
    refine V.if_eq (pc := 135) (tgt := 142) hB dX10_lakeAtRank_135 (by decide) (fun c_135 => ?_) (fun c_135 => ?_)
    · have hb0 : b = false := by
        cases b
        · rfl
        · exact absurd c_135 (by decide)
      refine V.iconst (pc := 142) (v := 0) hB dX10_lakeAtRank_142 rfl ?_
      refine V.retI (pc := 143) hB dX10_lakeAtRank_143 rfl (rfl) (by omega) (by omega) ?_
      have hf : firstI p n = -1 := Classical.not_not.mp (of_decide_eq_false (hb.symm.trans hb0))
      rw [hb0]
      exact Or.inr ⟨hf, rfl, rfl⟩
    · have hb1 : b = true := by
        cases b
        · exact absurd rfl c_135
        · rfl
      refine V.iload_n (pc := 138) hB dX10_lakeAtRank_138 rfl ?_
      refine V.goto (pc := 139) (tgt := 143) hB dX10_lakeAtRank_139 (by decide) ?_
      refine V.retI (pc := 143) hB dX10_lakeAtRank_143 rfl (rfl) (by omega) (by omega) ?_
      have hf : ¬ firstI p n = -1 := of_decide_eq_true (hb.symm.trans hb1)
      rw [hb1]
      exact Or.inl ⟨hf, rfl, rfl⟩
  have join : ∀ (a b : Nat), b < 1000 → ∀ (f : Int32) (x6 x7 : Option Value), (∀ (sz : Nat) (x6 x7 : Option Value), V g B 0 0 (QM g B 0 0 (rI (fun v m2 => (¬ firstI p n = -1 ∧ v = firstI p n ∧ m2 = up m 363 15 0) ∨ (firstI p n = -1 ∧ v = 0 ∧ m2 = up m 363 15 1))) noX) (hp g (m)) sz 20 [some (.ref (ad g 363)), some (.int x), some (.int f), some (.int (nI a)), some (.int (nI (cntB (fun b => decide (bfP S C b a)) (b + 1)))), some (.int (nI (b + 1))), x6, x7] []) → ∀ (sz : Nat) {u : Int32}, u = (if decide (bfP S C b a) = true then 1 else 0) → V g B 0 0 (QM g B 0 0 (rI (fun v m2 => (¬ firstI p n = -1 ∧ v = firstI p n ∧ m2 = up m 363 15 0) ∨ (firstI p n = -1 ∧ v = 0 ∧ m2 = up m 363 15 1))) noX) (hp g (m)) sz 94 [some (.ref (ad g 363)), some (.int x), some (.int f), some (.int (nI a)), some (.int (nI (cntB (fun b => decide (bfP S C b a)) b))), some (.int (nI b)), x6, x7] [.int u, .int (nI (cntB (fun b => decide (bfP S C b a)) b))] := by
    intro a b hb1 f x6 x7 ihb sz u hu
    refine V.iadd (pc := 94) hB dX10_lakeAtRank_94 ?_
    rw [hu, show nI (cntB (fun b => decide (bfP S C b a)) b) + (if decide (bfP S C b a) = true then 1 else 0) = nI (cntB (fun b => decide (bfP S C b a)) (b + 1)) from (by show _ = nI (cntB (fun b => decide (bfP S C b a)) b + if decide (bfP S C b a) = true then 1 else 0); split <;> first | exact nI_1 _ | exact Int32.add_zero _)]
    refine V.istore (pc := 95) hB dX10_lakeAtRank_95 (by decide) rfl ?_
    refine V.iinc (pc := 97) (v := nI (b + 1)) hB dX10_lakeAtRank_97 rfl (nI_1 _) (by decide) rfl ?_
    refine V.goto (pc := 100) (tgt := 20) hB dX10_lakeAtRank_100 (by decide) ?_
    exact ihb sz _ _
  have inn : ∀ a : Nat, a < n → (∀ (sz : Nat) (x4 x5 x6 x7 : Option Value), V g B 0 0 (QM g B 0 0 (rI (fun v m2 => (¬ firstI p n = -1 ∧ v = firstI p n ∧ m2 = up m 363 15 0) ∨ (firstI p n = -1 ∧ v = 0 ∧ m2 = up m 363 15 1))) noX) (hp g (m)) sz 4 [some (.ref (ad g 363)), some (.int x), some (.int (firstI p (a + 1))), some (.int (nI (a + 1))), x4, x5, x6, x7] []) → ∀ b : Nat, b ≤ n → ∀ (sz : Nat) (x6 x7 : Option Value), V g B 0 0 (QM g B 0 0 (rI (fun v m2 => (¬ firstI p n = -1 ∧ v = firstI p n ∧ m2 = up m 363 15 0) ∨ (firstI p n = -1 ∧ v = 0 ∧ m2 = up m 363 15 1))) noX) (hp g (m)) sz 20 [some (.ref (ad g 363)), some (.int x), some (.int (firstI p a)), some (.int (nI a)), some (.int (nI (cntB (fun b => decide (bfP S C b a)) b))), some (.int (nI b)), x6, x7] [] := by
    intro a ha HA
    refine loop_up (fun b hb ih => ?_)
    intro sz x6 x7
    refine V.iload (pc := 20) hB dX10_lakeAtRank_20 rfl ?_
    refine V.aload_n (pc := 22) hB dX10_lakeAtRank_22 rfl ?_
    refine V.get (pc := 23) hB fk_Model 0 wf_X10_9 dX10_lakeAtRank_23 (by decide) (hp_at (ca_Model _)) rfl ?_
    refine V.iconst (pc := 26) (v := 2) hB dX10_lakeAtRank_26 rfl ?_
    refine V.ialdM (pc := 27) hB (ca_Now) dX10_lakeAtRank_27 (ix_nI (q := 2) (N := 218) (by decide) (by decide)) ?_
    rw [h2]
    refine V.icmp_ge (pc := 28) (tgt := 103) hB dX10_lakeAtRank_28 (by decide) (fun c_28 => ?_) (fun c_28 => ?_)
    · have hbn : b = n := by have := (nI_leI (by omega) (by omega)).mp c_28; omega
      rw [hbn]
      have e := firstI_un (p := p) (q := a) (hu a ha)
      have ep := hpa a ha
      refine V.iload (pc := 103) hB dX10_lakeAtRank_103 rfl ?_
      refine V.iload_n (pc := 105) hB dX10_lakeAtRank_105 rfl ?_
      refine V.icmp_ne (pc := 106) (tgt := 113) hB dX10_lakeAtRank_106 (by decide) (fun c_106 => ?_) (fun c_106 => ?_)
      · rw [ep, if_neg (by rw [decide_eq_false c_106]; decide)] at e
        rw [e] at HA
        refine V.iload_n (pc := 113) hB dX10_lakeAtRank_113 rfl ?_
        refine V.istore_n (pc := 114) hB dX10_lakeAtRank_114 (by decide) rfl ?_
        refine V.iinc (pc := 115) (v := nI (a + 1)) hB dX10_lakeAtRank_115 rfl (nI_1 _) (by decide) rfl ?_
        refine V.goto (pc := 118) (tgt := 4) hB dX10_lakeAtRank_118 (by decide) ?_
        exact HA sz _ _ _ _
      · rw [ep, if_pos (decide_eq_true c_106)] at e
        rw [e] at HA
        refine V.iload_n (pc := 109) hB dX10_lakeAtRank_109 rfl ?_
        refine V.goto (pc := 110) (tgt := 114) hB dX10_lakeAtRank_110 (by decide) ?_
        refine V.istore_n (pc := 114) hB dX10_lakeAtRank_114 (by decide) rfl ?_
        refine V.iinc (pc := 115) (v := nI (a + 1)) hB dX10_lakeAtRank_115 rfl (nI_1 _) (by decide) rfl ?_
        refine V.goto (pc := 118) (tgt := 4) hB dX10_lakeAtRank_118 (by decide) ?_
        exact HA sz _ _ _ _
    · have hlt : b < n := Nat.not_le.mp (fun w => c_28 ((nI_leI (by omega) (by omega)).mpr w))
      have bS := (hSS a ha).2
      have bT := (hSS b hlt).2
      have bC := (hCC a ha).2
      have bD := (hCC b hlt).2
      refine V.aload_n (pc := 31) hB dX10_lakeAtRank_31 rfl ?_
      refine V.iload (pc := 32) hB dX10_lakeAtRank_32 rfl ?_
      refine V.cv (pc := 34) hB cw_X10_iceOf wm_X10_107 wi_X10_iceOf ws_X10_iceOf dX10_lakeAtRank_34 (c_X10_iceOf hG hM) (hp_at (ca_Model _)) fk_Model rfl (by omega) (by decide) rfl (by exact Nat.le_of_ble_eq_true rfl) (by omega) (by omega) kN (kI (fun v_34 m_34 sz h_34 => ?_)) rfl
      obtain ⟨rfl, hm_34⟩ := h_34
      obtain rfl := hm_34.symm
      rw [hR.ice (j := b) (by omega), (hSS b hlt).1]
      refine V.aload_n (pc := 37) hB dX10_lakeAtRank_37 rfl ?_
      refine V.iload_n (pc := 38) hB dX10_lakeAtRank_38 rfl ?_
      refine V.cv (pc := 39) hB cw_X10_iceOf wm_X10_107 wi_X10_iceOf ws_X10_iceOf dX10_lakeAtRank_39 (c_X10_iceOf hG hM) (hp_at (ca_Model _)) fk_Model rfl (by omega) (by decide) rfl (by exact Nat.le_of_ble_eq_true rfl) (by omega) (by omega) kN (kI (fun v_39 m_39 sz h_39 => ?_)) rfl
      obtain ⟨rfl, hm_39⟩ := h_39
      obtain rfl := hm_39.symm
      rw [hR.ice (j := a) (by omega), (hSS a ha).1]
      refine V.isub (pc := 42) hB dX10_lakeAtRank_42 ?_
      refine V.istore (pc := 43) hB dX10_lakeAtRank_43 (by decide) rfl ?_
      refine V.aload_n (pc := 45) hB dX10_lakeAtRank_45 rfl ?_
      refine V.iload (pc := 46) hB dX10_lakeAtRank_46 rfl ?_
      refine V.iconst (pc := 48) (v := 1) hB dX10_lakeAtRank_48 rfl ?_
      refine V.cv (pc := 49) hB cw_X10_of wm_X10_77 wi_X10_of ws_X10_of dX10_lakeAtRank_49 (c_X10_of hG hM (k := 1) (by decide) rfl) (hp_at (ca_Model _)) fk_Model rfl (by omega) (by decide) rfl (by exact Nat.le_of_ble_eq_true rfl) (by omega) (by omega) kN (kI (fun v_49 m_49 sz h_49 => ?_)) rfl
      obtain ⟨rfl, hm_49⟩ := h_49
      obtain rfl := hm_49.symm
      rw [hR.crk' (j := b) (by omega), (hCC b hlt).1]
      refine V.aload_n (pc := 52) hB dX10_lakeAtRank_52 rfl ?_
      refine V.iload_n (pc := 53) hB dX10_lakeAtRank_53 rfl ?_
      refine V.iconst (pc := 54) (v := 1) hB dX10_lakeAtRank_54 rfl ?_
      refine V.cv (pc := 55) hB cw_X10_of wm_X10_77 wi_X10_of ws_X10_of dX10_lakeAtRank_55 (c_X10_of hG hM (k := 1) (by decide) rfl) (hp_at (ca_Model _)) fk_Model rfl (by omega) (by decide) rfl (by exact Nat.le_of_ble_eq_true rfl) (by omega) (by omega) kN (kI (fun v_55 m_55 sz h_55 => ?_)) rfl
      obtain ⟨rfl, hm_55⟩ := h_55
      obtain rfl := hm_55.symm
      rw [hR.crk' (j := a) (by omega), (hCC a ha).1]
      refine V.isub (pc := 58) hB dX10_lakeAtRank_58 ?_
      refine V.istore (pc := 59) hB dX10_lakeAtRank_59 (by decide) rfl ?_
      refine V.iload (pc := 61) hB dX10_lakeAtRank_61 rfl ?_
      refine V.iload (pc := 63) hB dX10_lakeAtRank_63 rfl ?_
      refine V.if_gt (pc := 65) (tgt := 89) hB dX10_lakeAtRank_65 (by decide) (fun c_65 => ?_) (fun c_65 => ?_)
      · have h1 := (nI_sub_pos (by omega) (by omega)).mp c_65
        have hu : (1 : Int32) = if decide (bfP S C b a) = true then 1 else 0 := by rw [if_pos]; exact decide_eq_true (by unfold bfP; omega)
        refine V.iconst (pc := 89) (v := 1) hB dX10_lakeAtRank_89 rfl ?_
        refine V.goto (pc := 90) (tgt := 94) hB dX10_lakeAtRank_90 (by decide) ?_
        exact join a b (by omega) _ _ _ (fun sz x6 x7 => ih hlt sz x6 x7) sz hu
      · have n1 : ¬ S a < S b := fun z => c_65 ((nI_sub_pos (by omega) (by omega)).mpr z)
        refine V.iload (pc := 68) hB dX10_lakeAtRank_68 rfl ?_
        refine V.if_ne (pc := 70) (tgt := 93) hB dX10_lakeAtRank_70 (by decide) (fun c_70 => ?_) (fun c_70 => ?_)
        · have n2 : ¬ S b = S a := fun z => c_70 ((nI_sub_eq (by omega) (by omega)).mpr z)
          have hu : (0 : Int32) = if decide (bfP S C b a) = true then 1 else 0 := by rw [decide_eq_false (by unfold bfP; omega)]; rfl
          refine V.iconst (pc := 93) (v := 0) hB dX10_lakeAtRank_93 rfl ?_
          exact join a b (by omega) _ _ _ (fun sz x6 x7 => ih hlt sz x6 x7) sz hu
        · have n2 : S b = S a := (nI_sub_eq (by omega) (by omega)).mp c_70
          refine V.iload (pc := 73) hB dX10_lakeAtRank_73 rfl ?_
          refine V.if_gt (pc := 75) (tgt := 89) hB dX10_lakeAtRank_75 (by decide) (fun c_75 => ?_) (fun c_75 => ?_)
          · have h1 := (nI_sub_pos (by omega) (by omega)).mp c_75
            have hu : (1 : Int32) = if decide (bfP S C b a) = true then 1 else 0 := by rw [if_pos]; exact decide_eq_true (by unfold bfP; omega)
            refine V.iconst (pc := 89) (v := 1) hB dX10_lakeAtRank_89 rfl ?_
            refine V.goto (pc := 90) (tgt := 94) hB dX10_lakeAtRank_90 (by decide) ?_
            exact join a b (by omega) _ _ _ (fun sz x6 x7 => ih hlt sz x6 x7) sz hu
          · have n3 : ¬ C a < C b := fun z => c_75 ((nI_sub_pos (by omega) (by omega)).mpr z)
            refine V.iload (pc := 78) hB dX10_lakeAtRank_78 rfl ?_
            refine V.if_ne (pc := 80) (tgt := 93) hB dX10_lakeAtRank_80 (by decide) (fun c_80 => ?_) (fun c_80 => ?_)
            · have n4 : ¬ C b = C a := fun z => c_80 ((nI_sub_eq (by omega) (by omega)).mpr z)
              have hu : (0 : Int32) = if decide (bfP S C b a) = true then 1 else 0 := by rw [decide_eq_false (by unfold bfP; omega)]; rfl
              refine V.iconst (pc := 93) (v := 0) hB dX10_lakeAtRank_93 rfl ?_
              exact join a b (by omega) _ _ _ (fun sz x6 x7 => ih hlt sz x6 x7) sz hu
            · have n4 : C b = C a := (nI_sub_eq (by omega) (by omega)).mp c_80
              refine V.iload (pc := 83) hB dX10_lakeAtRank_83 rfl ?_
              refine V.iload_n (pc := 85) hB dX10_lakeAtRank_85 rfl ?_
              refine V.icmp_ge (pc := 86) (tgt := 93) hB dX10_lakeAtRank_86 (by decide) (fun c_86 => ?_) (fun c_86 => ?_)
              · have n5 := (nI_leI (by omega) (by omega)).mp c_86
                have hu : (0 : Int32) = if decide (bfP S C b a) = true then 1 else 0 := by rw [decide_eq_false (by unfold bfP; omega)]; rfl
                refine V.iconst (pc := 93) (v := 0) hB dX10_lakeAtRank_93 rfl ?_
                exact join a b (by omega) _ _ _ (fun sz x6 x7 => ih hlt sz x6 x7) sz hu
              · have n5 : b < a := Nat.not_le.mp (fun w => c_86 ((nI_leI (by omega) (by omega)).mpr w))
                have hu : (1 : Int32) = if decide (bfP S C b a) = true then 1 else 0 := by rw [if_pos]; exact decide_eq_true (by unfold bfP; omega)
                refine V.iconst (pc := 89) (v := 1) hB dX10_lakeAtRank_89 rfl ?_
                refine V.goto (pc := 90) (tgt := 94) hB dX10_lakeAtRank_90 (by decide) ?_
                exact join a b (by omega) _ _ _ (fun sz x6 x7 => ih hlt sz x6 x7) sz hu
  have lp : ∀ a : Nat, a ≤ n → ∀ (sz : Nat) (x4 x5 x6 x7 : Option Value), V g B 0 0 (QM g B 0 0 (rI (fun v m2 => (¬ firstI p n = -1 ∧ v = firstI p n ∧ m2 = up m 363 15 0) ∨ (firstI p n = -1 ∧ v = 0 ∧ m2 = up m 363 15 1))) noX) (hp g (m)) sz 4 [some (.ref (ad g 363)), some (.int x), some (.int (firstI p a)), some (.int (nI a)), x4, x5, x6, x7] [] := by
    refine loop_up (fun a ha ih => ?_)
    intro sz x4 x5 x6 x7
    refine V.iload_n (pc := 4) hB dX10_lakeAtRank_4 rfl ?_
    refine V.aload_n (pc := 5) hB dX10_lakeAtRank_5 rfl ?_
    refine V.get (pc := 6) hB fk_Model 0 wf_X10_9 dX10_lakeAtRank_6 (by decide) (hp_at (ca_Model _)) rfl ?_
    refine V.iconst (pc := 9) (v := 2) hB dX10_lakeAtRank_9 rfl ?_
    refine V.ialdM (pc := 10) hB (ca_Now) dX10_lakeAtRank_10 (ix_nI (q := 2) (N := 218) (by decide) (by decide)) ?_
    rw [h2]
    refine V.icmp_ge (pc := 11) (tgt := 121) hB dX10_lakeAtRank_11 (by decide) (fun c_11 => ?_) (fun c_11 => ?_)
    · have hqn : a = n := by have := (nI_leI (by omega) (by omega)).mp c_11; omega
      rw [hqn]
      obtain ⟨b, hb⟩ : ∃ b, b = decide (¬ firstI p n = -1) := ⟨_, rfl⟩
      refine V.aload_n (pc := 121) hB dX10_lakeAtRank_121 rfl ?_
      refine V.iload_n (pc := 122) hB dX10_lakeAtRank_122 rfl ?_
      refine V.iconst (pc := 123) (v := (-1)) hB dX10_lakeAtRank_123 rfl ?_
      refine V.icmp_eq (pc := 124) (tgt := 131) hB dX10_lakeAtRank_124 (by decide) (fun c_124 => ?_) (fun c_124 => ?_)
      · have hu9 : (0 : Int32) = if b = true then 1 else 0 := by rw [hb, decide_eq_false (fun w => w c_124)]; rfl
        refine V.iconst (pc := 131) (v := 0) hB dX10_lakeAtRank_131 rfl ?_
        exact je b hb _ _ _ _ _ sz _ hu9
      · have hu9 : (1 : Int32) = if b = true then 1 else 0 := by rw [hb, decide_eq_true c_124]; rfl
        refine V.iconst (pc := 127) (v := 1) hB dX10_lakeAtRank_127 rfl ?_
        refine V.goto (pc := 128) (tgt := 132) hB dX10_lakeAtRank_128 (by decide) ?_
        exact je b hb _ _ _ _ _ sz _ hu9
    · have hlt : a < n := Nat.not_le.mp (fun w => c_11 ((nI_leI (by omega) (by omega)).mpr w))
      refine V.iconst (pc := 14) (v := 0) hB dX10_lakeAtRank_14 rfl ?_
      refine V.istore (pc := 15) hB dX10_lakeAtRank_15 (by decide) rfl ?_
      refine V.iconst (pc := 17) (v := 0) hB dX10_lakeAtRank_17 rfl ?_
      refine V.istore (pc := 18) hB dX10_lakeAtRank_18 (by decide) rfl ?_
      exact inn a hlt (fun sz x4 x5 x6 x7 => ih hlt sz x4 x5 x6 x7) 0 (by omega) sz _ _
  refine V.iconst (pc := 0) (v := (-1)) hB dX10_lakeAtRank_0 rfl ?_
  refine V.istore_n (pc := 1) hB dX10_lakeAtRank_1 (by decide) rfl ?_
  refine V.iconst (pc := 2) (v := 0) hB dX10_lakeAtRank_2 rfl ?_
  refine V.istore_n (pc := 3) hB dX10_lakeAtRank_3 (by decide) rfl ?_
  exact lp 0 (by omega) sz _ _ _ _

set_option maxRecDepth 100000 in
set_option maxHeartbeats 1000000 in
theorem c_X10_alike {g : xG} (hG : GK g) {m M : Mem} (hR : RM (m.1 364) M 0) {r : Nat} (hr : r < cOf M 0) : CC g yX10_alike (.code yX10_alike cX10_alike 4 (some .int)) 1 0 0 [.ref (ad g 363), .int (nI r)] m (rI (fun v m2 => v = nI (cntEq (pit M 0) ((pit M 0) r) r) ∧ m2 = m)) noX := by
  have hc := hR.2.1.pr.2.2.2
  have hpt : ∀ q, q < cOf M 0 → m.1 364 (156 + 4 * q) = pit M 0 q := fun q hq => by
    have h := hR.2.2.2.2.2.2.2 q hq 2 (by omega)
    rw [show 154 + 4 * q + 2 = 156 + 4 * q by omega] at h
    exact h
  refine CC.mk hG RX10 rfl (by decide +kernel) rfl (Nat.le_of_ble_eq_true rfl) (fun sz B hB hX => ?_)
  show V g B 0 0 _ (hp g m) sz 0 [some (.ref (ad g 363)), some (.int (nI r)), none, none] []
  have join : ∀ q : Nat, (∀ (sz : Nat), V g B 0 0 (QM g B 0 0 (rI (fun v m2 => v = nI (cntEq (pit M 0) ((pit M 0) r) r) ∧ m2 = m)) noX) (hp g (m)) sz 4 [some (.ref (ad g 363)), some (.int (nI r)), some (.int (nI (cntEq (pit M 0) ((pit M 0) r) (q + 1)))), some (.int (nI (q + 1)))] []) → ∀ (sz : Nat) {u : Int32}, u = (if (pit M 0) r = (pit M 0) q then 1 else 0) → V g B 0 0 (QM g B 0 0 (rI (fun v m2 => v = nI (cntEq (pit M 0) ((pit M 0) r) r) ∧ m2 = m)) noX) (hp g (m)) sz 46 [some (.ref (ad g 363)), some (.int (nI r)), some (.int (nI (cntEq (pit M 0) ((pit M 0) r) q))), some (.int (nI q))] [.int u, .int (nI (cntEq (pit M 0) ((pit M 0) r) q))] := by
    intro q ihq sz u hu
    refine V.iadd (pc := 46) hB dX10_alike_46 ?_
    rw [hu, show nI (cntEq (pit M 0) ((pit M 0) r) q) + (if (pit M 0) r = (pit M 0) q then 1 else 0) = nI (cntEq (pit M 0) ((pit M 0) r) (q + 1)) from (by show _ = nI (cntEq (pit M 0) ((pit M 0) r) q + if (pit M 0) r = (pit M 0) q then 1 else 0); split <;> first | exact nI_1 _ | exact Int32.add_zero _)]
    refine V.istore_n (pc := 47) hB dX10_alike_47 (by decide) rfl ?_
    refine V.iinc (pc := 48) (v := nI (q + 1)) hB dX10_alike_48 rfl (nI_1 _) (by decide) rfl ?_
    refine V.goto (pc := 51) (tgt := 4) hB dX10_alike_51 (by decide) ?_
    exact ihq sz
  have lp : ∀ q : Nat, q ≤ r → ∀ (sz : Nat), V g B 0 0 (QM g B 0 0 (rI (fun v m2 => v = nI (cntEq (pit M 0) ((pit M 0) r) r) ∧ m2 = m)) noX) (hp g (m)) sz 4 [some (.ref (ad g 363)), some (.int (nI r)), some (.int (nI (cntEq (pit M 0) ((pit M 0) r) q))), some (.int (nI q))] [] := by
    refine loop_up (fun q hq ih => ?_)
    intro sz
    refine V.iload_n (pc := 4) hB dX10_alike_4 rfl ?_
    refine V.iload_n (pc := 5) hB dX10_alike_5 rfl ?_
    refine V.icmp_ge (pc := 6) (tgt := 54) hB dX10_alike_6 (by decide) (fun c_6 => ?_) (fun c_6 => ?_)
    · have hqn : q = r := by have := (nI_leI (by omega) (by omega)).mp c_6; omega
      rw [hqn]
      refine V.iload_n (pc := 54) hB dX10_alike_54 rfl ?_
      refine V.retI (pc := 55) hB dX10_alike_55 rfl (rfl) (by omega) (by omega) ?_
      exact ⟨rfl, rfl⟩
    · have hlt : q < r := Nat.not_le.mp (fun w => c_6 ((nI_leI (by omega) (by omega)).mpr w))
      refine V.iload_n (pc := 9) hB dX10_alike_9 rfl ?_
      refine V.aload_n (pc := 10) hB dX10_alike_10 rfl ?_
      refine V.get (pc := 11) hB fk_Model 0 wf_X10_9 dX10_alike_11 (by decide) (hp_at (ca_Model _)) rfl ?_
      refine V.sipush (pc := 14) (v := 154) hB dX10_alike_14 rfl ?_
      refine V.iconst (pc := 17) (v := 4) hB dX10_alike_17 rfl ?_
      refine V.iload_n (pc := 18) hB dX10_alike_18 rfl ?_
      refine V.imul (pc := 19) hB dX10_alike_19 ?_
      rw [mul4 q]
      refine V.iadd (pc := 20) hB dX10_alike_20 ?_
      rw [show (154 : Int32) + nI (4 * q) = nI (154 + 4 * q) from nI_add 154 _]
      refine V.iconst (pc := 21) (v := 2) hB dX10_alike_21 rfl ?_
      refine V.iadd (pc := 22) hB dX10_alike_22 ?_
      rw [show nI (154 + 4 * q) + 2 = nI (156 + 4 * q) from (nI_add _ 2).trans (congrArg nI (by omega))]
      refine V.ialdM (pc := 23) hB (ca_Now) dX10_alike_23 (ix_nI (by omega) (by decide)) ?_
      rw [hpt q (by omega)]
      refine V.aload_n (pc := 24) hB dX10_alike_24 rfl ?_
      refine V.get (pc := 25) hB fk_Model 0 wf_X10_9 dX10_alike_25 (by decide) (hp_at (ca_Model _)) rfl ?_
      refine V.sipush (pc := 28) (v := 154) hB dX10_alike_28 rfl ?_
      refine V.iconst (pc := 31) (v := 4) hB dX10_alike_31 rfl ?_
      refine V.iload_n (pc := 32) hB dX10_alike_32 rfl ?_
      refine V.imul (pc := 33) hB dX10_alike_33 ?_
      rw [mul4 r]
      refine V.iadd (pc := 34) hB dX10_alike_34 ?_
      rw [show (154 : Int32) + nI (4 * r) = nI (154 + 4 * r) from nI_add 154 _]
      refine V.iconst (pc := 35) (v := 2) hB dX10_alike_35 rfl ?_
      refine V.iadd (pc := 36) hB dX10_alike_36 ?_
      rw [show nI (154 + 4 * r) + 2 = nI (156 + 4 * r) from (nI_add _ 2).trans (congrArg nI (by omega))]
      refine V.ialdM (pc := 37) hB (ca_Now) dX10_alike_37 (ix_nI (by omega) (by decide)) ?_
      rw [hpt r (by omega)]
      refine V.icmp_ne (pc := 38) (tgt := 45) hB dX10_alike_38 (by decide) (fun c_38 => ?_) (fun c_38 => ?_)
      · have hu : (0 : Int32) = if (pit M 0) r = (pit M 0) q then 1 else 0 := (if_neg (fun z => c_38 z.symm)).symm
        refine V.iconst (pc := 45) (v := 0) hB dX10_alike_45 rfl ?_
        exact join q (fun sz => ih hlt sz) sz hu
      · have hu : (1 : Int32) = if (pit M 0) r = (pit M 0) q then 1 else 0 := (if_pos c_38.symm).symm
        refine V.iconst (pc := 41) (v := 1) hB dX10_alike_41 rfl ?_
        refine V.goto (pc := 42) (tgt := 46) hB dX10_alike_42 (by decide) ?_
        exact join q (fun sz => ih hlt sz) sz hu
  refine V.iconst (pc := 0) (v := 0) hB dX10_alike_0 rfl ?_
  refine V.istore_n (pc := 1) hB dX10_alike_1 (by decide) rfl ?_
  refine V.iconst (pc := 2) (v := 0) hB dX10_alike_2 rfl ?_
  refine V.istore_n (pc := 3) hB dX10_alike_3 (by decide) rfl ?_
  exact lp 0 (by omega) sz

set_option maxRecDepth 100000 in
set_option maxHeartbeats 1000000 in
theorem c_X10_echoes {g : xG} (hG : GK g) {m M : Mem} (hR : RM (m.1 364) M 0) : CC g yX10_echoes (.code yX10_echoes cX10_echoes 3 (some .int)) 2 0 0 [.ref (ad g 363)] m (rI (fun v m2 => v = nI (echN (pit M 0) (cOf M 0)) ∧ m2 = up m 363 15 0)) noX := by
  have hc := hR.2.1.pr.2.2.2
  have hR0 : RM ((up m 363 15 0).1 364) M 0 := by rw [th_row]; exact hR
  have h4 : (up m 363 15 0).1 364 4 = nI (cOf M 0) := hR0.c4.trans hR0.2.1.pr.2.2.1
  refine CC.mk hG RX10 rfl (by decide +kernel) rfl (Nat.le_of_ble_eq_true rfl) (fun sz B hB hX => ?_)
  show V g B 0 0 _ (hp g m) sz 0 [some (.ref (ad g 363)), none, none] []
  have lp : ∀ q : Nat, q ≤ cOf M 0 → ∀ (sz : Nat), V g B 0 0 (QM g B 0 0 (rI (fun v m2 => v = nI (echN (pit M 0) (cOf M 0)) ∧ m2 = up m 363 15 0)) noX) (hp g ((up m 363 15 0))) sz 9 [some (.ref (ad g 363)), some (.int (nI (echN (pit M 0) q))), some (.int (nI q))] [] := by
    refine loop_up (fun q hq ih => ?_)
    intro sz
    refine V.iload_n (pc := 9) hB dX10_echoes_9 rfl ?_
    refine V.aload_n (pc := 10) hB dX10_echoes_10 rfl ?_
    refine V.get (pc := 11) hB fk_Model 0 wf_X10_9 dX10_echoes_11 (by decide) (hp_at (ca_Model _)) rfl ?_
    refine V.iconst (pc := 14) (v := 4) hB dX10_echoes_14 rfl ?_
    refine V.ialdM (pc := 15) hB (ca_Now) dX10_echoes_15 (ix_nI (q := 4) (N := 218) (by decide) (by decide)) ?_
    rw [h4]
    refine V.icmp_ge (pc := 16) (tgt := 33) hB dX10_echoes_16 (by decide) (fun c_16 => ?_) (fun c_16 => ?_)
    · have hqn : q = cOf M 0 := by have := (nI_leI (by omega) (by omega)).mp c_16; omega
      rw [hqn]
      refine V.iload_n (pc := 33) hB dX10_echoes_33 rfl ?_
      refine V.retI (pc := 34) hB dX10_echoes_34 rfl (rfl) (by omega) (by omega) ?_
      exact ⟨rfl, rfl⟩
    · have hlt : q < cOf M 0 := Nat.not_le.mp (fun w => c_16 ((nI_leI (by omega) (by omega)).mpr w))
      refine V.iload_n (pc := 19) hB dX10_echoes_19 rfl ?_
      refine V.aload_n (pc := 20) hB dX10_echoes_20 rfl ?_
      refine V.iload_n (pc := 21) hB dX10_echoes_21 rfl ?_
      refine V.cv (pc := 22) hB cw_X10_alike wm_X10_173 wi_X10_alike ws_X10_alike dX10_echoes_22 (c_X10_alike hG hR0 hlt) (hp_at (ca_Model _)) fk_Model rfl (by omega) (by decide) rfl (by exact Nat.le_of_ble_eq_true rfl) (by omega) (by omega) kN (kI (fun v_22 m_22 sz h_22 => ?_)) rfl
      obtain ⟨rfl, hm_22⟩ := h_22
      obtain rfl := hm_22.symm
      refine V.iadd (pc := 25) hB dX10_echoes_25 ?_
      rw [show nI (echN (pit M 0) q) + nI (cntEq (pit M 0) ((pit M 0) q) q) = nI (echN (pit M 0) (q + 1)) from nI_add _ _]
      refine V.istore_n (pc := 26) hB dX10_echoes_26 (by decide) rfl ?_
      refine V.iinc (pc := 27) (v := nI (q + 1)) hB dX10_echoes_27 rfl (nI_1 _) (by decide) rfl ?_
      refine V.goto (pc := 30) (tgt := 9) hB dX10_echoes_30 (by decide) ?_
      exact ih hlt sz
  refine V.aload_n (pc := 0) hB dX10_echoes_0 rfl ?_
  refine V.iconst (pc := 1) (v := 0) hB dX10_echoes_1 rfl ?_
  refine V.p_Model_f15 (pc := 2) hB wf_X10_44 dX10_echoes_2 ?_
  refine V.iconst (pc := 5) (v := 0) hB dX10_echoes_5 rfl ?_
  refine V.istore_n (pc := 6) hB dX10_echoes_6 (by decide) rfl ?_
  refine V.iconst (pc := 7) (v := 0) hB dX10_echoes_7 rfl ?_
  refine V.istore_n (pc := 8) hB dX10_echoes_8 (by decide) rfl ?_
  exact lp 0 (by omega) sz

set_option maxRecDepth 100000 in
set_option maxHeartbeats 1000000 in
theorem c_X10_echoPairs {g : xG} (hG : GK g) {m M : Mem} (hR : RM (m.1 364) M 0) : CC g yX10_echoPairs (.code yX10_echoPairs cX10_echoPairs 1 (some .int)) 3 0 0 [.ref (ad g 363)] m (rI (fun v m2 => v = nI (echN (pit M 0) (cOf M 0)) ∧ m2 = up m 363 15 0)) noX := by
  refine CC.mk hG RX10 rfl (by decide +kernel) rfl (Nat.le_of_ble_eq_true rfl) (fun sz B hB hX => ?_)
  show V g B 0 0 _ (hp g m) sz 0 [some (.ref (ad g 363))] []
  refine V.aload_n (pc := 0) hB dX10_echoPairs_0 rfl ?_
  refine V.cv (pc := 1) hB cw_X10_echoes wm_X10_176 wi_X10_echoes ws_X10_echoes dX10_echoPairs_1 (c_X10_echoes hG hR) (hp_at (ca_Model _)) fk_Model rfl (by omega) (by decide) rfl (by exact Nat.le_of_ble_eq_true rfl) (by omega) (by omega) kN (kI (fun v_1 m_1 sz h_1 => ?_)) rfl
  refine V.retI (pc := 4) hB dX10_echoPairs_4 rfl (rfl) (by omega) (by omega) ?_
  exact h_1

set_option maxRecDepth 100000 in
set_option maxHeartbeats 1000000 in
theorem c_X10_echoPairsByPitch {g : xG} (hG : GK g) {m M : Mem} (hR : RM (m.1 364) M 0) : CC g yX10_echoPairsByPitch (.code yX10_echoPairsByPitch cX10_echoPairsByPitch 1 (some .int)) 3 0 0 [.ref (ad g 363)] m (rI (fun v m2 => v = nI (echN (pit M 0) (cOf M 0)) ∧ m2 = up m 363 15 0)) noX := by
  refine CC.mk hG RX10 rfl (by decide +kernel) rfl (Nat.le_of_ble_eq_true rfl) (fun sz B hB hX => ?_)
  show V g B 0 0 _ (hp g m) sz 0 [some (.ref (ad g 363))] []
  refine V.aload_n (pc := 0) hB dX10_echoPairsByPitch_0 rfl ?_
  refine V.cv (pc := 1) hB cw_X10_echoes wm_X10_176 wi_X10_echoes ws_X10_echoes dX10_echoPairsByPitch_1 (c_X10_echoes hG hR) (hp_at (ca_Model _)) fk_Model rfl (by omega) (by decide) rfl (by exact Nat.le_of_ble_eq_true rfl) (by omega) (by omega) kN (kI (fun v_1 m_1 sz h_1 => ?_)) rfl
  refine V.retI (pc := 4) hB dX10_echoPairsByPitch_4 rfl (rfl) (by omega) (by omega) ?_
  exact h_1

set_option maxRecDepth 100000 in
set_option maxHeartbeats 1000000 in
theorem c_X10_pitchCount {g : xG} (hG : GK g) {m M : Mem} (hR : RM (m.1 364) M 0) : CC g yX10_pitchCount (.code yX10_pitchCount cX10_pitchCount 3 (some .int)) 2 0 0 [.ref (ad g 363)] m (rI (fun v m2 => v = nI (difN (pit M 0) (cOf M 0)) ∧ m2 = up m 363 15 0)) noX := by
  have hc := hR.2.1.pr.2.2.2
  have hR0 : RM ((up m 363 15 0).1 364) M 0 := by rw [th_row]; exact hR
  have h4 : (up m 363 15 0).1 364 4 = nI (cOf M 0) := hR0.c4.trans hR0.2.1.pr.2.2.1
  refine CC.mk hG RX10 rfl (by decide +kernel) rfl (Nat.le_of_ble_eq_true rfl) (fun sz B hB hX => ?_)
  show V g B 0 0 _ (hp g m) sz 0 [some (.ref (ad g 363)), none, none] []
  have join : ∀ q : Nat, (∀ (sz : Nat), V g B 0 0 (QM g B 0 0 (rI (fun v m2 => v = nI (difN (pit M 0) (cOf M 0)) ∧ m2 = up m 363 15 0)) noX) (hp g ((up m 363 15 0))) sz 9 [some (.ref (ad g 363)), some (.int (nI (difN (pit M 0) (q + 1)))), some (.int (nI (q + 1)))] []) → ∀ (sz : Nat) {u : Int32}, u = (if cntEq (pit M 0) ((pit M 0) q) q = 0 then 1 else 0) → V g B 0 0 (QM g B 0 0 (rI (fun v m2 => v = nI (difN (pit M 0) (cOf M 0)) ∧ m2 = up m 363 15 0)) noX) (hp g ((up m 363 15 0))) sz 33 [some (.ref (ad g 363)), some (.int (nI (difN (pit M 0) q))), some (.int (nI q))] [.int u, .int (nI (difN (pit M 0) q))] := by
    intro q ihq sz u hu
    refine V.iadd (pc := 33) hB dX10_pitchCount_33 ?_
    rw [hu, show nI (difN (pit M 0) q) + (if cntEq (pit M 0) ((pit M 0) q) q = 0 then 1 else 0) = nI (difN (pit M 0) (q + 1)) from (by show _ = nI (difN (pit M 0) q + if cntEq (pit M 0) ((pit M 0) q) q = 0 then 1 else 0); split <;> first | exact nI_1 _ | exact Int32.add_zero _)]
    refine V.istore_n (pc := 34) hB dX10_pitchCount_34 (by decide) rfl ?_
    refine V.iinc (pc := 35) (v := nI (q + 1)) hB dX10_pitchCount_35 rfl (nI_1 _) (by decide) rfl ?_
    refine V.goto (pc := 38) (tgt := 9) hB dX10_pitchCount_38 (by decide) ?_
    exact ihq sz
  have lp : ∀ q : Nat, q ≤ cOf M 0 → ∀ (sz : Nat), V g B 0 0 (QM g B 0 0 (rI (fun v m2 => v = nI (difN (pit M 0) (cOf M 0)) ∧ m2 = up m 363 15 0)) noX) (hp g ((up m 363 15 0))) sz 9 [some (.ref (ad g 363)), some (.int (nI (difN (pit M 0) q))), some (.int (nI q))] [] := by
    refine loop_up (fun q hq ih => ?_)
    intro sz
    refine V.iload_n (pc := 9) hB dX10_pitchCount_9 rfl ?_
    refine V.aload_n (pc := 10) hB dX10_pitchCount_10 rfl ?_
    refine V.get (pc := 11) hB fk_Model 0 wf_X10_9 dX10_pitchCount_11 (by decide) (hp_at (ca_Model _)) rfl ?_
    refine V.iconst (pc := 14) (v := 4) hB dX10_pitchCount_14 rfl ?_
    refine V.ialdM (pc := 15) hB (ca_Now) dX10_pitchCount_15 (ix_nI (q := 4) (N := 218) (by decide) (by decide)) ?_
    rw [h4]
    refine V.icmp_ge (pc := 16) (tgt := 41) hB dX10_pitchCount_16 (by decide) (fun c_16 => ?_) (fun c_16 => ?_)
    · have hqn : q = cOf M 0 := by have := (nI_leI (by omega) (by omega)).mp c_16; omega
      rw [hqn]
      refine V.iload_n (pc := 41) hB dX10_pitchCount_41 rfl ?_
      refine V.retI (pc := 42) hB dX10_pitchCount_42 rfl (rfl) (by omega) (by omega) ?_
      exact ⟨rfl, rfl⟩
    · have hlt : q < cOf M 0 := Nat.not_le.mp (fun w => c_16 ((nI_leI (by omega) (by omega)).mpr w))
      refine V.iload_n (pc := 19) hB dX10_pitchCount_19 rfl ?_
      refine V.aload_n (pc := 20) hB dX10_pitchCount_20 rfl ?_
      refine V.iload_n (pc := 21) hB dX10_pitchCount_21 rfl ?_
      refine V.cv (pc := 22) hB cw_X10_alike wm_X10_173 wi_X10_alike ws_X10_alike dX10_pitchCount_22 (c_X10_alike hG hR0 hlt) (hp_at (ca_Model _)) fk_Model rfl (by omega) (by decide) rfl (by exact Nat.le_of_ble_eq_true rfl) (by omega) (by omega) kN (kI (fun v_22 m_22 sz h_22 => ?_)) rfl
      obtain ⟨rfl, hm_22⟩ := h_22
      obtain rfl := hm_22.symm
      have hle := cntEq_le (pit M 0) ((pit M 0) q) q
      refine V.if_ne (pc := 25) (tgt := 32) hB dX10_pitchCount_25 (by decide) (fun c_25 => ?_) (fun c_25 => ?_)
      · have hu : (0 : Int32) = if cntEq (pit M 0) ((pit M 0) q) q = 0 then 1 else 0 := (if_neg (fun z => c_25 (by rw [z]; rfl))).symm
        refine V.iconst (pc := 32) (v := 0) hB dX10_pitchCount_32 rfl ?_
        exact join q (fun sz => ih hlt sz) sz hu
      · have hu : (1 : Int32) = if cntEq (pit M 0) ((pit M 0) q) q = 0 then 1 else 0 := (if_pos ((nI_inj' (b := 0) (by omega) (by decide)).mp c_25)).symm
        refine V.iconst (pc := 28) (v := 1) hB dX10_pitchCount_28 rfl ?_
        refine V.goto (pc := 29) (tgt := 33) hB dX10_pitchCount_29 (by decide) ?_
        exact join q (fun sz => ih hlt sz) sz hu
  refine V.aload_n (pc := 0) hB dX10_pitchCount_0 rfl ?_
  refine V.iconst (pc := 1) (v := 0) hB dX10_pitchCount_1 rfl ?_
  refine V.p_Model_f15 (pc := 2) hB wf_X10_44 dX10_pitchCount_2 ?_
  refine V.iconst (pc := 5) (v := 0) hB dX10_pitchCount_5 rfl ?_
  refine V.istore_n (pc := 6) hB dX10_pitchCount_6 (by decide) rfl ?_
  refine V.iconst (pc := 7) (v := 0) hB dX10_pitchCount_7 rfl ?_
  refine V.istore_n (pc := 8) hB dX10_pitchCount_8 (by decide) rfl ?_
  exact lp 0 (by omega) sz
