/-! the reference's describeLake -/
theorem MFl.row {m m2 : Mem} (h : MFl m m2) : m2.1 364 = m.1 364 := h.2 364 (by decide)
theorem ln_step {K T S : Nat → Int32} {q : Nat} : lnT K T S q ++ (if q = 0 then [] else [32]) ++ txtI (K q) ++ [47] ++ txtI (T q) ++ (if 10 ≤ S q then [33] else []) = lnT K T S (q + 1) := by
  show _ = lnT K T S q ++ lyT K T S q
  unfold lyT
  simp only [List.append_assoc]

set_option maxRecDepth 100000 in
set_option maxHeartbeats 1000000 in
theorem c_X10_describeLake {g : xG} (hG : GK g) {m M : Mem} (hR : RM (m.1 364) M 0) (hV : VL M 0) {x : Int32} {K T S : Nat → Int32} {N : Nat} (hK : K = M.1 (LK 0 x.toNatClampNeg + 1)) (hT : T = M.1 (LK 0 x.toNatClampNeg + 2)) (hS : S = M.1 (LK 0 x.toNatClampNeg + 3)) (hN : N = nLy M 0 x.toNatClampNeg) : CC g yX10_describeLake (.code yX10_describeLake cX10_describeLake 4 (some .int)) 7 0 0 [.ref (ad g 363), .int x] m (rI (fun v m2 => (inL M x ∧ v = nI (lnT K T S N).length ∧ m2.1 363 15 = 0 ∧ m2.1 363 14 = nI (lnT K T S N).length ∧ LR m2 (lnT K T S N) ∧ m2.2 = m.2 ∧ (∀ k, k ≠ 363 → k ≠ 371 → m2.1 k = m.1 k) ∧ ∀ f, f ≠ 14 → f ≠ 15 → m2.1 363 f = m.1 363 f) ∨ (¬ inL M x ∧ v = 0 ∧ m2 = up m 363 15 1))) noX := by
  obtain ⟨a, ha⟩ : ∃ a, a = islB (m.1 364) x := ⟨_, rfl⟩
  have hai : a = true ↔ inL M x := by rw [ha]; exact hR.isl x
  obtain ⟨m0, hm0⟩ : ∃ y, y = up m 363 15 0 := ⟨_, rfl⟩
  have hm0r : m0.1 364 = m.1 364 := by rw [hm0]; exact th_row m 0
  have hfacts : inL M x → VB K T N ∧ N ≤ 8 ∧ ofV (m.1 364) x 2 = nI N ∧ ∀ q, q < N → olV (m.1 364) x (nI q) 0 = K q ∧ olV (m.1 364) x (nI q) 1 = T q ∧ olV (m.1 364) x (nI q) 2 = S q := fun h => by
    obtain ⟨j, hxe, hj, hjc⟩ := idx_j h (by have := hR.2.1.nl5; omega)
    rw [hK, hT, hS, hN, hjc, hxe]
    exact ⟨hV.1 j hj, (hR.2.1.ln hj).2, hR.many hj, fun q hq => ⟨hR.ol hj hq (by omega), hR.ol hj hq (by omega), hR.ol hj hq (by omega)⟩⟩
  refine CC.mk hG RX10 rfl (by decide +kernel) rfl (Nat.le_of_ble_eq_true rfl) (fun sz B hB hX => ?_)
  show V g B 0 0 _ (hp g m) sz 0 [some (.ref (ad g 363)), some (.int x), none, none] []
  have j44 : inL M x → ∀ q : Nat, q < N → (q < N → ∀ (sz : Nat) (mm : Mem), LR mm (lnT K T S (q + 1)) → MFl m0 mm → V g B 0 0 (QM g B 0 0 (rI (fun v m2 => (inL M x ∧ v = nI (lnT K T S N).length ∧ m2.1 363 15 = 0 ∧ m2.1 363 14 = nI (lnT K T S N).length ∧ LR m2 (lnT K T S N) ∧ m2.2 = m.2 ∧ (∀ k, k ≠ 363 → k ≠ 371 → m2.1 k = m.1 k) ∧ ∀ f, f ≠ 14 → f ≠ 15 → m2.1 363 f = m.1 363 f) ∨ (¬ inL M x ∧ v = 0 ∧ m2 = up m 363 15 1))) noX) (hp g (mm)) sz 18 [some (.ref (ad g 363)), some (.int x), some (.int (nI (lnT K T S (q + 1)).length)), some (.int (nI (q + 1)))] []) → ∀ (sz : Nat) (mm : Mem) (l1 : List Int32), l1 = lnT K T S q ++ (if q = 0 then [] else [32]) → l1.length ≤ 64 → LR mm l1 → MFl m0 mm → V g B 0 0 (QM g B 0 0 (rI (fun v m2 => (inL M x ∧ v = nI (lnT K T S N).length ∧ m2.1 363 15 = 0 ∧ m2.1 363 14 = nI (lnT K T S N).length ∧ LR m2 (lnT K T S N) ∧ m2.2 = m.2 ∧ (∀ k, k ≠ 363 → k ≠ 371 → m2.1 k = m.1 k) ∧ ∀ f, f ≠ 14 → f ≠ 15 → m2.1 363 f = m.1 363 f) ∨ (¬ inL M x ∧ v = 0 ∧ m2 = up m 363 15 1))) noX) (hp g (mm)) sz 44 [some (.ref (ad g 363)), some (.int x), some (.int (nI (lnT K T S q).length)), some (.int (nI q))] [.int (nI l1.length), .ref (ad g 363)] := by
    intro hin q hlt ih sz mm l1 hl1 hn1 hLR hF
    obtain ⟨hvb, hN8, hof, ho⟩ := hfacts hin
    obtain ⟨ka, hka, hkn⟩ := hvb.k hlt
    obtain ⟨ta, hta, htn⟩ := hvb.t hlt
    refine V.aload_n (pc := 44) hB dX10_describeLake_44 rfl ?_
    refine V.iload_n (pc := 45) hB dX10_describeLake_45 rfl ?_
    refine V.iload_n (pc := 46) hB dX10_describeLake_46 rfl ?_
    refine V.iconst (pc := 47) (v := 0) hB dX10_describeLake_47 rfl ?_
    refine V.cv (pc := 48) hB cw_X10_ofLayer wm_X10_88 wi_X10_ofLayer ws_X10_ofLayer dX10_describeLake_48 (c_X10_ofLayer hG (m := mm) (by rw [hF.row, hm0r]; exact hR.1) (k := 0) (by decide) rfl) (hp_at (ca_Model _)) fk_Model rfl (by omega) (by decide) rfl (by exact Nat.le_of_ble_eq_true rfl) (by omega) (by omega) kN (kI (fun v_48 m_48 sz h_48 => ?_)) rfl
    obtain ⟨rfl, hm_48⟩ := h_48
    obtain rfl := hm_48.symm
    rw [hF.row, hm0r, (ho q hlt).1]
    refine V.cv (pc := 51) hB cw_X10_writesNumber wm_X10_182 wi_X10_writesNumber ws_X10_writesNumber dX10_describeLake_51 (c_X10_writesNumber hG hLR hka hkn (by omega)) (hp_at (ca_Model _)) fk_Model rfl (by omega) (by decide) rfl (by exact Nat.le_of_ble_eq_true rfl) (by omega) (by omega) kN (kI (fun v_51 m_51 sz h_51 => ?_)) rfl
    obtain ⟨rfl, hL2, hF2⟩ := h_51
    obtain ⟨l2, hl2⟩ : ∃ l2, l2 = l1 ++ txtI (K q) := ⟨_, rfl⟩
    rw [← hl2] at hL2 ⊢
    have hn2 : l2.length ≤ 67 := by
      rw [hl2, List.length_append]
      have := txt_len3 hkn hka
      omega
    refine V.istore_n (pc := 54) hB dX10_describeLake_54 (by decide) rfl ?_
    refine V.aload_n (pc := 55) hB dX10_describeLake_55 rfl ?_
    refine V.aload_n (pc := 56) hB dX10_describeLake_56 rfl ?_
    refine V.iload_n (pc := 57) hB dX10_describeLake_57 rfl ?_
    refine V.bipush (pc := 58) (v := 47) hB dX10_describeLake_58 rfl ?_
    refine V.cv (pc := 60) hB cw_X10_put wm_X10_179 wi_X10_put ws_X10_put dX10_describeLake_60 (c_X10_put hG (a := l2.length) (by omega)) (hp_at (ca_Model _)) fk_Model rfl (by omega) (by decide) rfl (by exact Nat.le_of_ble_eq_true rfl) (by omega) (by omega) kN (kI (fun v_60 m_60 sz h_60 => ?_)) rfl
    obtain ⟨rfl, hm_60⟩ := h_60
    subst hm_60
    have hL3 := hL2.push (c := 47)
    have hF3 := (hF.trans hF2).up l2.length 47
    obtain ⟨l3, hl3⟩ : ∃ l3, l3 = l2 ++ [(47 : Int32)] := ⟨_, rfl⟩
    have hn3 : l3.length = l2.length + 1 := by rw [hl3]; simp
    obtain ⟨m3, hm3⟩ : ∃ y, y = up m_51 371 l2.length 47 := ⟨_, rfl⟩
    rw [← hl3, ← hm3] at hL3
    rw [← hm3] at hF3 ⊢
    rw [← hn3]
    refine V.aload_n (pc := 63) hB dX10_describeLake_63 rfl ?_
    refine V.iload_n (pc := 64) hB dX10_describeLake_64 rfl ?_
    refine V.iload_n (pc := 65) hB dX10_describeLake_65 rfl ?_
    refine V.iconst (pc := 66) (v := 1) hB dX10_describeLake_66 rfl ?_
    refine V.cv (pc := 67) hB cw_X10_ofLayer wm_X10_88 wi_X10_ofLayer ws_X10_ofLayer dX10_describeLake_67 (c_X10_ofLayer hG (m := m3) (by rw [hF3.row, hm0r]; exact hR.1) (k := 1) (by decide) rfl) (hp_at (ca_Model _)) fk_Model rfl (by omega) (by decide) rfl (by exact Nat.le_of_ble_eq_true rfl) (by omega) (by omega) kN (kI (fun v_67 m_67 sz h_67 => ?_)) rfl
    obtain ⟨rfl, hm_67⟩ := h_67
    obtain rfl := hm_67.symm
    rw [hF3.row, hm0r, (ho q hlt).2.1]
    refine V.cv (pc := 70) hB cw_X10_writesNumber wm_X10_182 wi_X10_writesNumber ws_X10_writesNumber dX10_describeLake_70 (c_X10_writesNumber hG hL3 hta htn (by omega)) (hp_at (ca_Model _)) fk_Model rfl (by omega) (by decide) rfl (by exact Nat.le_of_ble_eq_true rfl) (by omega) (by omega) kN (kI (fun v_70 m_70 sz h_70 => ?_)) rfl
    obtain ⟨rfl, hL4, hF4⟩ := h_70
    obtain ⟨l4, hl4⟩ : ∃ l4, l4 = l3 ++ txtI (T q) := ⟨_, rfl⟩
    rw [← hl4] at hL4 ⊢
    have hn4 : l4.length ≤ 71 := by
      rw [hl4, List.length_append]
      have := txt_len3 htn hta
      omega
    have hF5 := hF3.trans hF4
    have hst : l4 ++ (if 10 ≤ S q then [33] else []) = lnT K T S (q + 1) := by rw [hl4, hl3, hl2, hl1]; exact ln_step
    refine V.istore_n (pc := 73) hB dX10_describeLake_73 (by decide) rfl ?_
    refine V.aload_n (pc := 74) hB dX10_describeLake_74 rfl ?_
    refine V.iload_n (pc := 75) hB dX10_describeLake_75 rfl ?_
    refine V.iload_n (pc := 76) hB dX10_describeLake_76 rfl ?_
    refine V.iconst (pc := 77) (v := 2) hB dX10_describeLake_77 rfl ?_
    refine V.cv (pc := 78) hB cw_X10_ofLayer wm_X10_88 wi_X10_ofLayer ws_X10_ofLayer dX10_describeLake_78 (c_X10_ofLayer hG (m := m_70) (by rw [hF5.row, hm0r]; exact hR.1) (k := 2) (by decide) rfl) (hp_at (ca_Model _)) fk_Model rfl (by omega) (by decide) rfl (by exact Nat.le_of_ble_eq_true rfl) (by omega) (by omega) kN (kI (fun v_78 m_78 sz h_78 => ?_)) rfl
    obtain ⟨rfl, hm_78⟩ := h_78
    obtain rfl := hm_78.symm
    rw [hF5.row, hm0r, (ho q hlt).2.2]
    refine V.bipush (pc := 81) (v := 10) hB dX10_describeLake_81 rfl ?_
    refine V.icmp_lt (pc := 83) (tgt := 96) hB dX10_describeLake_83 (by decide) (fun c_83 => ?_) (fun c_83 => ?_)
    · have he : lnT K T S (q + 1) = l4 := by rw [← hst, if_neg (Int32.not_le.mpr c_83), List.append_nil]
      have nxt := fun sz => ih hlt sz m_70 (by rw [he]; exact hL4) hF5
      rw [he] at nxt
      refine V.iload_n (pc := 96) hB dX10_describeLake_96 rfl ?_
      refine V.istore_n (pc := 97) hB dX10_describeLake_97 (by decide) rfl ?_
      refine V.iinc (pc := 98) (v := nI (q + 1)) hB dX10_describeLake_98 rfl (nI_1 _) (by decide) rfl ?_
      refine V.goto (pc := 101) (tgt := 18) hB dX10_describeLake_101 (by decide) ?_
      exact nxt sz
    · have he : lnT K T S (q + 1) = l4 ++ [33] := by rw [← hst, if_pos (Int32.not_lt.mp c_83)]
      refine V.aload_n (pc := 86) hB dX10_describeLake_86 rfl ?_
      refine V.iload_n (pc := 87) hB dX10_describeLake_87 rfl ?_
      refine V.bipush (pc := 88) (v := 33) hB dX10_describeLake_88 rfl ?_
      refine V.cv (pc := 90) hB cw_X10_put wm_X10_179 wi_X10_put ws_X10_put dX10_describeLake_90 (c_X10_put hG (a := l4.length) (by omega)) (hp_at (ca_Model _)) fk_Model rfl (by omega) (by decide) rfl (by exact Nat.le_of_ble_eq_true rfl) (by omega) (by omega) kN (kI (fun v_90 m_90 sz h_90 => ?_)) rfl
      obtain ⟨rfl, hm_90⟩ := h_90
      subst hm_90
      have nxt := fun sz => ih hlt sz (up m_70 371 l4.length 33) (by rw [he]; exact hL4.push) (hF5.up _ _)
      rw [he, show (l4 ++ [(33 : Int32)]).length = l4.length + 1 by simp] at nxt
      refine V.goto (pc := 93) (tgt := 97) hB dX10_describeLake_93 (by decide) ?_
      refine V.istore_n (pc := 97) hB dX10_describeLake_97 (by decide) rfl ?_
      refine V.iinc (pc := 98) (v := nI (q + 1)) hB dX10_describeLake_98 rfl (nI_1 _) (by decide) rfl ?_
      refine V.goto (pc := 101) (tgt := 18) hB dX10_describeLake_101 (by decide) ?_
      exact nxt sz
  have loop : inL M x → ∀ q : Nat, q ≤ N → ∀ (sz : Nat) (mm : Mem), LR mm (lnT K T S q) → MFl m0 mm → V g B 0 0 (QM g B 0 0 (rI (fun v m2 => (inL M x ∧ v = nI (lnT K T S N).length ∧ m2.1 363 15 = 0 ∧ m2.1 363 14 = nI (lnT K T S N).length ∧ LR m2 (lnT K T S N) ∧ m2.2 = m.2 ∧ (∀ k, k ≠ 363 → k ≠ 371 → m2.1 k = m.1 k) ∧ ∀ f, f ≠ 14 → f ≠ 15 → m2.1 363 f = m.1 363 f) ∨ (¬ inL M x ∧ v = 0 ∧ m2 = up m 363 15 1))) noX) (hp g (mm)) sz 18 [some (.ref (ad g 363)), some (.int x), some (.int (nI (lnT K T S q).length)), some (.int (nI q))] [] := by
    intro hin
    obtain ⟨hvb, hN8, hof, ho⟩ := hfacts hin
    refine loop_up (fun q hq ih => ?_)
    intro sz mm hLR hF
    refine V.iload_n (pc := 18) hB dX10_describeLake_18 rfl ?_
    refine V.aload_n (pc := 19) hB dX10_describeLake_19 rfl ?_
    refine V.iload_n (pc := 20) hB dX10_describeLake_20 rfl ?_
    refine V.iconst (pc := 21) (v := 2) hB dX10_describeLake_21 rfl ?_
    refine V.cv (pc := 22) hB cw_X10_of wm_X10_77 wi_X10_of ws_X10_of dX10_describeLake_22 (c_X10_of hG (m := mm) (by rw [hF.row, hm0r]; exact hR.1) (k := 2) (by decide) rfl) (hp_at (ca_Model _)) fk_Model rfl (by omega) (by decide) rfl (by exact Nat.le_of_ble_eq_true rfl) (by omega) (by omega) kN (kI (fun v_22 m_22 sz h_22 => ?_)) rfl
    obtain ⟨rfl, hm_22⟩ := h_22
    obtain rfl := hm_22.symm
    rw [hF.row, hm0r, hof]
    refine V.icmp_ge (pc := 25) (tgt := 104) hB dX10_describeLake_25 (by decide) (fun c_25 => ?_) (fun c_25 => ?_)
    · have hqn : q = N := by have := (nI_leI (by omega) (by omega)).mp c_25; omega
      rw [hqn] at hLR ⊢
      refine V.aload_n (pc := 104) hB dX10_describeLake_104 rfl ?_
      refine V.iload_n (pc := 105) hB dX10_describeLake_105 rfl ?_
      refine V.p_Model_f14 (pc := 106) hB wf_X10_185 dX10_describeLake_106 ?_
      refine V.iload_n (pc := 109) hB dX10_describeLake_109 rfl ?_
      refine V.retI (pc := 110) hB dX10_describeLake_110 rfl (rfl) (by omega) (by omega) ?_
      refine Or.inl ⟨hin, rfl, ?_, up_same _ _ _ _, fun j hj => by rw [up_cell _ _ _ (by decide)]; exact hLR j hj, ?_, fun k a b => ?_, fun f a b => ?_⟩
      · rw [up_slot _ _ _ (by decide), hF.2 363 (by decide), hm0, up_same]
      · exact hF.1.trans (by rw [hm0]; rfl)
      · rw [up_cell _ _ _ a, hF.2 k b, hm0, up_cell _ _ _ a]
      · rw [up_slot _ _ _ a, hF.2 363 (by decide), hm0, up_slot _ _ _ b]
    · have hlt : q < N := Nat.not_le.mp (fun w => c_25 ((nI_leI (by omega) (by omega)).mpr w))
      have hlen := lnT_len hvb (S := S) q (by omega)
      refine V.aload_n (pc := 28) hB dX10_describeLake_28 rfl ?_
      refine V.iload_n (pc := 29) hB dX10_describeLake_29 rfl ?_
      refine V.if_ne (pc := 30) (tgt := 37) hB dX10_describeLake_30 (by decide) (fun c_30 => ?_) (fun c_30 => ?_)
      · have hq0 : ¬ q = 0 := fun z => c_30 (by rw [z]; rfl)
        refine V.aload_n (pc := 37) hB dX10_describeLake_37 rfl ?_
        refine V.iload_n (pc := 38) hB dX10_describeLake_38 rfl ?_
        refine V.bipush (pc := 39) (v := 32) hB dX10_describeLake_39 rfl ?_
        refine V.cv (pc := 41) hB cw_X10_put wm_X10_179 wi_X10_put ws_X10_put dX10_describeLake_41 (c_X10_put hG (a := (lnT K T S q).length) (by omega)) (hp_at (ca_Model _)) fk_Model rfl (by omega) (by decide) rfl (by exact Nat.le_of_ble_eq_true rfl) (by omega) (by omega) kN (kI (fun v_41 m_41 sz h_41 => ?_)) rfl
        obtain ⟨rfl, hm_41⟩ := h_41
        subst hm_41
        have nx := fun sz => j44 hin q hlt (fun h sz mm a b => ih h sz mm a b) sz (up mm 371 (lnT K T S q).length 32) (lnT K T S q ++ [(32 : Int32)]) (by rw [if_neg hq0]) (by simp; omega) hLR.push (hF.up _ _)
        rw [show (lnT K T S q ++ [(32 : Int32)]).length = (lnT K T S q).length + 1 by simp] at nx
        exact nx sz
      · have hq0 : q = 0 := by have := congrArg Int32.toNatClampNeg c_30; rw [nI_clamp (by omega)] at this; exact this
        have nx := fun sz => j44 hin q hlt (fun h sz mm a b => ih h sz mm a b) sz mm (lnT K T S q) (by rw [if_pos hq0, List.append_nil]) (by omega) hLR hF
        refine V.iload_n (pc := 33) hB dX10_describeLake_33 rfl ?_
        refine V.goto (pc := 34) (tgt := 44) hB dX10_describeLake_34 (by decide) ?_
        exact nx sz
  refine V.aload_n (pc := 0) hB dX10_describeLake_0 rfl ?_
  refine V.aload_n (pc := 1) hB dX10_describeLake_1 rfl ?_
  refine V.iload_n (pc := 2) hB dX10_describeLake_2 rfl ?_
  refine V.cv (pc := 3) hB cw_X10_isLake wm_X10_73 wi_X10_isLake ws_X10_isLake dX10_describeLake_3 (c_X10_isLake hG hR.1) (hp_at (ca_Model _)) fk_Model rfl (by omega) (by decide) rfl (by exact Nat.le_of_ble_eq_true rfl) (by omega) (by omega) kN (kI (fun v_3 m_3 sz h_3 => ?_)) rfl
  obtain ⟨rfl, hm_3⟩ := h_3
  obtain rfl := hm_3.symm
  rw [← ha]
  refine V.cv (pc := 6) hB cw_X10_goes wm_X10_61 wi_X10_goes ws_X10_goes dX10_describeLake_6 (c_X10_goes hG) (hp_at (ca_Model _)) fk_Model rfl (by omega) (by decide) rfl (by exact Nat.le_of_ble_eq_true rfl) (by omega) (by omega) kN (kI (fun v_6 m_6 sz h_6 => ?_)) rfl
  obtain ⟨rfl, hm_6⟩ := h_6
  subst hm_6
  rw [thrV_b1]
  refine V.if_ne (pc := 9) (tgt := 14) hB dX10_describeLake_9 (by decide) (fun c_9 => ?_) (fun c_9 => ?_)
  · have ha1 : a = true := by
      cases a
      · exact absurd rfl c_9
      · rfl
    rw [ha1, show (if true = false then (1 : Int32) else 0) = 0 from rfl, ← hm0]
    refine V.iconst (pc := 14) (v := 0) hB dX10_describeLake_14 rfl ?_
    refine V.istore_n (pc := 15) hB dX10_describeLake_15 (by decide) rfl ?_
    refine V.iconst (pc := 16) (v := 0) hB dX10_describeLake_16 rfl ?_
    refine V.istore_n (pc := 17) hB dX10_describeLake_17 (by decide) rfl ?_
    exact loop (hai.mp ha1) 0 (by omega) sz m0 (fun j hj => absurd hj (by simp [lnT])) (MFl.refl m0)
  · have ha0 : a = false := by
      cases a
      · rfl
      · exact absurd c_9 (by decide)
    refine V.iconst (pc := 12) (v := 0) hB dX10_describeLake_12 rfl ?_
    refine V.retI (pc := 13) hB dX10_describeLake_13 rfl (rfl) (by omega) (by omega) ?_
    exact Or.inr ⟨fun z => by rw [hai.mpr z] at ha0; exact absurd ha0 (by decide), rfl, by rw [ha0]; rfl⟩
