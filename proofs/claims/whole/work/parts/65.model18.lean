/-! the reference's line -/
def LR (m : Mem) (l : List Int32) : Prop := ∀ j, j < l.length → m.1 371 j = l.getD j 0
def MFl (m m2 : Mem) : Prop := m2.2 = m.2 ∧ ∀ k, k ≠ 371 → m2.1 k = m.1 k
theorem MFl.refl (m : Mem) : MFl m m := ⟨rfl, fun _ _ => rfl⟩
theorem MFl.up {m m2 : Mem} (h : MFl m m2) (k : Nat) (v : Int32) : MFl m (up m2 371 k v) := ⟨h.1, fun q a => (up_cell _ _ _ a).trans (h.2 q a)⟩
theorem MFl.trans {m m2 m3 : Mem} (h : MFl m m2) (h2 : MFl m2 m3) : MFl m m3 := ⟨h2.1.trans h.1, fun k a => (h2.2 k a).trans (h.2 k a)⟩
theorem LR.push {m : Mem} {l : List Int32} {c : Int32} (h : LR m l) : LR (up m 371 l.length c) (l ++ [c]) := by
  intro j hj
  rw [List.length_append] at hj
  have hj : j < l.length + 1 := hj
  by_cases e : j = l.length
  · subst e
    rw [up_same]
    simp [List.getD]
  · rw [up_slot _ _ _ e, h j (by omega)]
    simp [List.getD, List.getElem?_append_left (show j < l.length by omega)]
theorem txt_n99 {a : Nat} {x : Int32} (h : n99 a x) (ha : a ≤ 99) : txtI x = (if x < 0 then [45] else []) ++ dgI a ∧ (if 0 ≤ x then x else -x) = nI a := by
  unfold txtI
  rcases h with ⟨h1, h2⟩ | ⟨h1, h2, h3⟩
  · rw [if_neg h2, if_neg h2, if_pos (Int32.not_lt.mp h2), h1, nI_clamp (by omega)]
    exact ⟨rfl, rfl⟩
  · rw [if_pos h2, if_pos h2, if_neg (Int32.not_le.mpr h2), h1, neg_neg32, nI_clamp (by omega)]
    exact ⟨rfl, rfl⟩
theorem dg_len2 {a : Nat} : (dgI a).length ≤ 2 := by
  unfold dgI
  split <;> simp
theorem txt_len3 {a : Nat} {x : Int32} (h : n99 a x) (ha : a ≤ 99) : (txtI x).length ≤ 3 := by
  rw [(txt_n99 h ha).1, List.length_append]
  have := dg_len2 (a := a)
  split
  · show 1 + _ ≤ 3; omega
  · show 0 + _ ≤ 3; omega

set_option maxRecDepth 100000 in
set_option maxHeartbeats 1000000 in
theorem c_X10_put {g : xG} (hG : GK g) {m : Mem} {a : Nat} (ha : a < 80) {c : Int32} : CC g yX10_put (.code yX10_put cX10_put 3 (some .int)) 1 0 0 [.ref (ad g 363), .int (nI a), .int c] m (rI (fun v m2 => v = nI (a + 1) ∧ m2 = up m 371 a c)) noX := by
  refine CC.mk hG RX10 rfl (by decide +kernel) rfl (Nat.le_of_ble_eq_true rfl) (fun sz B hB hX => ?_)
  show V g B 0 0 _ (hp g m) sz 0 [some (.ref (ad g 363)), some (.int (nI a)), some (.int c)] []
  refine V.aload_n (pc := 0) hB dX10_put_0 rfl ?_
  refine V.get (pc := 1) hB fk_Model 13 wf_X10_38 dX10_put_1 (by decide) (hp_at (ca_Model _)) rfl ?_
  refine V.iload_n (pc := 4) hB dX10_put_4 rfl ?_
  refine V.iload_n (pc := 5) hB dX10_put_5 rfl ?_
  refine V.iastM (pc := 6) hB (ca_Line) dX10_put_6 (ix_nI (by omega) (by decide)) (by decide) ?_
  refine V.iload_n (pc := 7) hB dX10_put_7 rfl ?_
  refine V.iconst (pc := 8) (v := 1) hB dX10_put_8 rfl ?_
  refine V.iadd (pc := 9) hB dX10_put_9 ?_
  rw [nI_1]
  refine V.retI (pc := 10) hB dX10_put_10 rfl (rfl) (by omega) (by omega) ?_
  exact ⟨rfl, rfl⟩

set_option maxRecDepth 100000 in
set_option maxHeartbeats 1000000 in
theorem c_X10_writesNumber {g : xG} (hG : GK g) {m : Mem} {l : List Int32} (hL : LR m l) {a : Nat} (ha : a ≤ 99) {x : Int32} (hx : n99 a x) (hl77 : l.length ≤ 77) : CC g yX10_writesNumber (.code yX10_writesNumber cX10_writesNumber 7 (some .int)) 2 0 0 [.ref (ad g 363), .int (nI l.length), .int x] m (rI (fun v m2 => v = nI (l ++ txtI x).length ∧ LR m2 (l ++ txtI x) ∧ MFl m m2)) noX := by
  obtain ⟨ht1, ht2⟩ := txt_n99 hx ha
  refine CC.mk hG RX10 rfl (by decide +kernel) rfl (Nat.le_of_ble_eq_true rfl) (fun sz B hB hX => ?_)
  show V g B 0 0 _ (hp g m) sz 0 [some (.ref (ad g 363)), some (.int (nI l.length)), some (.int x), none, none, none, none] []
  have D0 : ∀ (sz : Nat) (mm : Mem) (x5 : Int32), LR mm (l ++ txtI x) → MFl m mm → V g B 0 0 (QM g B 0 0 (rI (fun v m2 => v = nI (l ++ txtI x).length ∧ LR m2 (l ++ txtI x) ∧ MFl m m2)) noX) (hp g (mm)) sz 49 [some (.ref (ad g 363)), some (.int (nI l.length)), some (.int x), some (.int (nI (l ++ txtI x).length)), some (.int (nI a)), some (.int x5), some (.int 0)] [] := by
    intro sz mm x5 hLR hF
    refine V.iload (pc := 49) hB dX10_writesNumber_49 rfl ?_
    refine V.if_le (pc := 51) (tgt := 81) hB dX10_writesNumber_51 (by decide) (fun c_51 => ?_) (fun c_51 => ?_)
    · refine V.iload_n (pc := 81) hB dX10_writesNumber_81 rfl ?_
      refine V.retI (pc := 82) hB dX10_writesNumber_82 rfl (rfl) (by omega) (by omega) ?_
      exact ⟨rfl, hLR, hF⟩
    · exact absurd (by decide) c_51
  have D1 : ∀ (sz : Nat) (mm : Mem) (l1 : List Int32) (x5 : Int32), l1 ++ [nI (48 + a % 10)] = l ++ txtI x → l1.length ≤ 79 → LR mm l1 → MFl m mm → V g B 0 0 (QM g B 0 0 (rI (fun v m2 => v = nI (l ++ txtI x).length ∧ LR m2 (l ++ txtI x) ∧ MFl m m2)) noX) (hp g (mm)) sz 49 [some (.ref (ad g 363)), some (.int (nI l.length)), some (.int x), some (.int (nI l1.length)), some (.int (nI a)), some (.int x5), some (.int 1)] [] := by
    intro sz mm l1 x5 hfl hl hLR hF
    refine V.iload (pc := 49) hB dX10_writesNumber_49 rfl ?_
    refine V.if_le (pc := 51) (tgt := 81) hB dX10_writesNumber_51 (by decide) (fun c_51 => ?_) (fun c_51 => ?_)
    · exact absurd c_51 (by decide)
    · refine V.aload_n (pc := 54) hB dX10_writesNumber_54 rfl ?_
      refine V.iload_n (pc := 55) hB dX10_writesNumber_55 rfl ?_
      refine V.bipush (pc := 56) (v := 48) hB dX10_writesNumber_56 rfl ?_
      refine V.iload (pc := 58) hB dX10_writesNumber_58 rfl ?_
      refine V.iload (pc := 60) hB dX10_writesNumber_60 rfl ?_
      refine V.idiv (pc := 62) hB dX10_writesNumber_62 (by decide) ?_
      rw [show nI a / 1 = nI a from (pk_div (d := 1) (by omega) (by decide) (by decide)).trans (congrArg nI (Nat.div_one a))]
      refine V.bipush (pc := 63) (v := 10) hB dX10_writesNumber_63 rfl ?_
      refine V.irem (pc := 65) hB dX10_writesNumber_65 (by decide) ?_
      rw [show nI a - nI a / 10 * 10 = nI (a % 10) from pk_rem (d := 10) (by omega) (by decide) (by decide)]
      refine V.iadd (pc := 66) hB dX10_writesNumber_66 ?_
      rw [show (48 : Int32) + nI (a % 10) = nI (48 + a % 10) from nI_add 48 _]
      refine V.cv (pc := 67) hB cw_X10_put wm_X10_179 wi_X10_put ws_X10_put dX10_writesNumber_67 (c_X10_put hG (a := l1.length) (by omega)) (hp_at (ca_Model _)) fk_Model rfl (by omega) (by decide) rfl (by exact Nat.le_of_ble_eq_true rfl) (by omega) (by omega) kN (kI (fun v_67 m_67 sz h_67 => ?_)) rfl
      obtain ⟨rfl, hm_67⟩ := h_67
      subst hm_67
      refine V.istore_n (pc := 70) hB dX10_writesNumber_70 (by decide) rfl ?_
      refine V.iload (pc := 71) hB dX10_writesNumber_71 rfl ?_
      refine V.bipush (pc := 73) (v := 10) hB dX10_writesNumber_73 rfl ?_
      refine V.idiv (pc := 75) hB dX10_writesNumber_75 (by decide) ?_
      rw [show (1 : Int32) / 10 = 0 by decide]
      refine V.istore (pc := 76) hB dX10_writesNumber_76 (by decide) rfl ?_
      refine V.goto (pc := 78) (tgt := 49) hB dX10_writesNumber_78 (by decide) ?_
      rw [show nI (l1.length + 1) = nI (l ++ txtI x).length from congrArg nI (by rw [← hfl]; simp)]
      exact D0 sz (up mm 371 l1.length (nI (48 + a % 10))) x5 (by rw [← hfl]; exact hLR.push) (hF.up _ _)
  have D10 : ∀ (sz : Nat) (mm : Mem) (l1 : List Int32) (x5 : Int32), l1 ++ [nI (48 + a / 10)] ++ [nI (48 + a % 10)] = l ++ txtI x → l1.length ≤ 78 → LR mm l1 → MFl m mm → V g B 0 0 (QM g B 0 0 (rI (fun v m2 => v = nI (l ++ txtI x).length ∧ LR m2 (l ++ txtI x) ∧ MFl m m2)) noX) (hp g (mm)) sz 49 [some (.ref (ad g 363)), some (.int (nI l.length)), some (.int x), some (.int (nI l1.length)), some (.int (nI a)), some (.int x5), some (.int 10)] [] := by
    intro sz mm l1 x5 hfl hl hLR hF
    refine V.iload (pc := 49) hB dX10_writesNumber_49 rfl ?_
    refine V.if_le (pc := 51) (tgt := 81) hB dX10_writesNumber_51 (by decide) (fun c_51 => ?_) (fun c_51 => ?_)
    · exact absurd c_51 (by decide)
    · refine V.aload_n (pc := 54) hB dX10_writesNumber_54 rfl ?_
      refine V.iload_n (pc := 55) hB dX10_writesNumber_55 rfl ?_
      refine V.bipush (pc := 56) (v := 48) hB dX10_writesNumber_56 rfl ?_
      refine V.iload (pc := 58) hB dX10_writesNumber_58 rfl ?_
      refine V.iload (pc := 60) hB dX10_writesNumber_60 rfl ?_
      refine V.idiv (pc := 62) hB dX10_writesNumber_62 (by decide) ?_
      rw [show nI a / 10 = nI (a / 10) from pk_div (d := 10) (by omega) (by decide) (by decide)]
      refine V.bipush (pc := 63) (v := 10) hB dX10_writesNumber_63 rfl ?_
      refine V.irem (pc := 65) hB dX10_writesNumber_65 (by decide) ?_
      rw [show nI (a / 10) - nI (a / 10) / 10 * 10 = nI (a / 10) from (pk_rem (d := 10) (by omega) (by decide) (by decide)).trans (congrArg nI (Nat.mod_eq_of_lt (by omega)))]
      refine V.iadd (pc := 66) hB dX10_writesNumber_66 ?_
      rw [show (48 : Int32) + nI (a / 10) = nI (48 + a / 10) from nI_add 48 _]
      refine V.cv (pc := 67) hB cw_X10_put wm_X10_179 wi_X10_put ws_X10_put dX10_writesNumber_67 (c_X10_put hG (a := l1.length) (by omega)) (hp_at (ca_Model _)) fk_Model rfl (by omega) (by decide) rfl (by exact Nat.le_of_ble_eq_true rfl) (by omega) (by omega) kN (kI (fun v_67 m_67 sz h_67 => ?_)) rfl
      obtain ⟨rfl, hm_67⟩ := h_67
      subst hm_67
      refine V.istore_n (pc := 70) hB dX10_writesNumber_70 (by decide) rfl ?_
      refine V.iload (pc := 71) hB dX10_writesNumber_71 rfl ?_
      refine V.bipush (pc := 73) (v := 10) hB dX10_writesNumber_73 rfl ?_
      refine V.idiv (pc := 75) hB dX10_writesNumber_75 (by decide) ?_
      rw [show (10 : Int32) / 10 = 1 by decide]
      refine V.istore (pc := 76) hB dX10_writesNumber_76 (by decide) rfl ?_
      refine V.goto (pc := 78) (tgt := 49) hB dX10_writesNumber_78 (by decide) ?_
      have nx := D1 sz (up mm 371 l1.length (nI (48 + a / 10))) (l1 ++ [nI (48 + a / 10)]) x5 hfl (by simp; omega) hLR.push (hF.up _ _)
      rw [show (l1 ++ [nI (48 + a / 10)]).length = l1.length + 1 by simp] at nx
      exact nx
  have u10 : 10 ≤ a → ∀ (sz : Nat) (mm : Mem) (l1 : List Int32) (x6 : Option Value), l1 ++ dgI a = l ++ txtI x → l1.length ≤ 78 → LR mm l1 → MFl m mm → V g B 0 0 (QM g B 0 0 (rI (fun v m2 => v = nI (l ++ txtI x).length ∧ LR m2 (l ++ txtI x) ∧ MFl m m2)) noX) (hp g (mm)) sz 25 [some (.ref (ad g 363)), some (.int (nI l.length)), some (.int x), some (.int (nI l1.length)), some (.int (nI a)), some (.int 10), x6] [] := by
    intro ha9 sz mm l1 x6 hfl hl hLR hF
    refine V.iload (pc := 25) hB dX10_writesNumber_25 rfl ?_
    refine V.iload (pc := 27) hB dX10_writesNumber_27 rfl ?_
    refine V.idiv (pc := 29) hB dX10_writesNumber_29 (by decide) ?_
    rw [show nI a / 10 = nI (a / 10) from pk_div (d := 10) (by omega) (by decide) (by decide)]
    refine V.bipush (pc := 30) (v := 9) hB dX10_writesNumber_30 rfl ?_
    refine V.icmp_le (pc := 32) (tgt := 45) hB dX10_writesNumber_32 (by decide) (fun c_32 => ?_) (fun c_32 => ?_)
    · refine V.iload (pc := 45) hB dX10_writesNumber_45 rfl ?_
      refine V.istore (pc := 47) hB dX10_writesNumber_47 (by decide) rfl ?_
      exact D10 sz mm l1 _ (by rw [← hfl]; unfold dgI; rw [if_neg (by omega), List.append_assoc]; rfl) (by omega) hLR hF
    · exact absurd ((nI_leI (b := 9) (by omega) (by decide)).mpr (by omega)) c_32
  have u1 : ∀ (sz : Nat) (mm : Mem) (l1 : List Int32) (x6 : Option Value), l1 ++ dgI a = l ++ txtI x → l1.length ≤ 78 → LR mm l1 → MFl m mm → V g B 0 0 (QM g B 0 0 (rI (fun v m2 => v = nI (l ++ txtI x).length ∧ LR m2 (l ++ txtI x) ∧ MFl m m2)) noX) (hp g (mm)) sz 25 [some (.ref (ad g 363)), some (.int (nI l.length)), some (.int x), some (.int (nI l1.length)), some (.int (nI a)), some (.int 1), x6] [] := by
    intro sz mm l1 x6 hfl hl hLR hF
    refine V.iload (pc := 25) hB dX10_writesNumber_25 rfl ?_
    refine V.iload (pc := 27) hB dX10_writesNumber_27 rfl ?_
    refine V.idiv (pc := 29) hB dX10_writesNumber_29 (by decide) ?_
    rw [show nI a / 1 = nI a from (pk_div (d := 1) (by omega) (by decide) (by decide)).trans (congrArg nI (Nat.div_one a))]
    refine V.bipush (pc := 30) (v := 9) hB dX10_writesNumber_30 rfl ?_
    refine V.icmp_le (pc := 32) (tgt := 45) hB dX10_writesNumber_32 (by decide) (fun c_32 => ?_) (fun c_32 => ?_)
    · have ha9 : a < 10 := by have := (nI_leI (b := 9) (by omega) (by decide)).mp c_32; omega
      refine V.iload (pc := 45) hB dX10_writesNumber_45 rfl ?_
      refine V.istore (pc := 47) hB dX10_writesNumber_47 (by decide) rfl ?_
      exact D1 sz mm l1 _ (by rw [← hfl]; unfold dgI; rw [if_pos ha9, Nat.mod_eq_of_lt ha9]) (by omega) hLR hF
    · have ha9 : 10 ≤ a := Nat.not_lt.mp (fun z => c_32 ((nI_leI (b := 9) (by omega) (by decide)).mpr (by omega)))
      refine V.iload (pc := 35) hB dX10_writesNumber_35 rfl ?_
      refine V.bipush (pc := 37) (v := 10) hB dX10_writesNumber_37 rfl ?_
      refine V.imul (pc := 39) hB dX10_writesNumber_39 ?_
      rw [show (1 : Int32) * 10 = 10 by decide]
      refine V.istore (pc := 40) hB dX10_writesNumber_40 (by decide) rfl ?_
      refine V.goto (pc := 42) (tgt := 25) hB dX10_writesNumber_42 (by decide) ?_
      exact u10 ha9 sz mm l1 _ hfl hl hLR hF
  have join : ∀ (sz : Nat) (mm : Mem) (l1 : List Int32), l1 ++ dgI a = l ++ txtI x → l1.length ≤ 78 → LR mm l1 → MFl m mm → V g B 0 0 (QM g B 0 0 (rI (fun v m2 => v = nI (l ++ txtI x).length ∧ LR m2 (l ++ txtI x) ∧ MFl m m2)) noX) (hp g (mm)) sz 15 [some (.ref (ad g 363)), some (.int (nI l.length)), some (.int x), none, none, none, none] [.int (nI l1.length)] := by
    intro sz mm l1 hfl hl hLR hF
    refine V.istore_n (pc := 15) hB dX10_writesNumber_15 (by decide) rfl ?_
    refine V.iload_n (pc := 16) hB dX10_writesNumber_16 rfl ?_
    refine V.cs (pc := 17) hB cw_J9_abs_0f7a4 wm_X10_132 wst_J9_abs_0f7a4 dX10_writesNumber_17 (c_J9_abs_0f7a4 hG) (by omega) (by decide) rfl (by exact Nat.le_of_ble_eq_true rfl) (by omega) (by omega) kN (kI (fun v_17 m_17 sz h_17 => ?_)) rfl
    obtain ⟨rfl, hm_17⟩ := h_17
    obtain rfl := hm_17.symm
    rw [ht2]
    refine V.istore (pc := 20) hB dX10_writesNumber_20 (by decide) rfl ?_
    refine V.iconst (pc := 22) (v := 1) hB dX10_writesNumber_22 rfl ?_
    refine V.istore (pc := 23) hB dX10_writesNumber_23 (by decide) rfl ?_
    exact u1 sz mm l1 _ hfl hl hLR hF
  refine V.iload_n (pc := 0) hB dX10_writesNumber_0 rfl ?_
  refine V.if_ge (pc := 1) (tgt := 14) hB dX10_writesNumber_1 (by decide) (fun c_1 => ?_) (fun c_1 => ?_)
  · have hlt : ¬ x < 0 := Int32.not_lt.mpr c_1
    have nx := fun sz => join sz m l (by rw [ht1, if_neg hlt]; rfl) (by omega) hL (MFl.refl m)
    refine V.iload_n (pc := 14) hB dX10_writesNumber_14 rfl ?_
    exact nx sz
  · have hlt : x < 0 := Int32.not_le.mp c_1
    have nx := fun sz : Nat => join sz (up m 371 l.length 45) (l ++ [(45 : Int32)]) (by rw [ht1, if_pos hlt, List.append_assoc]) (by simp; omega) hL.push ((MFl.refl m).up _ _)
    rw [show (l ++ [(45 : Int32)]).length = l.length + 1 by simp] at nx
    refine V.aload_n (pc := 4) hB dX10_writesNumber_4 rfl ?_
    refine V.iload_n (pc := 5) hB dX10_writesNumber_5 rfl ?_
    refine V.bipush (pc := 6) (v := 45) hB dX10_writesNumber_6 rfl ?_
    refine V.cv (pc := 8) hB cw_X10_put wm_X10_179 wi_X10_put ws_X10_put dX10_writesNumber_8 (c_X10_put hG (a := l.length) (by omega)) (hp_at (ca_Model _)) fk_Model rfl (by omega) (by decide) rfl (by exact Nat.le_of_ble_eq_true rfl) (by omega) (by omega) kN (kI (fun v_8 m_8 sz h_8 => ?_)) rfl
    obtain ⟨rfl, hm_8⟩ := h_8
    subst hm_8
    refine V.goto (pc := 11) (tgt := 15) hB dX10_writesNumber_11 (by decide) ?_
    exact nx sz
